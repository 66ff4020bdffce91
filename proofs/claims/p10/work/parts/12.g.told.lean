/-! THE REFERENCE SPREADS A NUMBER -/
def SPV (E M Z s : Nat) : Prop := s * 2 ^ (-(pwr E M Z)).toNat = sgf M Z * 10 ^ 339 * 2 ^ (pwr E M Z).toNat
theorem ex_0 {M Z : Nat} (h : ex M Z = 0) : fz M Z = Z := by
  unfold ex at h
  unfold fz
  rcases Nat.div_eq_zero_iff.mp h with h1 | h1
  · have := pw_p M; omega
  · exact Nat.mod_eq_of_lt h1
theorem sgf_0 {M Z : Nat} (h : ex M Z = 0) : sgf M Z = fz M Z := by rw [sgf, if_pos h, ex_0 h]
theorem sgf_1 {M Z : Nat} (h : ¬ ex M Z = 0) : sgf M Z = 2 ^ M + fz M Z := by rw [sgf, if_neg h]
theorem pwr_b (E M Z : Nat) : pwr E M Z = 1 - (bsE E : Int) - (M : Int) + ((ex M Z - 1 : Nat) : Int) := rfl
theorem ld_step {lf e s S : Nat} (h : s + lf * 10 ^ e = S) : s + lf % 10 * 10 ^ e + lf / 10 * 10 ^ (e + 1) = S := by
  have h1 : lf % 10 * 10 ^ e + lf / 10 * 10 ^ (e + 1) = lf * 10 ^ e := by
    rw [Nat.pow_succ, Nat.mul_comm (10 ^ e) 10, ← Nat.mul_assoc, ← Nat.add_mul, Nat.mod_add_div']
  omega
theorem ld_lt {lf c : Nat} (hc : c ≤ 7) (h : lf < 10 ^ (8 - c)) : lf / 10 < 10 ^ (8 - (c + 1)) := by
  rw [show 8 - c = 8 - (c + 1) + 1 by omega, Nat.pow_succ] at h
  exact Nat.div_lt_of_lt_mul (by omega)
theorem ld_end {lf c : Nat} (hc : c ≤ 8) (h : lf < 10 ^ (8 - c)) (h0 : 0 < lf) : c ≤ 7 := by
  refine Decidable.byContradiction fun h1 => ?_
  rw [show 8 - c = 0 by omega, Nat.pow_zero] at h
  omega
/-- where a row begins, by its value -/
theorem n3_ge {k : Nat → Int32} {n3 n4 c : Nat} (h : RWp k n3 n4) (hs : sv k 400 < 10 ^ (339 + c)) (hc : c ≤ 60) : n3 = 60 ∨ 61 ≤ n3 + c := by
  rcases Nat.lt_or_ge n3 60 with h1 | h1
  · right
    have h2 := h.2.2.2.2.2.2 h1
    have h3 := (h.1 n3 (by omega)).1
    have h4 : 1 ≤ rdg k n3 := by unfold rdg; omega
    have h5 := pv_ge (r := k) (n := 400) (k := n3) (by omega)
    have h6 := Nat.mul_le_mul_right (10 ^ (400 - 1 - n3)) h4
    rw [pv_400] at h5
    refine Decidable.byContradiction fun h7 => ?_
    have h8 : 10 ^ (339 + c) ≤ 10 ^ (400 - 1 - n3) := p10_le (by omega)
    omega
  · left
    have := h.2.2.2.1
    omega
theorem sp_lim {M Z i : Nat} (hM : M ≤ 23) (hi : i ≤ 130) : sgf M Z * 10 ^ 339 * 2 ^ i < 10 ^ (339 + 47) := by
  have h1 := sgf_lt (M := M) (Z := Z) hM
  have h2 : 2 ^ i ≤ 2 ^ 130 := Nat.pow_le_pow_right (by decide) hi
  have h3 : sgf M Z * 2 ^ i ≤ 16777216 * 2 ^ 130 := Nat.mul_le_mul (Nat.le_of_lt h1) h2
  have h4 : 16777216 * 2 ^ 130 < 10 ^ 47 := by decide
  rw [Nat.mul_right_comm, Nat.add_comm 339, ← p10_add]
  exact Nat.mul_lt_mul_of_pos_right (Nat.lt_of_le_of_lt h3 h4) (p10 339)
theorem tw_sp {s t g i : Nat} (h : s = g * 2 ^ i) (ht : t = 2 * s) : t = g * 2 ^ (i + 1) := by
  rw [ht, h, Nat.pow_succ, ← Nat.mul_assoc g (2 ^ i) 2, Nat.mul_comm]
theorem hf_sp {s t g i : Nat} (h : s * 2 ^ i = g) (ht : 2 * t = s) : t * 2 ^ (i + 1) = g := by
  rw [← h, ← ht, Nat.pow_succ, ← Nat.mul_assoc, Nat.mul_comm, ← Nat.mul_assoc]
/-- less than 1 in all bits: few digits ahead -/
theorem SPV_lo {E M Z s : Nat} (hM : M ≤ 23) (h : SPV E M Z s) (hp : pwr E M Z ≤ 0) : s < 10 ^ (339 + 8) := by
  unfold SPV at h
  rw [show (pwr E M Z).toNat = 0 by omega, Nat.pow_zero, Nat.mul_one] at h
  have h1 := sgf_lt (M := M) (Z := Z) hM
  have h2 : s ≤ s * 2 ^ (-(pwr E M Z)).toNat := Nat.le_mul_of_pos_right _ (pw_p _)
  have h3 : sgf M Z * 10 ^ 339 < 10 ^ 8 * 10 ^ 339 := Nat.mul_lt_mul_of_pos_right (by omega) (p10 339)
  rw [p10_add] at h3
  exact Nat.lt_of_le_of_lt h2 (by rw [h]; exact h3)
theorem SPV_hi {E M Z s : Nat} (hM : M ≤ 23) (h : SPV E M Z s) (hp : 0 ≤ pwr E M Z) (hp2 : pwr E M Z ≤ 130) : s < 10 ^ (339 + 47) ∧ s = sgf M Z * 2 ^ (pwr E M Z).toNat * 10 ^ 339 := by
  unfold SPV at h
  rw [show (-(pwr E M Z)).toNat = 0 by omega, Nat.pow_zero, Nat.mul_one] at h
  exact ⟨by rw [h]; exact sp_lim hM (by omega), by rw [h, Nat.mul_right_comm]⟩
/-! letters of a row -/
def dl (k : Nat → Int32) (a : Nat) : Nat → List Nat
  | 0 => []
  | n + 1 => dl k a n ++ [48 + rdg k (a + n)]
theorem dl_len (k : Nat → Int32) (a : Nat) : ∀ n, (dl k a n).length = n
  | 0 => rfl
  | n + 1 => by show (dl k a n ++ [48 + rdg k (a + n)]).length = n + 1; rw [List.length_append, dl_len k a n]; rfl
theorem dl_cons (k : Nat → Int32) : ∀ (n a : Nat), dl k a (n + 1) = (48 + rdg k a) :: dl k (a + 1) n
  | 0, a => rfl
  | n + 1, a => by
    show dl k a (n + 1) ++ [48 + rdg k (a + (n + 1))] = (48 + rdg k a) :: (dl k (a + 1) n ++ [48 + rdg k (a + 1 + n)])
    rw [dl_cons k n a, show a + (n + 1) = a + 1 + n by omega]
    rfl
theorem sgW_len (E M : Nat) (p : Int) : (sgW E M p).length ≤ 1 := by unfold sgW; split <;> simp
/-- the digits of V, from the front -/
theorem rev_dl {k : Nat → Int32} {G : Nat → Nat} {bh : Int} {n4 : Nat} : ∀ {n : Nat}, n ≤ n4 + 1 → (∀ j, j < n → G j = 48 + rdg k (n4 - j)) → (bh < 0 ∨ (n : Int) ≤ bh ∨ bh = 0) → revS G bh n = dl k (n4 + 1 - n) n
  | 0, _, _, _ => rfl
  | n + 1, hn, h, hb => by
    rw [dl_cons]
    simp only [revS]
    rw [if_neg (by omega), h n (by omega), rev_dl (n := n) (by omega) (fun j hj => h j (by omega)) (by omega), show n4 + 1 - (n + 1) = n4 - n by omega, show n4 - n + 1 = n4 + 1 - n by omega]
theorem rev_pt {k : Nat → Int32} {G : Nat → Nat} {bh n4 : Nat} (hb : 0 < bh) : ∀ {c : Nat}, bh + 1 + c ≤ n4 + 1 → (∀ j, j < bh + 1 + c → G j = 48 + rdg k (n4 - j)) → revS G (bh : Int) (bh + 1 + c) = dl k (n4 - bh - c) (c + 1) ++ ([46] ++ dl k (n4 + 1 - bh) bh)
  | 0, hn, h => by
    show (G bh :: (if ((bh : Nat) : Int) = (bh : Int) ∧ 0 < bh then 46 :: revS G (bh : Int) bh else revS G (bh : Int) bh)) = _
    rw [if_pos ⟨rfl, hb⟩, h bh (by omega), rev_dl (k := k) (n4 := n4) (n := bh) (by omega) (fun j hj => h j (by omega)) (by omega), dl_cons]
    rfl
  | c + 1, hn, h => by
    show revS G (bh : Int) (bh + 1 + c + 1) = _
    rw [dl_cons]
    simp only [revS]
    rw [if_neg (by omega), h (bh + 1 + c) (by omega), rev_pt hb (c := c) (by omega) (fun j hj => h j (by omega)), show n4 - (bh + 1 + c) = n4 - bh - (c + 1) by omega, show n4 - bh - (c + 1) + 1 = n4 - bh - c by omega]
    rfl
theorem odd_part : ∀ (b s : Nat), ∃ c a : Nat, s = c * 2 ^ a ∧ a ≤ b ∧ (a = b ∨ c % 2 = 1)
  | 0, s => ⟨s, 0, by rw [Nat.pow_zero, Nat.mul_one], Nat.le_refl _, Or.inl rfl⟩
  | b + 1, s => by
    rcases Nat.mod_two_eq_zero_or_one s with h | h
    · obtain ⟨c, a, h1, h2, h3⟩ := odd_part b (s / 2)
      refine ⟨c, a + 1, ?_, by omega, h3.imp (fun h => by omega) id⟩
      rw [Nat.pow_succ, ← Nat.mul_assoc, ← h1]
      omega
    · exact ⟨s, 0, by rw [Nat.pow_zero, Nat.mul_one], by omega, Or.inr h⟩
theorem five_ten (n : Nat) : 5 ^ n * 2 ^ n = 10 ^ n := by rw [← Nat.mul_pow]
theorem five_odd : ∀ n : Nat, 5 ^ n % 2 = 1
  | 0 => rfl
  | n + 1 => by rw [Nat.pow_succ, Nat.mul_mod, five_odd n]
/-- digits of a row, as of a number -/
theorem rdg_pv {k : Nat → Int32} : ∀ {n j : Nat}, n ≤ 400 → (∀ i, i < n → rdg k i ≤ 9) → j < n → pv k n / 10 ^ j % 10 = rdg k (n - 1 - j)
  | 0, j, _, _, h => by omega
  | n + 1, 0, hn, h9, _ => by
    have := h9 n (by omega)
    show (pv k n * 10 + rdg k n) / 10 ^ 0 % 10 = rdg k (n + 1 - 1 - 0)
    rw [Nat.pow_zero, Nat.div_one, show n + 1 - 1 - 0 = n by omega]
    omega
  | n + 1, j + 1, hn, h9, hj => by
    have := h9 n (by omega)
    show (pv k n * 10 + rdg k n) / 10 ^ (j + 1) % 10 = rdg k (n + 1 - 1 - (j + 1))
    rw [Nat.pow_succ, Nat.mul_comm (10 ^ j) 10, ← Nat.div_div_eq_div_mul, show (pv k n * 10 + rdg k n) / 10 = pv k n by omega, rdg_pv (by omega) (fun i hi => h9 i (by omega)) (by omega), show n + 1 - 1 - (j + 1) = n - 1 - j by omega]
theorem pv_lt {k : Nat → Int32} {n3 : Nat} (h0 : ∀ j, j < n3 → (k j).toInt = 0) : ∀ {n : Nat}, n3 ≤ n → (∀ i, i < n → rdg k i ≤ 9) → pv k n < 10 ^ (n - n3)
  | 0, hn, _ => by show 0 < _; exact p10 _
  | n + 1, hn, h9 => by
    have h := h9 n (by omega)
    show pv k n * 10 + rdg k n < 10 ^ (n + 1 - n3)
    rcases Nat.lt_or_ge n n3 with h1 | h1
    · rw [pv_zero (fun j hj => rdg_0 (h0 j (by omega))), rdg_0 (h0 n h1)]
      exact p10 _
    · have := pv_lt h0 (n := n) h1 (fun i hi => h9 i (by omega))
      rw [show n + 1 - n3 = n - n3 + 1 by omega, Nat.pow_succ]
      omega
theorem p10_inj {V W b n : Nat} (h : V * 10 ^ b = W * 10 ^ n) (hb : b ≤ n) : V = W * 10 ^ (n - b) := by
  rw [show n = n - b + b by omega, Nat.pow_add, ← Nat.mul_assoc] at h
  exact Nat.eq_of_mul_eq_mul_right (p10 b) h
/-- all the digits: what is said is what the document asks -/
theorem EX_tie {E M Z n3 n4 : Nat} {k : Nat → Int32} (hE1 : 2 ≤ E) (hE2 : E ≤ 8) (hM1 : 1 ≤ M) (hM2 : M ≤ 23) (hZ : Z < sb E M) (hR : RWp k n3 n4) (hv : SPV E M Z (sv k 400)) (hl : 60 < n4 → ¬ (k n4).toInt = 0) (h13 : 13 ≤ n3) (hn4 : n4 ≤ 209) (hc : n4 + 1 - n3 ≤ 158) :
    ∃ V bh cnt : Nat, EXN E M Z V bh cnt ∧ cnt = n4 + 1 - n3 ∧ bh = n4 - 60 ∧ (n4 = 60 → revS (dgt V) (bh : Int) cnt = dl k n3 (61 - n3)) ∧ (60 < n4 → revS (dgt V) (bh : Int) cnt = dl k n3 (61 - n3) ++ ([46] ++ dl k 61 (n4 - 60))) := by
  have hp := pwr_r hE1 hE2 hM1 hM2 hZ
  have hR2 := hR
  obtain ⟨r1, r2, r3, r4, r5, r6, r7⟩ := hR2
  have h9 : ∀ i, i < 400 → rdg k i ≤ 9 := fun i hi => RWp_9 hR hi
  have hsv : sv k 400 = pv k (n4 + 1) * 10 ^ (399 - n4) := by
    have := sv_low (r := k) (m := 399 - n4) (by omega) (fun j a b => rdg_0 (r3 j (by omega) b))
    rw [show 400 - (399 - n4) = n4 + 1 by omega] at this
    exact this
  have hdig : ∀ j, j < n4 + 1 → dgt (pv k (n4 + 1)) j = 48 + rdg k (n4 - j) := fun j hj => by
    unfold dgt
    rw [rdg_pv (by omega) (fun i hi => h9 i (by omega)) hj, show n4 + 1 - 1 - j = n4 - j by omega]
  have hlt : pv k (n4 + 1) < 10 ^ (n4 + 1 - n3) := pv_lt r2 (by omega) (fun i hi => h9 i (by omega))
  have hge : n3 = 60 ∨ 10 ^ (n4 - n3) ≤ pv k (n4 + 1) := by
    rcases Nat.lt_or_ge n3 60 with h | h
    · right
      have h1 := pv_ge (r := k) (n := n4 + 1) (k := n3) (by omega)
      have h2 := r7 h
      have h3 := (r1 n3 (by omega)).1
      have h4 : 1 ≤ rdg k n3 := by unfold rdg; omega
      have h5 := Nat.mul_le_mul_right (10 ^ (n4 + 1 - 1 - n3)) h4
      rw [show n4 + 1 - 1 - n3 = n4 - n3 by omega] at h1 h5
      omega
    · left; omega
  -- how many digits stand behind the point
  have key : ∃ (c1 s1 : Nat) (p1 : Int), sgf M Z = c1 * 2 ^ s1 ∧ p1 = pwr E M Z + s1 ∧ (s1 = 0 ∨ p1 ≤ 0) ∧ (0 ≤ p1 ∨ c1 % 2 = 1) ∧ ((0 ≤ p1 ∧ sv k 400 = c1 * 2 ^ p1.toNat * 10 ^ 339) ∨ (p1 < 0 ∧ sv k 400 = c1 * 5 ^ (-p1).toNat * 10 ^ (339 - (-p1).toNat))) := by
    rcases Int.le_total 0 (pwr E M Z) with h | h
    · exact ⟨sgf M Z, 0, pwr E M Z, by rw [Nat.pow_zero, Nat.mul_one], by omega, Or.inl rfl, Or.inl h, Or.inl ⟨h, (SPV_hi hM2 hv h hp.2).2⟩⟩
    · obtain ⟨c, a, h1, h2, h3⟩ := odd_part (-(pwr E M Z)).toNat (sgf M Z)
      refine ⟨c, a, pwr E M Z + a, h1, rfl, Or.inr (by omega), h3.imp (fun h => by omega) id, ?_⟩
      unfold SPV at hv
      rw [show (pwr E M Z).toNat = 0 by omega, Nat.pow_zero, Nat.mul_one, h1] at hv
      rcases Nat.lt_or_ge a (-(pwr E M Z)).toNat with h4 | h4
      · right
        refine ⟨by omega, ?_⟩
        rw [show (-(pwr E M Z + (a : Int))).toNat = (-(pwr E M Z)).toNat - a by omega]
        refine Nat.eq_of_mul_eq_mul_right (pw_p (-(pwr E M Z)).toNat) ?_
        rw [hv]
        obtain ⟨n, hn⟩ : ∃ n, (-(pwr E M Z)).toNat = a + n := ⟨(-(pwr E M Z)).toNat - a, by omega⟩
        rw [hn, show a + n - a = n by omega, show (339 : Nat) = n + (339 - n) by omega, show n + (339 - n) - n = 339 - n by omega, Nat.pow_add 10, ← five_ten n, Nat.pow_add 2]
        simp only [Nat.mul_comm, Nat.mul_left_comm, Nat.mul_assoc]
      · left
        refine ⟨by omega, ?_⟩
        rw [show (pwr E M Z + (a : Int)).toNat = 0 by omega, Nat.pow_zero, Nat.mul_one]
        refine Nat.eq_of_mul_eq_mul_right (pw_p (-(pwr E M Z)).toNat) ?_
        rw [hv, show (-(pwr E M Z)).toNat = a by omega, Nat.mul_right_comm]
  obtain ⟨c1, s1, p1, k1, k2, k3, k4, k5⟩ := key
  have hbh : (0 ≤ p1 ∧ n4 = 60 ∧ pv k (n4 + 1) = c1 * 2 ^ p1.toNat) ∨ (p1 < 0 ∧ n4 - 60 = (-p1).toNat ∧ pv k (n4 + 1) = c1 * 5 ^ (-p1).toNat) := by
    rcases k5 with ⟨k5, k6⟩ | ⟨k5, k6⟩
    · left
      rw [hsv] at k6
      have h1 : n4 = 60 := by
        rcases Nat.lt_or_ge 60 n4 with h2 | h2
        · exfalso
          have h3 := p10_inj k6 (by omega)
          have h4 := hl h2
          have h5 := (r1 n4 (by omega)).1
          have h6 := hdig 0 (by omega)
          unfold dgt at h6
          rw [Nat.pow_zero, Nat.div_one, h3, show 339 - (399 - n4) = n4 - 61 + 1 by omega, Nat.pow_succ, ← Nat.mul_assoc, Nat.mul_mod_left, show n4 - 0 = n4 by omega] at h6
          unfold rdg at h6
          omega
        · omega
      refine ⟨k5, h1, ?_⟩
      have h3 := p10_inj k6 (by omega)
      rw [show 339 - (399 - n4) = 0 by omega, Nat.pow_zero, Nat.mul_one] at h3
      exact h3
    · right
      rw [hsv] at k6
      have hodd : (c1 * 5 ^ (-p1).toNat) % 2 = 1 := by
        rw [Nat.mul_mod, five_odd, k4.elim (fun h => by omega) id]
      obtain ⟨n, hn⟩ : ∃ n : Nat, (-p1).toNat = n := ⟨_, rfl⟩
      rw [hn] at k6 hodd ⊢
      have hn1 : 1 ≤ n := by omega
      have hn149 : n ≤ 149 := by omega
      have hne : n4 - 60 = n := by
        rcases Nat.lt_trichotomy (n4 - 60) n with h2 | h2 | h2
        · exfalso
          -- too few places: the number would be even
          have h3 := p10_inj k6.symm (by omega)
          rw [show 399 - n4 - (339 - n) = n + 59 - n4 + 1 by omega, Nat.pow_succ, ← Nat.mul_assoc] at h3
          rw [h3] at hodd
          omega
        · exact h2
        · exfalso
          have h3 := p10_inj k6 (by omega)
          have h4 := hl (by omega)
          have h5 := (r1 n4 (by omega)).1
          have h6 := hdig 0 (by omega)
          unfold dgt at h6
          rw [Nat.pow_zero, Nat.div_one, h3, show 339 - n - (399 - n4) = n4 - 61 - n + 1 by omega, Nat.pow_succ, ← Nat.mul_assoc, Nat.mul_mod_left, show n4 - 0 = n4 by omega] at h6
          unfold rdg at h6
          omega
      refine ⟨k5, hne, ?_⟩
      have h3 := p10_inj k6 (by omega)
      rw [show 339 - n - (399 - n4) = 0 by omega, Nat.pow_zero, Nat.mul_one] at h3
      exact h3
  refine ⟨pv k (n4 + 1), n4 - 60, n4 + 1 - n3, ⟨c1, s1, p1, k1, k2, k3, k4, ?_, by omega, by omega, hlt, ?_⟩, rfl, rfl, fun h => ?_, fun h => ?_⟩
  · rcases hbh with ⟨h1, h2, h3⟩ | ⟨h1, h2, h3⟩
    · exact Or.inl ⟨h1, h3, by omega⟩
    · exact Or.inr ⟨h1, h3, h2⟩
  · rcases hge with h | h
    · left; omega
    · right; rw [show n4 + 1 - n3 - 1 = n4 - n3 by omega]; exact h
  · rw [rev_dl (k := k) (n4 := n4) (by omega) (fun j hj => hdig j (by omega)) (by omega), show n4 + 1 - (n4 + 1 - n3) = n3 by omega, show n4 + 1 - n3 = 61 - n3 by omega]
  · have := rev_pt (k := k) (G := dgt (pv k (n4 + 1))) (bh := n4 - 60) (n4 := n4) (c := 60 - n3) (by omega) (by omega) (fun j hj => hdig j (by omega))
    rw [show n4 - 60 + 1 + (60 - n3) = n4 + 1 - n3 by omega, show n4 - (n4 - 60) - (60 - n3) = n3 by omega, show 60 - n3 + 1 = 61 - n3 by omega, show n4 + 1 - (n4 - 60) = 61 by omega] at this
    exact this
theorem sg_0 {E M : Nat} {p : Int} (h : isPat E M p) (hs : szo E M p.toNat = p.toNat) : ¬ ((sb E M : Nat) : Int) ≤ p := by
  have h1 := h.1
  have h2 : 0 < sb E M := pw_p _
  rcases szo_cases h.1 h.2 with ⟨a, b⟩ | ⟨a, b⟩ <;> omega
theorem sg_1 {E M : Nat} {p : Int} (h : isPat E M p) (hs : ¬ szo E M p.toNat = p.toNat) : ((sb E M : Nat) : Int) ≤ p := by
  have h1 := h.1
  rcases szo_cases h.1 h.2 with ⟨a, b⟩ | ⟨a, b⟩
  · omega
  · exact a
theorem isB_0 {E M : Nat} {p : Int} {r : Int32} (h : isPat E M p) (hr : r = if szo E M p.toNat = p.toNat then 0 else 1) (h0 : r = 0) : ¬ ((sb E M : Nat) : Int) ≤ p := by
  rcases Nat.decEq (szo E M p.toNat) p.toNat with hs | hs
  · rw [if_neg hs] at hr; rw [hr] at h0; exact absurd h0 (by decide)
  · exact sg_0 h hs
theorem isB_1 {E M : Nat} {p : Int} {r : Int32} (h : isPat E M p) (hr : r = if szo E M p.toNat = p.toNat then 0 else 1) (h0 : ¬ r = 0) : ((sb E M : Nat) : Int) ≤ p := by
  rcases Nat.decEq (szo E M p.toNat) p.toNat with hs | hs
  · exact sg_1 h hs
  · rw [if_pos hs] at hr; exact absurd hr h0
theorem SP_b {E M Z n3 n4 : Nat} {k : Nat → Int32} (hM2 : M ≤ 23) (hp : -149 ≤ pwr E M Z ∧ pwr E M Z ≤ 130) (hR : RWp k n3 n4) (hv : SPV E M Z (sv k 400)) (hn : n4 ≤ 60 + (-(pwr E M Z)).toNat) : 13 ≤ n3 ∧ n4 ≤ 209 ∧ n4 + 1 - n3 ≤ 157 := by
  rcases Int.le_total (pwr E M Z) 0 with h | h
  · have := n3_ge hR (SPV_lo hM2 hv h) (by omega)
    omega
  · have := n3_ge hR (SPV_hi hM2 hv h hp.2).1 (by omega)
    have := hR.2.2.2.2.1
    omega
theorem RWp_trim {k : Nat → Int32} {n3 n4 : Nat} (h : RWp k n3 n4) (h60 : 60 < n4) (h0 : (k n4).toInt = 0) : RWp k n3 (n4 - 1) := by
  obtain ⟨r1, r2, r3, r4, r5, r6, r7⟩ := h
  refine ⟨r1, r2, fun j hj hj2 => ?_, r4, by omega, by omega, r7⟩
  rcases Nat.lt_or_ge n4 j with h | h
  · exact r3 j h hj2
  · rw [show j = n4 by omega]; exact h0
theorem EX_fin {E M n3 n4 : Nat} {p : Int} {k ko : Nat → Int32} {on : Int32} {wq : List Nat} (hE1 : 2 ≤ E) (hE2 : E ≤ 8) (hM1 : 1 ≤ M) (hM2 : M ≤ 23) (hlt : szo E M p.toNat < iz E M) (hR : RWp k n3 n4) (hv : SPV E M (szo E M p.toNat) (sv k 400)) (hl : 60 < n4 → ¬ (k n4).toInt = 0) (h13 : 13 ≤ n3) (hn4 : n4 ≤ 209) (hc : n4 + 1 - n3 ≤ 157)
    (hw : (n4 = 60 ∧ wq = sgW E M p ++ dl k n3 (61 - n3)) ∨ (60 < n4 ∧ wq = sgW E M p ++ dl k n3 (61 - n3) ++ [46])) (hT : TL ko on (wq ++ dl k 61 (n4 - 60))) : ∃ w : List Nat, TL ko on w ∧ on.toInt = (w.length : Int) ∧ EXW E M p w := by
  refine ⟨_, hT, hT.1, Or.inr ⟨hlt, ?_⟩⟩
  obtain ⟨V, bh, cnt, h1, -, -, h2, h3⟩ := EX_tie hE1 hE2 hM1 hM2 szo_lt hR hv hl h13 hn4 (by omega)
  refine ⟨V, bh, cnt, h1, ?_⟩
  have ht : ∀ l : List Nat, l.length ≤ 160 → tk l = l := fun l hl => List.take_of_length_le hl
  have hlen := hT.2.1
  rcases hw with ⟨a, b⟩ | ⟨a, b⟩
  · have e : wq ++ dl k 61 (n4 - 60) = sgW E M p ++ revS (dgt V) (bh : Int) cnt := by
      rw [h2 a, b, show n4 - 60 = 0 by omega]
      exact List.append_nil _
    rw [e] at hlen ⊢
    exact (ht _ hlen).symm
  · have e : wq ++ dl k 61 (n4 - 60) = sgW E M p ++ revS (dgt V) (bh : Int) cnt := by
      rw [h3 a, b, List.append_assoc, List.append_assoc]
    rw [e] at hlen ⊢
    exact (ht _ hlen).symm
