set_option maxHeartbeats 4000000 in
set_option maxRecDepth 100000 in
theorem c_Math_max (l : Launch) (dC : Nat → ClassId) (dI : Nat → Nat → Nat) (cI cB cJ : ClassId) (x : Int32) (y : Int32)  : Ci l dC dI cI cB cJ y_Math_max w_Math_max ({ frames := 0, cells := 0, slots := 0, locals := 0 } : Room) [.int x, .int y] [] (fun (r : Int32) (u : Unit) => r.toInt = max x.toInt y.toInt) (fun u : Unit => []) := by
  refine Ci.intro (cc := b_Math_max) (maxL := 2) (by decide +kernel) rfl (Nat.le_of_ble_eq_true rfl) ?_
  intro p e s m below meth c A ls C0 hin hA hP hD hS hl
  obtain ⟨hx, hb, hml, hown, hts, hr, hlocks, hK, hN⟩ := id C0
  obtain ⟨H, hH⟩ : ∃ H, H = s.heap := ⟨_, rfl⟩
  have hP : va_P (dC, dI) vwCl [] s.heap := hP
  have hl : lv_has ls 2 [(0, .int x), (1, .int y)] := hl
  have r_x := q_r32 x
  have r_y := q_r32 y
  suffices h : ∀ (H : Heap) (locs : List Loc), va_P (dC, dI) vwCl [] H → va_D A [] → va_S A s.heap H locs → W p l e ({ frames := 0, cells := 0, slots := 0, locals := 0 } : Room) s m ([.int x, .int y] : List Value).toArray below meth c H locs 0 0 (MQ below (va_Qi (fun (r : Int32) (u : Unit) => r.toInt = max x.toInt y.toInt) (poG dC dI A (fun u : Unit => [])) A) ([.int x, .int y] : List Value).toArray s 0 0 A) (F0 m 0 ls []) from h _ _ hP hD hS
  clear hP hD hS hH H
  intro H locs hP hD hS
  refine lv_iload_n hx hb d_Math_max_0 rfl (lv_at hl 0 rfl) ?_
  refine lv_iload_n hx hb d_Math_max_1 rfl (lv_at hl 1 rfl) ?_
  refine lv_icmp_lt (tgt := 9) hx hb d_Math_max_2 (by decide) (fun b2 => ?_) (fun b2 => ?_)
  · skip
    rw [q_ilt (rfl : x.toInt = x.toInt) (rfl : y.toInt = y.toInt)] at b2
    refine lv_iload_n hx hb d_Math_max_9 rfl (lv_at hl 1 rfl) ?_
    exact Ci.ret C0 (v := y) (u := ()) (Nat.le_of_ble_eq_true rfl) (Nat.le_of_ble_eq_true rfl) (by show y.toInt = max x.toInt y.toInt; show y.toInt = max x.toInt y.toInt; omega) hP hD hS [] (by decide) rfl d_Math_max_10
  · skip
    rw [q_ilt (rfl : x.toInt = x.toInt) (rfl : y.toInt = y.toInt)] at b2
    refine lv_iload_n hx hb d_Math_max_5 rfl (lv_at hl 0 rfl) ?_
    refine lv_goto (tgt := 10) hx hb d_Math_max_6 (by decide) ?_
    exact Ci.ret C0 (v := x) (u := ()) (Nat.le_of_ble_eq_true rfl) (Nat.le_of_ble_eq_true rfl) (by show x.toInt = max x.toInt y.toInt; show x.toInt = max x.toInt y.toInt; omega) hP hD hS [] (by decide) rfl d_Math_max_10
set_option maxHeartbeats 4000000 in
set_option maxRecDepth 100000 in
theorem c_Math_min (l : Launch) (dC : Nat → ClassId) (dI : Nat → Nat → Nat) (cI cB cJ : ClassId) (x : Int32) (y : Int32)  : Ci l dC dI cI cB cJ y_Math_min w_Math_min ({ frames := 0, cells := 0, slots := 0, locals := 0 } : Room) [.int x, .int y] [] (fun (r : Int32) (u : Unit) => r.toInt = min x.toInt y.toInt) (fun u : Unit => []) := by
  refine Ci.intro (cc := b_Math_min) (maxL := 2) (by decide +kernel) rfl (Nat.le_of_ble_eq_true rfl) ?_
  intro p e s m below meth c A ls C0 hin hA hP hD hS hl
  obtain ⟨hx, hb, hml, hown, hts, hr, hlocks, hK, hN⟩ := id C0
  obtain ⟨H, hH⟩ : ∃ H, H = s.heap := ⟨_, rfl⟩
  have hP : va_P (dC, dI) vwCl [] s.heap := hP
  have hl : lv_has ls 2 [(0, .int x), (1, .int y)] := hl
  have r_x := q_r32 x
  have r_y := q_r32 y
  suffices h : ∀ (H : Heap) (locs : List Loc), va_P (dC, dI) vwCl [] H → va_D A [] → va_S A s.heap H locs → W p l e ({ frames := 0, cells := 0, slots := 0, locals := 0 } : Room) s m ([.int x, .int y] : List Value).toArray below meth c H locs 0 0 (MQ below (va_Qi (fun (r : Int32) (u : Unit) => r.toInt = min x.toInt y.toInt) (poG dC dI A (fun u : Unit => [])) A) ([.int x, .int y] : List Value).toArray s 0 0 A) (F0 m 0 ls []) from h _ _ hP hD hS
  clear hP hD hS hH H
  intro H locs hP hD hS
  refine lv_iload_n hx hb d_Math_min_0 rfl (lv_at hl 0 rfl) ?_
  refine lv_iload_n hx hb d_Math_min_1 rfl (lv_at hl 1 rfl) ?_
  refine lv_icmp_gt (tgt := 9) hx hb d_Math_min_2 (by decide) (fun b2 => ?_) (fun b2 => ?_)
  · skip
    rw [q_ilt (rfl : y.toInt = y.toInt) (rfl : x.toInt = x.toInt)] at b2
    refine lv_iload_n hx hb d_Math_min_9 rfl (lv_at hl 1 rfl) ?_
    exact Ci.ret C0 (v := y) (u := ()) (Nat.le_of_ble_eq_true rfl) (Nat.le_of_ble_eq_true rfl) (by show y.toInt = min x.toInt y.toInt; show y.toInt = min x.toInt y.toInt; omega) hP hD hS [] (by decide) rfl d_Math_min_10
  · skip
    rw [q_ilt (rfl : y.toInt = y.toInt) (rfl : x.toInt = x.toInt)] at b2
    refine lv_iload_n hx hb d_Math_min_5 rfl (lv_at hl 0 rfl) ?_
    refine lv_goto (tgt := 10) hx hb d_Math_min_6 (by decide) ?_
    exact Ci.ret C0 (v := x) (u := ()) (Nat.le_of_ble_eq_true rfl) (Nat.le_of_ble_eq_true rfl) (by show x.toInt = min x.toInt y.toInt; show x.toInt = min x.toInt y.toInt; omega) hP hD hS [] (by decide) rfl d_Math_min_10
set_option maxHeartbeats 4000000 in
set_option maxRecDepth 100000 in
theorem c_Math_abs (l : Launch) (dC : Nat → ClassId) (dI : Nat → Nat → Nat) (cI cB cJ : ClassId) (x : Int32) (hx1 : -2147483648 < x.toInt) : Ci l dC dI cI cB cJ y_Math_abs w_Math_abs ({ frames := 0, cells := 0, slots := 0, locals := 0 } : Room) [.int x] [] (fun (r : Int32) (u : Unit) => r.toInt = (x.toInt.natAbs : Int)) (fun u : Unit => []) := by
  refine Ci.intro (cc := b_Math_abs) (maxL := 1) (by decide +kernel) rfl (Nat.le_of_ble_eq_true rfl) ?_
  intro p e s m below meth c A ls C0 hin hA hP hD hS hl
  obtain ⟨hx, hb, hml, hown, hts, hr, hlocks, hK, hN⟩ := id C0
  obtain ⟨H, hH⟩ : ∃ H, H = s.heap := ⟨_, rfl⟩
  have hP : va_P (dC, dI) vwCl [] s.heap := hP
  have hl : lv_has ls 1 [(0, .int x)] := hl
  have r_x := q_r32 x
  suffices h : ∀ (H : Heap) (locs : List Loc), va_P (dC, dI) vwCl [] H → va_D A [] → va_S A s.heap H locs → W p l e ({ frames := 0, cells := 0, slots := 0, locals := 0 } : Room) s m ([.int x] : List Value).toArray below meth c H locs 0 0 (MQ below (va_Qi (fun (r : Int32) (u : Unit) => r.toInt = (x.toInt.natAbs : Int)) (poG dC dI A (fun u : Unit => [])) A) ([.int x] : List Value).toArray s 0 0 A) (F0 m 0 ls []) from h _ _ hP hD hS
  clear hP hD hS hH H
  intro H locs hP hD hS
  refine lv_iload_n hx hb d_Math_abs_0 rfl (lv_at hl 0 rfl) ?_
  refine lv_if_ge (tgt := 9) hx hb d_Math_abs_1 (by decide) (fun b1 => ?_) (fun b1 => ?_)
  · skip
    rw [q_ile (show (0 : Int32).toInt = 0 by decide) (rfl : x.toInt = x.toInt)] at b1
    refine lv_iload_n hx hb d_Math_abs_9 rfl (lv_at hl 0 rfl) ?_
    exact Ci.ret C0 (v := x) (u := ()) (Nat.le_of_ble_eq_true rfl) (Nat.le_of_ble_eq_true rfl) (by show x.toInt = (x.toInt.natAbs : Int); show x.toInt = _; omega) hP hD hS [] (by decide) rfl d_Math_abs_10
  · skip
    rw [q_ile (show (0 : Int32).toInt = 0 by decide) (rfl : x.toInt = x.toInt)] at b1
    refine lv_iload_n hx hb d_Math_abs_4 rfl (lv_at hl 0 rfl) ?_
    refine lv_ineg hx hb d_Math_abs_5 ?_
    refine lv_topi (fun v5 e5 => ?_)
    have t5 : v5.toInt = -(x.toInt) := by rw [e5]; exact q_ineg (rfl : x.toInt = x.toInt) (by omega)
    refine lv_goto (tgt := 10) hx hb d_Math_abs_6 (by decide) ?_
    exact Ci.ret C0 (v := v5) (u := ()) (Nat.le_of_ble_eq_true rfl) (Nat.le_of_ble_eq_true rfl) (by show v5.toInt = (x.toInt.natAbs : Int); show v5.toInt = _; rw [t5]; omega) hP hD hS [] (by decide) rfl d_Math_abs_10
set_option maxHeartbeats 4000000 in
set_option maxRecDepth 100000 in
theorem c_Math_floorDiv (l : Launch) (dC : Nat → ClassId) (dI : Nat → Nat → Nat) (cI cB cJ : ClassId) (x : Int32) (y : Int32) (hy1 : 1 < y.toInt) : Ci l dC dI cI cB cJ y_Math_floorDiv w_Math_floorDiv ({ frames := 0, cells := 0, slots := 0, locals := 0 } : Room) [.int x, .int y] [] (fun (r : Int32) (u : Unit) => r.toInt = x.toInt / y.toInt) (fun u : Unit => []) := by
  refine Ci.intro (cc := b_Math_floorDiv) (maxL := 3) (by decide +kernel) rfl (Nat.le_of_ble_eq_true rfl) ?_
  intro p e s m below meth c A ls C0 hin hA hP hD hS hl
  obtain ⟨hx, hb, hml, hown, hts, hr, hlocks, hK, hN⟩ := id C0
  obtain ⟨H, hH⟩ : ∃ H, H = s.heap := ⟨_, rfl⟩
  have hP : va_P (dC, dI) vwCl [] s.heap := hP
  have hl : lv_has ls 3 [(0, .int x), (1, .int y)] := hl
  have r_x := q_r32 x
  have r_y := q_r32 y
  suffices h : ∀ (H : Heap) (locs : List Loc), va_P (dC, dI) vwCl [] H → va_D A [] → va_S A s.heap H locs → W p l e ({ frames := 0, cells := 0, slots := 0, locals := 0 } : Room) s m ([.int x, .int y] : List Value).toArray below meth c H locs 0 0 (MQ below (va_Qi (fun (r : Int32) (u : Unit) => r.toInt = x.toInt / y.toInt) (poG dC dI A (fun u : Unit => [])) A) ([.int x, .int y] : List Value).toArray s 0 0 A) (F0 m 0 ls []) from h _ _ hP hD hS
  clear hP hD hS hH H
  intro H locs hP hD hS
  refine lv_iload_n hx hb d_Math_floorDiv_0 rfl (lv_at hl 0 rfl) ?_
  refine lv_iload_n hx hb d_Math_floorDiv_1 rfl (lv_at hl 1 rfl) ?_
  refine lv_idiv hx hb d_Math_floorDiv_2 (fun h0 => by have h1 := (q_ieq (rfl : y.toInt = y.toInt) (show (0 : Int32).toInt = 0 by decide)).mp h0; omega) ?_
  refine lv_topi (fun v2 e2 => ?_)
  have t2 : v2.toInt = x.toInt.tdiv y.toInt := by rw [e2]; exact q_tdiv hy1
  refine lv_istore_n (lv' := [(2, .int v2), (0, .int x), (1, .int y)]) hx hb d_Math_floorDiv_3 rfl hl (by decide) rfl (fun ls hl => ?_)
  refine lv_iload_n hx hb d_Math_floorDiv_4 rfl (lv_at hl 1 rfl) ?_
  refine lv_iload_n hx hb d_Math_floorDiv_5 rfl (lv_at hl 2 rfl) ?_
  refine lv_ixor hx hb d_Math_floorDiv_6 ?_
  refine lv_topi (fun v6 e6 => ?_)
  refine lv_if_ge (tgt := 21) hx hb d_Math_floorDiv_7 (by decide) (fun b7 => ?_) (fun b7 => ?_)
  · skip
    have hsx := (q_ixor_pos hy1 e6).mp b7
    refine lv_iload_n hx hb d_Math_floorDiv_21 rfl (lv_at hl 0 rfl) ?_
    exact Ci.ret C0 (v := v2) (u := ()) (Nat.le_of_ble_eq_true rfl) (Nat.le_of_ble_eq_true rfl) (by show v2.toInt = x.toInt / y.toInt; show v2.toInt = _; rw [t2, Int.tdiv_eq_ediv_of_nonneg hsx]) hP hD hS [] (by decide) rfl d_Math_floorDiv_22
  · skip
    have hsx := mt (q_ixor_pos hy1 e6).mpr b7
    refine lv_iload_n hx hb d_Math_floorDiv_10 rfl (lv_at hl 0 rfl) ?_
    refine lv_iload_n hx hb d_Math_floorDiv_11 rfl (lv_at hl 2 rfl) ?_
    refine lv_imul hx hb d_Math_floorDiv_12 ?_
    refine lv_topi (fun v12 e12 => ?_)
    have t12 : v12.toInt = x.toInt.tdiv y.toInt * y.toInt := by rw [e12]; exact q_imul t2 (rfl : y.toInt = y.toInt) (tdiv_rng (q_r32 x) hy1)
    refine lv_iload_n hx hb d_Math_floorDiv_13 rfl (lv_at hl 1 rfl) ?_
    refine lv_icmp_eq (tgt := 21) hx hb d_Math_floorDiv_14 (by decide) (fun b14 => ?_) (fun b14 => ?_)
    · skip
      rw [q_ieq t12 (rfl : x.toInt = x.toInt)] at b14
      refine lv_iload_n hx hb d_Math_floorDiv_21 rfl (lv_at hl 0 rfl) ?_
      exact Ci.ret C0 (v := v2) (u := ()) (Nat.le_of_ble_eq_true rfl) (Nat.le_of_ble_eq_true rfl) (by show v2.toInt = x.toInt / y.toInt; show v2.toInt = _; rw [t2]; exact tdiv_exact (by omega) b14) hP hD hS [] (by decide) rfl d_Math_floorDiv_22
    · skip
      rw [q_ieq t12 (rfl : x.toInt = x.toInt)] at b14
      refine lv_iload_n hx hb d_Math_floorDiv_17 rfl (lv_at hl 0 rfl) ?_
      refine lv_iconst (v := 1) hx hb d_Math_floorDiv_18 (by decide) ?_
      have hrg := tdiv_rng2 (q_r32 x) hy1
      refine lv_isub hx hb d_Math_floorDiv_19 ?_
      refine lv_topi (fun v19 e19 => ?_)
      have t19 : v19.toInt = (x.toInt.tdiv y.toInt) - 1 := by rw [e19]; exact q_isub t2 (show (1 : Int32).toInt = 1 by decide) (by omega)
      exact Ci.ret C0 (v := v19) (u := ()) (Nat.le_of_ble_eq_true rfl) (Nat.le_of_ble_eq_true rfl) (by show v19.toInt = x.toInt / y.toInt; show v19.toInt = _; rw [t19]; exact tdiv_less (by omega) (by omega) b14) hP hD hS [] (by decide) rfl d_Math_floorDiv_20
set_option maxHeartbeats 4000000 in
set_option maxRecDepth 100000 in
theorem c_Long_numberOfLeadingZeros (l : Launch) (dC : Nat → ClassId) (dI : Nat → Nat → Nat) (cI cB cJ : ClassId) (x : Int64) (hx0 : 0 < ul x) : Ci l dC dI cI cB cJ y_Long_numberOfLeadingZeros w_Long_numberOfLeadingZeros ({ frames := 1, cells := 0, slots := 0, locals := 21 } : Room) [.long x] [] (fun (r : Int32) (u : Unit) => ∃ z : Nat, r.toInt = (z : Int) ∧ z < 64 ∧ 2 ^ (63 - z) ≤ ul x ∧ ul x < 2 ^ (64 - z)) (fun u : Unit => []) := by
  refine Ci.intro (cc := b_Long_numberOfLeadingZeros) (maxL := 3) (plainFor_of_name (by decide)) rfl (Nat.le_of_ble_eq_true rfl) ?_
  intro p e s m below meth c A ls C0 hin hA hP hD hS hl
  obtain ⟨hx, hb, hml, hown, hts, hr, hlocks, hK, hN⟩ := id C0
  obtain ⟨H, hH⟩ : ∃ H, H = s.heap := ⟨_, rfl⟩
  have hP : va_P (dC, dI) vwCl [] s.heap := hP
  have hl : lv_has ls 3 [(0, .long x)] := hl
  suffices h : ∀ (H : Heap) (locs : List Loc), va_P (dC, dI) vwCl [] H → va_D A [] → va_S A s.heap H locs → W p l e ({ frames := 1, cells := 0, slots := 0, locals := 21 } : Room) s m ([.long x] : List Value).toArray below meth c H locs 0 0 (MQ below (va_Qi (fun (r : Int32) (u : Unit) => ∃ z : Nat, r.toInt = (z : Int) ∧ z < 64 ∧ 2 ^ (63 - z) ≤ ul x ∧ ul x < 2 ^ (64 - z)) (poG dC dI A (fun u : Unit => [])) A) ([.long x] : List Value).toArray s 0 0 A) (F0 m 0 ls []) from h _ _ hP hD hS
  clear hP hD hS hH H
  intro H locs hP hD hS
  refine lv_lload_n hx hb d_Long_numberOfLeadingZeros_0 rfl (lv_at hl 0 rfl) ?_
  refine lv_bipush (v := 32) hx hb d_Long_numberOfLeadingZeros_1 (by decide) ?_
  refine lv_lushr hx hb d_Long_numberOfLeadingZeros_3 rfl ?_
  refine lv_topl (fun v3 e3 => ?_)
  refine lv_l2i hx hb d_Long_numberOfLeadingZeros_4 rfl ?_
  refine lv_topi (fun v4 e4 => ?_)
  refine lv_istore_n (lv' := [(2, .int v4), (0, .long x)]) hx hb d_Long_numberOfLeadingZeros_5 rfl hl (by decide) rfl (fun ls hl => ?_)
  refine lv_iload_n hx hb d_Long_numberOfLeadingZeros_6 rfl (lv_at hl 0 rfl) ?_
  refine lv_if_ne (tgt := 21) hx hb d_Long_numberOfLeadingZeros_7 (by decide) (fun b7 => ?_) (fun b7 => ?_)
  · skip
    refine lv_iload_n hx hb d_Long_numberOfLeadingZeros_21 rfl (lv_at hl 0 rfl) ?_
    refine callS_i (wr := []) C0 (c_Integer_numberOfLeadingZeros l dC dI cI cB cJ (v4)) (cwSx 1 hts m_481 m_372 m_61 m_373 (by decide +kernel) ⟨Nat.le_of_ble_eq_true rfl, Nat.le_of_ble_eq_true rfl⟩) hP hD hS hA [] [] rfl rfl (by decide) (by decide) (by decide) rfl hl.1 rfl (Nat.le_of_ble_eq_true rfl) d_Long_numberOfLeadingZeros_22 ⟨Nat.le_of_ble_eq_true rfl, Nat.le_of_ble_eq_true rfl⟩ (fun r22 u22 H locs hw9 hP hD hS => ?_)
    have h22 : ∃ z : Nat, r22.toInt = (z : Int) ∧ ((v4.toInt = 0 ∧ z = 32) ∨ (z < 32 ∧ 2 ^ (31 - z) ≤ uw v4 ∧ uw v4 < 2 ^ (32 - z))) := hw9
    have hP : va_P (dC, dI) vwCl [] H := hP
    have hD : va_D A [] := hD
    obtain ⟨z, tz, hz⟩ := h22
    have t22 : r22.toInt = (z : Int) := tz
    exact Ci.ret C0 (v := r22) (u := ()) (Nat.le_of_ble_eq_true rfl) (Nat.le_of_ble_eq_true rfl) (by show ∃ z : Nat, r22.toInt = (z : Int) ∧ z < 64 ∧ 2 ^ (63 - z) ≤ ul x ∧ ul x < 2 ^ (64 - z); exact lnlz_hi tz hz e3 e4 b7) hP hD hS [] (by decide) rfl d_Long_numberOfLeadingZeros_25
  · skip
    refine lv_bipush (v := 32) hx hb d_Long_numberOfLeadingZeros_10 (by decide) ?_
    refine lv_lload_n hx hb d_Long_numberOfLeadingZeros_12 rfl (lv_at hl 1 rfl) ?_
    refine lv_l2i hx hb d_Long_numberOfLeadingZeros_13 rfl ?_
    refine lv_topi (fun v13 e13 => ?_)
    refine callS_i (wr := []) C0 (c_Integer_numberOfLeadingZeros l dC dI cI cB cJ (v13)) (cwSx 1 hts m_481 m_372 m_61 m_373 (by decide +kernel) ⟨Nat.le_of_ble_eq_true rfl, Nat.le_of_ble_eq_true rfl⟩) hP hD hS hA [] [] rfl rfl (by decide) (by decide) (by decide) rfl hl.1 rfl (Nat.le_of_ble_eq_true rfl) d_Long_numberOfLeadingZeros_14 ⟨Nat.le_of_ble_eq_true rfl, Nat.le_of_ble_eq_true rfl⟩ (fun r14 u14 H locs hw9 hP hD hS => ?_)
    have h14 : ∃ z : Nat, r14.toInt = (z : Int) ∧ ((v13.toInt = 0 ∧ z = 32) ∨ (z < 32 ∧ 2 ^ (31 - z) ≤ uw v13 ∧ uw v13 < 2 ^ (32 - z))) := hw9
    have hP : va_P (dC, dI) vwCl [] H := hP
    have hD : va_D A [] := hD
    obtain ⟨z, tz, hz⟩ := h14
    have t14 : r14.toInt = (z : Int) := tz
    refine lv_iadd hx hb d_Long_numberOfLeadingZeros_17 ?_
    refine lv_topi (fun v17 e17 => ?_)
    have t17 : v17.toInt = 32 + (z : Int) := by rw [e17]; exact q_iadd (show (32 : Int32).toInt = 32 by decide) t14 (by omega)
    refine lv_goto (tgt := 25) hx hb d_Long_numberOfLeadingZeros_18 (by decide) ?_
    exact Ci.ret C0 (v := v17) (u := ()) (Nat.le_of_ble_eq_true rfl) (Nat.le_of_ble_eq_true rfl) (by show ∃ z : Nat, v17.toInt = (z : Int) ∧ z < 64 ∧ 2 ^ (63 - z) ≤ ul x ∧ ul x < 2 ^ (64 - z); exact lnlz_lo hx0 tz hz e3 e4 e13 b7 t17) hP hD hS [] (by decide) rfl d_Long_numberOfLeadingZeros_25
set_option maxHeartbeats 4000000 in
set_option maxRecDepth 100000 in
theorem c_Layout_init (l : Launch) (dC : Nat → ClassId) (dI : Nat → Nat → Nat) (cI cB cJ : ClassId) (h0 : Nat) (z0 : Int32) (z1 : Int32)  : Cv l dC dI cI cB cJ y_Layout_init w_Layout_init ({ frames := 1, cells := 0, slots := 0, locals := 12 } : Room) [.ref h0] [(h0, .inr (0, [.int z0, .int z1]))] (fun (u : Unit) => True) (fun u : Unit => [(h0, .inr (0, [.int 8, .int 23]))]) := by
  refine Cv.intro (cc := b_Layout_init) (maxL := 1) (plainFor_of_name (by decide)) rfl (Nat.le_of_ble_eq_true rfl) ?_
  intro p e s m below meth c A ls C0 hin hA hP hD hS hl
  obtain ⟨hx, hb, hml, hown, hts, hr, hlocks, hK, hN⟩ := id C0
  obtain ⟨H, hH⟩ : ∃ H, H = s.heap := ⟨_, rfl⟩
  have hP : va_P (dC, dI) vwCl [(h0, .inr (0, [.int z0, .int z1]))] s.heap := hP
  have hl : lv_has ls 1 [(0, .ref h0)] := hl
  suffices h : ∀ (H : Heap) (locs : List Loc), va_P (dC, dI) vwCl [(h0, .inr (0, [.int z0, .int z1]))] H → va_D A [(h0, .inr (0, [.int z0, .int z1]))] → va_S A s.heap H locs → W p l e ({ frames := 1, cells := 0, slots := 0, locals := 12 } : Room) s m ([.ref h0] : List Value).toArray below meth c H locs 0 0 (MQ below (va_Qv (fun (u : Unit) => True) (poG dC dI A (fun u : Unit => [(h0, .inr (0, [.int 8, .int 23]))])) A) ([.ref h0] : List Value).toArray s 0 0 A) (F0 m 0 ls []) from h _ _ hP hD hS
  clear hP hD hS hH H
  intro H locs hP hD hS
  refine lv_aload_n hx hb d_Layout_init_0 rfl (lv_at hl 0 rfl) ?_
  refine W.objInit hx hb hown (hts _ m_77) (hts _ m_70) (hts _ m_71) rfl (by rw [hml]; exact hl.1) rfl d_Layout_init_1 (Nat.le_of_ble_eq_true rfl) (Nat.le_of_ble_eq_true rfl) ?_
  refine W.eq (g2 := F0 m 4 ls []) rfl ?_
  refine lv_aload_n hx hb d_Layout_init_4 rfl (lv_at hl 0 rfl) ?_
  refine lv_bipush (v := 8) hx hb d_Layout_init_5 (by decide) ?_
  refine va_put (D := (dC, dI)) (ci := 0) (v := .int 8) (ty := .int) (C := R_Layout) (T := F_Layout) (N := 2) hx hb hts u_Layout t_Layout t_Layout_ok n_Layout hown hK hP hD hS 0 rfl rfl 0 (by decide) (hts _ m_78) (fun _ h9 => h9) rfl (by decide +kernel) rfl rfl (Nat.le_of_ble_eq_true rfl) d_Layout_init_7 (fun H locs hP hD hS => ?_)
  have hP : va_P (dC, dI) vwCl [(h0, .inr (0, [.int 8, .int z1]))] H := hP
  have hD : va_D A [(h0, .inr (0, [.int 8, .int z1]))] := hD
  refine lv_aload_n hx hb d_Layout_init_10 rfl (lv_at hl 0 rfl) ?_
  refine lv_bipush (v := 23) hx hb d_Layout_init_11 (by decide) ?_
  refine va_put (D := (dC, dI)) (ci := 0) (v := .int 23) (ty := .int) (C := R_Layout) (T := F_Layout) (N := 2) hx hb hts u_Layout t_Layout t_Layout_ok n_Layout hown hK hP hD hS 0 rfl rfl 1 (by decide) (hts _ m_79) (fun _ h9 => h9) rfl (by decide +kernel) rfl rfl (Nat.le_of_ble_eq_true rfl) d_Layout_init_13 (fun H locs hP hD hS => ?_)
  have hP : va_P (dC, dI) vwCl [(h0, .inr (0, [.int 8, .int 23]))] H := hP
  have hD : va_D A [(h0, .inr (0, [.int 8, .int 23]))] := hD
  exact Cv.ret C0 (u := ()) (Nat.le_of_ble_eq_true rfl) (Nat.le_of_ble_eq_true rfl) (by show True; trivial) hP hD hS [0] (by decide) rfl d_Layout_init_16
set_option maxHeartbeats 4000000 in
set_option maxRecDepth 100000 in
theorem c_Layout_bias (l : Launch) (dC : Nat → ClassId) (dI : Nat → Nat → Nat) (cI cB cJ : ClassId) (h0 : Nat) (eb : Int32) (fb : Int32) (E : Nat) (M : Nat) (hL : LY eb fb E M) : Ci l dC dI cI cB cJ y_Layout_bias w_Layout_bias ({ frames := 0, cells := 0, slots := 0, locals := 0 } : Room) [.ref h0] [(h0, .inr (0, [.int eb, .int fb]))] (fun (r : Int32) (u : Unit) => r.toInt = ((2 ^ (E - 1) - 1 : Nat) : Int)) (fun u : Unit => [(h0, .inr (0, [.int eb, .int fb]))]) := by
  refine Ci.intro (cc := b_Layout_bias) (maxL := 1) (plainFor_of_name (by decide)) rfl (Nat.le_of_ble_eq_true rfl) ?_
  intro p e s m below meth c A ls C0 hin hA hP hD hS hl
  obtain ⟨hx, hb, hml, hown, hts, hr, hlocks, hK, hN⟩ := id C0
  obtain ⟨H, hH⟩ : ∃ H, H = s.heap := ⟨_, rfl⟩
  have hP : va_P (dC, dI) vwCl [(h0, .inr (0, [.int eb, .int fb]))] s.heap := hP
  have hl : lv_has ls 1 [(0, .ref h0)] := hl
  suffices h : ∀ (H : Heap) (locs : List Loc), va_P (dC, dI) vwCl [(h0, .inr (0, [.int eb, .int fb]))] H → va_D A [(h0, .inr (0, [.int eb, .int fb]))] → va_S A s.heap H locs → W p l e ({ frames := 0, cells := 0, slots := 0, locals := 0 } : Room) s m ([.ref h0] : List Value).toArray below meth c H locs 0 0 (MQ below (va_Qi (fun (r : Int32) (u : Unit) => r.toInt = ((2 ^ (E - 1) - 1 : Nat) : Int)) (poG dC dI A (fun u : Unit => [(h0, .inr (0, [.int eb, .int fb]))])) A) ([.ref h0] : List Value).toArray s 0 0 A) (F0 m 0 ls []) from h _ _ hP hD hS
  clear hP hD hS hH H
  intro H locs hP hD hS
  obtain ⟨he, hm, hE1, hE2, hM1, hM2⟩ := id hL
  have hbz := p_bias hE1 hE2
  have hem := p_em hE1 hE2 hM1 hM2
  have hiz := iz_sb E M
  have hpm := p_m hM2
  have hpm1 := pw_p M
  have hpe := p_e hE1 hE2
  refine lv_iconst (v := 1) hx hb d_Layout_bias_0 (by decide) ?_
  refine lv_aload_n hx hb d_Layout_bias_1 rfl (lv_at hl 0 rfl) ?_
  refine va_get (D := (dC, dI)) (ci := 0) (v := .int eb) (C := R_Layout) (T := F_Layout) (N := 2) hx hb hts u_Layout hown hK hP 0 rfl rfl 0 (by decide) (hts _ m_78) (fun _ h9 => h9) rfl d_Layout_bias_2 ?_
  refine lv_iconst (v := 1) hx hb d_Layout_bias_5 (by decide) ?_
  refine lv_isub hx hb d_Layout_bias_6 ?_
  refine lv_topi (fun v6 e6 => ?_)
  have t6 : v6.toInt = (E : Int) - 1 := by rw [e6]; exact q_isub he (show (1 : Int32).toInt = 1 by decide) (by omega)
  refine lv_ishl hx hb d_Layout_bias_7 ?_
  refine lv_topi (fun v7 e7 => ?_)
  have t7 : v7.toInt = ((1 * 2 ^ (E - 1) : Nat) : Int) := by rw [e7]; exact q_ishl (a := 1) (by decide) (t6.trans (by omega)) (by omega) (by omega)
  refine lv_iconst (v := 1) hx hb d_Layout_bias_8 (by decide) ?_
  refine lv_isub hx hb d_Layout_bias_9 ?_
  refine lv_topi (fun v9 e9 => ?_)
  have t9 : v9.toInt = (((1 * 2 ^ (E - 1) : Nat) : Int)) - 1 := by rw [e9]; exact q_isub t7 (show (1 : Int32).toInt = 1 by decide) (by omega)
  exact Ci.ret C0 (v := v9) (u := ()) (Nat.le_of_ble_eq_true rfl) (Nat.le_of_ble_eq_true rfl) (by show v9.toInt = ((2 ^ (E - 1) - 1 : Nat) : Int); show v9.toInt = _; rw [t9]; omega) hP hD hS [0] (by decide) rfl d_Layout_bias_10
set_option maxHeartbeats 4000000 in
set_option maxRecDepth 100000 in
theorem c_Layout_lowestPower (l : Launch) (dC : Nat → ClassId) (dI : Nat → Nat → Nat) (cI cB cJ : ClassId) (h0 : Nat) (eb : Int32) (fb : Int32) (E : Nat) (M : Nat) (hL : LY eb fb E M) : Ci l dC dI cI cB cJ y_Layout_lowestPower w_Layout_lowestPower ({ frames := 1, cells := 0, slots := 0, locals := 20 } : Room) [.ref h0] [(h0, .inr (0, [.int eb, .int fb]))] (fun (r : Int32) (u : Unit) => r.toInt = lowP E M) (fun u : Unit => [(h0, .inr (0, [.int eb, .int fb]))]) := by
  refine Ci.intro (cc := b_Layout_lowestPower) (maxL := 1) (plainFor_of_name (by decide)) rfl (Nat.le_of_ble_eq_true rfl) ?_
  intro p e s m below meth c A ls C0 hin hA hP hD hS hl
  obtain ⟨hx, hb, hml, hown, hts, hr, hlocks, hK, hN⟩ := id C0
  obtain ⟨H, hH⟩ : ∃ H, H = s.heap := ⟨_, rfl⟩
  have hP : va_P (dC, dI) vwCl [(h0, .inr (0, [.int eb, .int fb]))] s.heap := hP
  have hl : lv_has ls 1 [(0, .ref h0)] := hl
  suffices h : ∀ (H : Heap) (locs : List Loc), va_P (dC, dI) vwCl [(h0, .inr (0, [.int eb, .int fb]))] H → va_D A [(h0, .inr (0, [.int eb, .int fb]))] → va_S A s.heap H locs → W p l e ({ frames := 1, cells := 0, slots := 0, locals := 20 } : Room) s m ([.ref h0] : List Value).toArray below meth c H locs 0 0 (MQ below (va_Qi (fun (r : Int32) (u : Unit) => r.toInt = lowP E M) (poG dC dI A (fun u : Unit => [(h0, .inr (0, [.int eb, .int fb]))])) A) ([.ref h0] : List Value).toArray s 0 0 A) (F0 m 0 ls []) from h _ _ hP hD hS
  clear hP hD hS hH H
  intro H locs hP hD hS
  obtain ⟨he, hm, hE1, hE2, hM1, hM2⟩ := id hL
  have hbz := p_bias hE1 hE2
  have hem := p_em hE1 hE2 hM1 hM2
  have hiz := iz_sb E M
  have hpm := p_m hM2
  have hpm1 := pw_p M
  have hpe := p_e hE1 hE2
  refine lv_iconst (v := 1) hx hb d_Layout_lowestPower_0 (by decide) ?_
  refine lv_aload_n hx hb d_Layout_lowestPower_1 rfl (lv_at hl 0 rfl) ?_
  refine callV_i (wr := []) C0 (c_Layout_bias l dC dI cI cB cJ (h0) (eb) (fb) (E) (M) (by exact hL)) (cwV 0 hts (gV m_385 m_386 m_387 m_48 m_388) rfl rfl rfl (by decide +kernel) ⟨Nat.le_of_ble_eq_true rfl, Nat.le_of_ble_eq_true rfl⟩) 0 rfl rfl 0 rfl hP hD hS hA [0] [] rfl rfl (by decide) (by decide) (by decide) rfl hl.1 rfl (Nat.le_of_ble_eq_true rfl) d_Layout_lowestPower_2 ⟨Nat.le_of_ble_eq_true rfl, Nat.le_of_ble_eq_true rfl⟩ (fun r2 u2 H locs hw9 hP hD hS => ?_)
  have h2 : r2.toInt = ((2 ^ (E - 1) - 1 : Nat) : Int) := hw9
  have hP : va_P (dC, dI) vwCl [(h0, .inr (0, [.int eb, .int fb]))] H := hP
  have hD : va_D A [(h0, .inr (0, [.int eb, .int fb]))] := hD
  have t2 : r2.toInt = ((2 ^ (E - 1) - 1 : Nat) : Int) := h2
  refine lv_isub hx hb d_Layout_lowestPower_5 ?_
  refine lv_topi (fun v5 e5 => ?_)
  have t5 : v5.toInt = 1 - (((2 ^ (E - 1) - 1 : Nat) : Int)) := by rw [e5]; exact q_isub (show (1 : Int32).toInt = 1 by decide) t2 (by omega)
  refine lv_aload_n hx hb d_Layout_lowestPower_6 rfl (lv_at hl 0 rfl) ?_
  refine va_get (D := (dC, dI)) (ci := 0) (v := .int fb) (C := R_Layout) (T := F_Layout) (N := 2) hx hb hts u_Layout hown hK hP 0 rfl rfl 1 (by decide) (hts _ m_79) (fun _ h9 => h9) rfl d_Layout_lowestPower_7 ?_
  refine lv_isub hx hb d_Layout_lowestPower_10 ?_
  refine lv_topi (fun v10 e10 => ?_)
  have t10 : v10.toInt = (1 - (((2 ^ (E - 1) - 1 : Nat) : Int))) - (M : Int) := by rw [e10]; exact q_isub t5 hm (by omega)
  exact Ci.ret C0 (v := v10) (u := ()) (Nat.le_of_ble_eq_true rfl) (Nat.le_of_ble_eq_true rfl) (by show v10.toInt = lowP E M; show v10.toInt = _; rw [t10]; rfl) hP hD hS [0] (by decide) rfl d_Layout_lowestPower_11
set_option maxHeartbeats 4000000 in
set_option maxRecDepth 100000 in
theorem c_Layout_signBit (l : Launch) (dC : Nat → ClassId) (dI : Nat → Nat → Nat) (cI cB cJ : ClassId) (h0 : Nat) (eb : Int32) (fb : Int32) (E : Nat) (M : Nat) (hL : LY eb fb E M) : Cl l dC dI cI cB cJ y_Layout_signBit w_Layout_signBit ({ frames := 0, cells := 0, slots := 0, locals := 0 } : Room) [.ref h0] [(h0, .inr (0, [.int eb, .int fb]))] (fun (r : Int64) (u : Unit) => r.toInt = ((sb E M : Nat) : Int)) (fun u : Unit => [(h0, .inr (0, [.int eb, .int fb]))]) := by
  refine Cl.intro (cc := b_Layout_signBit) (maxL := 1) (plainFor_of_name (by decide)) rfl (Nat.le_of_ble_eq_true rfl) ?_
  intro p e s m below meth c A ls C0 hin hA hP hD hS hl
  obtain ⟨hx, hb, hml, hown, hts, hr, hlocks, hK, hN⟩ := id C0
  obtain ⟨H, hH⟩ : ∃ H, H = s.heap := ⟨_, rfl⟩
  have hP : va_P (dC, dI) vwCl [(h0, .inr (0, [.int eb, .int fb]))] s.heap := hP
  have hl : lv_has ls 1 [(0, .ref h0)] := hl
  suffices h : ∀ (H : Heap) (locs : List Loc), va_P (dC, dI) vwCl [(h0, .inr (0, [.int eb, .int fb]))] H → va_D A [(h0, .inr (0, [.int eb, .int fb]))] → va_S A s.heap H locs → W p l e ({ frames := 0, cells := 0, slots := 0, locals := 0 } : Room) s m ([.ref h0] : List Value).toArray below meth c H locs 0 0 (MQ below (va_Ql (fun (r : Int64) (u : Unit) => r.toInt = ((sb E M : Nat) : Int)) (poG dC dI A (fun u : Unit => [(h0, .inr (0, [.int eb, .int fb]))])) A) ([.ref h0] : List Value).toArray s 0 0 A) (F0 m 0 ls []) from h _ _ hP hD hS
  clear hP hD hS hH H
  intro H locs hP hD hS
  obtain ⟨he, hm, hE1, hE2, hM1, hM2⟩ := id hL
  have hbz := p_bias hE1 hE2
  have hem := p_em hE1 hE2 hM1 hM2
  have hiz := iz_sb E M
  have hpm := p_m hM2
  have hpm1 := pw_p M
  have hpe := p_e hE1 hE2
  refine lv_lconst (v := 1) hx hb d_Layout_signBit_0 (by decide) ?_
  refine lv_aload_n hx hb d_Layout_signBit_1 rfl (lv_at hl 0 rfl) ?_
  refine va_get (D := (dC, dI)) (ci := 0) (v := .int eb) (C := R_Layout) (T := F_Layout) (N := 2) hx hb hts u_Layout hown hK hP 0 rfl rfl 0 (by decide) (hts _ m_78) (fun _ h9 => h9) rfl d_Layout_signBit_2 ?_
  refine lv_aload_n hx hb d_Layout_signBit_5 rfl (lv_at hl 0 rfl) ?_
  refine va_get (D := (dC, dI)) (ci := 0) (v := .int fb) (C := R_Layout) (T := F_Layout) (N := 2) hx hb hts u_Layout hown hK hP 0 rfl rfl 1 (by decide) (hts _ m_79) (fun _ h9 => h9) rfl d_Layout_signBit_6 ?_
  refine lv_iadd hx hb d_Layout_signBit_9 ?_
  refine lv_topi (fun v9 e9 => ?_)
  have t9 : v9.toInt = (E : Int) + (M : Int) := by rw [e9]; exact q_iadd he hm (by omega)
  refine lv_lshl hx hb d_Layout_signBit_10 rfl ?_
  refine lv_topl (fun v10 e10 => ?_)
  have t10 : v10.toInt = ((sb E M : Nat) : Int) := by rw [e10, ← Nat.one_mul (sb E M)]; exact q_lshl (a := 1) (k := E + M) (by decide) (t9.trans (by omega)) (by omega) (by rw [Nat.one_mul]; exact Nat.lt_of_le_of_lt hem.2 (by decide))
  exact Cl.ret C0 (v := v10) (u := ()) (Nat.le_of_ble_eq_true rfl) (Nat.le_of_ble_eq_true rfl) (by show v10.toInt = ((sb E M : Nat) : Int); exact t10) hP hD hS [0] (by decide) rfl d_Layout_signBit_11
set_option maxHeartbeats 4000000 in
set_option maxRecDepth 100000 in
theorem c_Layout_infinity (l : Launch) (dC : Nat → ClassId) (dI : Nat → Nat → Nat) (cI cB cJ : ClassId) (h0 : Nat) (eb : Int32) (fb : Int32) (E : Nat) (M : Nat) (hL : LY eb fb E M) : Cl l dC dI cI cB cJ y_Layout_infinity w_Layout_infinity ({ frames := 0, cells := 0, slots := 0, locals := 0 } : Room) [.ref h0] [(h0, .inr (0, [.int eb, .int fb]))] (fun (r : Int64) (u : Unit) => r.toInt = ((iz E M : Nat) : Int)) (fun u : Unit => [(h0, .inr (0, [.int eb, .int fb]))]) := by
  refine Cl.intro (cc := b_Layout_infinity) (maxL := 1) (plainFor_of_name (by decide)) rfl (Nat.le_of_ble_eq_true rfl) ?_
  intro p e s m below meth c A ls C0 hin hA hP hD hS hl
  obtain ⟨hx, hb, hml, hown, hts, hr, hlocks, hK, hN⟩ := id C0
  obtain ⟨H, hH⟩ : ∃ H, H = s.heap := ⟨_, rfl⟩
  have hP : va_P (dC, dI) vwCl [(h0, .inr (0, [.int eb, .int fb]))] s.heap := hP
  have hl : lv_has ls 1 [(0, .ref h0)] := hl
  suffices h : ∀ (H : Heap) (locs : List Loc), va_P (dC, dI) vwCl [(h0, .inr (0, [.int eb, .int fb]))] H → va_D A [(h0, .inr (0, [.int eb, .int fb]))] → va_S A s.heap H locs → W p l e ({ frames := 0, cells := 0, slots := 0, locals := 0 } : Room) s m ([.ref h0] : List Value).toArray below meth c H locs 0 0 (MQ below (va_Ql (fun (r : Int64) (u : Unit) => r.toInt = ((iz E M : Nat) : Int)) (poG dC dI A (fun u : Unit => [(h0, .inr (0, [.int eb, .int fb]))])) A) ([.ref h0] : List Value).toArray s 0 0 A) (F0 m 0 ls []) from h _ _ hP hD hS
  clear hP hD hS hH H
  intro H locs hP hD hS
  obtain ⟨he, hm, hE1, hE2, hM1, hM2⟩ := id hL
  have hbz := p_bias hE1 hE2
  have hem := p_em hE1 hE2 hM1 hM2
  have hiz := iz_sb E M
  have hpm := p_m hM2
  have hpm1 := pw_p M
  have hpe := p_e hE1 hE2
  refine lv_lconst (v := 1) hx hb d_Layout_infinity_0 (by decide) ?_
  refine lv_aload_n hx hb d_Layout_infinity_1 rfl (lv_at hl 0 rfl) ?_
  refine va_get (D := (dC, dI)) (ci := 0) (v := .int eb) (C := R_Layout) (T := F_Layout) (N := 2) hx hb hts u_Layout hown hK hP 0 rfl rfl 0 (by decide) (hts _ m_78) (fun _ h9 => h9) rfl d_Layout_infinity_2 ?_
  refine lv_lshl hx hb d_Layout_infinity_5 rfl ?_
  refine lv_topl (fun v5 e5 => ?_)
  have t5 : v5.toInt = ((1 * 2 ^ E : Nat) : Int) := by rw [e5]; exact q_lshl (a := 1) (by decide) he (by omega) (by omega)
  refine lv_lconst (v := 1) hx hb d_Layout_infinity_6 (by decide) ?_
  refine lv_lsub hx hb d_Layout_infinity_7 ?_
  refine lv_topl (fun v7 e7 => ?_)
  have t7 : v7.toInt = (((1 * 2 ^ E : Nat) : Int)) - 1 := by rw [e7]; exact q_lsub t5 (show (1 : Int64).toInt = 1 by decide) (by omega)
  refine lv_aload_n hx hb d_Layout_infinity_8 rfl (lv_at hl 0 rfl) ?_
  refine va_get (D := (dC, dI)) (ci := 0) (v := .int fb) (C := R_Layout) (T := F_Layout) (N := 2) hx hb hts u_Layout hown hK hP 0 rfl rfl 1 (by decide) (hts _ m_79) (fun _ h9 => h9) rfl d_Layout_infinity_9 ?_
  refine lv_lshl hx hb d_Layout_infinity_12 rfl ?_
  refine lv_topl (fun v12 e12 => ?_)
  have t12 : v12.toInt = ((iz E M : Nat) : Int) := by rw [e12]; exact q_lshl (t7.trans (by omega)) hm (by omega) (Nat.lt_of_le_of_lt (Nat.mul_le_mul (Nat.sub_le _ _) (Nat.le_refl _)) (Nat.lt_of_le_of_lt (Nat.mul_le_mul hpe.2 hpm) (by decide)))
  exact Cl.ret C0 (v := v12) (u := ()) (Nat.le_of_ble_eq_true rfl) (Nat.le_of_ble_eq_true rfl) (by show v12.toInt = ((iz E M : Nat) : Int); exact t12) hP hD hS [0] (by decide) rfl d_Layout_infinity_13
set_option maxHeartbeats 4000000 in
set_option maxRecDepth 100000 in
theorem c_Layout_holds (l : Launch) (dC : Nat → ClassId) (dI : Nat → Nat → Nat) (cI cB cJ : ClassId) (h0 : Nat) (eb : Int32) (fb : Int32) (E : Nat) (M : Nat) (x : Int64) (hL : LY eb fb E M) : Ci l dC dI cI cB cJ y_Layout_holds w_Layout_holds ({ frames := 1, cells := 0, slots := 0, locals := 20 } : Room) [.ref h0, .long x] [(h0, .inr (0, [.int eb, .int fb]))] (fun (r : Int32) (u : Unit) => r = if 0 ≤ x.toInt ∧ x.toInt < ((2 * sb E M : Nat) : Int) then 1 else 0) (fun u : Unit => [(h0, .inr (0, [.int eb, .int fb]))]) := by
  refine Ci.intro (cc := b_Layout_holds) (maxL := 3) (plainFor_of_name (by decide)) rfl (Nat.le_of_ble_eq_true rfl) ?_
  intro p e s m below meth c A ls C0 hin hA hP hD hS hl
  obtain ⟨hx, hb, hml, hown, hts, hr, hlocks, hK, hN⟩ := id C0
  obtain ⟨H, hH⟩ : ∃ H, H = s.heap := ⟨_, rfl⟩
  have hP : va_P (dC, dI) vwCl [(h0, .inr (0, [.int eb, .int fb]))] s.heap := hP
  have hl : lv_has ls 3 [(0, .ref h0), (1, .long x)] := hl
  have r_x := q_r64 x
  suffices h : ∀ (H : Heap) (locs : List Loc), va_P (dC, dI) vwCl [(h0, .inr (0, [.int eb, .int fb]))] H → va_D A [(h0, .inr (0, [.int eb, .int fb]))] → va_S A s.heap H locs → W p l e ({ frames := 1, cells := 0, slots := 0, locals := 20 } : Room) s m ([.ref h0, .long x] : List Value).toArray below meth c H locs 0 0 (MQ below (va_Qi (fun (r : Int32) (u : Unit) => r = if 0 ≤ x.toInt ∧ x.toInt < ((2 * sb E M : Nat) : Int) then 1 else 0) (poG dC dI A (fun u : Unit => [(h0, .inr (0, [.int eb, .int fb]))])) A) ([.ref h0, .long x] : List Value).toArray s 0 0 A) (F0 m 0 ls []) from h _ _ hP hD hS
  clear hP hD hS hH H
  intro H locs hP hD hS
  obtain ⟨he, hm, hE1, hE2, hM1, hM2⟩ := id hL
  have hbz := p_bias hE1 hE2
  have hem := p_em hE1 hE2 hM1 hM2
  have hiz := iz_sb E M
  have hpm := p_m hM2
  have hpm1 := pw_p M
  have hpe := p_e hE1 hE2
  refine lv_lload_n hx hb d_Layout_holds_0 rfl (lv_at hl 1 rfl) ?_
  refine lv_lconst (v := 0) hx hb d_Layout_holds_1 (by decide) ?_
  refine W.lcmp hx hb d_Layout_holds_2 ?_
  refine lv_if_lt (tgt := 23) hx hb d_Layout_holds_3 (by decide) (fun b3 => ?_) (fun b3 => ?_)
  · skip
    rw [q_cmp_lt (rfl : x.toInt = x.toInt) (show (0 : Int64).toInt = 0 by decide)] at b3
    refine lv_iconst (v := 0) hx hb d_Layout_holds_23 (by decide) ?_
    exact Cz.ret C0 (v := 0) (u := ()) (by rfl) (Nat.le_of_ble_eq_true rfl) (Nat.le_of_ble_eq_true rfl) (by show (0 : Int32) = if 0 ≤ x.toInt ∧ x.toInt < ((2 * sb E M : Nat) : Int) then 1 else 0; show (0 : Int32) = _; rw [if_neg (by omega)]) hP hD hS [0] (by decide) rfl d_Layout_holds_24
  · skip
    rw [q_cmp_lt (rfl : x.toInt = x.toInt) (show (0 : Int64).toInt = 0 by decide)] at b3
    refine lv_lload_n hx hb d_Layout_holds_6 rfl (lv_at hl 1 rfl) ?_
    refine lv_ldc2 (v := 2) hx hb hown (hts _ m_225) d_Layout_holds_7 ?_
    refine lv_aload_n hx hb d_Layout_holds_10 rfl (lv_at hl 0 rfl) ?_
    refine callV_l (wr := []) C0 (c_Layout_signBit l dC dI cI cB cJ (h0) (eb) (fb) (E) (M) (by exact hL)) (cwV 0 hts (gV m_226 m_227 m_228 m_48 m_229) rfl rfl rfl (by decide +kernel) ⟨Nat.le_of_ble_eq_true rfl, Nat.le_of_ble_eq_true rfl⟩) 0 rfl rfl 0 rfl hP hD hS hA [0] [] rfl rfl (by decide) (by decide) (by decide) rfl hl.1 rfl (Nat.le_of_ble_eq_true rfl) d_Layout_holds_11 ⟨Nat.le_of_ble_eq_true rfl, Nat.le_of_ble_eq_true rfl⟩ (fun r11 u11 H locs hw9 hP hD hS => ?_)
    have h11 : r11.toInt = ((sb E M : Nat) : Int) := hw9
    have hP : va_P (dC, dI) vwCl [(h0, .inr (0, [.int eb, .int fb]))] H := hP
    have hD : va_D A [(h0, .inr (0, [.int eb, .int fb]))] := hD
    have t11 : r11.toInt = ((sb E M : Nat) : Int) := h11
    refine lv_lmul hx hb d_Layout_holds_14 ?_
    refine lv_topl (fun v14 e14 => ?_)
    have t14 : v14.toInt = 2 * (((sb E M : Nat) : Int)) := by rw [e14]; exact q_lmul (show (2 : Int64).toInt = 2 by decide) t11 (by omega)
    refine W.lcmp hx hb d_Layout_holds_15 ?_
    refine lv_if_ge (tgt := 23) hx hb d_Layout_holds_16 (by decide) (fun b16 => ?_) (fun b16 => ?_)
    · skip
      rw [q_cmp_ge (rfl : x.toInt = x.toInt) t14] at b16
      refine lv_iconst (v := 0) hx hb d_Layout_holds_23 (by decide) ?_
      exact Cz.ret C0 (v := 0) (u := ()) (by rfl) (Nat.le_of_ble_eq_true rfl) (Nat.le_of_ble_eq_true rfl) (by show (0 : Int32) = if 0 ≤ x.toInt ∧ x.toInt < ((2 * sb E M : Nat) : Int) then 1 else 0; show (0 : Int32) = _; rw [if_neg (by omega)]) hP hD hS [0] (by decide) rfl d_Layout_holds_24
    · skip
      rw [q_cmp_ge (rfl : x.toInt = x.toInt) t14] at b16
      refine lv_iconst (v := 1) hx hb d_Layout_holds_19 (by decide) ?_
      refine lv_goto (tgt := 24) hx hb d_Layout_holds_20 (by decide) ?_
      exact Cz.ret C0 (v := 1) (u := ()) (by rfl) (Nat.le_of_ble_eq_true rfl) (Nat.le_of_ble_eq_true rfl) (by show (1 : Int32) = if 0 ≤ x.toInt ∧ x.toInt < ((2 * sb E M : Nat) : Int) then 1 else 0; show (1 : Int32) = _; rw [if_pos (by omega)]) hP hD hS [0] (by decide) rfl d_Layout_holds_24
set_option maxHeartbeats 4000000 in
set_option maxRecDepth 100000 in
theorem c_Layout_isNegative (l : Launch) (dC : Nat → ClassId) (dI : Nat → Nat → Nat) (cI cB cJ : ClassId) (h0 : Nat) (eb : Int32) (fb : Int32) (E : Nat) (M : Nat) (x : Int64) (hL : LY eb fb E M) : Ci l dC dI cI cB cJ y_Layout_isNegative w_Layout_isNegative ({ frames := 1, cells := 0, slots := 0, locals := 20 } : Room) [.ref h0, .long x] [(h0, .inr (0, [.int eb, .int fb]))] (fun (r : Int32) (u : Unit) => r = if ((sb E M : Nat) : Int) ≤ x.toInt then 1 else 0) (fun u : Unit => [(h0, .inr (0, [.int eb, .int fb]))]) := by
  refine Ci.intro (cc := b_Layout_isNegative) (maxL := 3) (plainFor_of_name (by decide)) rfl (Nat.le_of_ble_eq_true rfl) ?_
  intro p e s m below meth c A ls C0 hin hA hP hD hS hl
  obtain ⟨hx, hb, hml, hown, hts, hr, hlocks, hK, hN⟩ := id C0
  obtain ⟨H, hH⟩ : ∃ H, H = s.heap := ⟨_, rfl⟩
  have hP : va_P (dC, dI) vwCl [(h0, .inr (0, [.int eb, .int fb]))] s.heap := hP
  have hl : lv_has ls 3 [(0, .ref h0), (1, .long x)] := hl
  have r_x := q_r64 x
  suffices h : ∀ (H : Heap) (locs : List Loc), va_P (dC, dI) vwCl [(h0, .inr (0, [.int eb, .int fb]))] H → va_D A [(h0, .inr (0, [.int eb, .int fb]))] → va_S A s.heap H locs → W p l e ({ frames := 1, cells := 0, slots := 0, locals := 20 } : Room) s m ([.ref h0, .long x] : List Value).toArray below meth c H locs 0 0 (MQ below (va_Qi (fun (r : Int32) (u : Unit) => r = if ((sb E M : Nat) : Int) ≤ x.toInt then 1 else 0) (poG dC dI A (fun u : Unit => [(h0, .inr (0, [.int eb, .int fb]))])) A) ([.ref h0, .long x] : List Value).toArray s 0 0 A) (F0 m 0 ls []) from h _ _ hP hD hS
  clear hP hD hS hH H
  intro H locs hP hD hS
  obtain ⟨he, hm, hE1, hE2, hM1, hM2⟩ := id hL
  have hbz := p_bias hE1 hE2
  have hem := p_em hE1 hE2 hM1 hM2
  have hiz := iz_sb E M
  have hpm := p_m hM2
  have hpm1 := pw_p M
  have hpe := p_e hE1 hE2
  refine lv_lload_n hx hb d_Layout_isNegative_0 rfl (lv_at hl 1 rfl) ?_
  refine lv_aload_n hx hb d_Layout_isNegative_1 rfl (lv_at hl 0 rfl) ?_
  refine callV_l (wr := []) C0 (c_Layout_signBit l dC dI cI cB cJ (h0) (eb) (fb) (E) (M) (by exact hL)) (cwV 0 hts (gV m_226 m_227 m_228 m_48 m_229) rfl rfl rfl (by decide +kernel) ⟨Nat.le_of_ble_eq_true rfl, Nat.le_of_ble_eq_true rfl⟩) 0 rfl rfl 0 rfl hP hD hS hA [0] [] rfl rfl (by decide) (by decide) (by decide) rfl hl.1 rfl (Nat.le_of_ble_eq_true rfl) d_Layout_isNegative_2 ⟨Nat.le_of_ble_eq_true rfl, Nat.le_of_ble_eq_true rfl⟩ (fun r2 u2 H locs hw9 hP hD hS => ?_)
  have h2 : r2.toInt = ((sb E M : Nat) : Int) := hw9
  have hP : va_P (dC, dI) vwCl [(h0, .inr (0, [.int eb, .int fb]))] H := hP
  have hD : va_D A [(h0, .inr (0, [.int eb, .int fb]))] := hD
  have t2 : r2.toInt = ((sb E M : Nat) : Int) := h2
  refine W.lcmp hx hb d_Layout_isNegative_5 ?_
  refine lv_if_lt (tgt := 13) hx hb d_Layout_isNegative_6 (by decide) (fun b6 => ?_) (fun b6 => ?_)
  · skip
    rw [q_cmp_lt (rfl : x.toInt = x.toInt) t2] at b6
    refine lv_iconst (v := 0) hx hb d_Layout_isNegative_13 (by decide) ?_
    exact Cz.ret C0 (v := 0) (u := ()) (by rfl) (Nat.le_of_ble_eq_true rfl) (Nat.le_of_ble_eq_true rfl) (by show (0 : Int32) = if ((sb E M : Nat) : Int) ≤ x.toInt then 1 else 0; show (0 : Int32) = _; rw [if_neg (by omega)]) hP hD hS [0] (by decide) rfl d_Layout_isNegative_14
  · skip
    rw [q_cmp_lt (rfl : x.toInt = x.toInt) t2] at b6
    refine lv_iconst (v := 1) hx hb d_Layout_isNegative_9 (by decide) ?_
    refine lv_goto (tgt := 14) hx hb d_Layout_isNegative_10 (by decide) ?_
    exact Cz.ret C0 (v := 1) (u := ()) (by rfl) (Nat.le_of_ble_eq_true rfl) (Nat.le_of_ble_eq_true rfl) (by show (1 : Int32) = if ((sb E M : Nat) : Int) ≤ x.toInt then 1 else 0; show (1 : Int32) = _; rw [if_pos (by omega)]) hP hD hS [0] (by decide) rfl d_Layout_isNegative_14
set_option maxHeartbeats 4000000 in
set_option maxRecDepth 100000 in
theorem c_Layout_sizeOf (l : Launch) (dC : Nat → ClassId) (dI : Nat → Nat → Nat) (cI cB cJ : ClassId) (h0 : Nat) (eb : Int32) (fb : Int32) (E : Nat) (M : Nat) (x : Int64) (Z : Nat) (hL : LY eb fb E M) (hZ : x.toInt = (Z : Int)) : Cl l dC dI cI cB cJ y_Layout_sizeOf w_Layout_sizeOf ({ frames := 1, cells := 0, slots := 0, locals := 20 } : Room) [.ref h0, .long x] [(h0, .inr (0, [.int eb, .int fb]))] (fun (r : Int64) (u : Unit) => r.toInt = ((szo E M Z : Nat) : Int)) (fun u : Unit => [(h0, .inr (0, [.int eb, .int fb]))]) := by
  refine Cl.intro (cc := b_Layout_sizeOf) (maxL := 3) (plainFor_of_name (by decide)) rfl (Nat.le_of_ble_eq_true rfl) ?_
  intro p e s m below meth c A ls C0 hin hA hP hD hS hl
  obtain ⟨hx, hb, hml, hown, hts, hr, hlocks, hK, hN⟩ := id C0
  obtain ⟨H, hH⟩ : ∃ H, H = s.heap := ⟨_, rfl⟩
  have hP : va_P (dC, dI) vwCl [(h0, .inr (0, [.int eb, .int fb]))] s.heap := hP
  have hl : lv_has ls 3 [(0, .ref h0), (1, .long x)] := hl
  have r_x := q_r64 x
  suffices h : ∀ (H : Heap) (locs : List Loc), va_P (dC, dI) vwCl [(h0, .inr (0, [.int eb, .int fb]))] H → va_D A [(h0, .inr (0, [.int eb, .int fb]))] → va_S A s.heap H locs → W p l e ({ frames := 1, cells := 0, slots := 0, locals := 20 } : Room) s m ([.ref h0, .long x] : List Value).toArray below meth c H locs 0 0 (MQ below (va_Ql (fun (r : Int64) (u : Unit) => r.toInt = ((szo E M Z : Nat) : Int)) (poG dC dI A (fun u : Unit => [(h0, .inr (0, [.int eb, .int fb]))])) A) ([.ref h0, .long x] : List Value).toArray s 0 0 A) (F0 m 0 ls []) from h _ _ hP hD hS
  clear hP hD hS hH H
  intro H locs hP hD hS
  obtain ⟨he, hm, hE1, hE2, hM1, hM2⟩ := id hL
  have hbz := p_bias hE1 hE2
  have hem := p_em hE1 hE2 hM1 hM2
  have hiz := iz_sb E M
  have hpm := p_m hM2
  have hpm1 := pw_p M
  have hpe := p_e hE1 hE2
  refine lv_lload_n hx hb d_Layout_sizeOf_0 rfl (lv_at hl 1 rfl) ?_
  refine lv_aload_n hx hb d_Layout_sizeOf_1 rfl (lv_at hl 0 rfl) ?_
  refine callV_l (wr := []) C0 (c_Layout_signBit l dC dI cI cB cJ (h0) (eb) (fb) (E) (M) (by exact hL)) (cwV 0 hts (gV m_226 m_227 m_228 m_48 m_229) rfl rfl rfl (by decide +kernel) ⟨Nat.le_of_ble_eq_true rfl, Nat.le_of_ble_eq_true rfl⟩) 0 rfl rfl 0 rfl hP hD hS hA [0] [] rfl rfl (by decide) (by decide) (by decide) rfl hl.1 rfl (Nat.le_of_ble_eq_true rfl) d_Layout_sizeOf_2 ⟨Nat.le_of_ble_eq_true rfl, Nat.le_of_ble_eq_true rfl⟩ (fun r2 u2 H locs hw9 hP hD hS => ?_)
  have h2 : r2.toInt = ((sb E M : Nat) : Int) := hw9
  have hP : va_P (dC, dI) vwCl [(h0, .inr (0, [.int eb, .int fb]))] H := hP
  have hD : va_D A [(h0, .inr (0, [.int eb, .int fb]))] := hD
  have t2 : r2.toInt = ((sb E M : Nat) : Int) := h2
  refine lv_lconst (v := 1) hx hb d_Layout_sizeOf_5 (by decide) ?_
  refine lv_lsub hx hb d_Layout_sizeOf_6 ?_
  refine lv_topl (fun v6 e6 => ?_)
  have t6 : v6.toInt = (((sb E M : Nat) : Int)) - 1 := by rw [e6]; exact q_lsub t2 (show (1 : Int64).toInt = 1 by decide) (by omega)
  refine lv_land hx hb d_Layout_sizeOf_7 ?_
  refine lv_topl (fun v7 e7 => ?_)
  have t7 : v7.toInt = ((szo E M Z : Nat) : Int) := by rw [e7]; exact q_land (k := E + M) hZ (t6.trans (show ((sb E M : Nat) : Int) - 1 = ((sb E M - 1 : Nat) : Int) by omega))
  exact Cl.ret C0 (v := v7) (u := ()) (Nat.le_of_ble_eq_true rfl) (Nat.le_of_ble_eq_true rfl) (by show v7.toInt = ((szo E M Z : Nat) : Int); exact t7) hP hD hS [0] (by decide) rfl d_Layout_sizeOf_8
set_option maxHeartbeats 4000000 in
set_option maxRecDepth 100000 in
theorem c_Layout_fractionOf (l : Launch) (dC : Nat → ClassId) (dI : Nat → Nat → Nat) (cI cB cJ : ClassId) (h0 : Nat) (eb : Int32) (fb : Int32) (E : Nat) (M : Nat) (x : Int64) (Z : Nat) (hL : LY eb fb E M) (hZ : x.toInt = (Z : Int)) : Cl l dC dI cI cB cJ y_Layout_fractionOf w_Layout_fractionOf ({ frames := 0, cells := 0, slots := 0, locals := 0 } : Room) [.ref h0, .long x] [(h0, .inr (0, [.int eb, .int fb]))] (fun (r : Int64) (u : Unit) => r.toInt = ((fz M Z : Nat) : Int)) (fun u : Unit => [(h0, .inr (0, [.int eb, .int fb]))]) := by
  refine Cl.intro (cc := b_Layout_fractionOf) (maxL := 3) (plainFor_of_name (by decide)) rfl (Nat.le_of_ble_eq_true rfl) ?_
  intro p e s m below meth c A ls C0 hin hA hP hD hS hl
  obtain ⟨hx, hb, hml, hown, hts, hr, hlocks, hK, hN⟩ := id C0
  obtain ⟨H, hH⟩ : ∃ H, H = s.heap := ⟨_, rfl⟩
  have hP : va_P (dC, dI) vwCl [(h0, .inr (0, [.int eb, .int fb]))] s.heap := hP
  have hl : lv_has ls 3 [(0, .ref h0), (1, .long x)] := hl
  have r_x := q_r64 x
  suffices h : ∀ (H : Heap) (locs : List Loc), va_P (dC, dI) vwCl [(h0, .inr (0, [.int eb, .int fb]))] H → va_D A [(h0, .inr (0, [.int eb, .int fb]))] → va_S A s.heap H locs → W p l e ({ frames := 0, cells := 0, slots := 0, locals := 0 } : Room) s m ([.ref h0, .long x] : List Value).toArray below meth c H locs 0 0 (MQ below (va_Ql (fun (r : Int64) (u : Unit) => r.toInt = ((fz M Z : Nat) : Int)) (poG dC dI A (fun u : Unit => [(h0, .inr (0, [.int eb, .int fb]))])) A) ([.ref h0, .long x] : List Value).toArray s 0 0 A) (F0 m 0 ls []) from h _ _ hP hD hS
  clear hP hD hS hH H
  intro H locs hP hD hS
  obtain ⟨he, hm, hE1, hE2, hM1, hM2⟩ := id hL
  have hbz := p_bias hE1 hE2
  have hem := p_em hE1 hE2 hM1 hM2
  have hiz := iz_sb E M
  have hpm := p_m hM2
  have hpm1 := pw_p M
  have hpe := p_e hE1 hE2
  refine lv_lload_n hx hb d_Layout_fractionOf_0 rfl (lv_at hl 1 rfl) ?_
  refine lv_lconst (v := 1) hx hb d_Layout_fractionOf_1 (by decide) ?_
  refine lv_aload_n hx hb d_Layout_fractionOf_2 rfl (lv_at hl 0 rfl) ?_
  refine va_get (D := (dC, dI)) (ci := 0) (v := .int fb) (C := R_Layout) (T := F_Layout) (N := 2) hx hb hts u_Layout hown hK hP 0 rfl rfl 1 (by decide) (hts _ m_79) (fun _ h9 => h9) rfl d_Layout_fractionOf_3 ?_
  refine lv_lshl hx hb d_Layout_fractionOf_6 rfl ?_
  refine lv_topl (fun v6 e6 => ?_)
  have t6 : v6.toInt = ((1 * 2 ^ M : Nat) : Int) := by rw [e6]; exact q_lshl (a := 1) (by decide) hm (by omega) (by omega)
  refine lv_lconst (v := 1) hx hb d_Layout_fractionOf_7 (by decide) ?_
  refine lv_lsub hx hb d_Layout_fractionOf_8 ?_
  refine lv_topl (fun v8 e8 => ?_)
  have t8 : v8.toInt = (((1 * 2 ^ M : Nat) : Int)) - 1 := by rw [e8]; exact q_lsub t6 (show (1 : Int64).toInt = 1 by decide) (by omega)
  refine lv_land hx hb d_Layout_fractionOf_9 ?_
  refine lv_topl (fun v9 e9 => ?_)
  have t9 : v9.toInt = ((fz M Z : Nat) : Int) := by rw [e9]; exact q_land hZ (t8.trans (by omega))
  exact Cl.ret C0 (v := v9) (u := ()) (Nat.le_of_ble_eq_true rfl) (Nat.le_of_ble_eq_true rfl) (by show v9.toInt = ((fz M Z : Nat) : Int); exact t9) hP hD hS [0] (by decide) rfl d_Layout_fractionOf_10
set_option maxHeartbeats 4000000 in
set_option maxRecDepth 100000 in
theorem c_Layout_exponentOf (l : Launch) (dC : Nat → ClassId) (dI : Nat → Nat → Nat) (cI cB cJ : ClassId) (h0 : Nat) (eb : Int32) (fb : Int32) (E : Nat) (M : Nat) (x : Int64) (Z : Nat) (hL : LY eb fb E M) (hZ : x.toInt = (Z : Int)) (hZ2 : Z < sb E M) : Ci l dC dI cI cB cJ y_Layout_exponentOf w_Layout_exponentOf ({ frames := 0, cells := 0, slots := 0, locals := 0 } : Room) [.ref h0, .long x] [(h0, .inr (0, [.int eb, .int fb]))] (fun (r : Int32) (u : Unit) => r.toInt = ((ex M Z : Nat) : Int)) (fun u : Unit => [(h0, .inr (0, [.int eb, .int fb]))]) := by
  refine Ci.intro (cc := b_Layout_exponentOf) (maxL := 3) (plainFor_of_name (by decide)) rfl (Nat.le_of_ble_eq_true rfl) ?_
  intro p e s m below meth c A ls C0 hin hA hP hD hS hl
  obtain ⟨hx, hb, hml, hown, hts, hr, hlocks, hK, hN⟩ := id C0
  obtain ⟨H, hH⟩ : ∃ H, H = s.heap := ⟨_, rfl⟩
  have hP : va_P (dC, dI) vwCl [(h0, .inr (0, [.int eb, .int fb]))] s.heap := hP
  have hl : lv_has ls 3 [(0, .ref h0), (1, .long x)] := hl
  have r_x := q_r64 x
  suffices h : ∀ (H : Heap) (locs : List Loc), va_P (dC, dI) vwCl [(h0, .inr (0, [.int eb, .int fb]))] H → va_D A [(h0, .inr (0, [.int eb, .int fb]))] → va_S A s.heap H locs → W p l e ({ frames := 0, cells := 0, slots := 0, locals := 0 } : Room) s m ([.ref h0, .long x] : List Value).toArray below meth c H locs 0 0 (MQ below (va_Qi (fun (r : Int32) (u : Unit) => r.toInt = ((ex M Z : Nat) : Int)) (poG dC dI A (fun u : Unit => [(h0, .inr (0, [.int eb, .int fb]))])) A) ([.ref h0, .long x] : List Value).toArray s 0 0 A) (F0 m 0 ls []) from h _ _ hP hD hS
  clear hP hD hS hH H
  intro H locs hP hD hS
  obtain ⟨he, hm, hE1, hE2, hM1, hM2⟩ := id hL
  have hbz := p_bias hE1 hE2
  have hem := p_em hE1 hE2 hM1 hM2
  have hiz := iz_sb E M
  have hpm := p_m hM2
  have hpm1 := pw_p M
  have hpe := p_e hE1 hE2
  refine lv_lload_n hx hb d_Layout_exponentOf_0 rfl (lv_at hl 1 rfl) ?_
  refine lv_aload_n hx hb d_Layout_exponentOf_1 rfl (lv_at hl 0 rfl) ?_
  refine va_get (D := (dC, dI)) (ci := 0) (v := .int fb) (C := R_Layout) (T := F_Layout) (N := 2) hx hb hts u_Layout hown hK hP 0 rfl rfl 1 (by decide) (hts _ m_79) (fun _ h9 => h9) rfl d_Layout_exponentOf_2 ?_
  refine lv_lshr hx hb d_Layout_exponentOf_5 rfl ?_
  refine lv_topl (fun v5 e5 => ?_)
  have t5 : v5.toInt = ((ex M Z : Nat) : Int) := by rw [e5]; exact q_lshr hZ hm (by omega)
  have hdl := ex_le M Z
  refine lv_l2i hx hb d_Layout_exponentOf_6 rfl ?_
  refine lv_topi (fun v6 e6 => ?_)
  have t6 : v6.toInt = ((ex M Z : Nat) : Int) := by rw [e6]; exact q_l2i t5 (by omega)
  exact Ci.ret C0 (v := v6) (u := ()) (Nat.le_of_ble_eq_true rfl) (Nat.le_of_ble_eq_true rfl) (by show v6.toInt = ((ex M Z : Nat) : Int); exact t6) hP hD hS [0] (by decide) rfl d_Layout_exponentOf_7
set_option maxHeartbeats 4000000 in
set_option maxRecDepth 100000 in
theorem c_Layout_significandOf (l : Launch) (dC : Nat → ClassId) (dI : Nat → Nat → Nat) (cI cB cJ : ClassId) (h0 : Nat) (eb : Int32) (fb : Int32) (E : Nat) (M : Nat) (x : Int64) (Z : Nat) (hL : LY eb fb E M) (hZ : x.toInt = (Z : Int)) (hZ2 : Z < sb E M) : Cl l dC dI cI cB cJ y_Layout_significandOf w_Layout_significandOf ({ frames := 1, cells := 0, slots := 0, locals := 22 } : Room) [.ref h0, .long x] [(h0, .inr (0, [.int eb, .int fb]))] (fun (r : Int64) (u : Unit) => r.toInt = ((sgf M Z : Nat) : Int)) (fun u : Unit => [(h0, .inr (0, [.int eb, .int fb]))]) := by
  refine Cl.intro (cc := b_Layout_significandOf) (maxL := 3) (plainFor_of_name (by decide)) rfl (Nat.le_of_ble_eq_true rfl) ?_
  intro p e s m below meth c A ls C0 hin hA hP hD hS hl
  obtain ⟨hx, hb, hml, hown, hts, hr, hlocks, hK, hN⟩ := id C0
  obtain ⟨H, hH⟩ : ∃ H, H = s.heap := ⟨_, rfl⟩
  have hP : va_P (dC, dI) vwCl [(h0, .inr (0, [.int eb, .int fb]))] s.heap := hP
  have hl : lv_has ls 3 [(0, .ref h0), (1, .long x)] := hl
  have r_x := q_r64 x
  suffices h : ∀ (H : Heap) (locs : List Loc), va_P (dC, dI) vwCl [(h0, .inr (0, [.int eb, .int fb]))] H → va_D A [(h0, .inr (0, [.int eb, .int fb]))] → va_S A s.heap H locs → W p l e ({ frames := 1, cells := 0, slots := 0, locals := 22 } : Room) s m ([.ref h0, .long x] : List Value).toArray below meth c H locs 0 0 (MQ below (va_Ql (fun (r : Int64) (u : Unit) => r.toInt = ((sgf M Z : Nat) : Int)) (poG dC dI A (fun u : Unit => [(h0, .inr (0, [.int eb, .int fb]))])) A) ([.ref h0, .long x] : List Value).toArray s 0 0 A) (F0 m 0 ls []) from h _ _ hP hD hS
  clear hP hD hS hH H
  intro H locs hP hD hS
  obtain ⟨he, hm, hE1, hE2, hM1, hM2⟩ := id hL
  have hbz := p_bias hE1 hE2
  have hem := p_em hE1 hE2 hM1 hM2
  have hiz := iz_sb E M
  have hpm := p_m hM2
  have hpm1 := pw_p M
  have hpe := p_e hE1 hE2
  refine lv_aload_n hx hb d_Layout_significandOf_0 rfl (lv_at hl 0 rfl) ?_
  refine lv_lload_n hx hb d_Layout_significandOf_1 rfl (lv_at hl 1 rfl) ?_
  refine callV_i (wr := []) C0 (c_Layout_exponentOf l dC dI cI cB cJ (h0) (eb) (fb) (E) (M) (x) (Z) (by exact hL) (by exact hZ) (by exact hZ2)) (cwV 1 hts (gV m_463 m_456 m_457 m_48 m_458) rfl rfl rfl (by decide +kernel) ⟨Nat.le_of_ble_eq_true rfl, Nat.le_of_ble_eq_true rfl⟩) 0 rfl rfl 0 rfl hP hD hS hA [0] [] rfl rfl (by decide) (by decide) (by decide) rfl hl.1 rfl (Nat.le_of_ble_eq_true rfl) d_Layout_significandOf_2 ⟨Nat.le_of_ble_eq_true rfl, Nat.le_of_ble_eq_true rfl⟩ (fun r2 u2 H locs hw9 hP hD hS => ?_)
  have h2 : r2.toInt = ((ex M Z : Nat) : Int) := hw9
  have hP : va_P (dC, dI) vwCl [(h0, .inr (0, [.int eb, .int fb]))] H := hP
  have hD : va_D A [(h0, .inr (0, [.int eb, .int fb]))] := hD
  have t2 : r2.toInt = ((ex M Z : Nat) : Int) := h2
  refine lv_if_ne (tgt := 12) hx hb d_Layout_significandOf_5 (by decide) (fun b5 => ?_) (fun b5 => ?_)
  · skip
    rw [q_ieq t2 (show (0 : Int32).toInt = 0 by decide)] at b5
    refine lv_lconst (v := 1) hx hb d_Layout_significandOf_12 (by decide) ?_
    refine lv_aload_n hx hb d_Layout_significandOf_13 rfl (lv_at hl 0 rfl) ?_
    refine va_get (D := (dC, dI)) (ci := 0) (v := .int fb) (C := R_Layout) (T := F_Layout) (N := 2) hx hb hts u_Layout hown hK hP 0 rfl rfl 1 (by decide) (hts _ m_79) (fun _ h9 => h9) rfl d_Layout_significandOf_14 ?_
    refine lv_lshl hx hb d_Layout_significandOf_17 rfl ?_
    refine lv_topl (fun v17 e17 => ?_)
    have t17 : v17.toInt = ((1 * 2 ^ M : Nat) : Int) := by rw [e17]; exact q_lshl (a := 1) (by decide) hm (by omega) (by omega)
    refine lv_aload_n hx hb d_Layout_significandOf_18 rfl (lv_at hl 0 rfl) ?_
    refine lv_lload_n hx hb d_Layout_significandOf_19 rfl (lv_at hl 1 rfl) ?_
    refine callV_l (wr := []) C0 (c_Layout_fractionOf l dC dI cI cB cJ (h0) (eb) (fb) (E) (M) (x) (Z) (by exact hL) (by exact hZ)) (cwV 1 hts (gV m_464 m_452 m_453 m_48 m_454) rfl rfl rfl (by decide +kernel) ⟨Nat.le_of_ble_eq_true rfl, Nat.le_of_ble_eq_true rfl⟩) 0 rfl rfl 0 rfl hP hD hS hA [0] [] rfl rfl (by decide) (by decide) (by decide) rfl hl.1 rfl (Nat.le_of_ble_eq_true rfl) d_Layout_significandOf_20 ⟨Nat.le_of_ble_eq_true rfl, Nat.le_of_ble_eq_true rfl⟩ (fun r20 u20 H locs hw9 hP hD hS => ?_)
    have h20 : r20.toInt = ((fz M Z : Nat) : Int) := hw9
    have hP : va_P (dC, dI) vwCl [(h0, .inr (0, [.int eb, .int fb]))] H := hP
    have hD : va_D A [(h0, .inr (0, [.int eb, .int fb]))] := hD
    have t20 : r20.toInt = ((fz M Z : Nat) : Int) := h20
    have hml2 := fz_lt M Z
    refine lv_ladd hx hb d_Layout_significandOf_23 ?_
    refine lv_topl (fun v23 e23 => ?_)
    have t23 : v23.toInt = (((1 * 2 ^ M : Nat) : Int)) + (((fz M Z : Nat) : Int)) := by rw [e23]; exact q_ladd t17 t20 (by omega)
    exact Cl.ret C0 (v := v23) (u := ()) (Nat.le_of_ble_eq_true rfl) (Nat.le_of_ble_eq_true rfl) (by show v23.toInt = ((sgf M Z : Nat) : Int); show v23.toInt = _; rw [sgf, if_neg (by omega), t23]; omega) hP hD hS [0] (by decide) rfl d_Layout_significandOf_24
  · skip
    rw [q_ieq t2 (show (0 : Int32).toInt = 0 by decide)] at b5
    refine lv_lload_n hx hb d_Layout_significandOf_8 rfl (lv_at hl 1 rfl) ?_
    refine lv_goto (tgt := 24) hx hb d_Layout_significandOf_9 (by decide) ?_
    exact Cl.ret C0 (v := x) (u := ()) (Nat.le_of_ble_eq_true rfl) (Nat.le_of_ble_eq_true rfl) (by show x.toInt = ((sgf M Z : Nat) : Int); show x.toInt = _; rw [sgf, if_pos (by omega)]; exact hZ) hP hD hS [0] (by decide) rfl d_Layout_significandOf_24
set_option maxHeartbeats 4000000 in
set_option maxRecDepth 100000 in
theorem c_Layout_powerOf (l : Launch) (dC : Nat → ClassId) (dI : Nat → Nat → Nat) (cI cB cJ : ClassId) (h0 : Nat) (eb : Int32) (fb : Int32) (E : Nat) (M : Nat) (x : Int64) (Z : Nat) (hL : LY eb fb E M) (hZ : x.toInt = (Z : Int)) (hZ2 : Z < sb E M) : Ci l dC dI cI cB cJ y_Layout_powerOf w_Layout_powerOf ({ frames := 2, cells := 0, slots := 0, locals := 40 } : Room) [.ref h0, .long x] [(h0, .inr (0, [.int eb, .int fb]))] (fun (r : Int32) (u : Unit) => r.toInt = pwr E M Z) (fun u : Unit => [(h0, .inr (0, [.int eb, .int fb]))]) := by
  refine Ci.intro (cc := b_Layout_powerOf) (maxL := 3) (plainFor_of_name (by decide)) rfl (Nat.le_of_ble_eq_true rfl) ?_
  intro p e s m below meth c A ls C0 hin hA hP hD hS hl
  obtain ⟨hx, hb, hml, hown, hts, hr, hlocks, hK, hN⟩ := id C0
  obtain ⟨H, hH⟩ : ∃ H, H = s.heap := ⟨_, rfl⟩
  have hP : va_P (dC, dI) vwCl [(h0, .inr (0, [.int eb, .int fb]))] s.heap := hP
  have hl : lv_has ls 3 [(0, .ref h0), (1, .long x)] := hl
  have r_x := q_r64 x
  suffices h : ∀ (H : Heap) (locs : List Loc), va_P (dC, dI) vwCl [(h0, .inr (0, [.int eb, .int fb]))] H → va_D A [(h0, .inr (0, [.int eb, .int fb]))] → va_S A s.heap H locs → W p l e ({ frames := 2, cells := 0, slots := 0, locals := 40 } : Room) s m ([.ref h0, .long x] : List Value).toArray below meth c H locs 0 0 (MQ below (va_Qi (fun (r : Int32) (u : Unit) => r.toInt = pwr E M Z) (poG dC dI A (fun u : Unit => [(h0, .inr (0, [.int eb, .int fb]))])) A) ([.ref h0, .long x] : List Value).toArray s 0 0 A) (F0 m 0 ls []) from h _ _ hP hD hS
  clear hP hD hS hH H
  intro H locs hP hD hS
  obtain ⟨he, hm, hE1, hE2, hM1, hM2⟩ := id hL
  have hbz := p_bias hE1 hE2
  have hem := p_em hE1 hE2 hM1 hM2
  have hiz := iz_sb E M
  have hpm := p_m hM2
  have hpm1 := pw_p M
  have hpe := p_e hE1 hE2
  refine lv_aload_n hx hb d_Layout_powerOf_0 rfl (lv_at hl 0 rfl) ?_
  refine callV_i (wr := []) C0 (c_Layout_lowestPower l dC dI cI cB cJ (h0) (eb) (fb) (E) (M) (by exact hL)) (cwV 0 hts (gV m_472 m_382 m_383 m_48 m_384) rfl rfl rfl (by decide +kernel) ⟨Nat.le_of_ble_eq_true rfl, Nat.le_of_ble_eq_true rfl⟩) 0 rfl rfl 0 rfl hP hD hS hA [0] [] rfl rfl (by decide) (by decide) (by decide) rfl hl.1 rfl (Nat.le_of_ble_eq_true rfl) d_Layout_powerOf_1 ⟨Nat.le_of_ble_eq_true rfl, Nat.le_of_ble_eq_true rfl⟩ (fun r1 u1 H locs hw9 hP hD hS => ?_)
  have h1 : r1.toInt = lowP E M := hw9
  have hP : va_P (dC, dI) vwCl [(h0, .inr (0, [.int eb, .int fb]))] H := hP
  have hD : va_D A [(h0, .inr (0, [.int eb, .int fb]))] := hD
  have t1 : r1.toInt = lowP E M := h1
  refine lv_aload_n hx hb d_Layout_powerOf_4 rfl (lv_at hl 0 rfl) ?_
  refine lv_lload_n hx hb d_Layout_powerOf_5 rfl (lv_at hl 1 rfl) ?_
  refine callV_i (wr := []) C0 (c_Layout_exponentOf l dC dI cI cB cJ (h0) (eb) (fb) (E) (M) (x) (Z) (by exact hL) (by exact hZ) (by exact hZ2)) (cwV 1 hts (gV m_463 m_456 m_457 m_48 m_458) rfl rfl rfl (by decide +kernel) ⟨Nat.le_of_ble_eq_true rfl, Nat.le_of_ble_eq_true rfl⟩) 0 rfl rfl 0 rfl hP hD hS hA [0] [] rfl rfl (by decide) (by decide) (by decide) rfl hl.1 rfl (Nat.le_of_ble_eq_true rfl) d_Layout_powerOf_6 ⟨Nat.le_of_ble_eq_true rfl, Nat.le_of_ble_eq_true rfl⟩ (fun r6 u6 H locs hw9 hP hD hS => ?_)
  have h6 : r6.toInt = ((ex M Z : Nat) : Int) := hw9
  have hP : va_P (dC, dI) vwCl [(h0, .inr (0, [.int eb, .int fb]))] H := hP
  have hD : va_D A [(h0, .inr (0, [.int eb, .int fb]))] := hD
  have t6 : r6.toInt = ((ex M Z : Nat) : Int) := h6
  refine lv_iconst (v := 1) hx hb d_Layout_powerOf_9 (by decide) ?_
  have hdl := ex_le M Z
  refine lv_isub hx hb d_Layout_powerOf_10 ?_
  refine lv_topi (fun v10 e10 => ?_)
  have t10 : v10.toInt = (((ex M Z : Nat) : Int)) - 1 := by rw [e10]; exact q_isub t6 (show (1 : Int32).toInt = 1 by decide) (by omega)
  refine lv_iconst (v := 0) hx hb d_Layout_powerOf_11 (by decide) ?_
  refine callS_i (wr := [(h0, .inr (0, [.int eb, .int fb]))]) C0 (c_Math_max l dC dI cI cB cJ (v10) ((0 : Int32))) (cwSx 2 hts m_473 m_337 m_60 m_338 (by decide +kernel) ⟨Nat.le_of_ble_eq_true rfl, Nat.le_of_ble_eq_true rfl⟩) hP hD hS hA [] [0] rfl rfl (by decide) (by decide) (by decide) rfl hl.1 rfl (Nat.le_of_ble_eq_true rfl) d_Layout_powerOf_12 ⟨Nat.le_of_ble_eq_true rfl, Nat.le_of_ble_eq_true rfl⟩ (fun r12 u12 H locs hw9 hP hD hS => ?_)
  have h12 : r12.toInt = max v10.toInt (0 : Int32).toInt := hw9
  have hP : va_P (dC, dI) vwCl [(h0, .inr (0, [.int eb, .int fb]))] H := hP
  have hD : va_D A [(h0, .inr (0, [.int eb, .int fb]))] := hD
  have t12 : r12.toInt = ((ex M Z - 1 : Nat) : Int) := by rw [h12, t10, show (0 : Int32).toInt = 0 by decide]; omega
  have hlp : lowP E M = 1 - ((2 ^ (E - 1) - 1 : Nat) : Int) - (M : Int) := rfl
  have hdl2 := ex_lt hZ2
  refine lv_iadd hx hb d_Layout_powerOf_15 ?_
  refine lv_topi (fun v15 e15 => ?_)
  have t15 : v15.toInt = (lowP E M) + (((ex M Z - 1 : Nat) : Int)) := by rw [e15]; exact q_iadd t1 t12 (by omega)
  exact Ci.ret C0 (v := v15) (u := ()) (Nat.le_of_ble_eq_true rfl) (Nat.le_of_ble_eq_true rfl) (by show v15.toInt = pwr E M Z; show v15.toInt = _; rw [t15]; rfl) hP hD hS [0] (by decide) rfl d_Layout_powerOf_16
