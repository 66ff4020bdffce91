set_option maxHeartbeats 4000000 in
set_option maxRecDepth 100000 in
theorem c_Desk_format (l : Launch) (dC : Nat → ClassId) (dI : Nat → Nat → Nat) (cI cB cJ : ClassId) (h0 : Nat) (y0 : Nat) (tp : Nat) (dc : Nat) (rd : Nat) (fn : Nat) (dn : Nat) (td : Nat) (md : Int32) (fl : Int32) (eb : Int32) (mb : Int32) (x : Int32) (y : Int32)  : Ci l dC dI cI cB cJ y_Desk_format w_Desk_format ({ frames := 0, cells := 0, slots := 0, locals := 0 } : Room) [.ref h0, .int x, .int y] [(h0, .inr (7, [.ref y0, .ref tp, .ref dc, .ref rd, .ref fn, .ref dn, .ref td, .int md, .int fl])), (y0, .inr (0, [.int eb, .int mb]))] (fun (r : Int32) (u : (Int32) × (Int32)) => (r = 1 ∧ fOK x y ∧ u.1 = x ∧ u.2 = y) ∨ (r = 0 ∧ ¬ fOK x y ∧ u.1 = eb ∧ u.2 = mb)) (fun u : (Int32) × (Int32) => [(h0, .inr (7, [.ref y0, .ref tp, .ref dc, .ref rd, .ref fn, .ref dn, .ref td, .int md, .int fl])), (y0, .inr (0, [.int u.1, .int u.2]))]) := by
  refine Ci.intro (cc := b_Desk_format) (maxL := 3) (plainFor_of_name (by decide)) rfl (Nat.le_of_ble_eq_true rfl) ?_
  intro p e s m below meth c A ls C0 hin hA hP hD hS hl
  obtain ⟨hx, hb, hml, hown, hts, hr, hlocks, hK, hN⟩ := id C0
  obtain ⟨H, hH⟩ : ∃ H, H = s.heap := ⟨_, rfl⟩
  have hP : va_P (dC, dI) vwCl [(h0, .inr (7, [.ref y0, .ref tp, .ref dc, .ref rd, .ref fn, .ref dn, .ref td, .int md, .int fl])), (y0, .inr (0, [.int eb, .int mb]))] s.heap := hP
  have hl : lv_has ls 3 [(0, .ref h0), (1, .int x), (2, .int y)] := hl
  have r_x := q_r32 x
  have r_y := q_r32 y
  suffices h : ∀ (H : Heap) (locs : List Loc), va_P (dC, dI) vwCl [(h0, .inr (7, [.ref y0, .ref tp, .ref dc, .ref rd, .ref fn, .ref dn, .ref td, .int md, .int fl])), (y0, .inr (0, [.int eb, .int mb]))] H → va_D A [(h0, .inr (7, [.ref y0, .ref tp, .ref dc, .ref rd, .ref fn, .ref dn, .ref td, .int md, .int fl])), (y0, .inr (0, [.int eb, .int mb]))] → va_S A s.heap H locs → W p l e ({ frames := 0, cells := 0, slots := 0, locals := 0 } : Room) s m ([.ref h0, .int x, .int y] : List Value).toArray below meth c H locs 0 0 (MQ below (va_Qi (fun (r : Int32) (u : (Int32) × (Int32)) => (r = 1 ∧ fOK x y ∧ u.1 = x ∧ u.2 = y) ∨ (r = 0 ∧ ¬ fOK x y ∧ u.1 = eb ∧ u.2 = mb)) (poG dC dI A (fun u : (Int32) × (Int32) => [(h0, .inr (7, [.ref y0, .ref tp, .ref dc, .ref rd, .ref fn, .ref dn, .ref td, .int md, .int fl])), (y0, .inr (0, [.int u.1, .int u.2]))])) A) ([.ref h0, .int x, .int y] : List Value).toArray s 0 0 A) (F0 m 0 ls []) from h _ _ hP hD hS
  clear hP hD hS hH H
  intro H locs hP hD hS
  refine lv_iload_n hx hb d_Desk_format_0 rfl (lv_at hl 1 rfl) ?_
  refine lv_iconst (v := 2) hx hb d_Desk_format_1 (by decide) ?_
  refine lv_icmp_lt (tgt := 22) hx hb d_Desk_format_2 (by decide) (fun b2 => ?_) (fun b2 => ?_)
  · skip
    rw [q_ilt (rfl : x.toInt = x.toInt) (show (2 : Int32).toInt = 2 by decide)] at b2
    refine lv_iconst (v := 0) hx hb d_Desk_format_22 (by decide) ?_
    exact Cz.ret C0 (v := 0) (u := (eb, mb)) (by rfl) (Nat.le_of_ble_eq_true rfl) (Nat.le_of_ble_eq_true rfl) (by show ((0 : Int32) = 1 ∧ fOK x y ∧ eb = x ∧ mb = y) ∨ ((0 : Int32) = 0 ∧ ¬ fOK x y ∧ eb = eb ∧ mb = mb); exact Or.inr ⟨rfl, fun h => by have := h.1; omega, rfl, rfl⟩) hP hD hS [0, 1] (by decide) rfl d_Desk_format_23
  · skip
    rw [q_ilt (rfl : x.toInt = x.toInt) (show (2 : Int32).toInt = 2 by decide)] at b2
    refine lv_iload_n hx hb d_Desk_format_5 rfl (lv_at hl 1 rfl) ?_
    refine lv_bipush (v := 8) hx hb d_Desk_format_6 (by decide) ?_
    refine lv_icmp_gt (tgt := 22) hx hb d_Desk_format_8 (by decide) (fun b8 => ?_) (fun b8 => ?_)
    · skip
      rw [q_ilt (show (8 : Int32).toInt = 8 by decide) (rfl : x.toInt = x.toInt)] at b8
      refine lv_iconst (v := 0) hx hb d_Desk_format_22 (by decide) ?_
      exact Cz.ret C0 (v := 0) (u := (eb, mb)) (by rfl) (Nat.le_of_ble_eq_true rfl) (Nat.le_of_ble_eq_true rfl) (by show ((0 : Int32) = 1 ∧ fOK x y ∧ eb = x ∧ mb = y) ∨ ((0 : Int32) = 0 ∧ ¬ fOK x y ∧ eb = eb ∧ mb = mb); exact Or.inr ⟨rfl, fun h => by have := h.2.1; omega, rfl, rfl⟩) hP hD hS [0, 1] (by decide) rfl d_Desk_format_23
    · skip
      rw [q_ilt (show (8 : Int32).toInt = 8 by decide) (rfl : x.toInt = x.toInt)] at b8
      refine lv_iload_n hx hb d_Desk_format_11 rfl (lv_at hl 2 rfl) ?_
      refine lv_iconst (v := 1) hx hb d_Desk_format_12 (by decide) ?_
      refine lv_icmp_lt (tgt := 22) hx hb d_Desk_format_13 (by decide) (fun b13 => ?_) (fun b13 => ?_)
      · skip
        rw [q_ilt (rfl : y.toInt = y.toInt) (show (1 : Int32).toInt = 1 by decide)] at b13
        refine lv_iconst (v := 0) hx hb d_Desk_format_22 (by decide) ?_
        exact Cz.ret C0 (v := 0) (u := (eb, mb)) (by rfl) (Nat.le_of_ble_eq_true rfl) (Nat.le_of_ble_eq_true rfl) (by show ((0 : Int32) = 1 ∧ fOK x y ∧ eb = x ∧ mb = y) ∨ ((0 : Int32) = 0 ∧ ¬ fOK x y ∧ eb = eb ∧ mb = mb); exact Or.inr ⟨rfl, fun h => by have := h.2.2.1; omega, rfl, rfl⟩) hP hD hS [0, 1] (by decide) rfl d_Desk_format_23
      · skip
        rw [q_ilt (rfl : y.toInt = y.toInt) (show (1 : Int32).toInt = 1 by decide)] at b13
        refine lv_iload_n hx hb d_Desk_format_16 rfl (lv_at hl 2 rfl) ?_
        refine lv_bipush (v := 23) hx hb d_Desk_format_17 (by decide) ?_
        refine lv_icmp_le (tgt := 24) hx hb d_Desk_format_19 (by decide) (fun b19 => ?_) (fun b19 => ?_)
        · skip
          rw [q_ile (rfl : y.toInt = y.toInt) (show (23 : Int32).toInt = 23 by decide)] at b19
          refine lv_aload_n hx hb d_Desk_format_24 rfl (lv_at hl 0 rfl) ?_
          refine va_get (D := (dC, dI)) (ci := 7) (v := .ref y0) (C := R_Desk) (T := F_Desk) (N := 9) hx hb hts u_Desk hown hK hP 0 rfl rfl 0 (by decide) (hts _ m_172) (fun _ h9 => h9) rfl d_Desk_format_25 ?_
          refine lv_iload_n hx hb d_Desk_format_28 rfl (lv_at hl 1 rfl) ?_
          refine va_putN (D := (dC, dI)) (ci := 0) (v := .int x) (ty := .int) (C := R_Layout) (T := F_Layout) (N := 2) hx hb hts u_Layout t_Layout t_Layout_ok n_Layout hown hK hP hD hS 1 rfl rfl 0 (by decide) (va_Nw.use rfl (hN _ nest_0)) (fun _ h9 => h9) rfl (by decide +kernel) rfl rfl (Nat.le_of_ble_eq_true rfl) d_Desk_format_29 (fun H locs hP hD hS => ?_)
          have hP : va_P (dC, dI) vwCl [(h0, .inr (7, [.ref y0, .ref tp, .ref dc, .ref rd, .ref fn, .ref dn, .ref td, .int md, .int fl])), (y0, .inr (0, [.int x, .int mb]))] H := hP
          have hD : va_D A [(h0, .inr (7, [.ref y0, .ref tp, .ref dc, .ref rd, .ref fn, .ref dn, .ref td, .int md, .int fl])), (y0, .inr (0, [.int x, .int mb]))] := hD
          refine lv_aload_n hx hb d_Desk_format_32 rfl (lv_at hl 0 rfl) ?_
          refine va_get (D := (dC, dI)) (ci := 7) (v := .ref y0) (C := R_Desk) (T := F_Desk) (N := 9) hx hb hts u_Desk hown hK hP 0 rfl rfl 0 (by decide) (hts _ m_172) (fun _ h9 => h9) rfl d_Desk_format_33 ?_
          refine lv_iload_n hx hb d_Desk_format_36 rfl (lv_at hl 2 rfl) ?_
          refine va_putN (D := (dC, dI)) (ci := 0) (v := .int y) (ty := .int) (C := R_Layout) (T := F_Layout) (N := 2) hx hb hts u_Layout t_Layout t_Layout_ok n_Layout hown hK hP hD hS 1 rfl rfl 1 (by decide) (va_Nw.use rfl (hN _ nest_1)) (fun _ h9 => h9) rfl (by decide +kernel) rfl rfl (Nat.le_of_ble_eq_true rfl) d_Desk_format_37 (fun H locs hP hD hS => ?_)
          have hP : va_P (dC, dI) vwCl [(h0, .inr (7, [.ref y0, .ref tp, .ref dc, .ref rd, .ref fn, .ref dn, .ref td, .int md, .int fl])), (y0, .inr (0, [.int x, .int y]))] H := hP
          have hD : va_D A [(h0, .inr (7, [.ref y0, .ref tp, .ref dc, .ref rd, .ref fn, .ref dn, .ref td, .int md, .int fl])), (y0, .inr (0, [.int x, .int y]))] := hD
          refine lv_iconst (v := 1) hx hb d_Desk_format_40 (by decide) ?_
          exact Cz.ret C0 (v := 1) (u := (x, y)) (by rfl) (Nat.le_of_ble_eq_true rfl) (Nat.le_of_ble_eq_true rfl) (by show ((1 : Int32) = 1 ∧ fOK x y ∧ x = x ∧ y = y) ∨ ((1 : Int32) = 0 ∧ ¬ fOK x y ∧ x = eb ∧ y = mb); exact Or.inl ⟨rfl, ⟨by omega, by omega, by omega, by omega⟩, rfl, rfl⟩) hP hD hS [0, 1] (by decide) rfl d_Desk_format_41
        · skip
          rw [q_ile (rfl : y.toInt = y.toInt) (show (23 : Int32).toInt = 23 by decide)] at b19
          refine lv_iconst (v := 0) hx hb d_Desk_format_22 (by decide) ?_
          exact Cz.ret C0 (v := 0) (u := (eb, mb)) (by rfl) (Nat.le_of_ble_eq_true rfl) (Nat.le_of_ble_eq_true rfl) (by show ((0 : Int32) = 1 ∧ fOK x y ∧ eb = x ∧ mb = y) ∨ ((0 : Int32) = 0 ∧ ¬ fOK x y ∧ eb = eb ∧ mb = mb); exact Or.inr ⟨rfl, fun h => by have := h.2.2.2; omega, rfl, rfl⟩) hP hD hS [0, 1] (by decide) rfl d_Desk_format_23
set_option maxHeartbeats 4000000 in
set_option maxRecDepth 100000 in
theorem c_Desk_mode (l : Launch) (dC : Nat → ClassId) (dI : Nat → Nat → Nat) (cI cB cJ : ClassId) (h0 : Nat) (y0 : Nat) (tp : Nat) (dc : Nat) (rd : Nat) (fn : Nat) (dn : Nat) (td : Nat) (md : Int32) (fl : Int32) (x : Int32)  : Ci l dC dI cI cB cJ y_Desk_mode w_Desk_mode ({ frames := 0, cells := 0, slots := 0, locals := 0 } : Room) [.ref h0, .int x] [(h0, .inr (7, [.ref y0, .ref tp, .ref dc, .ref rd, .ref fn, .ref dn, .ref td, .int md, .int fl]))] (fun (r : Int32) (u : (Int32)) => (r = 1 ∧ mOK x ∧ u = x) ∨ (r = 0 ∧ ¬ mOK x ∧ u = md)) (fun u : (Int32) => [(h0, .inr (7, [.ref y0, .ref tp, .ref dc, .ref rd, .ref fn, .ref dn, .ref td, .int u, .int fl]))]) := by
  refine Ci.intro (cc := b_Desk_mode) (maxL := 2) (plainFor_of_name (by decide)) rfl (Nat.le_of_ble_eq_true rfl) ?_
  intro p e s m below meth c A ls C0 hin hA hP hD hS hl
  obtain ⟨hx, hb, hml, hown, hts, hr, hlocks, hK, hN⟩ := id C0
  obtain ⟨H, hH⟩ : ∃ H, H = s.heap := ⟨_, rfl⟩
  have hP : va_P (dC, dI) vwCl [(h0, .inr (7, [.ref y0, .ref tp, .ref dc, .ref rd, .ref fn, .ref dn, .ref td, .int md, .int fl]))] s.heap := hP
  have hl : lv_has ls 2 [(0, .ref h0), (1, .int x)] := hl
  have r_x := q_r32 x
  suffices h : ∀ (H : Heap) (locs : List Loc), va_P (dC, dI) vwCl [(h0, .inr (7, [.ref y0, .ref tp, .ref dc, .ref rd, .ref fn, .ref dn, .ref td, .int md, .int fl]))] H → va_D A [(h0, .inr (7, [.ref y0, .ref tp, .ref dc, .ref rd, .ref fn, .ref dn, .ref td, .int md, .int fl]))] → va_S A s.heap H locs → W p l e ({ frames := 0, cells := 0, slots := 0, locals := 0 } : Room) s m ([.ref h0, .int x] : List Value).toArray below meth c H locs 0 0 (MQ below (va_Qi (fun (r : Int32) (u : (Int32)) => (r = 1 ∧ mOK x ∧ u = x) ∨ (r = 0 ∧ ¬ mOK x ∧ u = md)) (poG dC dI A (fun u : (Int32) => [(h0, .inr (7, [.ref y0, .ref tp, .ref dc, .ref rd, .ref fn, .ref dn, .ref td, .int u, .int fl]))])) A) ([.ref h0, .int x] : List Value).toArray s 0 0 A) (F0 m 0 ls []) from h _ _ hP hD hS
  clear hP hD hS hH H
  intro H locs hP hD hS
  refine lv_iload_n hx hb d_Desk_mode_0 rfl (lv_at hl 1 rfl) ?_
  refine lv_if_lt (tgt := 9) hx hb d_Desk_mode_1 (by decide) (fun b1 => ?_) (fun b1 => ?_)
  · skip
    rw [q_ilt (rfl : x.toInt = x.toInt) (show (0 : Int32).toInt = 0 by decide)] at b1
    refine lv_iconst (v := 0) hx hb d_Desk_mode_9 (by decide) ?_
    exact Cz.ret C0 (v := 0) (u := (md)) (by rfl) (Nat.le_of_ble_eq_true rfl) (Nat.le_of_ble_eq_true rfl) (by show ((0 : Int32) = 1 ∧ mOK x ∧ md = x) ∨ ((0 : Int32) = 0 ∧ ¬ mOK x ∧ md = md); exact Or.inr ⟨rfl, fun h => by have := h.1; omega, rfl⟩) hP hD hS [0] (by decide) rfl d_Desk_mode_10
  · skip
    rw [q_ilt (rfl : x.toInt = x.toInt) (show (0 : Int32).toInt = 0 by decide)] at b1
    refine lv_iload_n hx hb d_Desk_mode_4 rfl (lv_at hl 1 rfl) ?_
    refine lv_iconst (v := 4) hx hb d_Desk_mode_5 (by decide) ?_
    refine lv_icmp_le (tgt := 11) hx hb d_Desk_mode_6 (by decide) (fun b6 => ?_) (fun b6 => ?_)
    · skip
      rw [q_ile (rfl : x.toInt = x.toInt) (show (4 : Int32).toInt = 4 by decide)] at b6
      refine lv_aload_n hx hb d_Desk_mode_11 rfl (lv_at hl 0 rfl) ?_
      refine lv_iload_n hx hb d_Desk_mode_12 rfl (lv_at hl 1 rfl) ?_
      refine va_put (D := (dC, dI)) (ci := 7) (v := .int x) (ty := .int) (C := R_Desk) (T := F_Desk) (N := 9) hx hb hts u_Desk t_Desk t_Desk_ok n_Desk hown hK hP hD hS 0 rfl rfl 7 (by decide) (hts _ m_179) (fun _ h9 => h9) rfl (by decide +kernel) rfl rfl (Nat.le_of_ble_eq_true rfl) d_Desk_mode_13 (fun H locs hP hD hS => ?_)
      have hP : va_P (dC, dI) vwCl [(h0, .inr (7, [.ref y0, .ref tp, .ref dc, .ref rd, .ref fn, .ref dn, .ref td, .int x, .int fl]))] H := hP
      have hD : va_D A [(h0, .inr (7, [.ref y0, .ref tp, .ref dc, .ref rd, .ref fn, .ref dn, .ref td, .int x, .int fl]))] := hD
      refine lv_iconst (v := 1) hx hb d_Desk_mode_16 (by decide) ?_
      exact Cz.ret C0 (v := 1) (u := (x)) (by rfl) (Nat.le_of_ble_eq_true rfl) (Nat.le_of_ble_eq_true rfl) (by show ((1 : Int32) = 1 ∧ mOK x ∧ x = x) ∨ ((1 : Int32) = 0 ∧ ¬ mOK x ∧ x = md); exact Or.inl ⟨rfl, ⟨by omega, by omega⟩, rfl⟩) hP hD hS [0] (by decide) rfl d_Desk_mode_17
    · skip
      rw [q_ile (rfl : x.toInt = x.toInt) (show (4 : Int32).toInt = 4 by decide)] at b6
      refine lv_iconst (v := 0) hx hb d_Desk_mode_9 (by decide) ?_
      exact Cz.ret C0 (v := 0) (u := (md)) (by rfl) (Nat.le_of_ble_eq_true rfl) (Nat.le_of_ble_eq_true rfl) (by show ((0 : Int32) = 1 ∧ mOK x ∧ md = x) ∨ ((0 : Int32) = 0 ∧ ¬ mOK x ∧ md = md); exact Or.inr ⟨rfl, fun h => by have := h.2; omega, rfl⟩) hP hD hS [0] (by decide) rfl d_Desk_mode_10
set_option maxHeartbeats 4000000 in
set_option maxRecDepth 100000 in
theorem c_Desk_type (l : Launch) (dC : Nat → ClassId) (dI : Nat → Nat → Nat) (cI cB cJ : ClassId) (h0 : Nat) (y0 : Nat) (tp : Nat) (dc : Nat) (rd : Nat) (fn : Nat) (dn : Nat) (td : Nat) (md : Int32) (fl : Int32) (ta : Nat) (f : Nat → Int32) (l0 : Int32) (T : Nat → Nat) (len : Nat) (w : Int64) (x : Int32) (hT : TP f l0 T len) : Ci l dC dI cI cB cJ y_Desk_type w_Desk_type ({ frames := 2, cells := 0, slots := 0, locals := 47 } : Room) [.ref h0, .long w, .int x] [(h0, .inr (7, [.ref y0, .ref tp, .ref dc, .ref rd, .ref fn, .ref dn, .ref td, .int md, .int fl])), (tp, .inr (2, [.ref ta, .int l0])), (ta, .inl (cB, 60, .inl f))] (fun (r : Int32) (u : (Nat → Int32) × (Int32)) => (r = 1 ∧ putC len w x ∧ TP u.1 u.2 (putT T len w x.toInt.toNat) (len + x.toInt.toNat)) ∨ (r = 0 ∧ ¬ putC len w x ∧ u.1 = f ∧ u.2 = l0)) (fun u : (Nat → Int32) × (Int32) => [(h0, .inr (7, [.ref y0, .ref tp, .ref dc, .ref rd, .ref fn, .ref dn, .ref td, .int md, .int fl])), (tp, .inr (2, [.ref ta, .int u.2])), (ta, .inl (cB, 60, .inl u.1))]) := by
  refine Ci.intro (cc := b_Desk_type) (maxL := 4) (plainFor_of_name (by decide)) rfl (Nat.le_of_ble_eq_true rfl) ?_
  intro p e s m below meth c A ls C0 hin hA hP hD hS hl
  obtain ⟨hx, hb, hml, hown, hts, hr, hlocks, hK, hN⟩ := id C0
  obtain ⟨H, hH⟩ : ∃ H, H = s.heap := ⟨_, rfl⟩
  have hP : va_P (dC, dI) vwCl [(h0, .inr (7, [.ref y0, .ref tp, .ref dc, .ref rd, .ref fn, .ref dn, .ref td, .int md, .int fl])), (tp, .inr (2, [.ref ta, .int l0])), (ta, .inl (cB, 60, .inl f))] s.heap := hP
  have hl : lv_has ls 4 [(0, .ref h0), (1, .long w), (3, .int x)] := hl
  have r_x := q_r32 x
  suffices h : ∀ (H : Heap) (locs : List Loc), va_P (dC, dI) vwCl [(h0, .inr (7, [.ref y0, .ref tp, .ref dc, .ref rd, .ref fn, .ref dn, .ref td, .int md, .int fl])), (tp, .inr (2, [.ref ta, .int l0])), (ta, .inl (cB, 60, .inl f))] H → va_D A [(h0, .inr (7, [.ref y0, .ref tp, .ref dc, .ref rd, .ref fn, .ref dn, .ref td, .int md, .int fl])), (tp, .inr (2, [.ref ta, .int l0])), (ta, .inl (cB, 60, .inl f))] → va_S A s.heap H locs → W p l e ({ frames := 2, cells := 0, slots := 0, locals := 47 } : Room) s m ([.ref h0, .long w, .int x] : List Value).toArray below meth c H locs 0 0 (MQ below (va_Qi (fun (r : Int32) (u : (Nat → Int32) × (Int32)) => (r = 1 ∧ putC len w x ∧ TP u.1 u.2 (putT T len w x.toInt.toNat) (len + x.toInt.toNat)) ∨ (r = 0 ∧ ¬ putC len w x ∧ u.1 = f ∧ u.2 = l0)) (poG dC dI A (fun u : (Nat → Int32) × (Int32) => [(h0, .inr (7, [.ref y0, .ref tp, .ref dc, .ref rd, .ref fn, .ref dn, .ref td, .int md, .int fl])), (tp, .inr (2, [.ref ta, .int u.2])), (ta, .inl (cB, 60, .inl u.1))])) A) ([.ref h0, .long w, .int x] : List Value).toArray s 0 0 A) (F0 m 0 ls []) from h _ _ hP hD hS
  clear hP hD hS hH H
  intro H locs hP hD hS
  refine lv_aload_n hx hb d_Desk_type_0 rfl (lv_at hl 0 rfl) ?_
  refine va_get (D := (dC, dI)) (ci := 7) (v := .ref tp) (C := R_Desk) (T := F_Desk) (N := 9) hx hb hts u_Desk hown hK hP 0 rfl rfl 1 (by decide) (hts _ m_173) (fun _ h9 => h9) rfl d_Desk_type_1 ?_
  refine lv_lload_n hx hb d_Desk_type_4 rfl (lv_at hl 1 rfl) ?_
  refine lv_iload_n hx hb d_Desk_type_5 rfl (lv_at hl 2 rfl) ?_
  refine callV_i (wr := [(h0, .inr (7, [.ref y0, .ref tp, .ref dc, .ref rd, .ref fn, .ref dn, .ref td, .int md, .int fl]))]) C0 (c_Tape_put l dC dI cI cB cJ (tp) (ta) (f) (l0) (T) (len) (w) (x) (by exact hT)) (cwV 2 hts (gV m_202 m_203 m_204 m_49 m_205) rfl rfl rfl (by decide +kernel) ⟨Nat.le_of_ble_eq_true rfl, Nat.le_of_ble_eq_true rfl⟩) 2 rfl rfl 0 rfl hP hD hS hA [1, 2] [0] rfl rfl (by decide) (by decide) (by decide) rfl hl.1 rfl (Nat.le_of_ble_eq_true rfl) d_Desk_type_6 ⟨Nat.le_of_ble_eq_true rfl, Nat.le_of_ble_eq_true rfl⟩ (fun r6 u6 H locs hw9 hP hD hS => ?_)
  obtain ⟨k6, lx6⟩ := u6
  have h6 : (r6 = 1 ∧ putC len w x ∧ TP k6 lx6 (putT T len w x.toInt.toNat) (len + x.toInt.toNat)) ∨ (r6 = 0 ∧ ¬ putC len w x ∧ k6 = f ∧ lx6 = l0) := hw9
  have hP : va_P (dC, dI) vwCl [(h0, .inr (7, [.ref y0, .ref tp, .ref dc, .ref rd, .ref fn, .ref dn, .ref td, .int md, .int fl])), (tp, .inr (2, [.ref ta, .int lx6])), (ta, .inl (cB, 60, .inl k6))] H := hP
  have hD : va_D A [(h0, .inr (7, [.ref y0, .ref tp, .ref dc, .ref rd, .ref fn, .ref dn, .ref td, .int md, .int fl])), (tp, .inr (2, [.ref ta, .int lx6])), (ta, .inl (cB, 60, .inl k6))] := hD
  exact Cz.ret C0 (v := r6) (u := (k6, lx6)) (by rcases h6 with ⟨h, -⟩ | ⟨h, -⟩ <;> rw [h] <;> rfl) (Nat.le_of_ble_eq_true rfl) (Nat.le_of_ble_eq_true rfl) (by show (r6 = 1 ∧ putC len w x ∧ TP k6 lx6 (putT T len w x.toInt.toNat) (len + x.toInt.toNat)) ∨ (r6 = 0 ∧ ¬ putC len w x ∧ k6 = f ∧ lx6 = l0); exact h6) hP hD hS [0, 1, 2] (by decide) rfl d_Desk_type_9
set_option maxHeartbeats 4000000 in
set_option maxRecDepth 100000 in
theorem c_Desk_flags (l : Launch) (dC : Nat → ClassId) (dI : Nat → Nat → Nat) (cI cB cJ : ClassId) (h0 : Nat) (y0 : Nat) (tp : Nat) (dc : Nat) (rd : Nat) (fn : Nat) (dn : Nat) (td : Nat) (md : Int32) (fl : Int32)  : Ci l dC dI cI cB cJ y_Desk_flags w_Desk_flags ({ frames := 0, cells := 0, slots := 0, locals := 0 } : Room) [.ref h0] [(h0, .inr (7, [.ref y0, .ref tp, .ref dc, .ref rd, .ref fn, .ref dn, .ref td, .int md, .int fl]))] (fun (r : Int32) (u : Unit) => r = fl) (fun u : Unit => [(h0, .inr (7, [.ref y0, .ref tp, .ref dc, .ref rd, .ref fn, .ref dn, .ref td, .int md, .int fl]))]) := by
  refine Ci.intro (cc := b_Desk_flags) (maxL := 1) (plainFor_of_name (by decide)) rfl (Nat.le_of_ble_eq_true rfl) ?_
  intro p e s m below meth c A ls C0 hin hA hP hD hS hl
  obtain ⟨hx, hb, hml, hown, hts, hr, hlocks, hK, hN⟩ := id C0
  obtain ⟨H, hH⟩ : ∃ H, H = s.heap := ⟨_, rfl⟩
  have hP : va_P (dC, dI) vwCl [(h0, .inr (7, [.ref y0, .ref tp, .ref dc, .ref rd, .ref fn, .ref dn, .ref td, .int md, .int fl]))] s.heap := hP
  have hl : lv_has ls 1 [(0, .ref h0)] := hl
  suffices h : ∀ (H : Heap) (locs : List Loc), va_P (dC, dI) vwCl [(h0, .inr (7, [.ref y0, .ref tp, .ref dc, .ref rd, .ref fn, .ref dn, .ref td, .int md, .int fl]))] H → va_D A [(h0, .inr (7, [.ref y0, .ref tp, .ref dc, .ref rd, .ref fn, .ref dn, .ref td, .int md, .int fl]))] → va_S A s.heap H locs → W p l e ({ frames := 0, cells := 0, slots := 0, locals := 0 } : Room) s m ([.ref h0] : List Value).toArray below meth c H locs 0 0 (MQ below (va_Qi (fun (r : Int32) (u : Unit) => r = fl) (poG dC dI A (fun u : Unit => [(h0, .inr (7, [.ref y0, .ref tp, .ref dc, .ref rd, .ref fn, .ref dn, .ref td, .int md, .int fl]))])) A) ([.ref h0] : List Value).toArray s 0 0 A) (F0 m 0 ls []) from h _ _ hP hD hS
  clear hP hD hS hH H
  intro H locs hP hD hS
  refine lv_aload_n hx hb d_Desk_flags_0 rfl (lv_at hl 0 rfl) ?_
  refine va_get (D := (dC, dI)) (ci := 7) (v := .int fl) (C := R_Desk) (T := F_Desk) (N := 9) hx hb hts u_Desk hown hK hP 0 rfl rfl 8 (by decide) (hts _ m_180) (fun _ h9 => h9) rfl d_Desk_flags_1 ?_
  exact Ci.ret C0 (v := fl) (u := ()) (Nat.le_of_ble_eq_true rfl) (Nat.le_of_ble_eq_true rfl) (by show fl = fl; rfl) hP hD hS [0] (by decide) rfl d_Desk_flags_4
set_option maxHeartbeats 4000000 in
set_option maxRecDepth 100000 in
theorem c_Desk_clear (l : Launch) (dC : Nat → ClassId) (dI : Nat → Nat → Nat) (cI cB cJ : ClassId) (h0 : Nat) (y0 : Nat) (tp : Nat) (dc : Nat) (rd : Nat) (fn : Nat) (dn : Nat) (td : Nat) (md : Int32) (fl : Int32) (x : Int32)  : Ci l dC dI cI cB cJ y_Desk_clear w_Desk_clear ({ frames := 0, cells := 0, slots := 0, locals := 0 } : Room) [.ref h0, .int x] [(h0, .inr (7, [.ref y0, .ref tp, .ref dc, .ref rd, .ref fn, .ref dn, .ref td, .int md, .int fl]))] (fun (r : Int32) (u : (Int32)) => r = fl &&& x ∧ u = fl &&& (x ^^^ (-1))) (fun u : (Int32) => [(h0, .inr (7, [.ref y0, .ref tp, .ref dc, .ref rd, .ref fn, .ref dn, .ref td, .int md, .int u]))]) := by
  refine Ci.intro (cc := b_Desk_clear) (maxL := 3) (plainFor_of_name (by decide)) rfl (Nat.le_of_ble_eq_true rfl) ?_
  intro p e s m below meth c A ls C0 hin hA hP hD hS hl
  obtain ⟨hx, hb, hml, hown, hts, hr, hlocks, hK, hN⟩ := id C0
  obtain ⟨H, hH⟩ : ∃ H, H = s.heap := ⟨_, rfl⟩
  have hP : va_P (dC, dI) vwCl [(h0, .inr (7, [.ref y0, .ref tp, .ref dc, .ref rd, .ref fn, .ref dn, .ref td, .int md, .int fl]))] s.heap := hP
  have hl : lv_has ls 3 [(0, .ref h0), (1, .int x)] := hl
  suffices h : ∀ (H : Heap) (locs : List Loc), va_P (dC, dI) vwCl [(h0, .inr (7, [.ref y0, .ref tp, .ref dc, .ref rd, .ref fn, .ref dn, .ref td, .int md, .int fl]))] H → va_D A [(h0, .inr (7, [.ref y0, .ref tp, .ref dc, .ref rd, .ref fn, .ref dn, .ref td, .int md, .int fl]))] → va_S A s.heap H locs → W p l e ({ frames := 0, cells := 0, slots := 0, locals := 0 } : Room) s m ([.ref h0, .int x] : List Value).toArray below meth c H locs 0 0 (MQ below (va_Qi (fun (r : Int32) (u : (Int32)) => r = fl &&& x ∧ u = fl &&& (x ^^^ (-1))) (poG dC dI A (fun u : (Int32) => [(h0, .inr (7, [.ref y0, .ref tp, .ref dc, .ref rd, .ref fn, .ref dn, .ref td, .int md, .int u]))])) A) ([.ref h0, .int x] : List Value).toArray s 0 0 A) (F0 m 0 ls []) from h _ _ hP hD hS
  clear hP hD hS hH H
  intro H locs hP hD hS
  refine lv_aload_n hx hb d_Desk_clear_0 rfl (lv_at hl 0 rfl) ?_
  refine va_get (D := (dC, dI)) (ci := 7) (v := .int fl) (C := R_Desk) (T := F_Desk) (N := 9) hx hb hts u_Desk hown hK hP 0 rfl rfl 8 (by decide) (hts _ m_180) (fun _ h9 => h9) rfl d_Desk_clear_1 ?_
  refine lv_iload_n hx hb d_Desk_clear_4 rfl (lv_at hl 1 rfl) ?_
  refine lv_iand hx hb d_Desk_clear_5 ?_
  refine lv_topi (fun v5 e5 => ?_)
  refine lv_istore_n (lv' := [(2, .int v5), (0, .ref h0), (1, .int x)]) hx hb d_Desk_clear_6 rfl hl (by decide) rfl (fun ls hl => ?_)
  refine lv_aload_n hx hb d_Desk_clear_7 rfl (lv_at hl 1 rfl) ?_
  refine lv_aload_n hx hb d_Desk_clear_8 rfl (lv_at hl 1 rfl) ?_
  refine va_get (D := (dC, dI)) (ci := 7) (v := .int fl) (C := R_Desk) (T := F_Desk) (N := 9) hx hb hts u_Desk hown hK hP 0 rfl rfl 8 (by decide) (hts _ m_180) (fun _ h9 => h9) rfl d_Desk_clear_9 ?_
  refine lv_iload_n hx hb d_Desk_clear_12 rfl (lv_at hl 2 rfl) ?_
  refine lv_iconst (v := (-1)) hx hb d_Desk_clear_13 (by decide) ?_
  refine lv_ixor hx hb d_Desk_clear_14 ?_
  refine lv_topi (fun v14 e14 => ?_)
  refine lv_iand hx hb d_Desk_clear_15 ?_
  refine lv_topi (fun v15 e15 => ?_)
  refine va_put (D := (dC, dI)) (ci := 7) (v := .int v15) (ty := .int) (C := R_Desk) (T := F_Desk) (N := 9) hx hb hts u_Desk t_Desk t_Desk_ok n_Desk hown hK hP hD hS 0 rfl rfl 8 (by decide) (hts _ m_180) (fun _ h9 => h9) rfl (by decide +kernel) rfl rfl (Nat.le_of_ble_eq_true rfl) d_Desk_clear_16 (fun H locs hP hD hS => ?_)
  have hP : va_P (dC, dI) vwCl [(h0, .inr (7, [.ref y0, .ref tp, .ref dc, .ref rd, .ref fn, .ref dn, .ref td, .int md, .int v15]))] H := hP
  have hD : va_D A [(h0, .inr (7, [.ref y0, .ref tp, .ref dc, .ref rd, .ref fn, .ref dn, .ref td, .int md, .int v15]))] := hD
  refine lv_iload_n hx hb d_Desk_clear_19 rfl (lv_at hl 0 rfl) ?_
  exact Ci.ret C0 (v := v5) (u := (v15)) (Nat.le_of_ble_eq_true rfl) (Nat.le_of_ble_eq_true rfl) (by show v5 = fl &&& x ∧ v15 = fl &&& (x ^^^ (-1)); exact ⟨e5, by rw [e15, e14]⟩) hP hD hS [0] (by decide) rfl d_Desk_clear_20
set_option maxHeartbeats 4000000 in
set_option maxRecDepth 100000 in
theorem L_Desk_sizeByOverflow_38 {p : Program} {l : Launch} {e : Env} {s : State} {m : MethodId} {below : List Frame} {meth : Method} {c : Code} {dC : Nat → ClassId} {dI : Nat → Nat → Nat} {cI cB cJ : ClassId} {A : Nat → Prop} (h0 : Nat) (y0 : Nat) (tp : Nat) (dc : Nat) (rd : Nat) (fn : Nat) (dn : Nat) (td : Nat) (md : Int32) (fl : Int32) (eb : Int32) (mb : Int32) (E : Nat) (M : Nat) (ng : Int32) (C0 : cx dC dI cI cB cJ R_Desk b_Desk_sizeByOverflow 3 (some .long) p s m ([.ref h0, .int ng] : List Value).toArray meth c) (hA : ∀ q : Nat, s.heap.size ≤ q → A q) (hL : LY eb mb E M) (hng : ng = 0 ∨ ng = 1) : (∀ (x2 : Int32) (H : Heap) (locs : List Loc) (ls : Array Slot), ((x2 = 1 ∧ ovS md.toInt (ng = 1)) ∨ (x2 = 0 ∧ ¬ ovS md.toInt (ng = 1))) → va_P (dC, dI) vwCl [(h0, .inr (7, [.ref y0, .ref tp, .ref dc, .ref rd, .ref fn, .ref dn, .ref td, .int md, .int fl])), (y0, .inr (0, [.int eb, .int mb]))] H → va_D A [(h0, .inr (7, [.ref y0, .ref tp, .ref dc, .ref rd, .ref fn, .ref dn, .ref td, .int md, .int fl])), (y0, .inr (0, [.int eb, .int mb]))] → va_S A s.heap H locs → lv_has ls 3 [(2, .int x2), (0, .ref h0)] → W p l e ({ frames := 1, cells := 0, slots := 0, locals := 20 } : Room) s m ([.ref h0, .int ng] : List Value).toArray below meth c H locs 0 0 (MQ below (va_Ql (fun (r : Int64) (u : Unit) => (ovS md.toInt (ng = 1) ∧ r.toInt = (iz E M : Int) - 1) ∨ (¬ ovS md.toInt (ng = 1) ∧ r.toInt = (iz E M : Int))) (poG dC dI A (fun u : Unit => [(h0, .inr (7, [.ref y0, .ref tp, .ref dc, .ref rd, .ref fn, .ref dn, .ref td, .int md, .int fl])), (y0, .inr (0, [.int eb, .int mb]))])) A) ([.ref h0, .int ng] : List Value).toArray s 0 0 A) (F0 m 38 ls [])) := by
  obtain ⟨hx, hb, hml, hown, hts, hr, hlocks, hK, hN⟩ := id C0
  intro x2 H locs ls hov hP hD hS hl
  obtain ⟨he, hm, hE1, hE2, hM1, hM2⟩ := id hL
  have hbz := p_bias hE1 hE2
  have hem := p_em hE1 hE2 hM1 hM2
  have hiz := iz_sb E M
  have hpm := p_m hM2
  have hpm1 := pw_p M
  have hpe := p_e hE1 hE2
  refine lv_iload_n hx hb d_Desk_sizeByOverflow_38 rfl (lv_at hl 0 rfl) ?_
  refine lv_if_eq (tgt := 54) hx hb d_Desk_sizeByOverflow_39 (by decide) (fun b39 => ?_) (fun b39 => ?_)
  · skip
    refine lv_aload_n hx hb d_Desk_sizeByOverflow_54 rfl (lv_at hl 1 rfl) ?_
    refine va_get (D := (dC, dI)) (ci := 7) (v := .ref y0) (C := R_Desk) (T := F_Desk) (N := 9) hx hb hts u_Desk hown hK hP 0 rfl rfl 0 (by decide) (hts _ m_172) (fun _ h9 => h9) rfl d_Desk_sizeByOverflow_55 ?_
    refine callV_l (wr := [(h0, .inr (7, [.ref y0, .ref tp, .ref dc, .ref rd, .ref fn, .ref dn, .ref td, .int md, .int fl]))]) C0 (c_Layout_infinity l dC dI cI cB cJ (y0) (eb) (mb) (E) (M) (by exact hL)) (cwV 0 hts (gV m_234 m_235 m_236 m_48 m_237) rfl rfl rfl (by decide +kernel) ⟨Nat.le_of_ble_eq_true rfl, Nat.le_of_ble_eq_true rfl⟩) 0 rfl rfl 0 rfl hP hD hS hA [1] [0] rfl rfl (by decide) (by decide) (by decide) rfl hl.1 rfl (Nat.le_of_ble_eq_true rfl) d_Desk_sizeByOverflow_58 ⟨Nat.le_of_ble_eq_true rfl, Nat.le_of_ble_eq_true rfl⟩ (fun r58 u58 H locs hw9 hP hD hS => ?_)
    have h58 : r58.toInt = ((iz E M : Nat) : Int) := hw9
    have hP : va_P (dC, dI) vwCl [(h0, .inr (7, [.ref y0, .ref tp, .ref dc, .ref rd, .ref fn, .ref dn, .ref td, .int md, .int fl])), (y0, .inr (0, [.int eb, .int mb]))] H := hP
    have hD : va_D A [(h0, .inr (7, [.ref y0, .ref tp, .ref dc, .ref rd, .ref fn, .ref dn, .ref td, .int md, .int fl])), (y0, .inr (0, [.int eb, .int mb]))] := hD
    have t58 : r58.toInt = ((iz E M : Nat) : Int) := h58
    exact Cl.ret C0 (v := r58) (u := ()) (Nat.le_of_ble_eq_true rfl) (Nat.le_of_ble_eq_true rfl) (by show (ovS md.toInt (ng = 1) ∧ r58.toInt = (iz E M : Int) - 1) ∨ (¬ ovS md.toInt (ng = 1) ∧ r58.toInt = (iz E M : Int)); exact Or.inr ⟨hov.elim (fun h => absurd (b39.symm.trans h.1) (by decide)) (fun h => h.2), t58⟩) hP hD hS [0, 1] (by decide) rfl d_Desk_sizeByOverflow_61
  · skip
    refine lv_aload_n hx hb d_Desk_sizeByOverflow_42 rfl (lv_at hl 1 rfl) ?_
    refine va_get (D := (dC, dI)) (ci := 7) (v := .ref y0) (C := R_Desk) (T := F_Desk) (N := 9) hx hb hts u_Desk hown hK hP 0 rfl rfl 0 (by decide) (hts _ m_172) (fun _ h9 => h9) rfl d_Desk_sizeByOverflow_43 ?_
    refine callV_l (wr := [(h0, .inr (7, [.ref y0, .ref tp, .ref dc, .ref rd, .ref fn, .ref dn, .ref td, .int md, .int fl]))]) C0 (c_Layout_infinity l dC dI cI cB cJ (y0) (eb) (mb) (E) (M) (by exact hL)) (cwV 0 hts (gV m_234 m_235 m_236 m_48 m_237) rfl rfl rfl (by decide +kernel) ⟨Nat.le_of_ble_eq_true rfl, Nat.le_of_ble_eq_true rfl⟩) 0 rfl rfl 0 rfl hP hD hS hA [1] [0] rfl rfl (by decide) (by decide) (by decide) rfl hl.1 rfl (Nat.le_of_ble_eq_true rfl) d_Desk_sizeByOverflow_46 ⟨Nat.le_of_ble_eq_true rfl, Nat.le_of_ble_eq_true rfl⟩ (fun r46 u46 H locs hw9 hP hD hS => ?_)
    have h46 : r46.toInt = ((iz E M : Nat) : Int) := hw9
    have hP : va_P (dC, dI) vwCl [(h0, .inr (7, [.ref y0, .ref tp, .ref dc, .ref rd, .ref fn, .ref dn, .ref td, .int md, .int fl])), (y0, .inr (0, [.int eb, .int mb]))] H := hP
    have hD : va_D A [(h0, .inr (7, [.ref y0, .ref tp, .ref dc, .ref rd, .ref fn, .ref dn, .ref td, .int md, .int fl])), (y0, .inr (0, [.int eb, .int mb]))] := hD
    have t46 : r46.toInt = ((iz E M : Nat) : Int) := h46
    refine lv_lconst (v := 1) hx hb d_Desk_sizeByOverflow_49 (by decide) ?_
    refine lv_lsub hx hb d_Desk_sizeByOverflow_50 ?_
    refine lv_topl (fun v50 e50 => ?_)
    have t50 : v50.toInt = (((iz E M : Nat) : Int)) - 1 := by rw [e50]; exact q_lsub t46 (show (1 : Int64).toInt = 1 by decide) (by omega)
    refine lv_goto (tgt := 61) hx hb d_Desk_sizeByOverflow_51 (by decide) ?_
    exact Cl.ret C0 (v := v50) (u := ()) (Nat.le_of_ble_eq_true rfl) (Nat.le_of_ble_eq_true rfl) (by show (ovS md.toInt (ng = 1) ∧ v50.toInt = (iz E M : Int) - 1) ∨ (¬ ovS md.toInt (ng = 1) ∧ v50.toInt = (iz E M : Int)); exact Or.inl ⟨hov.elim (fun h => h.2) (fun h => absurd h.1 b39), t50⟩) hP hD hS [0, 1] (by decide) rfl d_Desk_sizeByOverflow_61
set_option maxHeartbeats 4000000 in
set_option maxRecDepth 100000 in
theorem c_Desk_sizeByOverflow (l : Launch) (dC : Nat → ClassId) (dI : Nat → Nat → Nat) (cI cB cJ : ClassId) (h0 : Nat) (y0 : Nat) (tp : Nat) (dc : Nat) (rd : Nat) (fn : Nat) (dn : Nat) (td : Nat) (md : Int32) (fl : Int32) (eb : Int32) (mb : Int32) (E : Nat) (M : Nat) (ng : Int32) (hL : LY eb mb E M) (hng : ng = 0 ∨ ng = 1) : Cl l dC dI cI cB cJ y_Desk_sizeByOverflow w_Desk_sizeByOverflow ({ frames := 1, cells := 0, slots := 0, locals := 20 } : Room) [.ref h0, .int ng] [(h0, .inr (7, [.ref y0, .ref tp, .ref dc, .ref rd, .ref fn, .ref dn, .ref td, .int md, .int fl])), (y0, .inr (0, [.int eb, .int mb]))] (fun (r : Int64) (u : Unit) => (ovS md.toInt (ng = 1) ∧ r.toInt = (iz E M : Int) - 1) ∨ (¬ ovS md.toInt (ng = 1) ∧ r.toInt = (iz E M : Int))) (fun u : Unit => [(h0, .inr (7, [.ref y0, .ref tp, .ref dc, .ref rd, .ref fn, .ref dn, .ref td, .int md, .int fl])), (y0, .inr (0, [.int eb, .int mb]))]) := by
  refine Cl.intro (cc := b_Desk_sizeByOverflow) (maxL := 3) (plainFor_of_name (by decide)) rfl (Nat.le_of_ble_eq_true rfl) ?_
  intro p e s m below meth c A ls C0 hin hA hP hD hS hl
  obtain ⟨hx, hb, hml, hown, hts, hr, hlocks, hK, hN⟩ := id C0
  obtain ⟨H, hH⟩ : ∃ H, H = s.heap := ⟨_, rfl⟩
  have hP : va_P (dC, dI) vwCl [(h0, .inr (7, [.ref y0, .ref tp, .ref dc, .ref rd, .ref fn, .ref dn, .ref td, .int md, .int fl])), (y0, .inr (0, [.int eb, .int mb]))] s.heap := hP
  have hl : lv_has ls 3 [(0, .ref h0), (1, .int ng)] := hl
  suffices h : ∀ (H : Heap) (locs : List Loc), va_P (dC, dI) vwCl [(h0, .inr (7, [.ref y0, .ref tp, .ref dc, .ref rd, .ref fn, .ref dn, .ref td, .int md, .int fl])), (y0, .inr (0, [.int eb, .int mb]))] H → va_D A [(h0, .inr (7, [.ref y0, .ref tp, .ref dc, .ref rd, .ref fn, .ref dn, .ref td, .int md, .int fl])), (y0, .inr (0, [.int eb, .int mb]))] → va_S A s.heap H locs → W p l e ({ frames := 1, cells := 0, slots := 0, locals := 20 } : Room) s m ([.ref h0, .int ng] : List Value).toArray below meth c H locs 0 0 (MQ below (va_Ql (fun (r : Int64) (u : Unit) => (ovS md.toInt (ng = 1) ∧ r.toInt = (iz E M : Int) - 1) ∨ (¬ ovS md.toInt (ng = 1) ∧ r.toInt = (iz E M : Int))) (poG dC dI A (fun u : Unit => [(h0, .inr (7, [.ref y0, .ref tp, .ref dc, .ref rd, .ref fn, .ref dn, .ref td, .int md, .int fl])), (y0, .inr (0, [.int eb, .int mb]))])) A) ([.ref h0, .int ng] : List Value).toArray s 0 0 A) (F0 m 0 ls []) from h _ _ hP hD hS
  clear hP hD hS hH H
  intro H locs hP hD hS
  obtain ⟨he, hm, hE1, hE2, hM1, hM2⟩ := id hL
  have hbz := p_bias hE1 hE2
  have hem := p_em hE1 hE2 hM1 hM2
  have hiz := iz_sb E M
  have hpm := p_m hM2
  have hpm1 := pw_p M
  have hpe := p_e hE1 hE2
  refine lv_aload_n hx hb d_Desk_sizeByOverflow_0 rfl (lv_at hl 0 rfl) ?_
  refine va_get (D := (dC, dI)) (ci := 7) (v := .int md) (C := R_Desk) (T := F_Desk) (N := 9) hx hb hts u_Desk hown hK hP 0 rfl rfl 7 (by decide) (hts _ m_179) (fun _ h9 => h9) rfl d_Desk_sizeByOverflow_1 ?_
  refine lv_iconst (v := 1) hx hb d_Desk_sizeByOverflow_4 (by decide) ?_
  refine lv_icmp_eq (tgt := 32) hx hb d_Desk_sizeByOverflow_5 (by decide) (fun b5 => ?_) (fun b5 => ?_)
  · skip
    rw [q_ieq (rfl : md.toInt = md.toInt) (show (1 : Int32).toInt = 1 by decide)] at b5
    refine lv_iconst (v := 1) hx hb d_Desk_sizeByOverflow_32 (by decide) ?_
    refine lv_goto (tgt := 37) hx hb d_Desk_sizeByOverflow_33 (by decide) ?_
    refine lv_istore_n (lv' := [(2, .int 1), (0, .ref h0), (1, .int ng)]) hx hb d_Desk_sizeByOverflow_37 rfl hl (by decide) rfl (fun ls hl => ?_)
    exact L_Desk_sizeByOverflow_38 (h0) (y0) (tp) (dc) (rd) (fn) (dn) (td) (md) (fl) (eb) (mb) (E) (M) (ng) C0 hA (hL) (hng) (1) H locs ls (by exact Or.inl ⟨rfl, Or.inl b5⟩) (va_Psub hP [0, 1] rfl) (hD.sub [0, 1] (by decide) rfl) hS (lv_sub hl [0, 1] rfl)
  · skip
    rw [q_ieq (rfl : md.toInt = md.toInt) (show (1 : Int32).toInt = 1 by decide)] at b5
    refine lv_aload_n hx hb d_Desk_sizeByOverflow_8 rfl (lv_at hl 0 rfl) ?_
    refine va_get (D := (dC, dI)) (ci := 7) (v := .int md) (C := R_Desk) (T := F_Desk) (N := 9) hx hb hts u_Desk hown hK hP 0 rfl rfl 7 (by decide) (hts _ m_179) (fun _ h9 => h9) rfl d_Desk_sizeByOverflow_9 ?_
    refine lv_iconst (v := 2) hx hb d_Desk_sizeByOverflow_12 (by decide) ?_
    refine lv_icmp_ne (tgt := 20) hx hb d_Desk_sizeByOverflow_13 (by decide) (fun b13 => ?_) (fun b13 => ?_)
    · skip
      rw [q_ieq (rfl : md.toInt = md.toInt) (show (2 : Int32).toInt = 2 by decide)] at b13
      refine lv_aload_n hx hb d_Desk_sizeByOverflow_20 rfl (lv_at hl 0 rfl) ?_
      refine va_get (D := (dC, dI)) (ci := 7) (v := .int md) (C := R_Desk) (T := F_Desk) (N := 9) hx hb hts u_Desk hown hK hP 0 rfl rfl 7 (by decide) (hts _ m_179) (fun _ h9 => h9) rfl d_Desk_sizeByOverflow_21 ?_
      refine lv_iconst (v := 3) hx hb d_Desk_sizeByOverflow_24 (by decide) ?_
      refine lv_icmp_ne (tgt := 36) hx hb d_Desk_sizeByOverflow_25 (by decide) (fun b25 => ?_) (fun b25 => ?_)
      · skip
        rw [q_ieq (rfl : md.toInt = md.toInt) (show (3 : Int32).toInt = 3 by decide)] at b25
        refine lv_iconst (v := 0) hx hb d_Desk_sizeByOverflow_36 (by decide) ?_
        refine lv_istore_n (lv' := [(2, .int 0), (0, .ref h0), (1, .int ng)]) hx hb d_Desk_sizeByOverflow_37 rfl hl (by decide) rfl (fun ls hl => ?_)
        exact L_Desk_sizeByOverflow_38 (h0) (y0) (tp) (dc) (rd) (fn) (dn) (td) (md) (fl) (eb) (mb) (E) (M) (ng) C0 hA (hL) (hng) (0) H locs ls (by exact Or.inr ⟨rfl, fun h => h.elim b5 (fun h => h.elim (fun h => b13 h.1) (fun h => b25 h.1))⟩) (va_Psub hP [0, 1] rfl) (hD.sub [0, 1] (by decide) rfl) hS (lv_sub hl [0, 1] rfl)
      · skip
        rw [q_ieq (rfl : md.toInt = md.toInt) (show (3 : Int32).toInt = 3 by decide)] at b25
        refine lv_iload_n hx hb d_Desk_sizeByOverflow_28 rfl (lv_at hl 1 rfl) ?_
        refine lv_if_ne (tgt := 36) hx hb d_Desk_sizeByOverflow_29 (by decide) (fun b29 => ?_) (fun b29 => ?_)
        · skip
          refine lv_iconst (v := 0) hx hb d_Desk_sizeByOverflow_36 (by decide) ?_
          refine lv_istore_n (lv' := [(2, .int 0), (0, .ref h0), (1, .int ng)]) hx hb d_Desk_sizeByOverflow_37 rfl hl (by decide) rfl (fun ls hl => ?_)
          exact L_Desk_sizeByOverflow_38 (h0) (y0) (tp) (dc) (rd) (fn) (dn) (td) (md) (fl) (eb) (mb) (E) (M) (ng) C0 hA (hL) (hng) (0) H locs ls (by exact Or.inr ⟨rfl, fun h => h.elim b5 (fun h => h.elim (fun h => b13 h.1) (fun h => h.2 (hng.elim (fun h => absurd h b29) id)))⟩) (va_Psub hP [0, 1] rfl) (hD.sub [0, 1] (by decide) rfl) hS (lv_sub hl [0, 1] rfl)
        · skip
          refine lv_iconst (v := 1) hx hb d_Desk_sizeByOverflow_32 (by decide) ?_
          refine lv_goto (tgt := 37) hx hb d_Desk_sizeByOverflow_33 (by decide) ?_
          refine lv_istore_n (lv' := [(2, .int 1), (0, .ref h0), (1, .int ng)]) hx hb d_Desk_sizeByOverflow_37 rfl hl (by decide) rfl (fun ls hl => ?_)
          exact L_Desk_sizeByOverflow_38 (h0) (y0) (tp) (dc) (rd) (fn) (dn) (td) (md) (fl) (eb) (mb) (E) (M) (ng) C0 hA (hL) (hng) (1) H locs ls (by exact Or.inl ⟨rfl, Or.inr (Or.inr ⟨b25, fun h => absurd (b29.symm.trans h) (by decide)⟩)⟩) (va_Psub hP [0, 1] rfl) (hD.sub [0, 1] (by decide) rfl) hS (lv_sub hl [0, 1] rfl)
    · skip
      rw [q_ieq (rfl : md.toInt = md.toInt) (show (2 : Int32).toInt = 2 by decide)] at b13
      refine lv_iload_n hx hb d_Desk_sizeByOverflow_16 rfl (lv_at hl 1 rfl) ?_
      refine lv_if_ne (tgt := 32) hx hb d_Desk_sizeByOverflow_17 (by decide) (fun b17 => ?_) (fun b17 => ?_)
      · skip
        refine lv_iconst (v := 1) hx hb d_Desk_sizeByOverflow_32 (by decide) ?_
        refine lv_goto (tgt := 37) hx hb d_Desk_sizeByOverflow_33 (by decide) ?_
        refine lv_istore_n (lv' := [(2, .int 1), (0, .ref h0), (1, .int ng)]) hx hb d_Desk_sizeByOverflow_37 rfl hl (by decide) rfl (fun ls hl => ?_)
        exact L_Desk_sizeByOverflow_38 (h0) (y0) (tp) (dc) (rd) (fn) (dn) (td) (md) (fl) (eb) (mb) (E) (M) (ng) C0 hA (hL) (hng) (1) H locs ls (by exact Or.inl ⟨rfl, Or.inr (Or.inl ⟨b13, hng.elim (fun h => absurd h b17) id⟩)⟩) (va_Psub hP [0, 1] rfl) (hD.sub [0, 1] (by decide) rfl) hS (lv_sub hl [0, 1] rfl)
      · skip
        refine lv_aload_n hx hb d_Desk_sizeByOverflow_20 rfl (lv_at hl 0 rfl) ?_
        refine va_get (D := (dC, dI)) (ci := 7) (v := .int md) (C := R_Desk) (T := F_Desk) (N := 9) hx hb hts u_Desk hown hK hP 0 rfl rfl 7 (by decide) (hts _ m_179) (fun _ h9 => h9) rfl d_Desk_sizeByOverflow_21 ?_
        refine lv_iconst (v := 3) hx hb d_Desk_sizeByOverflow_24 (by decide) ?_
        refine lv_icmp_ne (tgt := 36) hx hb d_Desk_sizeByOverflow_25 (by decide) (fun b25 => ?_) (fun b25 => ?_)
        · skip
          rw [q_ieq (rfl : md.toInt = md.toInt) (show (3 : Int32).toInt = 3 by decide)] at b25
          refine lv_iconst (v := 0) hx hb d_Desk_sizeByOverflow_36 (by decide) ?_
          refine lv_istore_n (lv' := [(2, .int 0), (0, .ref h0), (1, .int ng)]) hx hb d_Desk_sizeByOverflow_37 rfl hl (by decide) rfl (fun ls hl => ?_)
          exact L_Desk_sizeByOverflow_38 (h0) (y0) (tp) (dc) (rd) (fn) (dn) (td) (md) (fl) (eb) (mb) (E) (M) (ng) C0 hA (hL) (hng) (0) H locs ls (by exact Or.inr ⟨rfl, fun h => h.elim b5 (fun h => h.elim (fun h => absurd (b17.symm.trans h.2) (by decide)) (fun h => b25 h.1))⟩) (va_Psub hP [0, 1] rfl) (hD.sub [0, 1] (by decide) rfl) hS (lv_sub hl [0, 1] rfl)
        · skip
          rw [q_ieq (rfl : md.toInt = md.toInt) (show (3 : Int32).toInt = 3 by decide)] at b25
          refine lv_iload_n hx hb d_Desk_sizeByOverflow_28 rfl (lv_at hl 1 rfl) ?_
          refine lv_if_ne (tgt := 36) hx hb d_Desk_sizeByOverflow_29 (by decide) (fun b29 => ?_) (fun b29 => ?_)
          · skip
            refine lv_iconst (v := 0) hx hb d_Desk_sizeByOverflow_36 (by decide) ?_
            refine lv_istore_n (lv' := [(2, .int 0), (0, .ref h0), (1, .int ng)]) hx hb d_Desk_sizeByOverflow_37 rfl hl (by decide) rfl (fun ls hl => ?_)
            exact L_Desk_sizeByOverflow_38 (h0) (y0) (tp) (dc) (rd) (fn) (dn) (td) (md) (fl) (eb) (mb) (E) (M) (ng) C0 hA (hL) (hng) (0) H locs ls (by omega) (va_Psub hP [0, 1] rfl) (hD.sub [0, 1] (by decide) rfl) hS (lv_sub hl [0, 1] rfl)
          · skip
            refine lv_iconst (v := 1) hx hb d_Desk_sizeByOverflow_32 (by decide) ?_
            refine lv_goto (tgt := 37) hx hb d_Desk_sizeByOverflow_33 (by decide) ?_
            refine lv_istore_n (lv' := [(2, .int 1), (0, .ref h0), (1, .int ng)]) hx hb d_Desk_sizeByOverflow_37 rfl hl (by decide) rfl (fun ls hl => ?_)
            exact L_Desk_sizeByOverflow_38 (h0) (y0) (tp) (dc) (rd) (fn) (dn) (td) (md) (fl) (eb) (mb) (E) (M) (ng) C0 hA (hL) (hng) (1) H locs ls (by omega) (va_Psub hP [0, 1] rfl) (hD.sub [0, 1] (by decide) rfl) hS (lv_sub hl [0, 1] rfl)
set_option maxHeartbeats 4000000 in
set_option maxRecDepth 100000 in
theorem L_Desk_raiseFlags_16 {p : Program} {l : Launch} {e : Env} {s : State} {m : MethodId} {below : List Frame} {meth : Method} {c : Code} {dC : Nat → ClassId} {dI : Nat → Nat → Nat} {cI cB cJ : ClassId} {A : Nat → Prop} (h0 : Nat) (y0 : Nat) (tp : Nat) (dc : Nat) (rd : Nat) (fn : Nat) (dn : Nat) (td : Nat) (md : Int32) (fl : Int32) (r1 : Nat) (r2 : Nat) (sz : Int64) (ix : Int32) (ty : Int32) (ov : Int32) (C0 : cx dC dI cI cB cJ R_Desk b_Desk_raiseFlags 2 none p s m ([.ref h0, .int ov] : List Value).toArray meth c) (hA : ∀ q : Nat, s.heap.size ≤ q → A q)  : (∀ (fl2 : Int32) (H : Heap) (locs : List Loc) (ls : Array Slot), (fl2 = (if ov = 0 then fl else fl ||| 1 ||| 2)) → va_P (dC, dI) vwCl [(h0, .inr (7, [.ref y0, .ref tp, .ref dc, .ref rd, .ref fn, .ref dn, .ref td, .int md, .int fl2])), (rd, .inr (4, [.ref r1, .ref r2, .long sz, .int ix, .int ty]))] H → va_D A [(h0, .inr (7, [.ref y0, .ref tp, .ref dc, .ref rd, .ref fn, .ref dn, .ref td, .int md, .int fl2])), (rd, .inr (4, [.ref r1, .ref r2, .long sz, .int ix, .int ty]))] → va_S A s.heap H locs → lv_has ls 2 [(0, .ref h0)] → W p l e ({ frames := 0, cells := 0, slots := 0, locals := 0 } : Room) s m ([.ref h0, .int ov] : List Value).toArray below meth c H locs 0 0 (MQ below (va_Qv (fun (u : (Int32)) => u = if ix = 0 then (if ov = 0 then fl else fl ||| 1 ||| 2) else if ty = 0 then (if ov = 0 then fl else fl ||| 1 ||| 2) ||| 1 else (if ov = 0 then fl else fl ||| 1 ||| 2) ||| 1 ||| 4) (poG dC dI A (fun u : (Int32) => [(h0, .inr (7, [.ref y0, .ref tp, .ref dc, .ref rd, .ref fn, .ref dn, .ref td, .int md, .int u])), (rd, .inr (4, [.ref r1, .ref r2, .long sz, .int ix, .int ty]))])) A) ([.ref h0, .int ov] : List Value).toArray s 0 0 A) (F0 m 16 ls [])) := by
  obtain ⟨hx, hb, hml, hown, hts, hr, hlocks, hK, hN⟩ := id C0
  intro fl2 H locs ls hf2 hP hD hS hl
  refine lv_aload_n hx hb d_Desk_raiseFlags_16 rfl (lv_at hl 0 rfl) ?_
  refine va_get (D := (dC, dI)) (ci := 7) (v := .ref rd) (C := R_Desk) (T := F_Desk) (N := 9) hx hb hts u_Desk hown hK hP 0 rfl rfl 3 (by decide) (hts _ m_175) (fun _ h9 => h9) rfl d_Desk_raiseFlags_17 ?_
  refine va_getN (D := (dC, dI)) (ci := 4) (v := .int ix) (C := R_Rounder) (T := F_Rounder) (N := 5) hx hb hts u_Rounder hown hK hP 1 rfl rfl 3 (by decide) (va_Nw.use rfl (hN _ nest_8)) (fun _ h9 => h9) rfl d_Desk_raiseFlags_20 ?_
  refine lv_if_eq (tgt := 56) hx hb d_Desk_raiseFlags_23 (by decide) (fun b23 => ?_) (fun b23 => ?_)
  · skip
    exact Cv.ret C0 (u := (fl2)) (Nat.le_of_ble_eq_true rfl) (Nat.le_of_ble_eq_true rfl) (by show fl2 = if ix = 0 then (if ov = 0 then fl else fl ||| 1 ||| 2) else if ty = 0 then (if ov = 0 then fl else fl ||| 1 ||| 2) ||| 1 else (if ov = 0 then fl else fl ||| 1 ||| 2) ||| 1 ||| 4; rw [if_pos b23]; exact hf2) hP hD hS [0, 1] (by decide) rfl d_Desk_raiseFlags_56
  · skip
    refine lv_aload_n hx hb d_Desk_raiseFlags_26 rfl (lv_at hl 0 rfl) ?_
    refine lv_aload_n hx hb d_Desk_raiseFlags_27 rfl (lv_at hl 0 rfl) ?_
    refine va_get (D := (dC, dI)) (ci := 7) (v := .int fl2) (C := R_Desk) (T := F_Desk) (N := 9) hx hb hts u_Desk hown hK hP 0 rfl rfl 8 (by decide) (hts _ m_180) (fun _ h9 => h9) rfl d_Desk_raiseFlags_28 ?_
    refine lv_iconst (v := 1) hx hb d_Desk_raiseFlags_31 (by decide) ?_
    refine lv_ior hx hb d_Desk_raiseFlags_32 ?_
    refine lv_topi (fun v32 e32 => ?_)
    refine va_put (D := (dC, dI)) (ci := 7) (v := .int v32) (ty := .int) (C := R_Desk) (T := F_Desk) (N := 9) hx hb hts u_Desk t_Desk t_Desk_ok n_Desk hown hK hP hD hS 0 rfl rfl 8 (by decide) (hts _ m_180) (fun _ h9 => h9) rfl (by decide +kernel) rfl rfl (Nat.le_of_ble_eq_true rfl) d_Desk_raiseFlags_33 (fun H locs hP hD hS => ?_)
    have hP : va_P (dC, dI) vwCl [(h0, .inr (7, [.ref y0, .ref tp, .ref dc, .ref rd, .ref fn, .ref dn, .ref td, .int md, .int v32])), (rd, .inr (4, [.ref r1, .ref r2, .long sz, .int ix, .int ty]))] H := hP
    have hD : va_D A [(h0, .inr (7, [.ref y0, .ref tp, .ref dc, .ref rd, .ref fn, .ref dn, .ref td, .int md, .int v32])), (rd, .inr (4, [.ref r1, .ref r2, .long sz, .int ix, .int ty]))] := hD
    refine lv_aload_n hx hb d_Desk_raiseFlags_36 rfl (lv_at hl 0 rfl) ?_
    refine va_get (D := (dC, dI)) (ci := 7) (v := .ref rd) (C := R_Desk) (T := F_Desk) (N := 9) hx hb hts u_Desk hown hK hP 0 rfl rfl 3 (by decide) (hts _ m_175) (fun _ h9 => h9) rfl d_Desk_raiseFlags_37 ?_
    refine va_getN (D := (dC, dI)) (ci := 4) (v := .int ty) (C := R_Rounder) (T := F_Rounder) (N := 5) hx hb hts u_Rounder hown hK hP 1 rfl rfl 4 (by decide) (va_Nw.use rfl (hN _ nest_9)) (fun _ h9 => h9) rfl d_Desk_raiseFlags_40 ?_
    refine lv_if_eq (tgt := 56) hx hb d_Desk_raiseFlags_43 (by decide) (fun b43 => ?_) (fun b43 => ?_)
    · skip
      exact Cv.ret C0 (u := (v32)) (Nat.le_of_ble_eq_true rfl) (Nat.le_of_ble_eq_true rfl) (by show v32 = if ix = 0 then (if ov = 0 then fl else fl ||| 1 ||| 2) else if ty = 0 then (if ov = 0 then fl else fl ||| 1 ||| 2) ||| 1 else (if ov = 0 then fl else fl ||| 1 ||| 2) ||| 1 ||| 4; rw [if_neg b23, if_pos b43, ← hf2]; exact e32) hP hD hS [0, 1] (by decide) rfl d_Desk_raiseFlags_56
    · skip
      refine lv_aload_n hx hb d_Desk_raiseFlags_46 rfl (lv_at hl 0 rfl) ?_
      refine lv_aload_n hx hb d_Desk_raiseFlags_47 rfl (lv_at hl 0 rfl) ?_
      refine va_get (D := (dC, dI)) (ci := 7) (v := .int v32) (C := R_Desk) (T := F_Desk) (N := 9) hx hb hts u_Desk hown hK hP 0 rfl rfl 8 (by decide) (hts _ m_180) (fun _ h9 => h9) rfl d_Desk_raiseFlags_48 ?_
      refine lv_iconst (v := 4) hx hb d_Desk_raiseFlags_51 (by decide) ?_
      refine lv_ior hx hb d_Desk_raiseFlags_52 ?_
      refine lv_topi (fun v52 e52 => ?_)
      refine va_put (D := (dC, dI)) (ci := 7) (v := .int v52) (ty := .int) (C := R_Desk) (T := F_Desk) (N := 9) hx hb hts u_Desk t_Desk t_Desk_ok n_Desk hown hK hP hD hS 0 rfl rfl 8 (by decide) (hts _ m_180) (fun _ h9 => h9) rfl (by decide +kernel) rfl rfl (Nat.le_of_ble_eq_true rfl) d_Desk_raiseFlags_53 (fun H locs hP hD hS => ?_)
      have hP : va_P (dC, dI) vwCl [(h0, .inr (7, [.ref y0, .ref tp, .ref dc, .ref rd, .ref fn, .ref dn, .ref td, .int md, .int v52])), (rd, .inr (4, [.ref r1, .ref r2, .long sz, .int ix, .int ty]))] H := hP
      have hD : va_D A [(h0, .inr (7, [.ref y0, .ref tp, .ref dc, .ref rd, .ref fn, .ref dn, .ref td, .int md, .int v52])), (rd, .inr (4, [.ref r1, .ref r2, .long sz, .int ix, .int ty]))] := hD
      exact Cv.ret C0 (u := (v52)) (Nat.le_of_ble_eq_true rfl) (Nat.le_of_ble_eq_true rfl) (by show v52 = if ix = 0 then (if ov = 0 then fl else fl ||| 1 ||| 2) else if ty = 0 then (if ov = 0 then fl else fl ||| 1 ||| 2) ||| 1 else (if ov = 0 then fl else fl ||| 1 ||| 2) ||| 1 ||| 4; rw [if_neg b23, if_neg b43, ← hf2, ← e32]; exact e52) hP hD hS [0, 1] (by decide) rfl d_Desk_raiseFlags_56
set_option maxHeartbeats 4000000 in
set_option maxRecDepth 100000 in
theorem c_Desk_raiseFlags (l : Launch) (dC : Nat → ClassId) (dI : Nat → Nat → Nat) (cI cB cJ : ClassId) (h0 : Nat) (y0 : Nat) (tp : Nat) (dc : Nat) (rd : Nat) (fn : Nat) (dn : Nat) (td : Nat) (md : Int32) (fl : Int32) (r1 : Nat) (r2 : Nat) (sz : Int64) (ix : Int32) (ty : Int32) (ov : Int32)  : Cv l dC dI cI cB cJ y_Desk_raiseFlags w_Desk_raiseFlags ({ frames := 0, cells := 0, slots := 0, locals := 0 } : Room) [.ref h0, .int ov] [(h0, .inr (7, [.ref y0, .ref tp, .ref dc, .ref rd, .ref fn, .ref dn, .ref td, .int md, .int fl])), (rd, .inr (4, [.ref r1, .ref r2, .long sz, .int ix, .int ty]))] (fun (u : (Int32)) => u = if ix = 0 then (if ov = 0 then fl else fl ||| 1 ||| 2) else if ty = 0 then (if ov = 0 then fl else fl ||| 1 ||| 2) ||| 1 else (if ov = 0 then fl else fl ||| 1 ||| 2) ||| 1 ||| 4) (fun u : (Int32) => [(h0, .inr (7, [.ref y0, .ref tp, .ref dc, .ref rd, .ref fn, .ref dn, .ref td, .int md, .int u])), (rd, .inr (4, [.ref r1, .ref r2, .long sz, .int ix, .int ty]))]) := by
  refine Cv.intro (cc := b_Desk_raiseFlags) (maxL := 2) (plainFor_of_name (by decide)) rfl (Nat.le_of_ble_eq_true rfl) ?_
  intro p e s m below meth c A ls C0 hin hA hP hD hS hl
  obtain ⟨hx, hb, hml, hown, hts, hr, hlocks, hK, hN⟩ := id C0
  obtain ⟨H, hH⟩ : ∃ H, H = s.heap := ⟨_, rfl⟩
  have hP : va_P (dC, dI) vwCl [(h0, .inr (7, [.ref y0, .ref tp, .ref dc, .ref rd, .ref fn, .ref dn, .ref td, .int md, .int fl])), (rd, .inr (4, [.ref r1, .ref r2, .long sz, .int ix, .int ty]))] s.heap := hP
  have hl : lv_has ls 2 [(0, .ref h0), (1, .int ov)] := hl
  suffices h : ∀ (H : Heap) (locs : List Loc), va_P (dC, dI) vwCl [(h0, .inr (7, [.ref y0, .ref tp, .ref dc, .ref rd, .ref fn, .ref dn, .ref td, .int md, .int fl])), (rd, .inr (4, [.ref r1, .ref r2, .long sz, .int ix, .int ty]))] H → va_D A [(h0, .inr (7, [.ref y0, .ref tp, .ref dc, .ref rd, .ref fn, .ref dn, .ref td, .int md, .int fl])), (rd, .inr (4, [.ref r1, .ref r2, .long sz, .int ix, .int ty]))] → va_S A s.heap H locs → W p l e ({ frames := 0, cells := 0, slots := 0, locals := 0 } : Room) s m ([.ref h0, .int ov] : List Value).toArray below meth c H locs 0 0 (MQ below (va_Qv (fun (u : (Int32)) => u = if ix = 0 then (if ov = 0 then fl else fl ||| 1 ||| 2) else if ty = 0 then (if ov = 0 then fl else fl ||| 1 ||| 2) ||| 1 else (if ov = 0 then fl else fl ||| 1 ||| 2) ||| 1 ||| 4) (poG dC dI A (fun u : (Int32) => [(h0, .inr (7, [.ref y0, .ref tp, .ref dc, .ref rd, .ref fn, .ref dn, .ref td, .int md, .int u])), (rd, .inr (4, [.ref r1, .ref r2, .long sz, .int ix, .int ty]))])) A) ([.ref h0, .int ov] : List Value).toArray s 0 0 A) (F0 m 0 ls []) from h _ _ hP hD hS
  clear hP hD hS hH H
  intro H locs hP hD hS
  refine lv_iload_n hx hb d_Desk_raiseFlags_0 rfl (lv_at hl 1 rfl) ?_
  refine lv_if_eq (tgt := 16) hx hb d_Desk_raiseFlags_1 (by decide) (fun b1 => ?_) (fun b1 => ?_)
  · skip
    exact L_Desk_raiseFlags_16 (h0) (y0) (tp) (dc) (rd) (fn) (dn) (td) (md) (fl) (r1) (r2) (sz) (ix) (ty) (ov) C0 hA  (fl) H locs ls (by rw [if_pos b1]) (va_Psub hP [0, 1] rfl) (hD.sub [0, 1] (by decide) rfl) hS (lv_sub hl [0] rfl)
  · skip
    refine lv_aload_n hx hb d_Desk_raiseFlags_4 rfl (lv_at hl 0 rfl) ?_
    refine lv_aload_n hx hb d_Desk_raiseFlags_5 rfl (lv_at hl 0 rfl) ?_
    refine va_get (D := (dC, dI)) (ci := 7) (v := .int fl) (C := R_Desk) (T := F_Desk) (N := 9) hx hb hts u_Desk hown hK hP 0 rfl rfl 8 (by decide) (hts _ m_180) (fun _ h9 => h9) rfl d_Desk_raiseFlags_6 ?_
    refine lv_iconst (v := 1) hx hb d_Desk_raiseFlags_9 (by decide) ?_
    refine lv_ior hx hb d_Desk_raiseFlags_10 ?_
    refine lv_topi (fun v10 e10 => ?_)
    refine lv_iconst (v := 2) hx hb d_Desk_raiseFlags_11 (by decide) ?_
    refine lv_ior hx hb d_Desk_raiseFlags_12 ?_
    refine lv_topi (fun v12 e12 => ?_)
    refine va_put (D := (dC, dI)) (ci := 7) (v := .int v12) (ty := .int) (C := R_Desk) (T := F_Desk) (N := 9) hx hb hts u_Desk t_Desk t_Desk_ok n_Desk hown hK hP hD hS 0 rfl rfl 8 (by decide) (hts _ m_180) (fun _ h9 => h9) rfl (by decide +kernel) rfl rfl (Nat.le_of_ble_eq_true rfl) d_Desk_raiseFlags_13 (fun H locs hP hD hS => ?_)
    have hP : va_P (dC, dI) vwCl [(h0, .inr (7, [.ref y0, .ref tp, .ref dc, .ref rd, .ref fn, .ref dn, .ref td, .int md, .int v12])), (rd, .inr (4, [.ref r1, .ref r2, .long sz, .int ix, .int ty]))] H := hP
    have hD : va_D A [(h0, .inr (7, [.ref y0, .ref tp, .ref dc, .ref rd, .ref fn, .ref dn, .ref td, .int md, .int v12])), (rd, .inr (4, [.ref r1, .ref r2, .long sz, .int ix, .int ty]))] := hD
    exact L_Desk_raiseFlags_16 (h0) (y0) (tp) (dc) (rd) (fn) (dn) (td) (md) (fl) (r1) (r2) (sz) (ix) (ty) (ov) C0 hA  (v12) H locs ls (by rw [if_neg b1, e12, e10]) (va_Psub hP [0, 1] rfl) (hD.sub [0, 1] (by decide) rfl) hS (lv_sub hl [0] rfl)
set_option maxHeartbeats 4000000 in
set_option maxRecDepth 100000 in
theorem c_Desk_next (l : Launch) (dC : Nat → ClassId) (dI : Nat → Nat → Nat) (cI cB cJ : ClassId) (h0 : Nat) (y0 : Nat) (tp : Nat) (dc : Nat) (rd : Nat) (fn : Nat) (dn : Nat) (td : Nat) (md : Int32) (fl : Int32) (eb : Int32) (mb : Int32) (E : Nat) (M : Nat) (x : Int64) (up : Int32) (hL : LY eb mb E M) (hup : up = 0 ∨ up = 1) : Cl l dC dI cI cB cJ y_Desk_next w_Desk_next ({ frames := 2, cells := 0, slots := 0, locals := 42 } : Room) [.ref h0, .long x, .int up] [(h0, .inr (7, [.ref y0, .ref tp, .ref dc, .ref rd, .ref fn, .ref dn, .ref td, .int md, .int fl])), (y0, .inr (0, [.int eb, .int mb]))] (fun (r : Int64) (u : Unit) => NX E M x.toInt (up = 1) r.toInt) (fun u : Unit => [(h0, .inr (7, [.ref y0, .ref tp, .ref dc, .ref rd, .ref fn, .ref dn, .ref td, .int md, .int fl])), (y0, .inr (0, [.int eb, .int mb]))]) := by
  refine Cl.intro (cc := b_Desk_next) (maxL := 5) (plainFor_of_name (by decide)) rfl (Nat.le_of_ble_eq_true rfl) ?_
  intro p e s m below meth c A ls C0 hin hA hP hD hS hl
  obtain ⟨hx, hb, hml, hown, hts, hr, hlocks, hK, hN⟩ := id C0
  obtain ⟨H, hH⟩ : ∃ H, H = s.heap := ⟨_, rfl⟩
  have hP : va_P (dC, dI) vwCl [(h0, .inr (7, [.ref y0, .ref tp, .ref dc, .ref rd, .ref fn, .ref dn, .ref td, .int md, .int fl])), (y0, .inr (0, [.int eb, .int mb]))] s.heap := hP
  have hl : lv_has ls 5 [(0, .ref h0), (1, .long x), (3, .int up)] := hl
  have r_x := q_r64 x
  suffices h : ∀ (H : Heap) (locs : List Loc), va_P (dC, dI) vwCl [(h0, .inr (7, [.ref y0, .ref tp, .ref dc, .ref rd, .ref fn, .ref dn, .ref td, .int md, .int fl])), (y0, .inr (0, [.int eb, .int mb]))] H → va_D A [(h0, .inr (7, [.ref y0, .ref tp, .ref dc, .ref rd, .ref fn, .ref dn, .ref td, .int md, .int fl])), (y0, .inr (0, [.int eb, .int mb]))] → va_S A s.heap H locs → W p l e ({ frames := 2, cells := 0, slots := 0, locals := 42 } : Room) s m ([.ref h0, .long x, .int up] : List Value).toArray below meth c H locs 0 0 (MQ below (va_Ql (fun (r : Int64) (u : Unit) => NX E M x.toInt (up = 1) r.toInt) (poG dC dI A (fun u : Unit => [(h0, .inr (7, [.ref y0, .ref tp, .ref dc, .ref rd, .ref fn, .ref dn, .ref td, .int md, .int fl])), (y0, .inr (0, [.int eb, .int mb]))])) A) ([.ref h0, .long x, .int up] : List Value).toArray s 0 0 A) (F0 m 0 ls []) from h _ _ hP hD hS
  clear hP hD hS hH H
  intro H locs hP hD hS
  obtain ⟨he, hm, hE1, hE2, hM1, hM2⟩ := id hL
  have hbz := p_bias hE1 hE2
  have hem := p_em hE1 hE2 hM1 hM2
  have hiz := iz_sb E M
  have hpm := p_m hM2
  have hpm1 := pw_p M
  have hpe := p_e hE1 hE2
  refine lv_aload_n hx hb d_Desk_next_0 rfl (lv_at hl 0 rfl) ?_
  refine va_get (D := (dC, dI)) (ci := 7) (v := .ref y0) (C := R_Desk) (T := F_Desk) (N := 9) hx hb hts u_Desk hown hK hP 0 rfl rfl 0 (by decide) (hts _ m_172) (fun _ h9 => h9) rfl d_Desk_next_1 ?_
  refine lv_lload_n hx hb d_Desk_next_4 rfl (lv_at hl 1 rfl) ?_
  refine callV_i (wr := [(h0, .inr (7, [.ref y0, .ref tp, .ref dc, .ref rd, .ref fn, .ref dn, .ref td, .int md, .int fl]))]) C0 (c_Layout_holds l dC dI cI cB cJ (y0) (eb) (mb) (E) (M) (x) (by exact hL)) (cwV 1 hts (gV m_221 m_222 m_223 m_48 m_224) rfl rfl rfl (by decide +kernel) ⟨Nat.le_of_ble_eq_true rfl, Nat.le_of_ble_eq_true rfl⟩) 0 rfl rfl 0 rfl hP hD hS hA [1] [0] rfl rfl (by decide) (by decide) (by decide) rfl hl.1 rfl (Nat.le_of_ble_eq_true rfl) d_Desk_next_5 ⟨Nat.le_of_ble_eq_true rfl, Nat.le_of_ble_eq_true rfl⟩ (fun r5 u5 H locs hw9 hP hD hS => ?_)
  have h5 : r5 = if 0 ≤ x.toInt ∧ x.toInt < ((2 * sb E M : Nat) : Int) then 1 else 0 := hw9
  have hP : va_P (dC, dI) vwCl [(h0, .inr (7, [.ref y0, .ref tp, .ref dc, .ref rd, .ref fn, .ref dn, .ref td, .int md, .int fl])), (y0, .inr (0, [.int eb, .int mb]))] H := hP
  have hD : va_D A [(h0, .inr (7, [.ref y0, .ref tp, .ref dc, .ref rd, .ref fn, .ref dn, .ref td, .int md, .int fl])), (y0, .inr (0, [.int eb, .int mb]))] := hD
  refine lv_if_eq (tgt := 30) hx hb d_Desk_next_8 (by decide) (fun b8 => ?_) (fun b8 => ?_)
  · skip
    have hnp : ¬ isPat E M x.toInt := fun h => by rw [if_pos h] at h5; rw [h5] at b8; exact absurd b8 (by decide)
    refine lv_ldc2 (v := (-1)) hx hb hown (hts _ m_238) d_Desk_next_30 ?_
    exact Cl.ret C0 (v := (-1)) (u := ()) (Nat.le_of_ble_eq_true rfl) (Nat.le_of_ble_eq_true rfl) (by show NX E M x.toInt (up = 1) (((-1) : Int64)).toInt; exact Or.inl ⟨by decide, fun h => hnp h.1⟩) hP hD hS [0, 1] (by decide) rfl d_Desk_next_33
  · skip
    have hpat : isPat E M x.toInt := Decidable.byContradiction fun h => b8 (by rw [h5]; exact if_neg h)
    refine lv_aload_n hx hb d_Desk_next_11 rfl (lv_at hl 0 rfl) ?_
    refine va_get (D := (dC, dI)) (ci := 7) (v := .ref y0) (C := R_Desk) (T := F_Desk) (N := 9) hx hb hts u_Desk hown hK hP 0 rfl rfl 0 (by decide) (hts _ m_172) (fun _ h9 => h9) rfl d_Desk_next_12 ?_
    refine lv_lload_n hx hb d_Desk_next_15 rfl (lv_at hl 1 rfl) ?_
    refine callV_l (wr := [(h0, .inr (7, [.ref y0, .ref tp, .ref dc, .ref rd, .ref fn, .ref dn, .ref td, .int md, .int fl]))]) C0 (c_Layout_sizeOf l dC dI cI cB cJ (y0) (eb) (mb) (E) (M) (x) (x.toInt.toNat) (by exact hL) (by exact (Int.toNat_of_nonneg hpat.1).symm)) (cwV 1 hts (gV m_230 m_231 m_232 m_48 m_233) rfl rfl rfl (by decide +kernel) ⟨Nat.le_of_ble_eq_true rfl, Nat.le_of_ble_eq_true rfl⟩) 0 rfl rfl 0 rfl hP hD hS hA [1] [0] rfl rfl (by decide) (by decide) (by decide) rfl hl.1 rfl (Nat.le_of_ble_eq_true rfl) d_Desk_next_16 ⟨Nat.le_of_ble_eq_true rfl, Nat.le_of_ble_eq_true rfl⟩ (fun r16 u16 H locs hw9 hP hD hS => ?_)
    have h16 : r16.toInt = ((szo E M x.toInt.toNat : Nat) : Int) := hw9
    have hP : va_P (dC, dI) vwCl [(h0, .inr (7, [.ref y0, .ref tp, .ref dc, .ref rd, .ref fn, .ref dn, .ref td, .int md, .int fl])), (y0, .inr (0, [.int eb, .int mb]))] H := hP
    have hD : va_D A [(h0, .inr (7, [.ref y0, .ref tp, .ref dc, .ref rd, .ref fn, .ref dn, .ref td, .int md, .int fl])), (y0, .inr (0, [.int eb, .int mb]))] := hD
    have t16 : r16.toInt = ((szo E M x.toInt.toNat : Nat) : Int) := h16
    refine lv_aload_n hx hb d_Desk_next_19 rfl (lv_at hl 0 rfl) ?_
    refine va_get (D := (dC, dI)) (ci := 7) (v := .ref y0) (C := R_Desk) (T := F_Desk) (N := 9) hx hb hts u_Desk hown hK hP 0 rfl rfl 0 (by decide) (hts _ m_172) (fun _ h9 => h9) rfl d_Desk_next_20 ?_
    refine callV_l (wr := [(h0, .inr (7, [.ref y0, .ref tp, .ref dc, .ref rd, .ref fn, .ref dn, .ref td, .int md, .int fl]))]) C0 (c_Layout_infinity l dC dI cI cB cJ (y0) (eb) (mb) (E) (M) (by exact hL)) (cwV 0 hts (gV m_234 m_235 m_236 m_48 m_237) rfl rfl rfl (by decide +kernel) ⟨Nat.le_of_ble_eq_true rfl, Nat.le_of_ble_eq_true rfl⟩) 0 rfl rfl 0 rfl hP hD hS hA [1] [0] rfl rfl (by decide) (by decide) (by decide) rfl hl.1 rfl (Nat.le_of_ble_eq_true rfl) d_Desk_next_23 ⟨Nat.le_of_ble_eq_true rfl, Nat.le_of_ble_eq_true rfl⟩ (fun r23 u23 H locs hw9 hP hD hS => ?_)
    have h23 : r23.toInt = ((iz E M : Nat) : Int) := hw9
    have hP : va_P (dC, dI) vwCl [(h0, .inr (7, [.ref y0, .ref tp, .ref dc, .ref rd, .ref fn, .ref dn, .ref td, .int md, .int fl])), (y0, .inr (0, [.int eb, .int mb]))] H := hP
    have hD : va_D A [(h0, .inr (7, [.ref y0, .ref tp, .ref dc, .ref rd, .ref fn, .ref dn, .ref td, .int md, .int fl])), (y0, .inr (0, [.int eb, .int mb]))] := hD
    have t23 : r23.toInt = ((iz E M : Nat) : Int) := h23
    refine W.lcmp hx hb d_Desk_next_26 ?_
    refine lv_if_lt (tgt := 34) hx hb d_Desk_next_27 (by decide) (fun b27 => ?_) (fun b27 => ?_)
    · skip
      rw [q_cmp_lt t16 t23] at b27
      refine lv_aload_n hx hb d_Desk_next_34 rfl (lv_at hl 0 rfl) ?_
      refine va_get (D := (dC, dI)) (ci := 7) (v := .ref y0) (C := R_Desk) (T := F_Desk) (N := 9) hx hb hts u_Desk hown hK hP 0 rfl rfl 0 (by decide) (hts _ m_172) (fun _ h9 => h9) rfl d_Desk_next_35 ?_
      refine lv_lload_n hx hb d_Desk_next_38 rfl (lv_at hl 1 rfl) ?_
      refine callV_l (wr := [(h0, .inr (7, [.ref y0, .ref tp, .ref dc, .ref rd, .ref fn, .ref dn, .ref td, .int md, .int fl]))]) C0 (c_Layout_sizeOf l dC dI cI cB cJ (y0) (eb) (mb) (E) (M) (x) (x.toInt.toNat) (by exact hL) (by exact (Int.toNat_of_nonneg hpat.1).symm)) (cwV 1 hts (gV m_230 m_231 m_232 m_48 m_233) rfl rfl rfl (by decide +kernel) ⟨Nat.le_of_ble_eq_true rfl, Nat.le_of_ble_eq_true rfl⟩) 0 rfl rfl 0 rfl hP hD hS hA [1] [0] rfl rfl (by decide) (by decide) (by decide) rfl hl.1 rfl (Nat.le_of_ble_eq_true rfl) d_Desk_next_39 ⟨Nat.le_of_ble_eq_true rfl, Nat.le_of_ble_eq_true rfl⟩ (fun r39 u39 H locs hw9 hP hD hS => ?_)
      have h39 : r39.toInt = ((szo E M x.toInt.toNat : Nat) : Int) := hw9
      have hP : va_P (dC, dI) vwCl [(h0, .inr (7, [.ref y0, .ref tp, .ref dc, .ref rd, .ref fn, .ref dn, .ref td, .int md, .int fl])), (y0, .inr (0, [.int eb, .int mb]))] H := hP
      have hD : va_D A [(h0, .inr (7, [.ref y0, .ref tp, .ref dc, .ref rd, .ref fn, .ref dn, .ref td, .int md, .int fl])), (y0, .inr (0, [.int eb, .int mb]))] := hD
      have t39 : r39.toInt = ((szo E M x.toInt.toNat : Nat) : Int) := h39
      refine lv_lconst (v := 0) hx hb d_Desk_next_42 (by decide) ?_
      refine W.lcmp hx hb d_Desk_next_43 ?_
      refine lv_if_ne (tgt := 65) hx hb d_Desk_next_44 (by decide) (fun b44 => ?_) (fun b44 => ?_)
      · skip
        rw [q_cmp_eq t39 (show (0 : Int64).toInt = 0 by decide)] at b44
        refine lv_iload_n hx hb d_Desk_next_65 rfl (lv_at hl 2 rfl) ?_
        refine lv_aload_n hx hb d_Desk_next_66 rfl (lv_at hl 0 rfl) ?_
        refine va_get (D := (dC, dI)) (ci := 7) (v := .ref y0) (C := R_Desk) (T := F_Desk) (N := 9) hx hb hts u_Desk hown hK hP 0 rfl rfl 0 (by decide) (hts _ m_172) (fun _ h9 => h9) rfl d_Desk_next_67 ?_
        refine lv_lload_n hx hb d_Desk_next_70 rfl (lv_at hl 1 rfl) ?_
        refine callV_i (wr := [(h0, .inr (7, [.ref y0, .ref tp, .ref dc, .ref rd, .ref fn, .ref dn, .ref td, .int md, .int fl]))]) C0 (c_Layout_isNegative l dC dI cI cB cJ (y0) (eb) (mb) (E) (M) (x) (by exact hL)) (cwV 1 hts (gV m_240 m_241 m_242 m_48 m_243) rfl rfl rfl (by decide +kernel) ⟨Nat.le_of_ble_eq_true rfl, Nat.le_of_ble_eq_true rfl⟩) 0 rfl rfl 0 rfl hP hD hS hA [1] [0] rfl rfl (by decide) (by decide) (by decide) rfl hl.1 rfl (Nat.le_of_ble_eq_true rfl) d_Desk_next_71 ⟨Nat.le_of_ble_eq_true rfl, Nat.le_of_ble_eq_true rfl⟩ (fun r71 u71 H locs hw9 hP hD hS => ?_)
        have h71 : r71 = if ((sb E M : Nat) : Int) ≤ x.toInt then 1 else 0 := hw9
        have hP : va_P (dC, dI) vwCl [(h0, .inr (7, [.ref y0, .ref tp, .ref dc, .ref rd, .ref fn, .ref dn, .ref td, .int md, .int fl])), (y0, .inr (0, [.int eb, .int mb]))] H := hP
        have hD : va_D A [(h0, .inr (7, [.ref y0, .ref tp, .ref dc, .ref rd, .ref fn, .ref dn, .ref td, .int md, .int fl])), (y0, .inr (0, [.int eb, .int mb]))] := hD
        have hpt2 := hpat.2
        refine lv_icmp_eq (tgt := 81) hx hb d_Desk_next_74 (by decide) (fun b74 => ?_) (fun b74 => ?_)
        · skip
          refine lv_iconst (v := 0) hx hb d_Desk_next_81 (by decide) ?_
          refine lv_istore (lv' := [(4, .int 0), (0, .ref h0), (1, .long x), (3, .int up)]) hx hb d_Desk_next_82 hl (by decide) rfl (fun ls hl => ?_)
          refine lv_iload hx hb d_Desk_next_84 (lv_at hl 0 rfl) ?_
          refine lv_if_eq (tgt := 95) hx hb d_Desk_next_86 (by decide) (fun b86 => ?_) (fun b86 => ?_)
          · skip
            rw [q_ieq (show (0 : Int32).toInt = 0 by decide) (show (0 : Int32).toInt = 0 by decide)] at b86
            refine lv_lload_n hx hb d_Desk_next_95 rfl (lv_at hl 2 rfl) ?_
            refine lv_lconst (v := 1) hx hb d_Desk_next_96 (by decide) ?_
            have hpt := hpat.1
            refine lv_lsub hx hb d_Desk_next_97 ?_
            refine lv_topl (fun v97 e97 => ?_)
            have t97 : v97.toInt = x.toInt - 1 := by rw [e97]; exact q_lsub (rfl : x.toInt = x.toInt) (show (1 : Int64).toInt = 1 by decide) (by omega)
            exact Cl.ret C0 (v := v97) (u := ()) (Nat.le_of_ble_eq_true rfl) (Nat.le_of_ble_eq_true rfl) (by show NX E M x.toInt (up = 1) v97.toInt; exact Or.inr ⟨⟨hpat, by omega⟩, Or.inr ⟨by omega, Or.inr ⟨nx_same hup h71 b74, t97⟩⟩⟩) hP hD hS [0, 1] (by decide) rfl d_Desk_next_98
          · skip
            rw [q_ieq (show (0 : Int32).toInt = 0 by decide) (show (0 : Int32).toInt = 0 by decide)] at b86
            exact absurd b86 (by omega)
        · skip
          refine lv_iconst (v := 1) hx hb d_Desk_next_77 (by decide) ?_
          refine lv_goto (tgt := 82) hx hb d_Desk_next_78 (by decide) ?_
          refine lv_istore (lv' := [(4, .int 1), (0, .ref h0), (1, .long x), (3, .int up)]) hx hb d_Desk_next_82 hl (by decide) rfl (fun ls hl => ?_)
          refine lv_iload hx hb d_Desk_next_84 (lv_at hl 0 rfl) ?_
          refine lv_if_eq (tgt := 95) hx hb d_Desk_next_86 (by decide) (fun b86 => ?_) (fun b86 => ?_)
          · skip
            rw [q_ieq (show (1 : Int32).toInt = 1 by decide) (show (0 : Int32).toInt = 0 by decide)] at b86
            exact absurd b86 (by omega)
          · skip
            rw [q_ieq (show (1 : Int32).toInt = 1 by decide) (show (0 : Int32).toInt = 0 by decide)] at b86
            refine lv_lload_n hx hb d_Desk_next_89 rfl (lv_at hl 2 rfl) ?_
            refine lv_lconst (v := 1) hx hb d_Desk_next_90 (by decide) ?_
            have hpt := hpat.2
            refine lv_ladd hx hb d_Desk_next_91 ?_
            refine lv_topl (fun v91 e91 => ?_)
            have t91 : v91.toInt = x.toInt + 1 := by rw [e91]; exact q_ladd (rfl : x.toInt = x.toInt) (show (1 : Int64).toInt = 1 by decide) (by omega)
            refine lv_goto (tgt := 98) hx hb d_Desk_next_92 (by decide) ?_
            exact Cl.ret C0 (v := v91) (u := ()) (Nat.le_of_ble_eq_true rfl) (Nat.le_of_ble_eq_true rfl) (by show NX E M x.toInt (up = 1) v91.toInt; exact Or.inr ⟨⟨hpat, by omega⟩, Or.inr ⟨by omega, Or.inl ⟨nx_diff hup h71 b74, t91⟩⟩⟩) hP hD hS [0, 1] (by decide) rfl d_Desk_next_98
      · skip
        rw [q_cmp_eq t39 (show (0 : Int64).toInt = 0 by decide)] at b44
        refine lv_iload_n hx hb d_Desk_next_47 rfl (lv_at hl 2 rfl) ?_
        refine lv_if_eq (tgt := 55) hx hb d_Desk_next_48 (by decide) (fun b48 => ?_) (fun b48 => ?_)
        · skip
          refine lv_aload_n hx hb d_Desk_next_55 rfl (lv_at hl 0 rfl) ?_
          refine va_get (D := (dC, dI)) (ci := 7) (v := .ref y0) (C := R_Desk) (T := F_Desk) (N := 9) hx hb hts u_Desk hown hK hP 0 rfl rfl 0 (by decide) (hts _ m_172) (fun _ h9 => h9) rfl d_Desk_next_56 ?_
          refine callV_l (wr := [(h0, .inr (7, [.ref y0, .ref tp, .ref dc, .ref rd, .ref fn, .ref dn, .ref td, .int md, .int fl]))]) C0 (c_Layout_signBit l dC dI cI cB cJ (y0) (eb) (mb) (E) (M) (by exact hL)) (cwV 0 hts (gV m_239 m_227 m_228 m_48 m_229) rfl rfl rfl (by decide +kernel) ⟨Nat.le_of_ble_eq_true rfl, Nat.le_of_ble_eq_true rfl⟩) 0 rfl rfl 0 rfl hP hD hS hA [1] [0] rfl rfl (by decide) (by decide) (by decide) rfl hl.1 rfl (Nat.le_of_ble_eq_true rfl) d_Desk_next_59 ⟨Nat.le_of_ble_eq_true rfl, Nat.le_of_ble_eq_true rfl⟩ (fun r59 u59 H locs hw9 hP hD hS => ?_)
          have h59 : r59.toInt = ((sb E M : Nat) : Int) := hw9
          have hP : va_P (dC, dI) vwCl [(h0, .inr (7, [.ref y0, .ref tp, .ref dc, .ref rd, .ref fn, .ref dn, .ref td, .int md, .int fl])), (y0, .inr (0, [.int eb, .int mb]))] H := hP
          have hD : va_D A [(h0, .inr (7, [.ref y0, .ref tp, .ref dc, .ref rd, .ref fn, .ref dn, .ref td, .int md, .int fl])), (y0, .inr (0, [.int eb, .int mb]))] := hD
          have t59 : r59.toInt = ((sb E M : Nat) : Int) := h59
          refine lv_lconst (v := 1) hx hb d_Desk_next_62 (by decide) ?_
          refine lv_ladd hx hb d_Desk_next_63 ?_
          refine lv_topl (fun v63 e63 => ?_)
          have t63 : v63.toInt = (((sb E M : Nat) : Int)) + 1 := by rw [e63]; exact q_ladd t59 (show (1 : Int64).toInt = 1 by decide) (by omega)
          exact Cl.ret C0 (v := v63) (u := ()) (Nat.le_of_ble_eq_true rfl) (Nat.le_of_ble_eq_true rfl) (by show NX E M x.toInt (up = 1) v63.toInt; exact Or.inr ⟨⟨hpat, by omega⟩, Or.inl ⟨by omega, Or.inr ⟨fun h => absurd (b48.symm.trans h) (by decide), t63⟩⟩⟩) hP hD hS [0, 1] (by decide) rfl d_Desk_next_64
        · skip
          refine lv_lconst (v := 1) hx hb d_Desk_next_51 (by decide) ?_
          refine lv_goto (tgt := 64) hx hb d_Desk_next_52 (by decide) ?_
          exact Cl.ret C0 (v := 1) (u := ()) (Nat.le_of_ble_eq_true rfl) (Nat.le_of_ble_eq_true rfl) (by show NX E M x.toInt (up = 1) (1 : Int64).toInt; exact Or.inr ⟨⟨hpat, by omega⟩, Or.inl ⟨by omega, Or.inl ⟨hup.elim (fun h => absurd h b48) id, by decide⟩⟩⟩) hP hD hS [0, 1] (by decide) rfl d_Desk_next_64
    · skip
      rw [q_cmp_lt t16 t23] at b27
      refine lv_ldc2 (v := (-1)) hx hb hown (hts _ m_238) d_Desk_next_30 ?_
      exact Cl.ret C0 (v := (-1)) (u := ()) (Nat.le_of_ble_eq_true rfl) (Nat.le_of_ble_eq_true rfl) (by show NX E M x.toInt (up = 1) (((-1) : Int64)).toInt; exact Or.inl ⟨by decide, fun h => by have := h.2; omega⟩) hP hD hS [0, 1] (by decide) rfl d_Desk_next_33
