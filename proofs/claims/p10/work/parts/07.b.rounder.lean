set_option maxHeartbeats 4000000 in
set_option maxRecDepth 100000 in
theorem c_Rounder_init (l : Launch) (dC : Nat → ClassId) (dI : Nat → Nat → Nat) (cI cB cJ : ClassId) (h0 : Nat) (z0 : Int64) (z1 : Int32) (z2 : Int32)  : Cv l dC dI cI cB cJ y_Rounder_init w_Rounder_init ({ frames := 2, cells := 4, slots := 26, locals := 32 } : Room) [.ref h0] [(h0, .inr (4, [.null, .null, .long z0, .int z1, .int z2]))] (fun (u : (Nat) × (Nat) × (Nat → Int32) × (Nat) × (Nat) × (Nat → Int32)) => True) (fun u : (Nat) × (Nat) × (Nat → Int32) × (Nat) × (Nat) × (Nat → Int32) => [(h0, .inr (4, [.ref u.1, .ref u.2.2.2.1, .long 0, .int 0, .int 0])), (u.1, .inr (1, [.ref u.2.1])), (u.2.1, .inl (cI, 12, .inl u.2.2.1)), (u.2.2.2.1, .inr (1, [.ref u.2.2.2.2.1])), (u.2.2.2.2.1, .inl (cI, 12, .inl u.2.2.2.2.2))]) := by
  refine Cv.intro (cc := b_Rounder_init) (maxL := 1) (plainFor_of_name (by decide)) rfl (Nat.le_of_ble_eq_true rfl) ?_
  intro p e s m below meth c A ls C0 hin hA hP hD hS hl
  obtain ⟨hx, hb, hml, hown, hts, hr, hlocks, hK, hN⟩ := id C0
  obtain ⟨H, hH⟩ : ∃ H, H = s.heap := ⟨_, rfl⟩
  have hP : va_P (dC, dI) vwCl [(h0, .inr (4, [.null, .null, .long z0, .int z1, .int z2]))] s.heap := hP
  have hl : lv_has ls 1 [(0, .ref h0)] := hl
  suffices h : ∀ (H : Heap) (locs : List Loc), va_P (dC, dI) vwCl [(h0, .inr (4, [.null, .null, .long z0, .int z1, .int z2]))] H → va_D A [(h0, .inr (4, [.null, .null, .long z0, .int z1, .int z2]))] → va_S A s.heap H locs → W p l e ({ frames := 2, cells := 4, slots := 26, locals := 32 } : Room) s m ([.ref h0] : List Value).toArray below meth c H locs 0 0 (MQ below (va_Qv (fun (u : (Nat) × (Nat) × (Nat → Int32) × (Nat) × (Nat) × (Nat → Int32)) => True) (poG dC dI A (fun u : (Nat) × (Nat) × (Nat → Int32) × (Nat) × (Nat) × (Nat → Int32) => [(h0, .inr (4, [.ref u.1, .ref u.2.2.2.1, .long 0, .int 0, .int 0])), (u.1, .inr (1, [.ref u.2.1])), (u.2.1, .inl (cI, 12, .inl u.2.2.1)), (u.2.2.2.1, .inr (1, [.ref u.2.2.2.2.1])), (u.2.2.2.2.1, .inl (cI, 12, .inl u.2.2.2.2.2))])) A) ([.ref h0] : List Value).toArray s 4 26 A) (F0 m 0 ls []) from h _ _ hP hD hS
  clear hP hD hS hH H
  intro H locs hP hD hS
  refine lv_aload_n hx hb d_Rounder_init_0 rfl (lv_at hl 0 rfl) ?_
  refine W.objInit hx hb hown (hts _ m_119) (hts _ m_70) (hts _ m_71) rfl (by rw [hml]; exact hl.1) rfl d_Rounder_init_1 (Nat.le_of_ble_eq_true rfl) (Nat.le_of_ble_eq_true rfl) ?_
  refine W.eq (g2 := F0 m 4 ls []) rfl ?_
  refine lv_aload_n hx hb d_Rounder_init_4 rfl (lv_at hl 0 rfl) ?_
  refine va_new (ci := 1) (fs := [.null]) (C := R_Natural) (T := F_Natural) (N := 1) hx hb hts u_Natural t_Natural t_Natural_ok hown (hts _ m_120) (hts _ m_100) (hts _ m_51) hK hP hD hS hA rfl (fun j hj => by rcases (show j = 0 by omega) with rfl <;> rfl) (Nat.le_of_ble_eq_true rfl) (Nat.le_of_ble_eq_true rfl) d_Rounder_init_5 (fun t1 H hP hD hS => ?_)
  have hP : va_P (dC, dI) vwCl [(h0, .inr (4, [.null, .null, .long z0, .int z1, .int z2])), (t1, .inr (1, [.null]))] H := hP
  have hD : va_D A [(h0, .inr (4, [.null, .null, .long z0, .int z1, .int z2])), (t1, .inr (1, [.null]))] := hD
  refine lv_dup hx hb d_Rounder_init_8 rfl ?_
  refine callI_v (wr := [(h0, .inr (4, [.null, .null, .long z0, .int z1, .int z2]))]) C0 (c_Natural_init l dC dI cI cB cJ (t1)) (cwI 0 hts (gI m_103) rfl rfl rfl (hts _ m_51) (hts _ m_121) (hts _ m_102) rfl (by decide +kernel) ⟨Nat.le_of_ble_eq_true rfl, Nat.le_of_ble_eq_true rfl⟩) hP hD hS hA [1] [0] rfl rfl (by decide) (by decide) (by decide) rfl hl.1 rfl (Nat.le_of_ble_eq_true rfl) d_Rounder_init_9 ⟨Nat.le_of_ble_eq_true rfl, Nat.le_of_ble_eq_true rfl⟩ (fun u9 H locs hw9 hP hD hS => ?_)
  obtain ⟨u1, ft⟩ := u9
  have h9 : nv ft 12 = 0 := hw9
  have hP : va_P (dC, dI) vwCl [(h0, .inr (4, [.null, .null, .long z0, .int z1, .int z2])), (t1, .inr (1, [.ref u1])), (u1, .inl (cI, 12, .inl ft))] H := hP
  have hD : va_D A [(h0, .inr (4, [.null, .null, .long z0, .int z1, .int z2])), (t1, .inr (1, [.ref u1])), (u1, .inl (cI, 12, .inl ft))] := hD
  refine va_putF (D := (dC, dI)) (ci := 4) (v := .ref t1) (ty := .object "DecimalDesk$Natural") (C := R_Rounder) (T := F_Rounder) (N := 5) hx hb hts u_Rounder t_Rounder t_Rounder_ok n_Rounder hown hK hP hD hS 0 rfl rfl 0 (by decide) (hts _ m_122) (fun _ h9 => h9) rfl hin rfl (by decide +kernel) rfl rfl (Nat.le_of_ble_eq_true rfl) d_Rounder_init_12 (fun H locs hP hD hS => ?_)
  have hP : va_P (dC, dI) vwCl [(h0, .inr (4, [.ref t1, .null, .long z0, .int z1, .int z2])), (t1, .inr (1, [.ref u1])), (u1, .inl (cI, 12, .inl ft))] H := hP
  have hD : va_D A [(h0, .inr (4, [.ref t1, .null, .long z0, .int z1, .int z2])), (t1, .inr (1, [.ref u1])), (u1, .inl (cI, 12, .inl ft))] := hD
  refine lv_aload_n hx hb d_Rounder_init_15 rfl (lv_at hl 0 rfl) ?_
  refine va_new (ci := 1) (fs := [.null]) (C := R_Natural) (T := F_Natural) (N := 1) hx hb hts u_Natural t_Natural t_Natural_ok hown (hts _ m_120) (hts _ m_100) (hts _ m_51) hK hP hD hS hA rfl (fun j hj => by rcases (show j = 0 by omega) with rfl <;> rfl) (Nat.le_of_ble_eq_true rfl) (Nat.le_of_ble_eq_true rfl) d_Rounder_init_16 (fun t2 H hP hD hS => ?_)
  have hP : va_P (dC, dI) vwCl [(h0, .inr (4, [.ref t1, .null, .long z0, .int z1, .int z2])), (t1, .inr (1, [.ref u1])), (u1, .inl (cI, 12, .inl ft)), (t2, .inr (1, [.null]))] H := hP
  have hD : va_D A [(h0, .inr (4, [.ref t1, .null, .long z0, .int z1, .int z2])), (t1, .inr (1, [.ref u1])), (u1, .inl (cI, 12, .inl ft)), (t2, .inr (1, [.null]))] := hD
  refine lv_dup hx hb d_Rounder_init_19 rfl ?_
  refine callI_v (wr := [(h0, .inr (4, [.ref t1, .null, .long z0, .int z1, .int z2])), (t1, .inr (1, [.ref u1])), (u1, .inl (cI, 12, .inl ft))]) C0 (c_Natural_init l dC dI cI cB cJ (t2)) (cwI 0 hts (gI m_103) rfl rfl rfl (hts _ m_51) (hts _ m_121) (hts _ m_102) rfl (by decide +kernel) ⟨Nat.le_of_ble_eq_true rfl, Nat.le_of_ble_eq_true rfl⟩) hP hD hS hA [3] [0, 1, 2] rfl rfl (by decide) (by decide) (by decide) rfl hl.1 rfl (Nat.le_of_ble_eq_true rfl) d_Rounder_init_20 ⟨Nat.le_of_ble_eq_true rfl, Nat.le_of_ble_eq_true rfl⟩ (fun u20 H locs hw9 hP hD hS => ?_)
  obtain ⟨u2, fb⟩ := u20
  have h20 : nv fb 12 = 0 := hw9
  have hP : va_P (dC, dI) vwCl [(h0, .inr (4, [.ref t1, .null, .long z0, .int z1, .int z2])), (t1, .inr (1, [.ref u1])), (u1, .inl (cI, 12, .inl ft)), (t2, .inr (1, [.ref u2])), (u2, .inl (cI, 12, .inl fb))] H := hP
  have hD : va_D A [(h0, .inr (4, [.ref t1, .null, .long z0, .int z1, .int z2])), (t1, .inr (1, [.ref u1])), (u1, .inl (cI, 12, .inl ft)), (t2, .inr (1, [.ref u2])), (u2, .inl (cI, 12, .inl fb))] := hD
  refine va_putF (D := (dC, dI)) (ci := 4) (v := .ref t2) (ty := .object "DecimalDesk$Natural") (C := R_Rounder) (T := F_Rounder) (N := 5) hx hb hts u_Rounder t_Rounder t_Rounder_ok n_Rounder hown hK hP hD hS 0 rfl rfl 1 (by decide) (hts _ m_123) (fun _ h9 => h9) rfl hin rfl (by decide +kernel) rfl rfl (Nat.le_of_ble_eq_true rfl) d_Rounder_init_23 (fun H locs hP hD hS => ?_)
  have hP : va_P (dC, dI) vwCl [(h0, .inr (4, [.ref t1, .ref t2, .long z0, .int z1, .int z2])), (t1, .inr (1, [.ref u1])), (u1, .inl (cI, 12, .inl ft)), (t2, .inr (1, [.ref u2])), (u2, .inl (cI, 12, .inl fb))] H := hP
  have hD : va_D A [(h0, .inr (4, [.ref t1, .ref t2, .long z0, .int z1, .int z2])), (t1, .inr (1, [.ref u1])), (u1, .inl (cI, 12, .inl ft)), (t2, .inr (1, [.ref u2])), (u2, .inl (cI, 12, .inl fb))] := hD
  refine lv_aload_n hx hb d_Rounder_init_26 rfl (lv_at hl 0 rfl) ?_
  refine lv_lconst (v := 0) hx hb d_Rounder_init_27 (by decide) ?_
  refine va_put (D := (dC, dI)) (ci := 4) (v := .long 0) (ty := .long) (C := R_Rounder) (T := F_Rounder) (N := 5) hx hb hts u_Rounder t_Rounder t_Rounder_ok n_Rounder hown hK hP hD hS 0 rfl rfl 2 (by decide) (hts _ m_124) (fun _ h9 => h9) rfl (by decide +kernel) rfl rfl (Nat.le_of_ble_eq_true rfl) d_Rounder_init_28 (fun H locs hP hD hS => ?_)
  have hP : va_P (dC, dI) vwCl [(h0, .inr (4, [.ref t1, .ref t2, .long 0, .int z1, .int z2])), (t1, .inr (1, [.ref u1])), (u1, .inl (cI, 12, .inl ft)), (t2, .inr (1, [.ref u2])), (u2, .inl (cI, 12, .inl fb))] H := hP
  have hD : va_D A [(h0, .inr (4, [.ref t1, .ref t2, .long 0, .int z1, .int z2])), (t1, .inr (1, [.ref u1])), (u1, .inl (cI, 12, .inl ft)), (t2, .inr (1, [.ref u2])), (u2, .inl (cI, 12, .inl fb))] := hD
  refine lv_aload_n hx hb d_Rounder_init_31 rfl (lv_at hl 0 rfl) ?_
  refine lv_iconst (v := 0) hx hb d_Rounder_init_32 (by decide) ?_
  refine va_put (D := (dC, dI)) (ci := 4) (v := .int 0) (ty := .boolean) (C := R_Rounder) (T := F_Rounder) (N := 5) hx hb hts u_Rounder t_Rounder t_Rounder_ok n_Rounder hown hK hP hD hS 0 rfl rfl 3 (by decide) (hts _ m_125) (fun _ h9 => h9) rfl (by decide +kernel) rfl rfl (Nat.le_of_ble_eq_true rfl) d_Rounder_init_33 (fun H locs hP hD hS => ?_)
  have hP : va_P (dC, dI) vwCl [(h0, .inr (4, [.ref t1, .ref t2, .long 0, .int 0, .int z2])), (t1, .inr (1, [.ref u1])), (u1, .inl (cI, 12, .inl ft)), (t2, .inr (1, [.ref u2])), (u2, .inl (cI, 12, .inl fb))] H := hP
  have hD : va_D A [(h0, .inr (4, [.ref t1, .ref t2, .long 0, .int 0, .int z2])), (t1, .inr (1, [.ref u1])), (u1, .inl (cI, 12, .inl ft)), (t2, .inr (1, [.ref u2])), (u2, .inl (cI, 12, .inl fb))] := hD
  refine lv_aload_n hx hb d_Rounder_init_36 rfl (lv_at hl 0 rfl) ?_
  refine lv_iconst (v := 0) hx hb d_Rounder_init_37 (by decide) ?_
  refine va_put (D := (dC, dI)) (ci := 4) (v := .int 0) (ty := .boolean) (C := R_Rounder) (T := F_Rounder) (N := 5) hx hb hts u_Rounder t_Rounder t_Rounder_ok n_Rounder hown hK hP hD hS 0 rfl rfl 4 (by decide) (hts _ m_126) (fun _ h9 => h9) rfl (by decide +kernel) rfl rfl (Nat.le_of_ble_eq_true rfl) d_Rounder_init_38 (fun H locs hP hD hS => ?_)
  have hP : va_P (dC, dI) vwCl [(h0, .inr (4, [.ref t1, .ref t2, .long 0, .int 0, .int 0])), (t1, .inr (1, [.ref u1])), (u1, .inl (cI, 12, .inl ft)), (t2, .inr (1, [.ref u2])), (u2, .inl (cI, 12, .inl fb))] H := hP
  have hD : va_D A [(h0, .inr (4, [.ref t1, .ref t2, .long 0, .int 0, .int 0])), (t1, .inr (1, [.ref u1])), (u1, .inl (cI, 12, .inl ft)), (t2, .inr (1, [.ref u2])), (u2, .inl (cI, 12, .inl fb))] := hD
  exact Cv.ret C0 (u := (t1, u1, ft, t2, u2, fb)) (Nat.le_of_ble_eq_true rfl) (Nat.le_of_ble_eq_true rfl) (by show True; trivial) hP hD hS [0, 1, 2, 3, 4] (by decide) rfl d_Rounder_init_41
set_option maxHeartbeats 4000000 in
set_option maxRecDepth 100000 in
theorem c_Rounder_setFraction (l : Launch) (dC : Nat → ClassId) (dI : Nat → Nat → Nat) (cI cB cJ : ClassId) (h0 : Nat) (t1 : Nat) (u1 : Nat) (ft : Nat → Int32) (t2 : Nat) (u2 : Nat) (fb : Nat → Int32) (sz0 : Int64) (ix0 : Int32) (ty0 : Int32) (d0 : Nat) (hn : Nat) (an : Nat) (fd : Nat → Int32) (ng : Int32) (ex0 : Int32) (hDd : nv fd 12 < 10 ^ 40) : Cv l dC dI cI cB cJ y_Rounder_setFraction w_Rounder_setFraction ({ frames := 3, cells := 0, slots := 0, locals := 70 } : Room) [.ref h0, .ref d0] [(h0, .inr (4, [.ref t1, .ref t2, .long sz0, .int ix0, .int ty0])), (t1, .inr (1, [.ref u1])), (u1, .inl (cI, 12, .inl ft)), (t2, .inr (1, [.ref u2])), (u2, .inl (cI, 12, .inl fb)), (d0, .inr (3, [.ref hn, .int ng, .int ex0])), (hn, .inr (1, [.ref an])), (an, .inl (cI, 12, .inl fd))] (fun (u : (Nat → Int32) × (Nat → Int32)) => nv u.1 12 = nv fd 12 * 10 ^ (clX ex0.toInt).toNat ∧ nv u.2 12 = 10 ^ (-(clX ex0.toInt)).toNat) (fun u : (Nat → Int32) × (Nat → Int32) => [(h0, .inr (4, [.ref t1, .ref t2, .long sz0, .int ix0, .int ty0])), (t1, .inr (1, [.ref u1])), (u1, .inl (cI, 12, .inl u.1)), (t2, .inr (1, [.ref u2])), (u2, .inl (cI, 12, .inl u.2)), (d0, .inr (3, [.ref hn, .int ng, .int ex0])), (hn, .inr (1, [.ref an])), (an, .inl (cI, 12, .inl fd))]) := by
  refine Cv.intro (cc := b_Rounder_setFraction) (maxL := 3) (plainFor_of_name (by decide)) rfl (Nat.le_of_ble_eq_true rfl) ?_
  intro p e s m below meth c A ls C0 hin hA hP hD hS hl
  obtain ⟨hx, hb, hml, hown, hts, hr, hlocks, hK, hN⟩ := id C0
  obtain ⟨H, hH⟩ : ∃ H, H = s.heap := ⟨_, rfl⟩
  have hP : va_P (dC, dI) vwCl [(h0, .inr (4, [.ref t1, .ref t2, .long sz0, .int ix0, .int ty0])), (t1, .inr (1, [.ref u1])), (u1, .inl (cI, 12, .inl ft)), (t2, .inr (1, [.ref u2])), (u2, .inl (cI, 12, .inl fb)), (d0, .inr (3, [.ref hn, .int ng, .int ex0])), (hn, .inr (1, [.ref an])), (an, .inl (cI, 12, .inl fd))] s.heap := hP
  have hl : lv_has ls 3 [(0, .ref h0), (1, .ref d0)] := hl
  suffices h : ∀ (H : Heap) (locs : List Loc), va_P (dC, dI) vwCl [(h0, .inr (4, [.ref t1, .ref t2, .long sz0, .int ix0, .int ty0])), (t1, .inr (1, [.ref u1])), (u1, .inl (cI, 12, .inl ft)), (t2, .inr (1, [.ref u2])), (u2, .inl (cI, 12, .inl fb)), (d0, .inr (3, [.ref hn, .int ng, .int ex0])), (hn, .inr (1, [.ref an])), (an, .inl (cI, 12, .inl fd))] H → va_D A [(h0, .inr (4, [.ref t1, .ref t2, .long sz0, .int ix0, .int ty0])), (t1, .inr (1, [.ref u1])), (u1, .inl (cI, 12, .inl ft)), (t2, .inr (1, [.ref u2])), (u2, .inl (cI, 12, .inl fb)), (d0, .inr (3, [.ref hn, .int ng, .int ex0])), (hn, .inr (1, [.ref an])), (an, .inl (cI, 12, .inl fd))] → va_S A s.heap H locs → W p l e ({ frames := 3, cells := 0, slots := 0, locals := 70 } : Room) s m ([.ref h0, .ref d0] : List Value).toArray below meth c H locs 0 0 (MQ below (va_Qv (fun (u : (Nat → Int32) × (Nat → Int32)) => nv u.1 12 = nv fd 12 * 10 ^ (clX ex0.toInt).toNat ∧ nv u.2 12 = 10 ^ (-(clX ex0.toInt)).toNat) (poG dC dI A (fun u : (Nat → Int32) × (Nat → Int32) => [(h0, .inr (4, [.ref t1, .ref t2, .long sz0, .int ix0, .int ty0])), (t1, .inr (1, [.ref u1])), (u1, .inl (cI, 12, .inl u.1)), (t2, .inr (1, [.ref u2])), (u2, .inl (cI, 12, .inl u.2)), (d0, .inr (3, [.ref hn, .int ng, .int ex0])), (hn, .inr (1, [.ref an])), (an, .inl (cI, 12, .inl fd))])) A) ([.ref h0, .ref d0] : List Value).toArray s 0 0 A) (F0 m 0 ls []) from h _ _ hP hD hS
  clear hP hD hS hH H
  intro H locs hP hD hS
  refine lv_aload_n hx hb d_Rounder_setFraction_0 rfl (lv_at hl 1 rfl) ?_
  refine va_getN (D := (dC, dI)) (ci := 3) (v := .int ex0) (C := R_Decimal) (T := F_Decimal) (N := 3) hx hb hts u_Decimal hown hK hP 5 rfl rfl 2 (by decide) (va_Nw.use rfl (hN _ nest_6)) (fun _ h9 => h9) rfl d_Rounder_setFraction_1 ?_
  refine lv_bipush (v := (-90)) hx hb d_Rounder_setFraction_4 (by decide) ?_
  refine callS_i (wr := [(h0, .inr (4, [.ref t1, .ref t2, .long sz0, .int ix0, .int ty0])), (t1, .inr (1, [.ref u1])), (u1, .inl (cI, 12, .inl ft)), (t2, .inr (1, [.ref u2])), (u2, .inl (cI, 12, .inl fb)), (d0, .inr (3, [.ref hn, .int ng, .int ex0])), (hn, .inr (1, [.ref an])), (an, .inl (cI, 12, .inl fd))]) C0 (c_Math_max l dC dI cI cB cJ (ex0) (((-90) : Int32))) (cwSx 2 hts m_336 m_337 m_60 m_338 (by decide +kernel) ⟨Nat.le_of_ble_eq_true rfl, Nat.le_of_ble_eq_true rfl⟩) hP hD hS hA [] [0, 1, 2, 3, 4, 5, 6, 7] rfl rfl (by decide) (by decide) (by decide) rfl hl.1 rfl (Nat.le_of_ble_eq_true rfl) d_Rounder_setFraction_6 ⟨Nat.le_of_ble_eq_true rfl, Nat.le_of_ble_eq_true rfl⟩ (fun r6 u6 H locs hw9 hP hD hS => ?_)
  have h6 : r6.toInt = max ex0.toInt (((-90) : Int32)).toInt := hw9
  have hP : va_P (dC, dI) vwCl [(h0, .inr (4, [.ref t1, .ref t2, .long sz0, .int ix0, .int ty0])), (t1, .inr (1, [.ref u1])), (u1, .inl (cI, 12, .inl ft)), (t2, .inr (1, [.ref u2])), (u2, .inl (cI, 12, .inl fb)), (d0, .inr (3, [.ref hn, .int ng, .int ex0])), (hn, .inr (1, [.ref an])), (an, .inl (cI, 12, .inl fd))] H := hP
  have hD : va_D A [(h0, .inr (4, [.ref t1, .ref t2, .long sz0, .int ix0, .int ty0])), (t1, .inr (1, [.ref u1])), (u1, .inl (cI, 12, .inl ft)), (t2, .inr (1, [.ref u2])), (u2, .inl (cI, 12, .inl fb)), (d0, .inr (3, [.ref hn, .int ng, .int ex0])), (hn, .inr (1, [.ref an])), (an, .inl (cI, 12, .inl fd))] := hD
  have t6 : r6.toInt = max ex0.toInt (-90) := by rw [h6]; rfl
  refine lv_bipush (v := 40) hx hb d_Rounder_setFraction_9 (by decide) ?_
  refine callS_i (wr := [(h0, .inr (4, [.ref t1, .ref t2, .long sz0, .int ix0, .int ty0])), (t1, .inr (1, [.ref u1])), (u1, .inl (cI, 12, .inl ft)), (t2, .inr (1, [.ref u2])), (u2, .inl (cI, 12, .inl fb)), (d0, .inr (3, [.ref hn, .int ng, .int ex0])), (hn, .inr (1, [.ref an])), (an, .inl (cI, 12, .inl fd))]) C0 (c_Math_min l dC dI cI cB cJ (r6) ((40 : Int32))) (cwSx 2 hts m_339 m_340 m_60 m_341 (by decide +kernel) ⟨Nat.le_of_ble_eq_true rfl, Nat.le_of_ble_eq_true rfl⟩) hP hD hS hA [] [0, 1, 2, 3, 4, 5, 6, 7] rfl rfl (by decide) (by decide) (by decide) rfl hl.1 rfl (Nat.le_of_ble_eq_true rfl) d_Rounder_setFraction_11 ⟨Nat.le_of_ble_eq_true rfl, Nat.le_of_ble_eq_true rfl⟩ (fun r11 u11 H locs hw9 hP hD hS => ?_)
  have h11 : r11.toInt = min r6.toInt (40 : Int32).toInt := hw9
  have hP : va_P (dC, dI) vwCl [(h0, .inr (4, [.ref t1, .ref t2, .long sz0, .int ix0, .int ty0])), (t1, .inr (1, [.ref u1])), (u1, .inl (cI, 12, .inl ft)), (t2, .inr (1, [.ref u2])), (u2, .inl (cI, 12, .inl fb)), (d0, .inr (3, [.ref hn, .int ng, .int ex0])), (hn, .inr (1, [.ref an])), (an, .inl (cI, 12, .inl fd))] H := hP
  have hD : va_D A [(h0, .inr (4, [.ref t1, .ref t2, .long sz0, .int ix0, .int ty0])), (t1, .inr (1, [.ref u1])), (u1, .inl (cI, 12, .inl ft)), (t2, .inr (1, [.ref u2])), (u2, .inl (cI, 12, .inl fb)), (d0, .inr (3, [.ref hn, .int ng, .int ex0])), (hn, .inr (1, [.ref an])), (an, .inl (cI, 12, .inl fd))] := hD
  have hcl : clX ex0.toInt = min (max ex0.toInt (-90)) 40 := rfl
  have t11 : r11.toInt = clX ex0.toInt := by rw [h11, t6]; rfl
  refine lv_istore_n (lv' := [(2, .int r11), (0, .ref h0), (1, .ref d0)]) hx hb d_Rounder_setFraction_14 rfl hl (by decide) rfl (fun ls hl => ?_)
  refine lv_aload_n hx hb d_Rounder_setFraction_15 rfl (lv_at hl 1 rfl) ?_
  refine va_get (D := (dC, dI)) (ci := 4) (v := .ref t1) (C := R_Rounder) (T := F_Rounder) (N := 5) hx hb hts u_Rounder hown hK hP 0 rfl rfl 0 (by decide) (hts _ m_122) (fun _ h9 => h9) rfl d_Rounder_setFraction_16 ?_
  refine lv_aload_n hx hb d_Rounder_setFraction_19 rfl (lv_at hl 2 rfl) ?_
  refine va_getN (D := (dC, dI)) (ci := 3) (v := .ref hn) (C := R_Decimal) (T := F_Decimal) (N := 3) hx hb hts u_Decimal hown hK hP 5 rfl rfl 0 (by decide) (va_Nw.use rfl (hN _ nest_3)) (fun _ h9 => h9) rfl d_Rounder_setFraction_20 ?_
  refine callV_v (wr := [(h0, .inr (4, [.ref t1, .ref t2, .long sz0, .int ix0, .int ty0])), (t2, .inr (1, [.ref u2])), (u2, .inl (cI, 12, .inl fb)), (d0, .inr (3, [.ref hn, .int ng, .int ex0]))]) C0 (c_Natural_copy l dC dI cI cB cJ (t1) (u1) (ft) (hn) (an) (fd)) (cwV 1 hts (gV m_342 m_343 m_344 m_51 m_345) rfl rfl rfl (by decide +kernel) ⟨Nat.le_of_ble_eq_true rfl, Nat.le_of_ble_eq_true rfl⟩) 1 rfl rfl 0 rfl hP hD hS hA [1, 2, 6, 7] [0, 3, 4, 5] rfl rfl (by decide) (by decide) (by decide) rfl hl.1 rfl (Nat.le_of_ble_eq_true rfl) d_Rounder_setFraction_23 ⟨Nat.le_of_ble_eq_true rfl, Nat.le_of_ble_eq_true rfl⟩ (fun k23 H locs hw9 hP hD hS => ?_)
  have h23 : nv k23 12 = nv fd 12 := hw9
  have hP : va_P (dC, dI) vwCl [(h0, .inr (4, [.ref t1, .ref t2, .long sz0, .int ix0, .int ty0])), (t2, .inr (1, [.ref u2])), (u2, .inl (cI, 12, .inl fb)), (d0, .inr (3, [.ref hn, .int ng, .int ex0])), (t1, .inr (1, [.ref u1])), (u1, .inl (cI, 12, .inl k23)), (hn, .inr (1, [.ref an])), (an, .inl (cI, 12, .inl fd))] H := hP
  have hD : va_D A [(h0, .inr (4, [.ref t1, .ref t2, .long sz0, .int ix0, .int ty0])), (t2, .inr (1, [.ref u2])), (u2, .inl (cI, 12, .inl fb)), (d0, .inr (3, [.ref hn, .int ng, .int ex0])), (t1, .inr (1, [.ref u1])), (u1, .inl (cI, 12, .inl k23)), (hn, .inr (1, [.ref an])), (an, .inl (cI, 12, .inl fd))] := hD
  refine lv_aload_n hx hb d_Rounder_setFraction_26 rfl (lv_at hl 1 rfl) ?_
  refine va_get (D := (dC, dI)) (ci := 4) (v := .ref t2) (C := R_Rounder) (T := F_Rounder) (N := 5) hx hb hts u_Rounder hown hK hP 0 rfl rfl 1 (by decide) (hts _ m_123) (fun _ h9 => h9) rfl d_Rounder_setFraction_27 ?_
  refine lv_lconst (v := 1) hx hb d_Rounder_setFraction_30 (by decide) ?_
  refine callV_v (wr := [(h0, .inr (4, [.ref t1, .ref t2, .long sz0, .int ix0, .int ty0])), (d0, .inr (3, [.ref hn, .int ng, .int ex0])), (t1, .inr (1, [.ref u1])), (u1, .inl (cI, 12, .inl k23)), (hn, .inr (1, [.ref an])), (an, .inl (cI, 12, .inl fd))]) C0 (c_Natural_set l dC dI cI cB cJ (t2) (u2) (fb) ((1 : Int64))) (cwV 1 hts (gV m_346 m_256 m_257 m_51 m_258) rfl rfl rfl (by decide +kernel) ⟨Nat.le_of_ble_eq_true rfl, Nat.le_of_ble_eq_true rfl⟩) 1 rfl rfl 0 rfl hP hD hS hA [1, 2] [0, 3, 4, 5, 6, 7] rfl rfl (by decide) (by decide) (by decide) rfl hl.1 rfl (Nat.le_of_ble_eq_true rfl) d_Rounder_setFraction_31 ⟨Nat.le_of_ble_eq_true rfl, Nat.le_of_ble_eq_true rfl⟩ (fun k31 H locs hw9 hP hD hS => ?_)
  have h31 : nv k31 12 = ul (1 : Int64) := hw9
  have hP : va_P (dC, dI) vwCl [(h0, .inr (4, [.ref t1, .ref t2, .long sz0, .int ix0, .int ty0])), (d0, .inr (3, [.ref hn, .int ng, .int ex0])), (t1, .inr (1, [.ref u1])), (u1, .inl (cI, 12, .inl k23)), (hn, .inr (1, [.ref an])), (an, .inl (cI, 12, .inl fd)), (t2, .inr (1, [.ref u2])), (u2, .inl (cI, 12, .inl k31))] H := hP
  have hD : va_D A [(h0, .inr (4, [.ref t1, .ref t2, .long sz0, .int ix0, .int ty0])), (d0, .inr (3, [.ref hn, .int ng, .int ex0])), (t1, .inr (1, [.ref u1])), (u1, .inl (cI, 12, .inl k23)), (hn, .inr (1, [.ref an])), (an, .inl (cI, 12, .inl fd)), (t2, .inr (1, [.ref u2])), (u2, .inl (cI, 12, .inl k31))] := hD
  refine lv_iload_n hx hb d_Rounder_setFraction_34 rfl (lv_at hl 0 rfl) ?_
  refine lv_if_lt (tgt := 49) hx hb d_Rounder_setFraction_35 (by decide) (fun b35 => ?_) (fun b35 => ?_)
  · skip
    rw [q_ilt t11 (show (0 : Int32).toInt = 0 by decide)] at b35
    refine lv_aload_n hx hb d_Rounder_setFraction_49 rfl (lv_at hl 1 rfl) ?_
    refine va_get (D := (dC, dI)) (ci := 4) (v := .ref t2) (C := R_Rounder) (T := F_Rounder) (N := 5) hx hb hts u_Rounder hown hK hP 0 rfl rfl 1 (by decide) (hts _ m_123) (fun _ h9 => h9) rfl d_Rounder_setFraction_50 ?_
    refine lv_iload_n hx hb d_Rounder_setFraction_53 rfl (lv_at hl 0 rfl) ?_
    refine lv_ineg hx hb d_Rounder_setFraction_54 ?_
    refine lv_topi (fun v54 e54 => ?_)
    have t54 : v54.toInt = -(clX ex0.toInt) := by rw [e54]; exact q_ineg t11 (by omega)
    refine callV_v (wr := [(h0, .inr (4, [.ref t1, .ref t2, .long sz0, .int ix0, .int ty0])), (d0, .inr (3, [.ref hn, .int ng, .int ex0])), (t1, .inr (1, [.ref u1])), (u1, .inl (cI, 12, .inl k23)), (hn, .inr (1, [.ref an])), (an, .inl (cI, 12, .inl fd))]) C0 (c_Natural_timesPowerOfTen l dC dI cI cB cJ (t2) (u2) (k31) (v54) ((-(clX ex0.toInt)).toNat) (by exact t54.trans (by omega))) (cwV 1 hts (gV m_347 m_348 m_349 m_51 m_350) rfl rfl rfl (by decide +kernel) ⟨Nat.le_of_ble_eq_true rfl, Nat.le_of_ble_eq_true rfl⟩) 1 rfl rfl 0 rfl hP hD hS hA [6, 7] [0, 1, 2, 3, 4, 5] rfl rfl (by decide) (by decide) (by decide) rfl hl.1 rfl (Nat.le_of_ble_eq_true rfl) d_Rounder_setFraction_55 ⟨Nat.le_of_ble_eq_true rfl, Nat.le_of_ble_eq_true rfl⟩ (fun k55 H locs hw9 hP hD hS => ?_)
    have h55 : nv k55 12 = nv k31 12 * 10 ^ ((-(clX ex0.toInt)).toNat) % 2 ^ (32 * 12) := hw9
    have hP : va_P (dC, dI) vwCl [(h0, .inr (4, [.ref t1, .ref t2, .long sz0, .int ix0, .int ty0])), (d0, .inr (3, [.ref hn, .int ng, .int ex0])), (t1, .inr (1, [.ref u1])), (u1, .inl (cI, 12, .inl k23)), (hn, .inr (1, [.ref an])), (an, .inl (cI, 12, .inl fd)), (t2, .inr (1, [.ref u2])), (u2, .inl (cI, 12, .inl k55))] H := hP
    have hD : va_D A [(h0, .inr (4, [.ref t1, .ref t2, .long sz0, .int ix0, .int ty0])), (d0, .inr (3, [.ref hn, .int ng, .int ex0])), (t1, .inr (1, [.ref u1])), (u1, .inl (cI, 12, .inl k23)), (hn, .inr (1, [.ref an])), (an, .inl (cI, 12, .inl fd)), (t2, .inr (1, [.ref u2])), (u2, .inl (cI, 12, .inl k55))] := hD
    exact Cv.ret C0 (u := (k23, k55)) (Nat.le_of_ble_eq_true rfl) (Nat.le_of_ble_eq_true rfl) (by show nv k23 12 = nv fd 12 * 10 ^ (clX ex0.toInt).toNat ∧ nv k55 12 = 10 ^ (-(clX ex0.toInt)).toNat; exact ⟨by rw [h23, show (clX ex0.toInt).toNat = 0 by omega, Nat.pow_zero, Nat.mul_one], by rw [h55, h31, show ul 1 = 1 by decide, Nat.one_mul, m384 (Nat.lt_of_le_of_lt (Nat.pow_le_pow_right (by decide) (show (-(clX ex0.toInt)).toNat ≤ 90 by omega)) p10_90) (by decide)]⟩) hP hD hS [0, 2, 3, 6, 7, 1, 4, 5] (by decide) rfl d_Rounder_setFraction_58
  · skip
    rw [q_ilt t11 (show (0 : Int32).toInt = 0 by decide)] at b35
    refine lv_aload_n hx hb d_Rounder_setFraction_38 rfl (lv_at hl 1 rfl) ?_
    refine va_get (D := (dC, dI)) (ci := 4) (v := .ref t1) (C := R_Rounder) (T := F_Rounder) (N := 5) hx hb hts u_Rounder hown hK hP 0 rfl rfl 0 (by decide) (hts _ m_122) (fun _ h9 => h9) rfl d_Rounder_setFraction_39 ?_
    refine lv_iload_n hx hb d_Rounder_setFraction_42 rfl (lv_at hl 0 rfl) ?_
    refine callV_v (wr := [(h0, .inr (4, [.ref t1, .ref t2, .long sz0, .int ix0, .int ty0])), (d0, .inr (3, [.ref hn, .int ng, .int ex0])), (hn, .inr (1, [.ref an])), (an, .inl (cI, 12, .inl fd)), (t2, .inr (1, [.ref u2])), (u2, .inl (cI, 12, .inl k31))]) C0 (c_Natural_timesPowerOfTen l dC dI cI cB cJ (t1) (u1) (k23) (r11) ((clX ex0.toInt).toNat) (by exact t11.trans (by omega))) (cwV 1 hts (gV m_347 m_348 m_349 m_51 m_350) rfl rfl rfl (by decide +kernel) ⟨Nat.le_of_ble_eq_true rfl, Nat.le_of_ble_eq_true rfl⟩) 1 rfl rfl 0 rfl hP hD hS hA [2, 3] [0, 1, 4, 5, 6, 7] rfl rfl (by decide) (by decide) (by decide) rfl hl.1 rfl (Nat.le_of_ble_eq_true rfl) d_Rounder_setFraction_43 ⟨Nat.le_of_ble_eq_true rfl, Nat.le_of_ble_eq_true rfl⟩ (fun k43 H locs hw9 hP hD hS => ?_)
    have h43 : nv k43 12 = nv k23 12 * 10 ^ ((clX ex0.toInt).toNat) % 2 ^ (32 * 12) := hw9
    have hP : va_P (dC, dI) vwCl [(h0, .inr (4, [.ref t1, .ref t2, .long sz0, .int ix0, .int ty0])), (d0, .inr (3, [.ref hn, .int ng, .int ex0])), (hn, .inr (1, [.ref an])), (an, .inl (cI, 12, .inl fd)), (t2, .inr (1, [.ref u2])), (u2, .inl (cI, 12, .inl k31)), (t1, .inr (1, [.ref u1])), (u1, .inl (cI, 12, .inl k43))] H := hP
    have hD : va_D A [(h0, .inr (4, [.ref t1, .ref t2, .long sz0, .int ix0, .int ty0])), (d0, .inr (3, [.ref hn, .int ng, .int ex0])), (hn, .inr (1, [.ref an])), (an, .inl (cI, 12, .inl fd)), (t2, .inr (1, [.ref u2])), (u2, .inl (cI, 12, .inl k31)), (t1, .inr (1, [.ref u1])), (u1, .inl (cI, 12, .inl k43))] := hD
    refine lv_goto (tgt := 58) hx hb d_Rounder_setFraction_46 (by decide) ?_
    exact Cv.ret C0 (u := (k43, k31)) (Nat.le_of_ble_eq_true rfl) (Nat.le_of_ble_eq_true rfl) (by show nv k43 12 = nv fd 12 * 10 ^ (clX ex0.toInt).toNat ∧ nv k31 12 = 10 ^ (-(clX ex0.toInt)).toNat; exact ⟨by rw [h43, h23, m384 (d10 hDd (by omega)) (by decide)], by rw [h31, show (-(clX ex0.toInt)).toNat = 0 by omega]; rfl⟩) hP hD hS [0, 6, 7, 4, 5, 1, 2, 3] (by decide) rfl d_Rounder_setFraction_58
set_option maxHeartbeats 4000000 in
set_option maxRecDepth 100000 in
theorem L_Rounder_takeBits_5 {p : Program} {l : Launch} {e : Env} {s : State} {m : MethodId} {below : List Frame} {meth : Method} {c : Code} {dC : Nat → ClassId} {dI : Nat → Nat → Nat} {cI cB cJ : ClassId} {A : Nat → Prop} (h0 : Nat) (t1 : Nat) (u1 : Nat) (ft : Nat → Int32) (t2 : Nat) (u2 : Nat) (fb : Nat → Int32) (sz0 : Int64) (ix0 : Int32) (ty0 : Int32) (x : Int32) (C0 : cx dC dI cI cB cJ R_Rounder b_Rounder_takeBits 5 (some .long) p s m ([.ref h0, .int x] : List Value).toArray meth c) (hA : ∀ q : Nat, s.heap.size ≤ q → A q) (hk : nv ft 12 < 2 * nv fb 12) (hk2 : nv fb 12 < 2 ^ 380) (hx30 : x.toInt ≤ 30) : ∀ n : Nat, (∀ (x4 : Int32) (c2 : Int64) (i : Nat) (tk : Nat) (kt : Nat → Int32) (H : Heap) (locs : List Loc) (ls : Array Slot), x.toInt.toNat - i < n → x4.toInt = (i : Int) → c2.toInt = (tk : Int) → x.toInt = x.toInt → (i ≤ x.toInt.toNat) → (nv ft 12 * 2 ^ i = 2 * (tk * nv fb 12) + nv kt 12) → (nv kt 12 < 2 * nv fb 12) → (tk < 2 ^ i) → va_P (dC, dI) vwCl [(h0, .inr (4, [.ref t1, .ref t2, .long sz0, .int ix0, .int ty0])), (t1, .inr (1, [.ref u1])), (u1, .inl (cI, 12, .inl kt)), (t2, .inr (1, [.ref u2])), (u2, .inl (cI, 12, .inl fb))] H → va_D A [(h0, .inr (4, [.ref t1, .ref t2, .long sz0, .int ix0, .int ty0])), (t1, .inr (1, [.ref u1])), (u1, .inl (cI, 12, .inl kt)), (t2, .inr (1, [.ref u2])), (u2, .inl (cI, 12, .inl fb))] → va_S A s.heap H locs → lv_has ls 5 [(4, .int x4), (2, .long c2), (1, .int x), (0, .ref h0)] → W p l e ({ frames := 1, cells := 0, slots := 0, locals := 25 } : Room) s m ([.ref h0, .int x] : List Value).toArray below meth c H locs 0 0 (MQ below (va_Ql (fun (r : Int64) (u : (Nat → Int32)) => ∃ tk : Nat, r.toInt = (tk : Int) ∧ nv ft 12 * 2 ^ x.toInt.toNat = 2 * (tk * nv fb 12) + nv u 12 ∧ nv u 12 < 2 * nv fb 12 ∧ tk < 2 ^ x.toInt.toNat) (poG dC dI A (fun u : (Nat → Int32) => [(h0, .inr (4, [.ref t1, .ref t2, .long sz0, .int ix0, .int ty0])), (t1, .inr (1, [.ref u1])), (u1, .inl (cI, 12, .inl u)), (t2, .inr (1, [.ref u2])), (u2, .inl (cI, 12, .inl fb))])) A) ([.ref h0, .int x] : List Value).toArray s 0 0 A) (F0 m 5 ls [])) := by
  obtain ⟨hx, hb, hml, hown, hts, hr, hlocks, hK, hN⟩ := id C0
  intro n
  induction n with
  | zero => exact fun _ _ _ _ _ _ _ _ h0 _ _ _ _ _ _ _ _ _ _ _ => absurd h0 (Nat.not_lt_zero _)
  | succ n ih =>
    intro x4 c2 i tk kt H locs ls hn9 t_x4 t_c2 t_x hi hv hl2 htl hP hD hS hl
    have r_x4 := q_r32 x4
    have r_c2 := q_r64 c2
    have r_x := q_r32 x
    refine lv_iload hx hb d_Rounder_takeBits_5 (lv_at hl 0 rfl) ?_
    refine lv_iload_n hx hb d_Rounder_takeBits_7 rfl (lv_at hl 2 rfl) ?_
    refine lv_icmp_ge (tgt := 59) hx hb d_Rounder_takeBits_8 (by decide) (fun b8 => ?_) (fun b8 => ?_)
    · skip
      rw [q_ile t_x t_x4] at b8
      refine lv_lload_n hx hb d_Rounder_takeBits_59 rfl (lv_at hl 1 rfl) ?_
      have hix : i = x.toInt.toNat := by omega
      subst hix
      exact Cl.ret C0 (v := c2) (u := (kt)) (Nat.le_of_ble_eq_true rfl) (Nat.le_of_ble_eq_true rfl) (by show ∃ tk : Nat, c2.toInt = (tk : Int) ∧ nv ft 12 * 2 ^ x.toInt.toNat = 2 * (tk * nv fb 12) + nv kt 12 ∧ nv kt 12 < 2 * nv fb 12 ∧ tk < 2 ^ x.toInt.toNat; exact ⟨tk, t_c2, hv, hl2, htl⟩) hP hD hS [0, 1, 2, 3, 4] (by decide) rfl d_Rounder_takeBits_60
    · skip
      rw [q_ile t_x t_x4] at b8
      refine lv_lload_n hx hb d_Rounder_takeBits_11 rfl (lv_at hl 1 rfl) ?_
      refine lv_iconst (v := 1) hx hb d_Rounder_takeBits_12 (by decide) ?_
      have hp30 : 2 ^ i ≤ 2 ^ 30 := Nat.pow_le_pow_right (by decide) (by omega)
      refine lv_lshl hx hb d_Rounder_takeBits_13 rfl ?_
      refine lv_topl (fun v13 e13 => ?_)
      have t13 : v13.toInt = ((tk * 2 ^ 1 : Nat) : Int) := by rw [e13]; exact q_lshl t_c2 (by decide) (by decide) (by omega)
      refine lv_lstore_n (lv' := [(2, .long v13), (4, .int x4), (1, .int x), (0, .ref h0)]) hx hb d_Rounder_takeBits_14 rfl hl (by decide) rfl (fun ls hl => ?_)
      refine lv_aload_n hx hb d_Rounder_takeBits_15 rfl (lv_at hl 3 rfl) ?_
      refine va_get (D := (dC, dI)) (ci := 4) (v := .ref t1) (C := R_Rounder) (T := F_Rounder) (N := 5) hx hb hts u_Rounder hown hK hP 0 rfl rfl 0 (by decide) (hts _ m_122) (fun _ h9 => h9) rfl d_Rounder_takeBits_16 ?_
      refine lv_aload_n hx hb d_Rounder_takeBits_19 rfl (lv_at hl 3 rfl) ?_
      refine va_get (D := (dC, dI)) (ci := 4) (v := .ref t2) (C := R_Rounder) (T := F_Rounder) (N := 5) hx hb hts u_Rounder hown hK hP 0 rfl rfl 1 (by decide) (hts _ m_123) (fun _ h9 => h9) rfl d_Rounder_takeBits_20 ?_
      refine callV_i (wr := [(h0, .inr (4, [.ref t1, .ref t2, .long sz0, .int ix0, .int ty0]))]) C0 (c_Natural_against l dC dI cI cB cJ (t1) (u1) (kt) (t2) (u2) (fb)) (cwV 1 hts (gV m_376 m_377 m_378 m_51 m_379) rfl rfl rfl (by decide +kernel) ⟨Nat.le_of_ble_eq_true rfl, Nat.le_of_ble_eq_true rfl⟩) 1 rfl rfl 0 rfl hP hD hS hA [1, 2, 3, 4] [0] rfl rfl (by decide) (by decide) (by decide) rfl hl.1 rfl (Nat.le_of_ble_eq_true rfl) d_Rounder_takeBits_23 ⟨Nat.le_of_ble_eq_true rfl, Nat.le_of_ble_eq_true rfl⟩ (fun r23 u23 H locs hw9 hP hD hS => ?_)
      have h23 : (nv kt 12 < nv fb 12 ∧ r23 = -1) ∨ (nv kt 12 = nv fb 12 ∧ r23 = 0) ∨ (nv fb 12 < nv kt 12 ∧ r23 = 1) := hw9
      have hP : va_P (dC, dI) vwCl [(h0, .inr (4, [.ref t1, .ref t2, .long sz0, .int ix0, .int ty0])), (t1, .inr (1, [.ref u1])), (u1, .inl (cI, 12, .inl kt)), (t2, .inr (1, [.ref u2])), (u2, .inl (cI, 12, .inl fb))] H := hP
      have hD : va_D A [(h0, .inr (4, [.ref t1, .ref t2, .long sz0, .int ix0, .int ty0])), (t1, .inr (1, [.ref u1])), (u1, .inl (cI, 12, .inl kt)), (t2, .inr (1, [.ref u2])), (u2, .inl (cI, 12, .inl fb))] := hD
      refine lv_if_lt (tgt := 44) hx hb d_Rounder_takeBits_26 (by decide) (fun b26 => ?_) (fun b26 => ?_)
      · skip
        refine lv_aload_n hx hb d_Rounder_takeBits_44 rfl (lv_at hl 3 rfl) ?_
        refine va_get (D := (dC, dI)) (ci := 4) (v := .ref t1) (C := R_Rounder) (T := F_Rounder) (N := 5) hx hb hts u_Rounder hown hK hP 0 rfl rfl 0 (by decide) (hts _ m_122) (fun _ h9 => h9) rfl d_Rounder_takeBits_45 ?_
        refine lv_iconst (v := 2) hx hb d_Rounder_takeBits_48 (by decide) ?_
        refine lv_iconst (v := 0) hx hb d_Rounder_takeBits_49 (by decide) ?_
        refine callV_v (wr := [(h0, .inr (4, [.ref t1, .ref t2, .long sz0, .int ix0, .int ty0])), (t2, .inr (1, [.ref u2])), (u2, .inl (cI, 12, .inl fb))]) C0 (c_Natural_timesPlus l dC dI cI cB cJ (t1) (u1) (kt) ((2 : Int32)) ((0 : Int32)) (by decide) (by decide)) (cwV 2 hts (gV m_380 m_270 m_271 m_51 m_272) rfl rfl rfl (by decide +kernel) ⟨Nat.le_of_ble_eq_true rfl, Nat.le_of_ble_eq_true rfl⟩) 1 rfl rfl 0 rfl hP hD hS hA [1, 2] [0, 3, 4] rfl rfl (by decide) (by decide) (by decide) rfl hl.1 rfl (Nat.le_of_ble_eq_true rfl) d_Rounder_takeBits_50 ⟨Nat.le_of_ble_eq_true rfl, Nat.le_of_ble_eq_true rfl⟩ (fun k50 H locs hw9 hP hD hS => ?_)
        have h50 : nv k50 12 = (nv kt 12 * uw (2 : Int32) + uw (0 : Int32)) % 2 ^ (32 * 12) := hw9
        have hP : va_P (dC, dI) vwCl [(h0, .inr (4, [.ref t1, .ref t2, .long sz0, .int ix0, .int ty0])), (t2, .inr (1, [.ref u2])), (u2, .inl (cI, 12, .inl fb)), (t1, .inr (1, [.ref u1])), (u1, .inl (cI, 12, .inl k50))] H := hP
        have hD : va_D A [(h0, .inr (4, [.ref t1, .ref t2, .long sz0, .int ix0, .int ty0])), (t2, .inr (1, [.ref u2])), (u2, .inl (cI, 12, .inl fb)), (t1, .inr (1, [.ref u1])), (u1, .inl (cI, 12, .inl k50))] := hD
        obtain ⟨v53, e53⟩ : ∃ y : Int32, y = x4 + 1 := ⟨_, rfl⟩
        have t53 : v53.toInt = (i : Int) + 1 := by rw [e53]; exact q_iadd t_x4 (show (1 : Int32).toInt = 1 by decide) (by omega)
        refine lv_iinc (v := v53) (lv' := [(4, .int v53), (2, .long v13), (1, .int x), (0, .ref h0)]) hx hb d_Rounder_takeBits_53 hl (k := 1) rfl (by rw [e53]; rfl) (by decide) rfl (fun ls hl => ?_)
        refine lv_goto (tgt := 5) hx hb d_Rounder_takeBits_56 (by decide) ?_
        have hlt : nv kt 12 < nv fb 12 := h23.elim (fun h => h.1) (fun h => h.elim (fun h => by rw [h.2] at b26; exact absurd b26 (by decide)) (fun h => by rw [h.2] at b26; exact absurd b26 (by decide)))
        have k50v : nv k50 12 = 2 * nv kt 12 := by
          rw [h50, show uw 2 = 2 by decide, show uw 0 = 0 by decide, Nat.add_zero, m384 (b := 381) (by rw [show (381 : Nat) = 380 + 1 from rfl, Nat.pow_succ]; omega) (by decide), Nat.mul_comm]
        exact ih (v53) (v13) (i + 1) (tk * 2 ^ 1) (k50) H locs ls (by omega) ((t53).trans (by omega)) ((t13).trans (by omega)) ((t_x).trans (by omega)) (by omega) (by rw [k50v, Nat.pow_succ, ← Nat.mul_assoc, hv, Nat.pow_one, Nat.mul_right_comm tk]; omega) (by omega) (by rw [Nat.pow_succ]; omega) (va_Psub hP [0, 3, 4, 1, 2] rfl) (hD.sub [0, 3, 4, 1, 2] (by decide) rfl) hS (lv_sub hl [0, 1, 2, 3] rfl)
      · skip
        refine lv_aload_n hx hb d_Rounder_takeBits_29 rfl (lv_at hl 3 rfl) ?_
        refine va_get (D := (dC, dI)) (ci := 4) (v := .ref t1) (C := R_Rounder) (T := F_Rounder) (N := 5) hx hb hts u_Rounder hown hK hP 0 rfl rfl 0 (by decide) (hts _ m_122) (fun _ h9 => h9) rfl d_Rounder_takeBits_30 ?_
        refine lv_aload_n hx hb d_Rounder_takeBits_33 rfl (lv_at hl 3 rfl) ?_
        refine va_get (D := (dC, dI)) (ci := 4) (v := .ref t2) (C := R_Rounder) (T := F_Rounder) (N := 5) hx hb hts u_Rounder hown hK hP 0 rfl rfl 1 (by decide) (hts _ m_123) (fun _ h9 => h9) rfl d_Rounder_takeBits_34 ?_
        have hge : nv fb 12 ≤ nv kt 12 := h23.elim (fun h => by rw [h.2] at b26; exact absurd b26 (by decide)) (fun h => h.elim (fun h => by omega) (fun h => by omega))
        refine callV_v (wr := [(h0, .inr (4, [.ref t1, .ref t2, .long sz0, .int ix0, .int ty0]))]) C0 (c_Natural_subtract l dC dI cI cB cJ (t1) (u1) (kt) (t2) (u2) (fb) (by exact hge)) (cwV 1 hts (gV m_392 m_393 m_394 m_51 m_395) rfl rfl rfl (by decide +kernel) ⟨Nat.le_of_ble_eq_true rfl, Nat.le_of_ble_eq_true rfl⟩) 1 rfl rfl 0 rfl hP hD hS hA [1, 2, 3, 4] [0] rfl rfl (by decide) (by decide) (by decide) rfl hl.1 rfl (Nat.le_of_ble_eq_true rfl) d_Rounder_takeBits_37 ⟨Nat.le_of_ble_eq_true rfl, Nat.le_of_ble_eq_true rfl⟩ (fun k37 H locs hw9 hP hD hS => ?_)
        have h37 : nv k37 12 = nv kt 12 - nv fb 12 := hw9
        have hP : va_P (dC, dI) vwCl [(h0, .inr (4, [.ref t1, .ref t2, .long sz0, .int ix0, .int ty0])), (t1, .inr (1, [.ref u1])), (u1, .inl (cI, 12, .inl k37)), (t2, .inr (1, [.ref u2])), (u2, .inl (cI, 12, .inl fb))] H := hP
        have hD : va_D A [(h0, .inr (4, [.ref t1, .ref t2, .long sz0, .int ix0, .int ty0])), (t1, .inr (1, [.ref u1])), (u1, .inl (cI, 12, .inl k37)), (t2, .inr (1, [.ref u2])), (u2, .inl (cI, 12, .inl fb))] := hD
        refine lv_lload_n hx hb d_Rounder_takeBits_40 rfl (lv_at hl 0 rfl) ?_
        refine lv_lconst (v := 1) hx hb d_Rounder_takeBits_41 (by decide) ?_
        refine lv_ladd hx hb d_Rounder_takeBits_42 ?_
        refine lv_topl (fun v42 e42 => ?_)
        have t42 : v42.toInt = (((tk * 2 ^ 1 : Nat) : Int)) + 1 := by rw [e42]; exact q_ladd t13 (show (1 : Int64).toInt = 1 by decide) (by omega)
        refine lv_lstore_n (lv' := [(2, .long v42), (4, .int x4), (1, .int x), (0, .ref h0)]) hx hb d_Rounder_takeBits_43 rfl hl (by decide) rfl (fun ls hl => ?_)
        refine lv_aload_n hx hb d_Rounder_takeBits_44 rfl (lv_at hl 3 rfl) ?_
        refine va_get (D := (dC, dI)) (ci := 4) (v := .ref t1) (C := R_Rounder) (T := F_Rounder) (N := 5) hx hb hts u_Rounder hown hK hP 0 rfl rfl 0 (by decide) (hts _ m_122) (fun _ h9 => h9) rfl d_Rounder_takeBits_45 ?_
        refine lv_iconst (v := 2) hx hb d_Rounder_takeBits_48 (by decide) ?_
        refine lv_iconst (v := 0) hx hb d_Rounder_takeBits_49 (by decide) ?_
        refine callV_v (wr := [(h0, .inr (4, [.ref t1, .ref t2, .long sz0, .int ix0, .int ty0])), (t2, .inr (1, [.ref u2])), (u2, .inl (cI, 12, .inl fb))]) C0 (c_Natural_timesPlus l dC dI cI cB cJ (t1) (u1) (k37) ((2 : Int32)) ((0 : Int32)) (by decide) (by decide)) (cwV 2 hts (gV m_380 m_270 m_271 m_51 m_272) rfl rfl rfl (by decide +kernel) ⟨Nat.le_of_ble_eq_true rfl, Nat.le_of_ble_eq_true rfl⟩) 1 rfl rfl 0 rfl hP hD hS hA [1, 2] [0, 3, 4] rfl rfl (by decide) (by decide) (by decide) rfl hl.1 rfl (Nat.le_of_ble_eq_true rfl) d_Rounder_takeBits_50 ⟨Nat.le_of_ble_eq_true rfl, Nat.le_of_ble_eq_true rfl⟩ (fun k50 H locs hw9 hP hD hS => ?_)
        have h50 : nv k50 12 = (nv k37 12 * uw (2 : Int32) + uw (0 : Int32)) % 2 ^ (32 * 12) := hw9
        have hP : va_P (dC, dI) vwCl [(h0, .inr (4, [.ref t1, .ref t2, .long sz0, .int ix0, .int ty0])), (t2, .inr (1, [.ref u2])), (u2, .inl (cI, 12, .inl fb)), (t1, .inr (1, [.ref u1])), (u1, .inl (cI, 12, .inl k50))] H := hP
        have hD : va_D A [(h0, .inr (4, [.ref t1, .ref t2, .long sz0, .int ix0, .int ty0])), (t2, .inr (1, [.ref u2])), (u2, .inl (cI, 12, .inl fb)), (t1, .inr (1, [.ref u1])), (u1, .inl (cI, 12, .inl k50))] := hD
        obtain ⟨v53, e53⟩ : ∃ y : Int32, y = x4 + 1 := ⟨_, rfl⟩
        have t53 : v53.toInt = (i : Int) + 1 := by rw [e53]; exact q_iadd t_x4 (show (1 : Int32).toInt = 1 by decide) (by omega)
        refine lv_iinc (v := v53) (lv' := [(4, .int v53), (2, .long v42), (1, .int x), (0, .ref h0)]) hx hb d_Rounder_takeBits_53 hl (k := 1) rfl (by rw [e53]; rfl) (by decide) rfl (fun ls hl => ?_)
        refine lv_goto (tgt := 5) hx hb d_Rounder_takeBits_56 (by decide) ?_
        have k50v : nv k50 12 = 2 * (nv kt 12 - nv fb 12) := by
          rw [h50, h37, show uw 2 = 2 by decide, show uw 0 = 0 by decide, Nat.add_zero, m384 (b := 381) (by rw [show (381 : Nat) = 380 + 1 from rfl, Nat.pow_succ]; omega) (by decide), Nat.mul_comm]
        exact ih (v53) (v42) (i + 1) (tk * 2 ^ 1 + 1) (k50) H locs ls (by omega) ((t53).trans (by omega)) ((t42).trans (by omega)) ((t_x).trans (by omega)) (by omega) (by rw [k50v, Nat.pow_succ, ← Nat.mul_assoc, hv, Nat.pow_one, Nat.add_mul]; exact tb1 hge) (by omega) (by rw [Nat.pow_succ]; omega) (va_Psub hP [0, 3, 4, 1, 2] rfl) (hD.sub [0, 3, 4, 1, 2] (by decide) rfl) hS (lv_sub hl [0, 1, 2, 3] rfl)
set_option maxHeartbeats 4000000 in
set_option maxRecDepth 100000 in
theorem c_Rounder_takeBits (l : Launch) (dC : Nat → ClassId) (dI : Nat → Nat → Nat) (cI cB cJ : ClassId) (h0 : Nat) (t1 : Nat) (u1 : Nat) (ft : Nat → Int32) (t2 : Nat) (u2 : Nat) (fb : Nat → Int32) (sz0 : Int64) (ix0 : Int32) (ty0 : Int32) (x : Int32) (hk : nv ft 12 < 2 * nv fb 12) (hk2 : nv fb 12 < 2 ^ 380) (hx30 : x.toInt ≤ 30) : Cl l dC dI cI cB cJ y_Rounder_takeBits w_Rounder_takeBits ({ frames := 1, cells := 0, slots := 0, locals := 25 } : Room) [.ref h0, .int x] [(h0, .inr (4, [.ref t1, .ref t2, .long sz0, .int ix0, .int ty0])), (t1, .inr (1, [.ref u1])), (u1, .inl (cI, 12, .inl ft)), (t2, .inr (1, [.ref u2])), (u2, .inl (cI, 12, .inl fb))] (fun (r : Int64) (u : (Nat → Int32)) => ∃ tk : Nat, r.toInt = (tk : Int) ∧ nv ft 12 * 2 ^ x.toInt.toNat = 2 * (tk * nv fb 12) + nv u 12 ∧ nv u 12 < 2 * nv fb 12 ∧ tk < 2 ^ x.toInt.toNat) (fun u : (Nat → Int32) => [(h0, .inr (4, [.ref t1, .ref t2, .long sz0, .int ix0, .int ty0])), (t1, .inr (1, [.ref u1])), (u1, .inl (cI, 12, .inl u)), (t2, .inr (1, [.ref u2])), (u2, .inl (cI, 12, .inl fb))]) := by
  refine Cl.intro (cc := b_Rounder_takeBits) (maxL := 5) (plainFor_of_name (by decide)) rfl (Nat.le_of_ble_eq_true rfl) ?_
  intro p e s m below meth c A ls C0 hin hA hP hD hS hl
  obtain ⟨hx, hb, hml, hown, hts, hr, hlocks, hK, hN⟩ := id C0
  obtain ⟨H, hH⟩ : ∃ H, H = s.heap := ⟨_, rfl⟩
  have hP : va_P (dC, dI) vwCl [(h0, .inr (4, [.ref t1, .ref t2, .long sz0, .int ix0, .int ty0])), (t1, .inr (1, [.ref u1])), (u1, .inl (cI, 12, .inl ft)), (t2, .inr (1, [.ref u2])), (u2, .inl (cI, 12, .inl fb))] s.heap := hP
  have hl : lv_has ls 5 [(0, .ref h0), (1, .int x)] := hl
  have r_x := q_r32 x
  suffices h : ∀ (H : Heap) (locs : List Loc), va_P (dC, dI) vwCl [(h0, .inr (4, [.ref t1, .ref t2, .long sz0, .int ix0, .int ty0])), (t1, .inr (1, [.ref u1])), (u1, .inl (cI, 12, .inl ft)), (t2, .inr (1, [.ref u2])), (u2, .inl (cI, 12, .inl fb))] H → va_D A [(h0, .inr (4, [.ref t1, .ref t2, .long sz0, .int ix0, .int ty0])), (t1, .inr (1, [.ref u1])), (u1, .inl (cI, 12, .inl ft)), (t2, .inr (1, [.ref u2])), (u2, .inl (cI, 12, .inl fb))] → va_S A s.heap H locs → W p l e ({ frames := 1, cells := 0, slots := 0, locals := 25 } : Room) s m ([.ref h0, .int x] : List Value).toArray below meth c H locs 0 0 (MQ below (va_Ql (fun (r : Int64) (u : (Nat → Int32)) => ∃ tk : Nat, r.toInt = (tk : Int) ∧ nv ft 12 * 2 ^ x.toInt.toNat = 2 * (tk * nv fb 12) + nv u 12 ∧ nv u 12 < 2 * nv fb 12 ∧ tk < 2 ^ x.toInt.toNat) (poG dC dI A (fun u : (Nat → Int32) => [(h0, .inr (4, [.ref t1, .ref t2, .long sz0, .int ix0, .int ty0])), (t1, .inr (1, [.ref u1])), (u1, .inl (cI, 12, .inl u)), (t2, .inr (1, [.ref u2])), (u2, .inl (cI, 12, .inl fb))])) A) ([.ref h0, .int x] : List Value).toArray s 0 0 A) (F0 m 0 ls []) from h _ _ hP hD hS
  clear hP hD hS hH H
  intro H locs hP hD hS
  refine lv_lconst (v := 0) hx hb d_Rounder_takeBits_0 (by decide) ?_
  refine lv_lstore_n (lv' := [(2, .long 0), (0, .ref h0), (1, .int x)]) hx hb d_Rounder_takeBits_1 rfl hl (by decide) rfl (fun ls hl => ?_)
  refine lv_iconst (v := 0) hx hb d_Rounder_takeBits_2 (by decide) ?_
  refine lv_istore (lv' := [(4, .int 0), (2, .long 0), (0, .ref h0), (1, .int x)]) hx hb d_Rounder_takeBits_3 hl (by decide) rfl (fun ls hl => ?_)
  exact L_Rounder_takeBits_5 (h0) (t1) (u1) (ft) (t2) (u2) (fb) (sz0) (ix0) (ty0) (x) C0 hA (hk) (hk2) (hx30) _ (0) (0) (0) (0) (ft) H locs ls (Nat.lt_succ_self _) (((show (0 : Int32).toInt = 0 by decide)).trans (by omega)) (((show (0 : Int64).toInt = 0 by decide)).trans (by omega)) (((rfl : x.toInt = x.toInt)).trans (by omega)) (by omega) (by rw [Nat.pow_zero, Nat.mul_one]; omega) (by exact hk) (by decide) (va_Psub hP [0, 1, 2, 3, 4] rfl) (hD.sub [0, 1, 2, 3, 4] (by decide) rfl) hS (lv_sub hl [0, 1, 3, 2] rfl)
set_option maxHeartbeats 4000000 in
set_option maxRecDepth 100000 in
theorem c_Rounder_normalise (l : Launch) (dC : Nat → ClassId) (dI : Nat → Nat → Nat) (cI cB cJ : ClassId) (h0 : Nat) (t1 : Nat) (u1 : Nat) (ft : Nat → Int32) (t2 : Nat) (u2 : Nat) (fb : Nat → Int32) (sz0 : Int64) (ix0 : Int32) (ty0 : Int32) (ht0 : 0 < nv ft 12) (hb0 : 0 < nv fb 12) (ht1 : nv ft 12 < 2 ^ 380) (hb1 : nv fb 12 < 2 ^ 380) : Ci l dC dI cI cB cJ y_Rounder_normalise w_Rounder_normalise ({ frames := 2, cells := 0, slots := 0, locals := 49 } : Room) [.ref h0] [(h0, .inr (4, [.ref t1, .ref t2, .long sz0, .int ix0, .int ty0])), (t1, .inr (1, [.ref u1])), (u1, .inl (cI, 12, .inl ft)), (t2, .inr (1, [.ref u2])), (u2, .inl (cI, 12, .inl fb))] (fun (r : Int32) (u : (Nat → Int32) × (Nat → Int32)) => NR (nv ft 12) (nv fb 12) (nv u.1 12) (nv u.2 12) r.toInt) (fun u : (Nat → Int32) × (Nat → Int32) => [(h0, .inr (4, [.ref t1, .ref t2, .long sz0, .int ix0, .int ty0])), (t1, .inr (1, [.ref u1])), (u1, .inl (cI, 12, .inl u.1)), (t2, .inr (1, [.ref u2])), (u2, .inl (cI, 12, .inl u.2))]) := by
  refine Ci.intro (cc := b_Rounder_normalise) (maxL := 2) (plainFor_of_name (by decide)) rfl (Nat.le_of_ble_eq_true rfl) ?_
  intro p e s m below meth c A ls C0 hin hA hP hD hS hl
  obtain ⟨hx, hb, hml, hown, hts, hr, hlocks, hK, hN⟩ := id C0
  obtain ⟨H, hH⟩ : ∃ H, H = s.heap := ⟨_, rfl⟩
  have hP : va_P (dC, dI) vwCl [(h0, .inr (4, [.ref t1, .ref t2, .long sz0, .int ix0, .int ty0])), (t1, .inr (1, [.ref u1])), (u1, .inl (cI, 12, .inl ft)), (t2, .inr (1, [.ref u2])), (u2, .inl (cI, 12, .inl fb))] s.heap := hP
  have hl : lv_has ls 2 [(0, .ref h0)] := hl
  suffices h : ∀ (H : Heap) (locs : List Loc), va_P (dC, dI) vwCl [(h0, .inr (4, [.ref t1, .ref t2, .long sz0, .int ix0, .int ty0])), (t1, .inr (1, [.ref u1])), (u1, .inl (cI, 12, .inl ft)), (t2, .inr (1, [.ref u2])), (u2, .inl (cI, 12, .inl fb))] H → va_D A [(h0, .inr (4, [.ref t1, .ref t2, .long sz0, .int ix0, .int ty0])), (t1, .inr (1, [.ref u1])), (u1, .inl (cI, 12, .inl ft)), (t2, .inr (1, [.ref u2])), (u2, .inl (cI, 12, .inl fb))] → va_S A s.heap H locs → W p l e ({ frames := 2, cells := 0, slots := 0, locals := 49 } : Room) s m ([.ref h0] : List Value).toArray below meth c H locs 0 0 (MQ below (va_Qi (fun (r : Int32) (u : (Nat → Int32) × (Nat → Int32)) => NR (nv ft 12) (nv fb 12) (nv u.1 12) (nv u.2 12) r.toInt) (poG dC dI A (fun u : (Nat → Int32) × (Nat → Int32) => [(h0, .inr (4, [.ref t1, .ref t2, .long sz0, .int ix0, .int ty0])), (t1, .inr (1, [.ref u1])), (u1, .inl (cI, 12, .inl u.1)), (t2, .inr (1, [.ref u2])), (u2, .inl (cI, 12, .inl u.2))])) A) ([.ref h0] : List Value).toArray s 0 0 A) (F0 m 0 ls []) from h _ _ hP hD hS
  clear hP hD hS hH H
  intro H locs hP hD hS
  refine lv_aload_n hx hb d_Rounder_normalise_0 rfl (lv_at hl 0 rfl) ?_
  refine va_get (D := (dC, dI)) (ci := 4) (v := .ref t1) (C := R_Rounder) (T := F_Rounder) (N := 5) hx hb hts u_Rounder hown hK hP 0 rfl rfl 0 (by decide) (hts _ m_122) (fun _ h9 => h9) rfl d_Rounder_normalise_1 ?_
  refine callV_i (wr := [(h0, .inr (4, [.ref t1, .ref t2, .long sz0, .int ix0, .int ty0])), (t2, .inr (1, [.ref u2])), (u2, .inl (cI, 12, .inl fb))]) C0 (c_Natural_bitLength l dC dI cI cB cJ (t1) (u1) (ft)) (cwV 0 hts (gV m_367 m_368 m_369 m_51 m_370) rfl rfl rfl (by decide +kernel) ⟨Nat.le_of_ble_eq_true rfl, Nat.le_of_ble_eq_true rfl⟩) 1 rfl rfl 0 rfl hP hD hS hA [1, 2] [0, 3, 4] rfl rfl (by decide) (by decide) (by decide) rfl hl.1 rfl (Nat.le_of_ble_eq_true rfl) d_Rounder_normalise_4 ⟨Nat.le_of_ble_eq_true rfl, Nat.le_of_ble_eq_true rfl⟩ (fun r4 u4 H locs hw9 hP hD hS => ?_)
  have h4 : ∃ b : Nat, r4.toInt = (b : Int) ∧ b ≤ 384 ∧ nv ft 12 < 2 ^ b ∧ (0 < nv ft 12 → 0 < b ∧ 2 ^ (b - 1) ≤ nv ft 12) := hw9
  have hP : va_P (dC, dI) vwCl [(h0, .inr (4, [.ref t1, .ref t2, .long sz0, .int ix0, .int ty0])), (t2, .inr (1, [.ref u2])), (u2, .inl (cI, 12, .inl fb)), (t1, .inr (1, [.ref u1])), (u1, .inl (cI, 12, .inl ft))] H := hP
  have hD : va_D A [(h0, .inr (4, [.ref t1, .ref t2, .long sz0, .int ix0, .int ty0])), (t2, .inr (1, [.ref u2])), (u2, .inl (cI, 12, .inl fb)), (t1, .inr (1, [.ref u1])), (u1, .inl (cI, 12, .inl ft))] := hD
  obtain ⟨b1, tb1, hb1a, hb1b, hb1c⟩ := h4
  have c2 := hb1c ht0
  have hb380 := b_380 c2 ht1
  have t4 : r4.toInt = (b1 : Int) := tb1
  refine lv_aload_n hx hb d_Rounder_normalise_7 rfl (lv_at hl 0 rfl) ?_
  refine va_get (D := (dC, dI)) (ci := 4) (v := .ref t2) (C := R_Rounder) (T := F_Rounder) (N := 5) hx hb hts u_Rounder hown hK hP 0 rfl rfl 1 (by decide) (hts _ m_123) (fun _ h9 => h9) rfl d_Rounder_normalise_8 ?_
  refine callV_i (wr := [(h0, .inr (4, [.ref t1, .ref t2, .long sz0, .int ix0, .int ty0])), (t1, .inr (1, [.ref u1])), (u1, .inl (cI, 12, .inl ft))]) C0 (c_Natural_bitLength l dC dI cI cB cJ (t2) (u2) (fb)) (cwV 0 hts (gV m_367 m_368 m_369 m_51 m_370) rfl rfl rfl (by decide +kernel) ⟨Nat.le_of_ble_eq_true rfl, Nat.le_of_ble_eq_true rfl⟩) 1 rfl rfl 0 rfl hP hD hS hA [1, 2] [0, 3, 4] rfl rfl (by decide) (by decide) (by decide) rfl hl.1 rfl (Nat.le_of_ble_eq_true rfl) d_Rounder_normalise_11 ⟨Nat.le_of_ble_eq_true rfl, Nat.le_of_ble_eq_true rfl⟩ (fun r11 u11 H locs hw9 hP hD hS => ?_)
  have h11 : ∃ b : Nat, r11.toInt = (b : Int) ∧ b ≤ 384 ∧ nv fb 12 < 2 ^ b ∧ (0 < nv fb 12 → 0 < b ∧ 2 ^ (b - 1) ≤ nv fb 12) := hw9
  have hP : va_P (dC, dI) vwCl [(h0, .inr (4, [.ref t1, .ref t2, .long sz0, .int ix0, .int ty0])), (t1, .inr (1, [.ref u1])), (u1, .inl (cI, 12, .inl ft)), (t2, .inr (1, [.ref u2])), (u2, .inl (cI, 12, .inl fb))] H := hP
  have hD : va_D A [(h0, .inr (4, [.ref t1, .ref t2, .long sz0, .int ix0, .int ty0])), (t1, .inr (1, [.ref u1])), (u1, .inl (cI, 12, .inl ft)), (t2, .inr (1, [.ref u2])), (u2, .inl (cI, 12, .inl fb))] := hD
  obtain ⟨b2, tb2, hb2a, hb2b, hb2c⟩ := h11
  have d2 := hb2c hb0
  have hb381 := b_380 d2 hb1
  have t11 : r11.toInt = (b2 : Int) := tb2
  refine lv_isub hx hb d_Rounder_normalise_14 ?_
  refine lv_topi (fun v14 e14 => ?_)
  have t14 : v14.toInt = (b1 : Int) - (b2 : Int) := by rw [e14]; exact q_isub t4 t11 (by omega)
  refine lv_istore_n (lv' := [(1, .int v14), (0, .ref h0)]) hx hb d_Rounder_normalise_15 rfl hl (by decide) rfl (fun ls hl => ?_)
  refine lv_iload_n hx hb d_Rounder_normalise_16 rfl (lv_at hl 0 rfl) ?_
  refine lv_if_lt (tgt := 31) hx hb d_Rounder_normalise_17 (by decide) (fun b17 => ?_) (fun b17 => ?_)
  · skip
    rw [q_ilt t14 (show (0 : Int32).toInt = 0 by decide)] at b17
    refine lv_aload_n hx hb d_Rounder_normalise_31 rfl (lv_at hl 1 rfl) ?_
    refine va_get (D := (dC, dI)) (ci := 4) (v := .ref t1) (C := R_Rounder) (T := F_Rounder) (N := 5) hx hb hts u_Rounder hown hK hP 0 rfl rfl 0 (by decide) (hts _ m_122) (fun _ h9 => h9) rfl d_Rounder_normalise_32 ?_
    refine lv_iload_n hx hb d_Rounder_normalise_35 rfl (lv_at hl 0 rfl) ?_
    refine lv_ineg hx hb d_Rounder_normalise_36 ?_
    refine lv_topi (fun v36 e36 => ?_)
    have t36 : v36.toInt = -((b1 : Int) - (b2 : Int)) := by rw [e36]; exact q_ineg t14 (by omega)
    refine callV_v (wr := [(h0, .inr (4, [.ref t1, .ref t2, .long sz0, .int ix0, .int ty0])), (t2, .inr (1, [.ref u2])), (u2, .inl (cI, 12, .inl fb))]) C0 (c_Natural_shiftLeft l dC dI cI cB cJ (t1) (u1) (ft) (v36) (b2 - b1) (by exact t36.trans (by omega))) (cwV 1 hts (gV m_375 m_358 m_359 m_51 m_360) rfl rfl rfl (by decide +kernel) ⟨Nat.le_of_ble_eq_true rfl, Nat.le_of_ble_eq_true rfl⟩) 1 rfl rfl 0 rfl hP hD hS hA [1, 2] [0, 3, 4] rfl rfl (by decide) (by decide) (by decide) rfl hl.1 rfl (Nat.le_of_ble_eq_true rfl) d_Rounder_normalise_37 ⟨Nat.le_of_ble_eq_true rfl, Nat.le_of_ble_eq_true rfl⟩ (fun k37 H locs hw9 hP hD hS => ?_)
    have h37 : nv k37 12 = nv ft 12 * 2 ^ (b2 - b1) % 2 ^ (32 * 12) := hw9
    have hP : va_P (dC, dI) vwCl [(h0, .inr (4, [.ref t1, .ref t2, .long sz0, .int ix0, .int ty0])), (t2, .inr (1, [.ref u2])), (u2, .inl (cI, 12, .inl fb)), (t1, .inr (1, [.ref u1])), (u1, .inl (cI, 12, .inl k37))] H := hP
    have hD : va_D A [(h0, .inr (4, [.ref t1, .ref t2, .long sz0, .int ix0, .int ty0])), (t2, .inr (1, [.ref u2])), (u2, .inl (cI, 12, .inl fb)), (t1, .inr (1, [.ref u1])), (u1, .inl (cI, 12, .inl k37))] := hD
    have hge := nr_ge hb2b d2 hb1b c2 (by omega)
    have k37v : nv k37 12 = nv ft 12 * 2 ^ (b2 - b1) := by rw [h37, m384 hge.1 (by omega)]
    refine lv_aload_n hx hb d_Rounder_normalise_40 rfl (lv_at hl 1 rfl) ?_
    refine va_get (D := (dC, dI)) (ci := 4) (v := .ref t1) (C := R_Rounder) (T := F_Rounder) (N := 5) hx hb hts u_Rounder hown hK hP 0 rfl rfl 0 (by decide) (hts _ m_122) (fun _ h9 => h9) rfl d_Rounder_normalise_41 ?_
    refine lv_aload_n hx hb d_Rounder_normalise_44 rfl (lv_at hl 1 rfl) ?_
    refine va_get (D := (dC, dI)) (ci := 4) (v := .ref t2) (C := R_Rounder) (T := F_Rounder) (N := 5) hx hb hts u_Rounder hown hK hP 0 rfl rfl 1 (by decide) (hts _ m_123) (fun _ h9 => h9) rfl d_Rounder_normalise_45 ?_
    refine callV_i (wr := [(h0, .inr (4, [.ref t1, .ref t2, .long sz0, .int ix0, .int ty0]))]) C0 (c_Natural_against l dC dI cI cB cJ (t1) (u1) (k37) (t2) (u2) (fb)) (cwV 1 hts (gV m_376 m_377 m_378 m_51 m_379) rfl rfl rfl (by decide +kernel) ⟨Nat.le_of_ble_eq_true rfl, Nat.le_of_ble_eq_true rfl⟩) 1 rfl rfl 0 rfl hP hD hS hA [3, 4, 1, 2] [0] rfl rfl (by decide) (by decide) (by decide) rfl hl.1 rfl (Nat.le_of_ble_eq_true rfl) d_Rounder_normalise_48 ⟨Nat.le_of_ble_eq_true rfl, Nat.le_of_ble_eq_true rfl⟩ (fun r48 u48 H locs hw9 hP hD hS => ?_)
    have h48 : (nv k37 12 < nv fb 12 ∧ r48 = -1) ∨ (nv k37 12 = nv fb 12 ∧ r48 = 0) ∨ (nv fb 12 < nv k37 12 ∧ r48 = 1) := hw9
    have hP : va_P (dC, dI) vwCl [(h0, .inr (4, [.ref t1, .ref t2, .long sz0, .int ix0, .int ty0])), (t1, .inr (1, [.ref u1])), (u1, .inl (cI, 12, .inl k37)), (t2, .inr (1, [.ref u2])), (u2, .inl (cI, 12, .inl fb))] H := hP
    have hD : va_D A [(h0, .inr (4, [.ref t1, .ref t2, .long sz0, .int ix0, .int ty0])), (t1, .inr (1, [.ref u1])), (u1, .inl (cI, 12, .inl k37)), (t2, .inr (1, [.ref u2])), (u2, .inl (cI, 12, .inl fb))] := hD
    refine lv_if_ge (tgt := 66) hx hb d_Rounder_normalise_51 (by decide) (fun b51 => ?_) (fun b51 => ?_)
    · skip
      refine lv_iload_n hx hb d_Rounder_normalise_66 rfl (lv_at hl 0 rfl) ?_
      have hcm : nv fb 12 ≤ nv k37 12 := h48.elim (fun h => by rw [h.2] at b51; exact absurd b51 (by decide)) (fun h => h.elim (fun h => by omega) (fun h => by omega))
      exact Ci.ret C0 (v := v14) (u := (k37, fb)) (Nat.le_of_ble_eq_true rfl) (Nat.le_of_ble_eq_true rfl) (by show NR (nv ft 12) (nv fb 12) (nv k37 12) (nv fb 12) v14.toInt; rw [k37v] at hcm ⊢; rw [t14]; exact nr_3 hb1b c2 hb2b d2 (by omega) hb381 hb1 hcm) hP hD hS [0, 1, 2, 3, 4] (by decide) rfl d_Rounder_normalise_67
    · skip
      refine lv_aload_n hx hb d_Rounder_normalise_54 rfl (lv_at hl 1 rfl) ?_
      refine va_get (D := (dC, dI)) (ci := 4) (v := .ref t1) (C := R_Rounder) (T := F_Rounder) (N := 5) hx hb hts u_Rounder hown hK hP 0 rfl rfl 0 (by decide) (hts _ m_122) (fun _ h9 => h9) rfl d_Rounder_normalise_55 ?_
      refine lv_iconst (v := 2) hx hb d_Rounder_normalise_58 (by decide) ?_
      refine lv_iconst (v := 0) hx hb d_Rounder_normalise_59 (by decide) ?_
      refine callV_v (wr := [(h0, .inr (4, [.ref t1, .ref t2, .long sz0, .int ix0, .int ty0])), (t2, .inr (1, [.ref u2])), (u2, .inl (cI, 12, .inl fb))]) C0 (c_Natural_timesPlus l dC dI cI cB cJ (t1) (u1) (k37) ((2 : Int32)) ((0 : Int32)) (by decide) (by decide)) (cwV 2 hts (gV m_380 m_270 m_271 m_51 m_272) rfl rfl rfl (by decide +kernel) ⟨Nat.le_of_ble_eq_true rfl, Nat.le_of_ble_eq_true rfl⟩) 1 rfl rfl 0 rfl hP hD hS hA [1, 2] [0, 3, 4] rfl rfl (by decide) (by decide) (by decide) rfl hl.1 rfl (Nat.le_of_ble_eq_true rfl) d_Rounder_normalise_60 ⟨Nat.le_of_ble_eq_true rfl, Nat.le_of_ble_eq_true rfl⟩ (fun k60 H locs hw9 hP hD hS => ?_)
      have h60 : nv k60 12 = (nv k37 12 * uw (2 : Int32) + uw (0 : Int32)) % 2 ^ (32 * 12) := hw9
      have hP : va_P (dC, dI) vwCl [(h0, .inr (4, [.ref t1, .ref t2, .long sz0, .int ix0, .int ty0])), (t2, .inr (1, [.ref u2])), (u2, .inl (cI, 12, .inl fb)), (t1, .inr (1, [.ref u1])), (u1, .inl (cI, 12, .inl k60))] H := hP
      have hD : va_D A [(h0, .inr (4, [.ref t1, .ref t2, .long sz0, .int ix0, .int ty0])), (t2, .inr (1, [.ref u2])), (u2, .inl (cI, 12, .inl fb)), (t1, .inr (1, [.ref u1])), (u1, .inl (cI, 12, .inl k60))] := hD
      obtain ⟨v63, e63⟩ : ∃ y : Int32, y = v14 + (-1) := ⟨_, rfl⟩
      have t63 : v63.toInt = (b1 : Int) - (b2 : Int) + (-1) := by rw [e63]; exact q_iadd t14 (show ((-1) : Int32).toInt = (-1) by decide) (by omega)
      refine lv_iinc (v := v63) (lv' := [(1, .int v63), (0, .ref h0)]) hx hb d_Rounder_normalise_63 hl (k := 0) rfl (by rw [e63]; rfl) (by decide) rfl (fun ls hl => ?_)
      refine lv_iload_n hx hb d_Rounder_normalise_66 rfl (lv_at hl 0 rfl) ?_
      have hcm : nv k37 12 < nv fb 12 := h48.elim (fun h => h.1) (fun h => h.elim (fun h => by rw [h.2] at b51; exact absurd b51 (by decide)) (fun h => by rw [h.2] at b51; exact absurd b51 (by decide)))
      have k60v : nv k60 12 = 2 * nv k37 12 := by rw [h60, x2_384 (Nat.lt_trans hcm (Nat.lt_of_lt_of_le hb1 (Nat.pow_le_pow_right (by decide) (by decide))))]
      exact Ci.ret C0 (v := v63) (u := (k60, fb)) (Nat.le_of_ble_eq_true rfl) (Nat.le_of_ble_eq_true rfl) (by show NR (nv ft 12) (nv fb 12) (nv k60 12) (nv fb 12) v63.toInt; rw [k60v]; rw [k37v] at hcm ⊢; rw [t63]; exact nr_4 hb1b c2 hb2b d2 (by omega) hb381 hb1 hcm) hP hD hS [0, 3, 4, 1, 2] (by decide) rfl d_Rounder_normalise_67
  · skip
    rw [q_ilt t14 (show (0 : Int32).toInt = 0 by decide)] at b17
    refine lv_aload_n hx hb d_Rounder_normalise_20 rfl (lv_at hl 1 rfl) ?_
    refine va_get (D := (dC, dI)) (ci := 4) (v := .ref t2) (C := R_Rounder) (T := F_Rounder) (N := 5) hx hb hts u_Rounder hown hK hP 0 rfl rfl 1 (by decide) (hts _ m_123) (fun _ h9 => h9) rfl d_Rounder_normalise_21 ?_
    refine lv_iload_n hx hb d_Rounder_normalise_24 rfl (lv_at hl 0 rfl) ?_
    refine callV_v (wr := [(h0, .inr (4, [.ref t1, .ref t2, .long sz0, .int ix0, .int ty0])), (t1, .inr (1, [.ref u1])), (u1, .inl (cI, 12, .inl ft))]) C0 (c_Natural_shiftLeft l dC dI cI cB cJ (t2) (u2) (fb) (v14) (b1 - b2) (by exact t14.trans (by omega))) (cwV 1 hts (gV m_375 m_358 m_359 m_51 m_360) rfl rfl rfl (by decide +kernel) ⟨Nat.le_of_ble_eq_true rfl, Nat.le_of_ble_eq_true rfl⟩) 1 rfl rfl 0 rfl hP hD hS hA [3, 4] [0, 1, 2] rfl rfl (by decide) (by decide) (by decide) rfl hl.1 rfl (Nat.le_of_ble_eq_true rfl) d_Rounder_normalise_25 ⟨Nat.le_of_ble_eq_true rfl, Nat.le_of_ble_eq_true rfl⟩ (fun k25 H locs hw9 hP hD hS => ?_)
    have h25 : nv k25 12 = nv fb 12 * 2 ^ (b1 - b2) % 2 ^ (32 * 12) := hw9
    have hP : va_P (dC, dI) vwCl [(h0, .inr (4, [.ref t1, .ref t2, .long sz0, .int ix0, .int ty0])), (t1, .inr (1, [.ref u1])), (u1, .inl (cI, 12, .inl ft)), (t2, .inr (1, [.ref u2])), (u2, .inl (cI, 12, .inl k25))] H := hP
    have hD : va_D A [(h0, .inr (4, [.ref t1, .ref t2, .long sz0, .int ix0, .int ty0])), (t1, .inr (1, [.ref u1])), (u1, .inl (cI, 12, .inl ft)), (t2, .inr (1, [.ref u2])), (u2, .inl (cI, 12, .inl k25))] := hD
    have hge := nr_ge hb1b c2 hb2b d2 (by omega)
    have k25v : nv k25 12 = nv fb 12 * 2 ^ (b1 - b2) := by rw [h25, m384 hge.1 (by omega)]
    refine lv_goto (tgt := 40) hx hb d_Rounder_normalise_28 (by decide) ?_
    refine lv_aload_n hx hb d_Rounder_normalise_40 rfl (lv_at hl 1 rfl) ?_
    refine va_get (D := (dC, dI)) (ci := 4) (v := .ref t1) (C := R_Rounder) (T := F_Rounder) (N := 5) hx hb hts u_Rounder hown hK hP 0 rfl rfl 0 (by decide) (hts _ m_122) (fun _ h9 => h9) rfl d_Rounder_normalise_41 ?_
    refine lv_aload_n hx hb d_Rounder_normalise_44 rfl (lv_at hl 1 rfl) ?_
    refine va_get (D := (dC, dI)) (ci := 4) (v := .ref t2) (C := R_Rounder) (T := F_Rounder) (N := 5) hx hb hts u_Rounder hown hK hP 0 rfl rfl 1 (by decide) (hts _ m_123) (fun _ h9 => h9) rfl d_Rounder_normalise_45 ?_
    refine callV_i (wr := [(h0, .inr (4, [.ref t1, .ref t2, .long sz0, .int ix0, .int ty0]))]) C0 (c_Natural_against l dC dI cI cB cJ (t1) (u1) (ft) (t2) (u2) (k25)) (cwV 1 hts (gV m_376 m_377 m_378 m_51 m_379) rfl rfl rfl (by decide +kernel) ⟨Nat.le_of_ble_eq_true rfl, Nat.le_of_ble_eq_true rfl⟩) 1 rfl rfl 0 rfl hP hD hS hA [1, 2, 3, 4] [0] rfl rfl (by decide) (by decide) (by decide) rfl hl.1 rfl (Nat.le_of_ble_eq_true rfl) d_Rounder_normalise_48 ⟨Nat.le_of_ble_eq_true rfl, Nat.le_of_ble_eq_true rfl⟩ (fun r48 u48 H locs hw9 hP hD hS => ?_)
    have h48 : (nv ft 12 < nv k25 12 ∧ r48 = -1) ∨ (nv ft 12 = nv k25 12 ∧ r48 = 0) ∨ (nv k25 12 < nv ft 12 ∧ r48 = 1) := hw9
    have hP : va_P (dC, dI) vwCl [(h0, .inr (4, [.ref t1, .ref t2, .long sz0, .int ix0, .int ty0])), (t1, .inr (1, [.ref u1])), (u1, .inl (cI, 12, .inl ft)), (t2, .inr (1, [.ref u2])), (u2, .inl (cI, 12, .inl k25))] H := hP
    have hD : va_D A [(h0, .inr (4, [.ref t1, .ref t2, .long sz0, .int ix0, .int ty0])), (t1, .inr (1, [.ref u1])), (u1, .inl (cI, 12, .inl ft)), (t2, .inr (1, [.ref u2])), (u2, .inl (cI, 12, .inl k25))] := hD
    refine lv_if_ge (tgt := 66) hx hb d_Rounder_normalise_51 (by decide) (fun b51 => ?_) (fun b51 => ?_)
    · skip
      refine lv_iload_n hx hb d_Rounder_normalise_66 rfl (lv_at hl 0 rfl) ?_
      have hcm : nv k25 12 ≤ nv ft 12 := h48.elim (fun h => by rw [h.2] at b51; exact absurd b51 (by decide)) (fun h => h.elim (fun h => by omega) (fun h => by omega))
      exact Ci.ret C0 (v := v14) (u := (ft, k25)) (Nat.le_of_ble_eq_true rfl) (Nat.le_of_ble_eq_true rfl) (by show NR (nv ft 12) (nv fb 12) (nv ft 12) (nv k25 12) v14.toInt; rw [k25v] at hcm ⊢; rw [t14]; exact nr_1 hb1b c2 hb2b d2 (by omega) hb380 hcm) hP hD hS [0, 1, 2, 3, 4] (by decide) rfl d_Rounder_normalise_67
    · skip
      refine lv_aload_n hx hb d_Rounder_normalise_54 rfl (lv_at hl 1 rfl) ?_
      refine va_get (D := (dC, dI)) (ci := 4) (v := .ref t1) (C := R_Rounder) (T := F_Rounder) (N := 5) hx hb hts u_Rounder hown hK hP 0 rfl rfl 0 (by decide) (hts _ m_122) (fun _ h9 => h9) rfl d_Rounder_normalise_55 ?_
      refine lv_iconst (v := 2) hx hb d_Rounder_normalise_58 (by decide) ?_
      refine lv_iconst (v := 0) hx hb d_Rounder_normalise_59 (by decide) ?_
      refine callV_v (wr := [(h0, .inr (4, [.ref t1, .ref t2, .long sz0, .int ix0, .int ty0])), (t2, .inr (1, [.ref u2])), (u2, .inl (cI, 12, .inl k25))]) C0 (c_Natural_timesPlus l dC dI cI cB cJ (t1) (u1) (ft) ((2 : Int32)) ((0 : Int32)) (by decide) (by decide)) (cwV 2 hts (gV m_380 m_270 m_271 m_51 m_272) rfl rfl rfl (by decide +kernel) ⟨Nat.le_of_ble_eq_true rfl, Nat.le_of_ble_eq_true rfl⟩) 1 rfl rfl 0 rfl hP hD hS hA [1, 2] [0, 3, 4] rfl rfl (by decide) (by decide) (by decide) rfl hl.1 rfl (Nat.le_of_ble_eq_true rfl) d_Rounder_normalise_60 ⟨Nat.le_of_ble_eq_true rfl, Nat.le_of_ble_eq_true rfl⟩ (fun k60 H locs hw9 hP hD hS => ?_)
      have h60 : nv k60 12 = (nv ft 12 * uw (2 : Int32) + uw (0 : Int32)) % 2 ^ (32 * 12) := hw9
      have hP : va_P (dC, dI) vwCl [(h0, .inr (4, [.ref t1, .ref t2, .long sz0, .int ix0, .int ty0])), (t2, .inr (1, [.ref u2])), (u2, .inl (cI, 12, .inl k25)), (t1, .inr (1, [.ref u1])), (u1, .inl (cI, 12, .inl k60))] H := hP
      have hD : va_D A [(h0, .inr (4, [.ref t1, .ref t2, .long sz0, .int ix0, .int ty0])), (t2, .inr (1, [.ref u2])), (u2, .inl (cI, 12, .inl k25)), (t1, .inr (1, [.ref u1])), (u1, .inl (cI, 12, .inl k60))] := hD
      obtain ⟨v63, e63⟩ : ∃ y : Int32, y = v14 + (-1) := ⟨_, rfl⟩
      have t63 : v63.toInt = (b1 : Int) - (b2 : Int) + (-1) := by rw [e63]; exact q_iadd t14 (show ((-1) : Int32).toInt = (-1) by decide) (by omega)
      refine lv_iinc (v := v63) (lv' := [(1, .int v63), (0, .ref h0)]) hx hb d_Rounder_normalise_63 hl (k := 0) rfl (by rw [e63]; rfl) (by decide) rfl (fun ls hl => ?_)
      refine lv_iload_n hx hb d_Rounder_normalise_66 rfl (lv_at hl 0 rfl) ?_
      have hcm : nv ft 12 < nv k25 12 := h48.elim (fun h => h.1) (fun h => h.elim (fun h => by rw [h.2] at b51; exact absurd b51 (by decide)) (fun h => by rw [h.2] at b51; exact absurd b51 (by decide)))
      have k60v : nv k60 12 = 2 * nv ft 12 := by rw [h60, x2_384 (Nat.lt_of_lt_of_le ht1 (Nat.pow_le_pow_right (by decide) (by decide)))]
      exact Ci.ret C0 (v := v63) (u := (k60, k25)) (Nat.le_of_ble_eq_true rfl) (Nat.le_of_ble_eq_true rfl) (by show NR (nv ft 12) (nv fb 12) (nv k60 12) (nv k25 12) v63.toInt; rw [k25v] at hcm ⊢; rw [k60v, t63]; exact nr_2 hb1b c2 hb2b d2 (by omega) hb380 hcm) hP hD hS [0, 3, 4, 1, 2] (by decide) rfl d_Rounder_normalise_67
set_option maxHeartbeats 4000000 in
set_option maxRecDepth 100000 in
theorem c_Rounder_goesFarther (l : Launch) (dC : Nat → ClassId) (dI : Nat → Nat → Nat) (cI cB cJ : ClassId) (md : Int32) (ng : Int32) (od : Int32) (ha : Int32) (hmd : 0 ≤ md.toInt ∧ md.toInt ≤ 4) (hng : ng = 0 ∨ ng = 1) (hod : od = 0 ∨ od = 1) : Ci l dC dI cI cB cJ y_Rounder_goesFarther w_Rounder_goesFarther ({ frames := 0, cells := 0, slots := 0, locals := 0 } : Room) [.int md, .int ng, .int od, .int ha] [] (fun (r : Int32) (u : Unit) => (r = 1 ∧ ((md.toInt = 2 ∧ ng = 0) ∨ (md.toInt = 3 ∧ ng = 1) ∨ (md.toInt = 4 ∧ 0 ≤ ha.toInt) ∨ (md.toInt = 0 ∧ (0 < ha.toInt ∨ (ha.toInt = 0 ∧ od = 1))))) ∨ (r = 0 ∧ ¬ ((md.toInt = 2 ∧ ng = 0) ∨ (md.toInt = 3 ∧ ng = 1) ∨ (md.toInt = 4 ∧ 0 ≤ ha.toInt) ∨ (md.toInt = 0 ∧ (0 < ha.toInt ∨ (ha.toInt = 0 ∧ od = 1)))))) (fun u : Unit => []) := by
  refine Ci.intro (cc := b_Rounder_goesFarther) (maxL := 4) (plainFor_of_name (by decide)) rfl (Nat.le_of_ble_eq_true rfl) ?_
  intro p e s m below meth c A ls C0 hin hA hP hD hS hl
  obtain ⟨hx, hb, hml, hown, hts, hr, hlocks, hK, hN⟩ := id C0
  obtain ⟨H, hH⟩ : ∃ H, H = s.heap := ⟨_, rfl⟩
  have hP : va_P (dC, dI) vwCl [] s.heap := hP
  have hl : lv_has ls 4 [(0, .int md), (1, .int ng), (2, .int od), (3, .int ha)] := hl
  have r_md := q_r32 md
  have r_ha := q_r32 ha
  suffices h : ∀ (H : Heap) (locs : List Loc), va_P (dC, dI) vwCl [] H → va_D A [] → va_S A s.heap H locs → W p l e ({ frames := 0, cells := 0, slots := 0, locals := 0 } : Room) s m ([.int md, .int ng, .int od, .int ha] : List Value).toArray below meth c H locs 0 0 (MQ below (va_Qi (fun (r : Int32) (u : Unit) => (r = 1 ∧ ((md.toInt = 2 ∧ ng = 0) ∨ (md.toInt = 3 ∧ ng = 1) ∨ (md.toInt = 4 ∧ 0 ≤ ha.toInt) ∨ (md.toInt = 0 ∧ (0 < ha.toInt ∨ (ha.toInt = 0 ∧ od = 1))))) ∨ (r = 0 ∧ ¬ ((md.toInt = 2 ∧ ng = 0) ∨ (md.toInt = 3 ∧ ng = 1) ∨ (md.toInt = 4 ∧ 0 ≤ ha.toInt) ∨ (md.toInt = 0 ∧ (0 < ha.toInt ∨ (ha.toInt = 0 ∧ od = 1)))))) (poG dC dI A (fun u : Unit => [])) A) ([.int md, .int ng, .int od, .int ha] : List Value).toArray s 0 0 A) (F0 m 0 ls []) from h _ _ hP hD hS
  clear hP hD hS hH H
  intro H locs hP hD hS
  refine lv_iload_n hx hb d_Rounder_goesFarther_0 rfl (lv_at hl 0 rfl) ?_
  rcases (show md.toInt = 1 ∨ md.toInt = 2 ∨ md.toInt = 3 ∨ md.toInt = 4 ∨ (md.toInt < 1 ∨ 4 < md.toInt) by omega) with w1 | w1 | w1 | w1 | w1
  · skip
    refine lv_tableIn (off := 31) (tgt := 32) hx hb d_Rounder_goesFarther_1 (by rw [(rfl : md.toInt = md.toInt)]; omega) (by rw [(rfl : md.toInt = md.toInt)]; omega) (by rw [(rfl : md.toInt = md.toInt), w1]; rfl) (by decide) ?_
    refine lv_iconst (v := 0) hx hb d_Rounder_goesFarther_32 (by decide) ?_
    exact Cz.ret C0 (v := 0) (u := ()) (by rfl) (Nat.le_of_ble_eq_true rfl) (Nat.le_of_ble_eq_true rfl) (by show ((0 : Int32) = 1 ∧ ((md.toInt = 2 ∧ ng = 0) ∨ (md.toInt = 3 ∧ ng = 1) ∨ (md.toInt = 4 ∧ 0 ≤ ha.toInt) ∨ (md.toInt = 0 ∧ (0 < ha.toInt ∨ (ha.toInt = 0 ∧ od = 1))))) ∨ ((0 : Int32) = 0 ∧ ¬ ((md.toInt = 2 ∧ ng = 0) ∨ (md.toInt = 3 ∧ ng = 1) ∨ (md.toInt = 4 ∧ 0 ≤ ha.toInt) ∨ (md.toInt = 0 ∧ (0 < ha.toInt ∨ (ha.toInt = 0 ∧ od = 1))))); exact Or.inr ⟨rfl, fun h => by rcases h with h | h | h | h <;> omega⟩) hP hD hS [] (by decide) rfl d_Rounder_goesFarther_33
  · skip
    refine lv_tableIn (off := 33) (tgt := 34) hx hb d_Rounder_goesFarther_1 (by rw [(rfl : md.toInt = md.toInt)]; omega) (by rw [(rfl : md.toInt = md.toInt)]; omega) (by rw [(rfl : md.toInt = md.toInt), w1]; rfl) (by decide) ?_
    refine lv_iload_n hx hb d_Rounder_goesFarther_34 rfl (lv_at hl 1 rfl) ?_
    refine lv_if_ne (tgt := 42) hx hb d_Rounder_goesFarther_35 (by decide) (fun b35 => ?_) (fun b35 => ?_)
    · skip
      refine lv_iconst (v := 0) hx hb d_Rounder_goesFarther_42 (by decide) ?_
      exact Cz.ret C0 (v := 0) (u := ()) (by rfl) (Nat.le_of_ble_eq_true rfl) (Nat.le_of_ble_eq_true rfl) (by show ((0 : Int32) = 1 ∧ ((md.toInt = 2 ∧ ng = 0) ∨ (md.toInt = 3 ∧ ng = 1) ∨ (md.toInt = 4 ∧ 0 ≤ ha.toInt) ∨ (md.toInt = 0 ∧ (0 < ha.toInt ∨ (ha.toInt = 0 ∧ od = 1))))) ∨ ((0 : Int32) = 0 ∧ ¬ ((md.toInt = 2 ∧ ng = 0) ∨ (md.toInt = 3 ∧ ng = 1) ∨ (md.toInt = 4 ∧ 0 ≤ ha.toInt) ∨ (md.toInt = 0 ∧ (0 < ha.toInt ∨ (ha.toInt = 0 ∧ od = 1))))); exact Or.inr ⟨rfl, fun h => by rcases h with h | h | h | h <;> first | omega | exact absurd h.2 b35⟩) hP hD hS [] (by decide) rfl d_Rounder_goesFarther_43
    · skip
      refine lv_iconst (v := 1) hx hb d_Rounder_goesFarther_38 (by decide) ?_
      refine lv_goto (tgt := 43) hx hb d_Rounder_goesFarther_39 (by decide) ?_
      exact Cz.ret C0 (v := 1) (u := ()) (by rfl) (Nat.le_of_ble_eq_true rfl) (Nat.le_of_ble_eq_true rfl) (by show ((1 : Int32) = 1 ∧ ((md.toInt = 2 ∧ ng = 0) ∨ (md.toInt = 3 ∧ ng = 1) ∨ (md.toInt = 4 ∧ 0 ≤ ha.toInt) ∨ (md.toInt = 0 ∧ (0 < ha.toInt ∨ (ha.toInt = 0 ∧ od = 1))))) ∨ ((1 : Int32) = 0 ∧ ¬ ((md.toInt = 2 ∧ ng = 0) ∨ (md.toInt = 3 ∧ ng = 1) ∨ (md.toInt = 4 ∧ 0 ≤ ha.toInt) ∨ (md.toInt = 0 ∧ (0 < ha.toInt ∨ (ha.toInt = 0 ∧ od = 1))))); exact Or.inl ⟨rfl, Or.inl ⟨w1, b35⟩⟩) hP hD hS [] (by decide) rfl d_Rounder_goesFarther_43
  · skip
    refine lv_tableIn (off := 43) (tgt := 44) hx hb d_Rounder_goesFarther_1 (by rw [(rfl : md.toInt = md.toInt)]; omega) (by rw [(rfl : md.toInt = md.toInt)]; omega) (by rw [(rfl : md.toInt = md.toInt), w1]; rfl) (by decide) ?_
    refine lv_iload_n hx hb d_Rounder_goesFarther_44 rfl (lv_at hl 1 rfl) ?_
    exact Cz.ret C0 (v := ng) (u := ()) (by rcases hng with rfl | rfl <;> rfl) (Nat.le_of_ble_eq_true rfl) (Nat.le_of_ble_eq_true rfl) (by show (ng = 1 ∧ ((md.toInt = 2 ∧ ng = 0) ∨ (md.toInt = 3 ∧ ng = 1) ∨ (md.toInt = 4 ∧ 0 ≤ ha.toInt) ∨ (md.toInt = 0 ∧ (0 < ha.toInt ∨ (ha.toInt = 0 ∧ od = 1))))) ∨ (ng = 0 ∧ ¬ ((md.toInt = 2 ∧ ng = 0) ∨ (md.toInt = 3 ∧ ng = 1) ∨ (md.toInt = 4 ∧ 0 ≤ ha.toInt) ∨ (md.toInt = 0 ∧ (0 < ha.toInt ∨ (ha.toInt = 0 ∧ od = 1))))); exact hng.elim (fun h0 => Or.inr ⟨h0, fun h => by rcases h with h | h | h | h <;> first | omega | (rw [h0] at h; exact absurd h.2 (by decide))⟩) (fun h1 => Or.inl ⟨h1, Or.inr (Or.inl ⟨w1, h1⟩)⟩)) hP hD hS [] (by decide) rfl d_Rounder_goesFarther_45
  · skip
    refine lv_tableIn (off := 45) (tgt := 46) hx hb d_Rounder_goesFarther_1 (by rw [(rfl : md.toInt = md.toInt)]; omega) (by rw [(rfl : md.toInt = md.toInt)]; omega) (by rw [(rfl : md.toInt = md.toInt), w1]; rfl) (by decide) ?_
    refine lv_iload_n hx hb d_Rounder_goesFarther_46 rfl (lv_at hl 3 rfl) ?_
    refine lv_if_lt (tgt := 54) hx hb d_Rounder_goesFarther_47 (by decide) (fun b47 => ?_) (fun b47 => ?_)
    · skip
      rw [q_ilt (rfl : ha.toInt = ha.toInt) (show (0 : Int32).toInt = 0 by decide)] at b47
      refine lv_iconst (v := 0) hx hb d_Rounder_goesFarther_54 (by decide) ?_
      exact Cz.ret C0 (v := 0) (u := ()) (by rfl) (Nat.le_of_ble_eq_true rfl) (Nat.le_of_ble_eq_true rfl) (by show ((0 : Int32) = 1 ∧ ((md.toInt = 2 ∧ ng = 0) ∨ (md.toInt = 3 ∧ ng = 1) ∨ (md.toInt = 4 ∧ 0 ≤ ha.toInt) ∨ (md.toInt = 0 ∧ (0 < ha.toInt ∨ (ha.toInt = 0 ∧ od = 1))))) ∨ ((0 : Int32) = 0 ∧ ¬ ((md.toInt = 2 ∧ ng = 0) ∨ (md.toInt = 3 ∧ ng = 1) ∨ (md.toInt = 4 ∧ 0 ≤ ha.toInt) ∨ (md.toInt = 0 ∧ (0 < ha.toInt ∨ (ha.toInt = 0 ∧ od = 1))))); exact Or.inr ⟨rfl, fun h => by rcases h with h | h | h | h <;> omega⟩) hP hD hS [] (by decide) rfl d_Rounder_goesFarther_55
    · skip
      rw [q_ilt (rfl : ha.toInt = ha.toInt) (show (0 : Int32).toInt = 0 by decide)] at b47
      refine lv_iconst (v := 1) hx hb d_Rounder_goesFarther_50 (by decide) ?_
      refine lv_goto (tgt := 55) hx hb d_Rounder_goesFarther_51 (by decide) ?_
      exact Cz.ret C0 (v := 1) (u := ()) (by rfl) (Nat.le_of_ble_eq_true rfl) (Nat.le_of_ble_eq_true rfl) (by show ((1 : Int32) = 1 ∧ ((md.toInt = 2 ∧ ng = 0) ∨ (md.toInt = 3 ∧ ng = 1) ∨ (md.toInt = 4 ∧ 0 ≤ ha.toInt) ∨ (md.toInt = 0 ∧ (0 < ha.toInt ∨ (ha.toInt = 0 ∧ od = 1))))) ∨ ((1 : Int32) = 0 ∧ ¬ ((md.toInt = 2 ∧ ng = 0) ∨ (md.toInt = 3 ∧ ng = 1) ∨ (md.toInt = 4 ∧ 0 ≤ ha.toInt) ∨ (md.toInt = 0 ∧ (0 < ha.toInt ∨ (ha.toInt = 0 ∧ od = 1))))); exact Or.inl ⟨rfl, Or.inr (Or.inr (Or.inl ⟨w1, by omega⟩))⟩) hP hD hS [] (by decide) rfl d_Rounder_goesFarther_55
  · skip
    refine lv_tableOut (tgt := 56) hx hb d_Rounder_goesFarther_1 (by rw [(rfl : md.toInt = md.toInt)]; exact w1) (by decide) ?_
    refine lv_iload_n hx hb d_Rounder_goesFarther_56 rfl (lv_at hl 3 rfl) ?_
    refine lv_if_gt (tgt := 68) hx hb d_Rounder_goesFarther_57 (by decide) (fun b57 => ?_) (fun b57 => ?_)
    · skip
      rw [q_ilt (show (0 : Int32).toInt = 0 by decide) (rfl : ha.toInt = ha.toInt)] at b57
      refine lv_iconst (v := 1) hx hb d_Rounder_goesFarther_68 (by decide) ?_
      refine lv_goto (tgt := 73) hx hb d_Rounder_goesFarther_69 (by decide) ?_
      exact Cz.ret C0 (v := 1) (u := ()) (by rfl) (Nat.le_of_ble_eq_true rfl) (Nat.le_of_ble_eq_true rfl) (by show ((1 : Int32) = 1 ∧ ((md.toInt = 2 ∧ ng = 0) ∨ (md.toInt = 3 ∧ ng = 1) ∨ (md.toInt = 4 ∧ 0 ≤ ha.toInt) ∨ (md.toInt = 0 ∧ (0 < ha.toInt ∨ (ha.toInt = 0 ∧ od = 1))))) ∨ ((1 : Int32) = 0 ∧ ¬ ((md.toInt = 2 ∧ ng = 0) ∨ (md.toInt = 3 ∧ ng = 1) ∨ (md.toInt = 4 ∧ 0 ≤ ha.toInt) ∨ (md.toInt = 0 ∧ (0 < ha.toInt ∨ (ha.toInt = 0 ∧ od = 1))))); exact Or.inl ⟨rfl, Or.inr (Or.inr (Or.inr ⟨by omega, Or.inl b57⟩))⟩) hP hD hS [] (by decide) rfl d_Rounder_goesFarther_73
    · skip
      rw [q_ilt (show (0 : Int32).toInt = 0 by decide) (rfl : ha.toInt = ha.toInt)] at b57
      refine lv_iload_n hx hb d_Rounder_goesFarther_60 rfl (lv_at hl 3 rfl) ?_
      refine lv_if_ne (tgt := 72) hx hb d_Rounder_goesFarther_61 (by decide) (fun b61 => ?_) (fun b61 => ?_)
      · skip
        rw [q_ieq (rfl : ha.toInt = ha.toInt) (show (0 : Int32).toInt = 0 by decide)] at b61
        refine lv_iconst (v := 0) hx hb d_Rounder_goesFarther_72 (by decide) ?_
        exact Cz.ret C0 (v := 0) (u := ()) (by rfl) (Nat.le_of_ble_eq_true rfl) (Nat.le_of_ble_eq_true rfl) (by show ((0 : Int32) = 1 ∧ ((md.toInt = 2 ∧ ng = 0) ∨ (md.toInt = 3 ∧ ng = 1) ∨ (md.toInt = 4 ∧ 0 ≤ ha.toInt) ∨ (md.toInt = 0 ∧ (0 < ha.toInt ∨ (ha.toInt = 0 ∧ od = 1))))) ∨ ((0 : Int32) = 0 ∧ ¬ ((md.toInt = 2 ∧ ng = 0) ∨ (md.toInt = 3 ∧ ng = 1) ∨ (md.toInt = 4 ∧ 0 ≤ ha.toInt) ∨ (md.toInt = 0 ∧ (0 < ha.toInt ∨ (ha.toInt = 0 ∧ od = 1))))); exact Or.inr ⟨rfl, fun h => by rcases h with h | h | h | h <;> omega⟩) hP hD hS [] (by decide) rfl d_Rounder_goesFarther_73
      · skip
        rw [q_ieq (rfl : ha.toInt = ha.toInt) (show (0 : Int32).toInt = 0 by decide)] at b61
        refine lv_iload_n hx hb d_Rounder_goesFarther_64 rfl (lv_at hl 2 rfl) ?_
        refine lv_if_eq (tgt := 72) hx hb d_Rounder_goesFarther_65 (by decide) (fun b65 => ?_) (fun b65 => ?_)
        · skip
          refine lv_iconst (v := 0) hx hb d_Rounder_goesFarther_72 (by decide) ?_
          exact Cz.ret C0 (v := 0) (u := ()) (by rfl) (Nat.le_of_ble_eq_true rfl) (Nat.le_of_ble_eq_true rfl) (by show ((0 : Int32) = 1 ∧ ((md.toInt = 2 ∧ ng = 0) ∨ (md.toInt = 3 ∧ ng = 1) ∨ (md.toInt = 4 ∧ 0 ≤ ha.toInt) ∨ (md.toInt = 0 ∧ (0 < ha.toInt ∨ (ha.toInt = 0 ∧ od = 1))))) ∨ ((0 : Int32) = 0 ∧ ¬ ((md.toInt = 2 ∧ ng = 0) ∨ (md.toInt = 3 ∧ ng = 1) ∨ (md.toInt = 4 ∧ 0 ≤ ha.toInt) ∨ (md.toInt = 0 ∧ (0 < ha.toInt ∨ (ha.toInt = 0 ∧ od = 1))))); exact Or.inr ⟨rfl, fun h => by rcases h with h | h | h | h <;> first | omega | (rcases h.2 with h | h; omega; exact absurd (b65.symm.trans h.2) (by decide))⟩) hP hD hS [] (by decide) rfl d_Rounder_goesFarther_73
        · skip
          refine lv_iconst (v := 1) hx hb d_Rounder_goesFarther_68 (by decide) ?_
          refine lv_goto (tgt := 73) hx hb d_Rounder_goesFarther_69 (by decide) ?_
          exact Cz.ret C0 (v := 1) (u := ()) (by rfl) (Nat.le_of_ble_eq_true rfl) (Nat.le_of_ble_eq_true rfl) (by show ((1 : Int32) = 1 ∧ ((md.toInt = 2 ∧ ng = 0) ∨ (md.toInt = 3 ∧ ng = 1) ∨ (md.toInt = 4 ∧ 0 ≤ ha.toInt) ∨ (md.toInt = 0 ∧ (0 < ha.toInt ∨ (ha.toInt = 0 ∧ od = 1))))) ∨ ((1 : Int32) = 0 ∧ ¬ ((md.toInt = 2 ∧ ng = 0) ∨ (md.toInt = 3 ∧ ng = 1) ∨ (md.toInt = 4 ∧ 0 ≤ ha.toInt) ∨ (md.toInt = 0 ∧ (0 < ha.toInt ∨ (ha.toInt = 0 ∧ od = 1))))); exact Or.inl ⟨rfl, Or.inr (Or.inr (Or.inr ⟨by omega, Or.inr ⟨b61, hod.elim (fun h => absurd h b65) id⟩⟩))⟩) hP hD hS [] (by decide) rfl d_Rounder_goesFarther_73
