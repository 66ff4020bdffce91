set_option maxHeartbeats 4000000 in
set_option maxRecDepth 100000 in
theorem c_Told_init (l : Launch) (dC : Nat → ClassId) (dI : Nat → Nat → Nat) (cI cB cJ : ClassId) (h0 : Nat) (z0 : Int32)  : Cv l dC dI cI cB cJ y_Told_init w_Told_init ({ frames := 1, cells := 2, slots := 320, locals := 12 } : Room) [.ref h0] [(h0, .inr (6, [.null, .null, .int z0]))] (fun (u : (Nat) × (Nat) × (Nat → Int32) × (Nat → Int32) × (Int32)) => TL u.2.2.1 u.2.2.2.2 []) (fun u : (Nat) × (Nat) × (Nat → Int32) × (Nat → Int32) × (Int32) => [(h0, .inr (6, [.ref u.1, .ref u.2.1, .int u.2.2.2.2])), (u.1, .inl (cB, 160, .inl u.2.2.1)), (u.2.1, .inl (cB, 160, .inl u.2.2.2.1))]) := by
  refine Cv.intro (cc := b_Told_init) (maxL := 1) (plainFor_of_name (by decide)) rfl (Nat.le_of_ble_eq_true rfl) ?_
  intro p e s m below meth c A ls C0 hin hA hP hD hS hl
  obtain ⟨hx, hb, hml, hown, hts, hr, hlocks, hK, hN⟩ := id C0
  obtain ⟨H, hH⟩ : ∃ H, H = s.heap := ⟨_, rfl⟩
  have hP : va_P (dC, dI) vwCl [(h0, .inr (6, [.null, .null, .int z0]))] s.heap := hP
  have hl : lv_has ls 1 [(0, .ref h0)] := hl
  suffices h : ∀ (H : Heap) (locs : List Loc), va_P (dC, dI) vwCl [(h0, .inr (6, [.null, .null, .int z0]))] H → va_D A [(h0, .inr (6, [.null, .null, .int z0]))] → va_S A s.heap H locs → W p l e ({ frames := 1, cells := 2, slots := 320, locals := 12 } : Room) s m ([.ref h0] : List Value).toArray below meth c H locs 0 0 (MQ below (va_Qv (fun (u : (Nat) × (Nat) × (Nat → Int32) × (Nat → Int32) × (Int32)) => TL u.2.2.1 u.2.2.2.2 []) (poG dC dI A (fun u : (Nat) × (Nat) × (Nat → Int32) × (Nat → Int32) × (Int32) => [(h0, .inr (6, [.ref u.1, .ref u.2.1, .int u.2.2.2.2])), (u.1, .inl (cB, 160, .inl u.2.2.1)), (u.2.1, .inl (cB, 160, .inl u.2.2.2.1))])) A) ([.ref h0] : List Value).toArray s 2 320 A) (F0 m 0 ls []) from h _ _ hP hD hS
  clear hP hD hS hH H
  intro H locs hP hD hS
  refine lv_aload_n hx hb d_Told_init_0 rfl (lv_at hl 0 rfl) ?_
  refine W.objInit hx hb hown (hts _ m_165) (hts _ m_70) (hts _ m_71) rfl (by rw [hml]; exact hl.1) rfl d_Told_init_1 (Nat.le_of_ble_eq_true rfl) (Nat.le_of_ble_eq_true rfl) ?_
  refine W.eq (g2 := F0 m 4 ls []) rfl ?_
  refine lv_aload_n hx hb d_Told_init_4 rfl (lv_at hl 0 rfl) ?_
  refine lv_sipush (v := 160) hx hb d_Told_init_5 (by decide) ?_
  refine newB C0 hP hD hS hA (n := 160) (N := 160) (by decide) (by decide) (by decide) (Nat.le_of_ble_eq_true rfl) (Nat.le_of_ble_eq_true rfl) d_Told_init_8 (fun a0 H hP hD hS => ?_)
  have hP : va_P (dC, dI) vwCl [(h0, .inr (6, [.null, .null, .int z0])), (a0, .inl (cB, 160, .inl (fun _ => 0)))] H := hP
  have hD : va_D A [(h0, .inr (6, [.null, .null, .int z0])), (a0, .inl (cB, 160, .inl (fun _ => 0)))] := hD
  refine va_putF (D := (dC, dI)) (ci := 6) (v := .ref a0) (ty := .array .byte) (C := R_Told) (T := F_Told) (N := 3) hx hb hts u_Told t_Told t_Told_ok n_Told hown hK hP hD hS 0 rfl rfl 0 (by decide) (hts _ m_166) (fun _ h9 => h9) rfl hin rfl (by decide +kernel) rfl rfl (Nat.le_of_ble_eq_true rfl) d_Told_init_10 (fun H locs hP hD hS => ?_)
  have hP : va_P (dC, dI) vwCl [(h0, .inr (6, [.ref a0, .null, .int z0])), (a0, .inl (cB, 160, .inl (fun _ => 0)))] H := hP
  have hD : va_D A [(h0, .inr (6, [.ref a0, .null, .int z0])), (a0, .inl (cB, 160, .inl (fun _ => 0)))] := hD
  refine lv_aload_n hx hb d_Told_init_13 rfl (lv_at hl 0 rfl) ?_
  refine lv_sipush (v := 160) hx hb d_Told_init_14 (by decide) ?_
  refine newB C0 hP hD hS hA (n := 160) (N := 160) (by decide) (by decide) (by decide) (Nat.le_of_ble_eq_true rfl) (Nat.le_of_ble_eq_true rfl) d_Told_init_17 (fun b0 H hP hD hS => ?_)
  have hP : va_P (dC, dI) vwCl [(h0, .inr (6, [.ref a0, .null, .int z0])), (a0, .inl (cB, 160, .inl (fun _ => 0))), (b0, .inl (cB, 160, .inl (fun _ => 0)))] H := hP
  have hD : va_D A [(h0, .inr (6, [.ref a0, .null, .int z0])), (a0, .inl (cB, 160, .inl (fun _ => 0))), (b0, .inl (cB, 160, .inl (fun _ => 0)))] := hD
  refine va_putF (D := (dC, dI)) (ci := 6) (v := .ref b0) (ty := .array .byte) (C := R_Told) (T := F_Told) (N := 3) hx hb hts u_Told t_Told t_Told_ok n_Told hown hK hP hD hS 0 rfl rfl 1 (by decide) (hts _ m_167) (fun _ h9 => h9) rfl hin rfl (by decide +kernel) rfl rfl (Nat.le_of_ble_eq_true rfl) d_Told_init_19 (fun H locs hP hD hS => ?_)
  have hP : va_P (dC, dI) vwCl [(h0, .inr (6, [.ref a0, .ref b0, .int z0])), (a0, .inl (cB, 160, .inl (fun _ => 0))), (b0, .inl (cB, 160, .inl (fun _ => 0)))] H := hP
  have hD : va_D A [(h0, .inr (6, [.ref a0, .ref b0, .int z0])), (a0, .inl (cB, 160, .inl (fun _ => 0))), (b0, .inl (cB, 160, .inl (fun _ => 0)))] := hD
  refine lv_aload_n hx hb d_Told_init_22 rfl (lv_at hl 0 rfl) ?_
  refine lv_iconst (v := 0) hx hb d_Told_init_23 (by decide) ?_
  refine va_put (D := (dC, dI)) (ci := 6) (v := .int 0) (ty := .int) (C := R_Told) (T := F_Told) (N := 3) hx hb hts u_Told t_Told t_Told_ok n_Told hown hK hP hD hS 0 rfl rfl 2 (by decide) (hts _ m_168) (fun _ h9 => h9) rfl (by decide +kernel) rfl rfl (Nat.le_of_ble_eq_true rfl) d_Told_init_24 (fun H locs hP hD hS => ?_)
  have hP : va_P (dC, dI) vwCl [(h0, .inr (6, [.ref a0, .ref b0, .int 0])), (a0, .inl (cB, 160, .inl (fun _ => 0))), (b0, .inl (cB, 160, .inl (fun _ => 0)))] H := hP
  have hD : va_D A [(h0, .inr (6, [.ref a0, .ref b0, .int 0])), (a0, .inl (cB, 160, .inl (fun _ => 0))), (b0, .inl (cB, 160, .inl (fun _ => 0)))] := hD
  exact Cv.ret C0 (u := (a0, b0, (fun _ => 0), (fun _ => 0), 0)) (Nat.le_of_ble_eq_true rfl) (Nat.le_of_ble_eq_true rfl) (by show TL (fun _ => 0) (0 : Int32) []; exact TL_nil _) hP hD hS [0, 1, 2] (by decide) rfl d_Told_init_27
set_option maxHeartbeats 4000000 in
set_option maxRecDepth 100000 in
theorem c_Told_at (l : Launch) (dC : Nat → ClassId) (dI : Nat → Nat → Nat) (cI cB cJ : ClassId) (h0 : Nat) (a0 : Nat) (b0 : Nat) (f : Nat → Int32) (g : Nat → Int32) (lx : Int32) (x : Int32)  : Ci l dC dI cI cB cJ y_Told_at w_Told_at ({ frames := 0, cells := 0, slots := 0, locals := 0 } : Room) [.ref h0, .int x] [(h0, .inr (6, [.ref a0, .ref b0, .int lx])), (a0, .inl (cB, 160, .inl f)), (b0, .inl (cB, 160, .inl g))] (fun (r : Int32) (u : Unit) => r.toInt = if 0 ≤ x.toInt ∧ x.toInt < 160 then (f x.toInt.toNat).toInt else 0) (fun u : Unit => [(h0, .inr (6, [.ref a0, .ref b0, .int lx])), (a0, .inl (cB, 160, .inl f)), (b0, .inl (cB, 160, .inl g))]) := by
  refine Ci.intro (cc := b_Told_at) (maxL := 2) (plainFor_of_name (by decide)) rfl (Nat.le_of_ble_eq_true rfl) ?_
  intro p e s m below meth c A ls C0 hin hA hP hD hS hl
  obtain ⟨hx, hb, hml, hown, hts, hr, hlocks, hK, hN⟩ := id C0
  obtain ⟨H, hH⟩ : ∃ H, H = s.heap := ⟨_, rfl⟩
  have hP : va_P (dC, dI) vwCl [(h0, .inr (6, [.ref a0, .ref b0, .int lx])), (a0, .inl (cB, 160, .inl f)), (b0, .inl (cB, 160, .inl g))] s.heap := hP
  have hl : lv_has ls 2 [(0, .ref h0), (1, .int x)] := hl
  have r_x := q_r32 x
  suffices h : ∀ (H : Heap) (locs : List Loc), va_P (dC, dI) vwCl [(h0, .inr (6, [.ref a0, .ref b0, .int lx])), (a0, .inl (cB, 160, .inl f)), (b0, .inl (cB, 160, .inl g))] H → va_D A [(h0, .inr (6, [.ref a0, .ref b0, .int lx])), (a0, .inl (cB, 160, .inl f)), (b0, .inl (cB, 160, .inl g))] → va_S A s.heap H locs → W p l e ({ frames := 0, cells := 0, slots := 0, locals := 0 } : Room) s m ([.ref h0, .int x] : List Value).toArray below meth c H locs 0 0 (MQ below (va_Qi (fun (r : Int32) (u : Unit) => r.toInt = if 0 ≤ x.toInt ∧ x.toInt < 160 then (f x.toInt.toNat).toInt else 0) (poG dC dI A (fun u : Unit => [(h0, .inr (6, [.ref a0, .ref b0, .int lx])), (a0, .inl (cB, 160, .inl f)), (b0, .inl (cB, 160, .inl g))])) A) ([.ref h0, .int x] : List Value).toArray s 0 0 A) (F0 m 0 ls []) from h _ _ hP hD hS
  clear hP hD hS hH H
  intro H locs hP hD hS
  refine lv_iload_n hx hb d_Told_at_0 rfl (lv_at hl 1 rfl) ?_
  refine lv_if_lt (tgt := 20) hx hb d_Told_at_1 (by decide) (fun b1 => ?_) (fun b1 => ?_)
  · skip
    rw [q_ilt (rfl : x.toInt = x.toInt) (show (0 : Int32).toInt = 0 by decide)] at b1
    refine lv_iconst (v := 0) hx hb d_Told_at_20 (by decide) ?_
    exact Ci.ret C0 (v := 0) (u := ()) (Nat.le_of_ble_eq_true rfl) (Nat.le_of_ble_eq_true rfl) (by show (0 : Int32).toInt = if 0 ≤ x.toInt ∧ x.toInt < 160 then (f x.toInt.toNat).toInt else 0; rw [if_neg (by omega)]; rfl) hP hD hS [0, 1, 2] (by decide) rfl d_Told_at_21
  · skip
    rw [q_ilt (rfl : x.toInt = x.toInt) (show (0 : Int32).toInt = 0 by decide)] at b1
    refine lv_iload_n hx hb d_Told_at_4 rfl (lv_at hl 1 rfl) ?_
    refine lv_sipush (v := 160) hx hb d_Told_at_5 (by decide) ?_
    refine lv_icmp_ge (tgt := 20) hx hb d_Told_at_8 (by decide) (fun b8 => ?_) (fun b8 => ?_)
    · skip
      rw [q_ile (show (160 : Int32).toInt = 160 by decide) (rfl : x.toInt = x.toInt)] at b8
      refine lv_iconst (v := 0) hx hb d_Told_at_20 (by decide) ?_
      exact Ci.ret C0 (v := 0) (u := ()) (Nat.le_of_ble_eq_true rfl) (Nat.le_of_ble_eq_true rfl) (by show (0 : Int32).toInt = if 0 ≤ x.toInt ∧ x.toInt < 160 then (f x.toInt.toNat).toInt else 0; rw [if_neg (by omega)]; rfl) hP hD hS [0, 1, 2] (by decide) rfl d_Told_at_21
    · skip
      rw [q_ile (show (160 : Int32).toInt = 160 by decide) (rfl : x.toInt = x.toInt)] at b8
      refine lv_aload_n hx hb d_Told_at_11 rfl (lv_at hl 0 rfl) ?_
      refine va_get (D := (dC, dI)) (ci := 6) (v := .ref a0) (C := R_Told) (T := F_Told) (N := 3) hx hb hts u_Told hown hK hP 0 rfl rfl 0 (by decide) (hts _ m_166) (fun _ h9 => h9) rfl d_Told_at_12 ?_
      refine lv_iload_n hx hb d_Told_at_15 rfl (lv_at hl 1 rfl) ?_
      refine va_bald hx hb hK hP 1 1 rfl rfl (q_in (rfl : x.toInt = x.toInt) (by omega)) d_Told_at_16 ?_
      refine lv_topi (fun v16 e16 => ?_)
      rw [q_cl (k := x.toInt.toNat) ((Int.toNat_of_nonneg (by omega)).symm)] at e16
      refine lv_goto (tgt := 21) hx hb d_Told_at_17 (by decide) ?_
      exact Ci.ret C0 (v := v16) (u := ()) (Nat.le_of_ble_eq_true rfl) (Nat.le_of_ble_eq_true rfl) (by show v16.toInt = if 0 ≤ x.toInt ∧ x.toInt < 160 then (f x.toInt.toNat).toInt else 0; rw [if_pos (by omega), e16]) hP hD hS [0, 1, 2] (by decide) rfl d_Told_at_21
set_option maxHeartbeats 4000000 in
set_option maxRecDepth 100000 in
theorem c_Told_add (l : Launch) (dC : Nat → ClassId) (dI : Nat → Nat → Nat) (cI cB cJ : ClassId) (h0 : Nat) (a0 : Nat) (b0 : Nat) (f : Nat → Int32) (g : Nat → Int32) (lx : Int32) (w : List Nat) (x : Int32) (cc : Nat) (hT : TL f lx w) (hx0 : x.toInt = (cc : Int)) (hc : cc < 128) : Cv l dC dI cI cB cJ y_Told_add w_Told_add ({ frames := 0, cells := 0, slots := 0, locals := 0 } : Room) [.ref h0, .int x] [(h0, .inr (6, [.ref a0, .ref b0, .int lx])), (a0, .inl (cB, 160, .inl f)), (b0, .inl (cB, 160, .inl g))] (fun (u : (Nat → Int32) × (Int32)) => TL u.1 u.2 (tk (w ++ [cc]))) (fun u : (Nat → Int32) × (Int32) => [(h0, .inr (6, [.ref a0, .ref b0, .int u.2])), (a0, .inl (cB, 160, .inl u.1)), (b0, .inl (cB, 160, .inl g))]) := by
  refine Cv.intro (cc := b_Told_add) (maxL := 2) (plainFor_of_name (by decide)) rfl (Nat.le_of_ble_eq_true rfl) ?_
  intro p e s m below meth c A ls C0 hin hA hP hD hS hl
  obtain ⟨hx, hb, hml, hown, hts, hr, hlocks, hK, hN⟩ := id C0
  obtain ⟨H, hH⟩ : ∃ H, H = s.heap := ⟨_, rfl⟩
  have hP : va_P (dC, dI) vwCl [(h0, .inr (6, [.ref a0, .ref b0, .int lx])), (a0, .inl (cB, 160, .inl f)), (b0, .inl (cB, 160, .inl g))] s.heap := hP
  have hl : lv_has ls 2 [(0, .ref h0), (1, .int x)] := hl
  have r_x := q_r32 x
  suffices h : ∀ (H : Heap) (locs : List Loc), va_P (dC, dI) vwCl [(h0, .inr (6, [.ref a0, .ref b0, .int lx])), (a0, .inl (cB, 160, .inl f)), (b0, .inl (cB, 160, .inl g))] H → va_D A [(h0, .inr (6, [.ref a0, .ref b0, .int lx])), (a0, .inl (cB, 160, .inl f)), (b0, .inl (cB, 160, .inl g))] → va_S A s.heap H locs → W p l e ({ frames := 0, cells := 0, slots := 0, locals := 0 } : Room) s m ([.ref h0, .int x] : List Value).toArray below meth c H locs 0 0 (MQ below (va_Qv (fun (u : (Nat → Int32) × (Int32)) => TL u.1 u.2 (tk (w ++ [cc]))) (poG dC dI A (fun u : (Nat → Int32) × (Int32) => [(h0, .inr (6, [.ref a0, .ref b0, .int u.2])), (a0, .inl (cB, 160, .inl u.1)), (b0, .inl (cB, 160, .inl g))])) A) ([.ref h0, .int x] : List Value).toArray s 0 0 A) (F0 m 0 ls []) from h _ _ hP hD hS
  clear hP hD hS hH H
  intro H locs hP hD hS
  have hlw := hT.2.1
  refine lv_aload_n hx hb d_Told_add_0 rfl (lv_at hl 0 rfl) ?_
  refine va_get (D := (dC, dI)) (ci := 6) (v := .int lx) (C := R_Told) (T := F_Told) (N := 3) hx hb hts u_Told hown hK hP 0 rfl rfl 2 (by decide) (hts _ m_168) (fun _ h9 => h9) rfl d_Told_add_1 ?_
  refine lv_if_lt (tgt := 38) hx hb d_Told_add_4 (by decide) (fun b4 => ?_) (fun b4 => ?_)
  · skip
    rw [q_ilt hT.1 (show (0 : Int32).toInt = 0 by decide)] at b4
    exact absurd b4 (by omega)
  · skip
    rw [q_ilt hT.1 (show (0 : Int32).toInt = 0 by decide)] at b4
    refine lv_aload_n hx hb d_Told_add_7 rfl (lv_at hl 0 rfl) ?_
    refine va_get (D := (dC, dI)) (ci := 6) (v := .int lx) (C := R_Told) (T := F_Told) (N := 3) hx hb hts u_Told hown hK hP 0 rfl rfl 2 (by decide) (hts _ m_168) (fun _ h9 => h9) rfl d_Told_add_8 ?_
    refine lv_sipush (v := 160) hx hb d_Told_add_11 (by decide) ?_
    refine lv_icmp_ge (tgt := 38) hx hb d_Told_add_14 (by decide) (fun b14 => ?_) (fun b14 => ?_)
    · skip
      rw [q_ile (show (160 : Int32).toInt = 160 by decide) hT.1] at b14
      exact Cv.ret C0 (u := (f, lx)) (Nat.le_of_ble_eq_true rfl) (Nat.le_of_ble_eq_true rfl) (by show TL f lx (tk (w ++ [cc])); rw [tk_full (by omega)]; exact hT) hP hD hS [0, 1, 2] (by decide) rfl d_Told_add_38
    · skip
      rw [q_ile (show (160 : Int32).toInt = 160 by decide) hT.1] at b14
      refine lv_aload_n hx hb d_Told_add_17 rfl (lv_at hl 0 rfl) ?_
      refine va_get (D := (dC, dI)) (ci := 6) (v := .ref a0) (C := R_Told) (T := F_Told) (N := 3) hx hb hts u_Told hown hK hP 0 rfl rfl 0 (by decide) (hts _ m_166) (fun _ h9 => h9) rfl d_Told_add_18 ?_
      refine lv_aload_n hx hb d_Told_add_21 rfl (lv_at hl 0 rfl) ?_
      refine va_get (D := (dC, dI)) (ci := 6) (v := .int lx) (C := R_Told) (T := F_Told) (N := 3) hx hb hts u_Told hown hK hP 0 rfl rfl 2 (by decide) (hts _ m_168) (fun _ h9 => h9) rfl d_Told_add_22 ?_
      refine lv_iload_n hx hb d_Told_add_25 rfl (lv_at hl 1 rfl) ?_
      refine lv_i2b hx hb d_Told_add_26 rfl ?_
      refine lv_topi (fun v26 e26 => ?_)
      have t26 : v26.toInt = (cc : Int) := by rw [e26]; exact q_i2b hx0 (by omega)
      refine va_bast hx hb hK hP hD hS 1 1 rfl rfl (q_in hT.1 (by omega)) d_Told_add_27 (fun H locs hP hD hS => ?_)
      rw [q_cl (k := w.length) (hT.1)] at hP hD
      have hP : va_P (dC, dI) vwCl [(h0, .inr (6, [.ref a0, .ref b0, .int lx])), (a0, .inl (cB, 160, .inl (upd f w.length (vp_nar .byte v26)))), (b0, .inl (cB, 160, .inl g))] H := hP
      have hD : va_D A [(h0, .inr (6, [.ref a0, .ref b0, .int lx])), (a0, .inl (cB, 160, .inl (upd f w.length (vp_nar .byte v26)))), (b0, .inl (cB, 160, .inl g))] := hD
      refine lv_aload_n hx hb d_Told_add_28 rfl (lv_at hl 0 rfl) ?_
      refine lv_dup hx hb d_Told_add_29 rfl ?_
      refine va_get (D := (dC, dI)) (ci := 6) (v := .int lx) (C := R_Told) (T := F_Told) (N := 3) hx hb hts u_Told hown hK hP 0 rfl rfl 2 (by decide) (hts _ m_168) (fun _ h9 => h9) rfl d_Told_add_30 ?_
      refine lv_iconst (v := 1) hx hb d_Told_add_33 (by decide) ?_
      refine lv_iadd hx hb d_Told_add_34 ?_
      refine lv_topi (fun v34 e34 => ?_)
      have t34 : v34.toInt = (w.length : Int) + 1 := by rw [e34]; exact q_iadd hT.1 (show (1 : Int32).toInt = 1 by decide) (by omega)
      refine va_put (D := (dC, dI)) (ci := 6) (v := .int v34) (ty := .int) (C := R_Told) (T := F_Told) (N := 3) hx hb hts u_Told t_Told t_Told_ok n_Told hown hK hP hD hS 0 rfl rfl 2 (by decide) (hts _ m_168) (fun _ h9 => h9) rfl (by decide +kernel) rfl rfl (Nat.le_of_ble_eq_true rfl) d_Told_add_35 (fun H locs hP hD hS => ?_)
      have hP : va_P (dC, dI) vwCl [(h0, .inr (6, [.ref a0, .ref b0, .int v34])), (a0, .inl (cB, 160, .inl (upd f w.length (vp_nar .byte v26)))), (b0, .inl (cB, 160, .inl g))] H := hP
      have hD : va_D A [(h0, .inr (6, [.ref a0, .ref b0, .int v34])), (a0, .inl (cB, 160, .inl (upd f w.length (vp_nar .byte v26)))), (b0, .inl (cB, 160, .inl g))] := hD
      exact Cv.ret C0 (u := (upd f w.length (vp_nar .byte v26), v34)) (Nat.le_of_ble_eq_true rfl) (Nat.le_of_ble_eq_true rfl) (by show TL (upd f w.length (vp_nar .byte v26)) v34 (tk (w ++ [cc])); rw [nar_b t26 (by omega)]; exact TL_add hT (by omega) t34 t26) hP hD hS [0, 1, 2] (by decide) rfl d_Told_add_38
set_option maxHeartbeats 4000000 in
set_option maxRecDepth 100000 in
theorem c_Told_start (l : Launch) (dC : Nat → ClassId) (dI : Nat → Nat → Nat) (cI cB cJ : ClassId) (h0 : Nat) (a0 : Nat) (b0 : Nat) (f : Nat → Int32) (g : Nat → Int32) (lx : Int32) (ng : Int32) (hng : ng = 0 ∨ ng = 1) : Cv l dC dI cI cB cJ y_Told_start w_Told_start ({ frames := 1, cells := 0, slots := 0, locals := 21 } : Room) [.ref h0, .int ng] [(h0, .inr (6, [.ref a0, .ref b0, .int lx])), (a0, .inl (cB, 160, .inl f)), (b0, .inl (cB, 160, .inl g))] (fun (u : (Nat → Int32) × (Int32)) => TL u.1 u.2 (if ng = 1 then [45] else [])) (fun u : (Nat → Int32) × (Int32) => [(h0, .inr (6, [.ref a0, .ref b0, .int u.2])), (a0, .inl (cB, 160, .inl u.1)), (b0, .inl (cB, 160, .inl g))]) := by
  refine Cv.intro (cc := b_Told_start) (maxL := 2) (plainFor_of_name (by decide)) rfl (Nat.le_of_ble_eq_true rfl) ?_
  intro p e s m below meth c A ls C0 hin hA hP hD hS hl
  obtain ⟨hx, hb, hml, hown, hts, hr, hlocks, hK, hN⟩ := id C0
  obtain ⟨H, hH⟩ : ∃ H, H = s.heap := ⟨_, rfl⟩
  have hP : va_P (dC, dI) vwCl [(h0, .inr (6, [.ref a0, .ref b0, .int lx])), (a0, .inl (cB, 160, .inl f)), (b0, .inl (cB, 160, .inl g))] s.heap := hP
  have hl : lv_has ls 2 [(0, .ref h0), (1, .int ng)] := hl
  suffices h : ∀ (H : Heap) (locs : List Loc), va_P (dC, dI) vwCl [(h0, .inr (6, [.ref a0, .ref b0, .int lx])), (a0, .inl (cB, 160, .inl f)), (b0, .inl (cB, 160, .inl g))] H → va_D A [(h0, .inr (6, [.ref a0, .ref b0, .int lx])), (a0, .inl (cB, 160, .inl f)), (b0, .inl (cB, 160, .inl g))] → va_S A s.heap H locs → W p l e ({ frames := 1, cells := 0, slots := 0, locals := 21 } : Room) s m ([.ref h0, .int ng] : List Value).toArray below meth c H locs 0 0 (MQ below (va_Qv (fun (u : (Nat → Int32) × (Int32)) => TL u.1 u.2 (if ng = 1 then [45] else [])) (poG dC dI A (fun u : (Nat → Int32) × (Int32) => [(h0, .inr (6, [.ref a0, .ref b0, .int u.2])), (a0, .inl (cB, 160, .inl u.1)), (b0, .inl (cB, 160, .inl g))])) A) ([.ref h0, .int ng] : List Value).toArray s 0 0 A) (F0 m 0 ls []) from h _ _ hP hD hS
  clear hP hD hS hH H
  intro H locs hP hD hS
  refine lv_aload_n hx hb d_Told_start_0 rfl (lv_at hl 0 rfl) ?_
  refine lv_iconst (v := 0) hx hb d_Told_start_1 (by decide) ?_
  refine va_put (D := (dC, dI)) (ci := 6) (v := .int 0) (ty := .int) (C := R_Told) (T := F_Told) (N := 3) hx hb hts u_Told t_Told t_Told_ok n_Told hown hK hP hD hS 0 rfl rfl 2 (by decide) (hts _ m_168) (fun _ h9 => h9) rfl (by decide +kernel) rfl rfl (Nat.le_of_ble_eq_true rfl) d_Told_start_2 (fun H locs hP hD hS => ?_)
  have hP : va_P (dC, dI) vwCl [(h0, .inr (6, [.ref a0, .ref b0, .int 0])), (a0, .inl (cB, 160, .inl f)), (b0, .inl (cB, 160, .inl g))] H := hP
  have hD : va_D A [(h0, .inr (6, [.ref a0, .ref b0, .int 0])), (a0, .inl (cB, 160, .inl f)), (b0, .inl (cB, 160, .inl g))] := hD
  refine lv_iload_n hx hb d_Told_start_5 rfl (lv_at hl 1 rfl) ?_
  refine lv_if_eq (tgt := 15) hx hb d_Told_start_6 (by decide) (fun b6 => ?_) (fun b6 => ?_)
  · skip
    exact Cv.ret C0 (u := (f, 0)) (Nat.le_of_ble_eq_true rfl) (Nat.le_of_ble_eq_true rfl) (by show TL f (0 : Int32) (if ng = 1 then [45] else []); rw [if_neg (by rw [b6]; decide)]; exact TL_nil f) hP hD hS [0, 1, 2] (by decide) rfl d_Told_start_15
  · skip
    refine lv_aload_n hx hb d_Told_start_9 rfl (lv_at hl 0 rfl) ?_
    refine lv_bipush (v := 45) hx hb d_Told_start_10 (by decide) ?_
    refine callV_v (wr := []) C0 (c_Told_add l dC dI cI cB cJ (h0) (a0) (b0) (f) (g) ((0 : Int32)) ([]) ((45 : Int32)) ((45 : Nat)) (by exact TL_nil f) (by decide) (by decide)) (cwV 1 hts (gV m_419 m_420 m_421 m_54 m_422) rfl rfl rfl (by decide +kernel) ⟨Nat.le_of_ble_eq_true rfl, Nat.le_of_ble_eq_true rfl⟩) 6 rfl rfl 0 rfl hP hD hS hA [0, 1, 2] [] rfl rfl (by decide) (by decide) (by decide) rfl hl.1 rfl (Nat.le_of_ble_eq_true rfl) d_Told_start_12 ⟨Nat.le_of_ble_eq_true rfl, Nat.le_of_ble_eq_true rfl⟩ (fun u12 H locs hw9 hP hD hS => ?_)
    obtain ⟨k12, lx112⟩ := u12
    have h12 : TL k12 lx112 (tk (([]) ++ [(45 : Nat)])) := hw9
    have hP : va_P (dC, dI) vwCl [(h0, .inr (6, [.ref a0, .ref b0, .int lx112])), (a0, .inl (cB, 160, .inl k12)), (b0, .inl (cB, 160, .inl g))] H := hP
    have hD : va_D A [(h0, .inr (6, [.ref a0, .ref b0, .int lx112])), (a0, .inl (cB, 160, .inl k12)), (b0, .inl (cB, 160, .inl g))] := hD
    exact Cv.ret C0 (u := (k12, lx112)) (Nat.le_of_ble_eq_true rfl) (Nat.le_of_ble_eq_true rfl) (by show TL k12 lx112 (if ng = 1 then [45] else []); rw [if_pos (hng.elim (fun h => absurd h b6) id)]; exact h12) hP hD hS [0, 1, 2] (by decide) rfl d_Told_start_15
set_option maxHeartbeats 4000000 in
set_option maxRecDepth 100000 in
theorem L_Told_addReversed_10 {p : Program} {l : Launch} {e : Env} {s : State} {m : MethodId} {below : List Frame} {meth : Method} {c : Code} {dC : Nat → ClassId} {dI : Nat → Nat → Nat} {cI cB cJ : ClassId} {A : Nat → Prop} (h0 : Nat) (a0 : Nat) (b0 : Nat) (f : Nat → Int32) (g : Nat → Int32) (lx : Int32) (w : List Nat) (G : Nat → Nat) (x : Int32) (y : Int32) (n0 : Nat) (C0 : cx dC dI cI cB cJ R_Told b_Told_addReversed 4 none p s m ([.ref h0, .int x, .int y] : List Value).toArray meth c) (hA : ∀ q : Nat, s.heap.size ≤ q → A q) (hT : TL f lx w) (hx0 : x.toInt = (n0 : Int)) (hn0 : n0 ≤ 160) (hG : ∀ j, j < n0 → (g j).toInt = (G j : Int) ∧ G j < 128) : ∀ n : Nat, (∀ (x3 : Int32) (i : Nat) (k : Nat → Int32) (lx1 : Int32) (wd : List Nat) (H : Heap) (locs : List Loc) (ls : Array Slot), i < n → x3.toInt = (i : Int) - 1 → y.toInt = y.toInt → (i ≤ n0) → (TL k lx1 wd) → (tk (wd ++ revS G y.toInt i) = tk (w ++ revS G y.toInt n0)) → va_P (dC, dI) vwCl [(h0, .inr (6, [.ref a0, .ref b0, .int lx1])), (a0, .inl (cB, 160, .inl k)), (b0, .inl (cB, 160, .inl g))] H → va_D A [(h0, .inr (6, [.ref a0, .ref b0, .int lx1])), (a0, .inl (cB, 160, .inl k)), (b0, .inl (cB, 160, .inl g))] → va_S A s.heap H locs → lv_has ls 4 [(3, .int x3), (2, .int y), (0, .ref h0)] → W p l e ({ frames := 1, cells := 0, slots := 0, locals := 21 } : Room) s m ([.ref h0, .int x, .int y] : List Value).toArray below meth c H locs 0 0 (MQ below (va_Qv (fun (u : (Nat → Int32) × (Int32)) => TL u.1 u.2 (tk (w ++ revS G y.toInt n0))) (poG dC dI A (fun u : (Nat → Int32) × (Int32) => [(h0, .inr (6, [.ref a0, .ref b0, .int u.2])), (a0, .inl (cB, 160, .inl u.1)), (b0, .inl (cB, 160, .inl g))])) A) ([.ref h0, .int x, .int y] : List Value).toArray s 0 0 A) (F0 m 10 ls [])) := by
  obtain ⟨hx, hb, hml, hown, hts, hr, hlocks, hK, hN⟩ := id C0
  intro n
  induction n with
  | zero => exact fun _ _ _ _ _ _ _ _ h0 _ _ _ _ _ _ _ _ _ => absurd h0 (Nat.not_lt_zero _)
  | succ n ih =>
    intro x3 i k lx1 wd H locs ls hn9 t_x3 t_y hi hTk hw hP hD hS hl
    have r_x3 := q_r32 x3
    have r_y := q_r32 y
    refine lv_iload_n hx hb d_Told_addReversed_10 rfl (lv_at hl 0 rfl) ?_
    refine lv_if_lt (tgt := 45) hx hb d_Told_addReversed_11 (by decide) (fun b11 => ?_) (fun b11 => ?_)
    · skip
      rw [q_ilt t_x3 (show (0 : Int32).toInt = 0 by decide)] at b11
      have hi0 : i = 0 := by omega
      subst hi0
      exact Cv.ret C0 (u := (k, lx1)) (Nat.le_of_ble_eq_true rfl) (Nat.le_of_ble_eq_true rfl) (by show TL k lx1 (tk (w ++ revS G y.toInt n0)); rw [← hw]; simp only [revS, List.append_nil]; rw [tk_self hTk]; exact hTk) hP hD hS [0, 1, 2] (by decide) rfl d_Told_addReversed_45
    · skip
      rw [q_ilt t_x3 (show (0 : Int32).toInt = 0 by decide)] at b11
      refine lv_aload_n hx hb d_Told_addReversed_14 rfl (lv_at hl 2 rfl) ?_
      refine lv_aload_n hx hb d_Told_addReversed_15 rfl (lv_at hl 2 rfl) ?_
      refine va_get (D := (dC, dI)) (ci := 6) (v := .ref b0) (C := R_Told) (T := F_Told) (N := 3) hx hb hts u_Told hown hK hP 0 rfl rfl 1 (by decide) (hts _ m_167) (fun _ h9 => h9) rfl d_Told_addReversed_16 ?_
      refine lv_iload_n hx hb d_Told_addReversed_19 rfl (lv_at hl 0 rfl) ?_
      refine va_bald hx hb hK hP 2 1 rfl rfl (q_in t_x3 (by omega)) d_Told_addReversed_20 ?_
      refine lv_topi (fun v20 e20 => ?_)
      rw [q_cl (k := i - 1) (t_x3.trans (by omega))] at e20
      have t20 : v20.toInt = (G (i - 1) : Int) := by rw [e20]; exact (hG (i - 1) (by omega)).1
      refine callV_v (wr := []) C0 (c_Told_add l dC dI cI cB cJ (h0) (a0) (b0) (k) (g) (lx1) (wd) (v20) (G (i - 1)) (by exact hTk) (by exact t20) (by exact (hG (i - 1) (by omega)).2)) (cwV 1 hts (gV m_419 m_420 m_421 m_54 m_422) rfl rfl rfl (by decide +kernel) ⟨Nat.le_of_ble_eq_true rfl, Nat.le_of_ble_eq_true rfl⟩) 6 rfl rfl 0 rfl hP hD hS hA [0, 1, 2] [] rfl rfl (by decide) (by decide) (by decide) rfl hl.1 rfl (Nat.le_of_ble_eq_true rfl) d_Told_addReversed_21 ⟨Nat.le_of_ble_eq_true rfl, Nat.le_of_ble_eq_true rfl⟩ (fun u21 H locs hw9 hP hD hS => ?_)
      obtain ⟨k21, lx121⟩ := u21
      have h21 : TL k21 lx121 (tk (wd ++ [(G (i - 1))])) := hw9
      have hP : va_P (dC, dI) vwCl [(h0, .inr (6, [.ref a0, .ref b0, .int lx121])), (a0, .inl (cB, 160, .inl k21)), (b0, .inl (cB, 160, .inl g))] H := hP
      have hD : va_D A [(h0, .inr (6, [.ref a0, .ref b0, .int lx121])), (a0, .inl (cB, 160, .inl k21)), (b0, .inl (cB, 160, .inl g))] := hD
      have hG1 : revS G y.toInt i = G (i - 1) :: (if (((i - 1 : Nat) : Int) = y.toInt ∧ 0 < i - 1) then 46 :: revS G y.toInt (i - 1) else revS G y.toInt (i - 1)) := by
        rw [show i = i - 1 + 1 by omega]
        rfl
      refine lv_iload_n hx hb d_Told_addReversed_24 rfl (lv_at hl 0 rfl) ?_
      refine lv_iload_n hx hb d_Told_addReversed_25 rfl (lv_at hl 1 rfl) ?_
      refine lv_icmp_ne (tgt := 39) hx hb d_Told_addReversed_26 (by decide) (fun b26 => ?_) (fun b26 => ?_)
      · skip
        rw [q_ieq t_x3 t_y] at b26
        obtain ⟨v39, e39⟩ : ∃ y : Int32, y = x3 + (-1) := ⟨_, rfl⟩
        have t39 : v39.toInt = (i : Int) - 1 + (-1) := by rw [e39]; exact q_iadd t_x3 (show ((-1) : Int32).toInt = (-1) by decide) (by omega)
        refine lv_iinc (v := v39) (lv' := [(3, .int v39), (2, .int y), (0, .ref h0)]) hx hb d_Told_addReversed_39 hl (k := 0) rfl (by rw [e39]; rfl) (by decide) rfl (fun ls hl => ?_)
        refine lv_goto (tgt := 10) hx hb d_Told_addReversed_42 (by decide) ?_
        exact ih (v39) (i - 1) (k21) (lx121) (tk (wd ++ [G (i - 1)])) H locs ls (by omega) ((t39).trans (by omega)) ((t_y).trans (by omega)) (by omega) (by exact h21) (by rw [← hw, hG1, if_neg (by omega), tk_tk, List.append_assoc]; rfl) (va_Psub hP [0, 1, 2] rfl) (hD.sub [0, 1, 2] (by decide) rfl) hS (lv_sub hl [0, 1, 2] rfl)
      · skip
        rw [q_ieq t_x3 t_y] at b26
        refine lv_iload_n hx hb d_Told_addReversed_29 rfl (lv_at hl 0 rfl) ?_
        refine lv_if_le (tgt := 39) hx hb d_Told_addReversed_30 (by decide) (fun b30 => ?_) (fun b30 => ?_)
        · skip
          rw [q_ile t_x3 (show (0 : Int32).toInt = 0 by decide)] at b30
          obtain ⟨v39, e39⟩ : ∃ y : Int32, y = x3 + (-1) := ⟨_, rfl⟩
          have t39 : v39.toInt = (i : Int) - 1 + (-1) := by rw [e39]; exact q_iadd t_x3 (show ((-1) : Int32).toInt = (-1) by decide) (by omega)
          refine lv_iinc (v := v39) (lv' := [(3, .int v39), (2, .int y), (0, .ref h0)]) hx hb d_Told_addReversed_39 hl (k := 0) rfl (by rw [e39]; rfl) (by decide) rfl (fun ls hl => ?_)
          refine lv_goto (tgt := 10) hx hb d_Told_addReversed_42 (by decide) ?_
          exact ih (v39) (i - 1) (k21) (lx121) (tk (wd ++ [G (i - 1)])) H locs ls (by omega) ((t39).trans (by omega)) ((t_y).trans (by omega)) (by omega) (by exact h21) (by rw [← hw, hG1, if_neg (by omega), tk_tk, List.append_assoc]; rfl) (va_Psub hP [0, 1, 2] rfl) (hD.sub [0, 1, 2] (by decide) rfl) hS (lv_sub hl [0, 1, 2] rfl)
        · skip
          rw [q_ile t_x3 (show (0 : Int32).toInt = 0 by decide)] at b30
          refine lv_aload_n hx hb d_Told_addReversed_33 rfl (lv_at hl 2 rfl) ?_
          refine lv_bipush (v := 46) hx hb d_Told_addReversed_34 (by decide) ?_
          refine callV_v (wr := []) C0 (c_Told_add l dC dI cI cB cJ (h0) (a0) (b0) (k21) (g) (lx121) (tk (wd ++ [G (i - 1)])) ((46 : Int32)) ((46 : Nat)) (by exact h21) (by decide) (by decide)) (cwV 1 hts (gV m_419 m_420 m_421 m_54 m_422) rfl rfl rfl (by decide +kernel) ⟨Nat.le_of_ble_eq_true rfl, Nat.le_of_ble_eq_true rfl⟩) 6 rfl rfl 0 rfl hP hD hS hA [0, 1, 2] [] rfl rfl (by decide) (by decide) (by decide) rfl hl.1 rfl (Nat.le_of_ble_eq_true rfl) d_Told_addReversed_36 ⟨Nat.le_of_ble_eq_true rfl, Nat.le_of_ble_eq_true rfl⟩ (fun u36 H locs hw9 hP hD hS => ?_)
          obtain ⟨k36, lx136⟩ := u36
          have h36 : TL k36 lx136 (tk ((tk (wd ++ [G (i - 1)])) ++ [(46 : Nat)])) := hw9
          have hP : va_P (dC, dI) vwCl [(h0, .inr (6, [.ref a0, .ref b0, .int lx136])), (a0, .inl (cB, 160, .inl k36)), (b0, .inl (cB, 160, .inl g))] H := hP
          have hD : va_D A [(h0, .inr (6, [.ref a0, .ref b0, .int lx136])), (a0, .inl (cB, 160, .inl k36)), (b0, .inl (cB, 160, .inl g))] := hD
          obtain ⟨v39, e39⟩ : ∃ y : Int32, y = x3 + (-1) := ⟨_, rfl⟩
          have t39 : v39.toInt = (i : Int) - 1 + (-1) := by rw [e39]; exact q_iadd t_x3 (show ((-1) : Int32).toInt = (-1) by decide) (by omega)
          refine lv_iinc (v := v39) (lv' := [(3, .int v39), (2, .int y), (0, .ref h0)]) hx hb d_Told_addReversed_39 hl (k := 0) rfl (by rw [e39]; rfl) (by decide) rfl (fun ls hl => ?_)
          refine lv_goto (tgt := 10) hx hb d_Told_addReversed_42 (by decide) ?_
          exact ih (v39) (i - 1) (k36) (lx136) (tk (tk (wd ++ [G (i - 1)]) ++ [46])) H locs ls (by omega) ((t39).trans (by omega)) ((t_y).trans (by omega)) (by omega) (by exact h36) (by rw [← hw, hG1, if_pos (by omega), tk_tk, List.append_assoc, tk_tk, List.append_assoc]; rfl) (va_Psub hP [0, 1, 2] rfl) (hD.sub [0, 1, 2] (by decide) rfl) hS (lv_sub hl [0, 1, 2] rfl)
set_option maxHeartbeats 4000000 in
set_option maxRecDepth 100000 in
theorem c_Told_addReversed (l : Launch) (dC : Nat → ClassId) (dI : Nat → Nat → Nat) (cI cB cJ : ClassId) (h0 : Nat) (a0 : Nat) (b0 : Nat) (f : Nat → Int32) (g : Nat → Int32) (lx : Int32) (w : List Nat) (G : Nat → Nat) (x : Int32) (y : Int32) (n0 : Nat) (hT : TL f lx w) (hx0 : x.toInt = (n0 : Int)) (hn0 : n0 ≤ 160) (hG : ∀ j, j < n0 → (g j).toInt = (G j : Int) ∧ G j < 128) : Cv l dC dI cI cB cJ y_Told_addReversed w_Told_addReversed ({ frames := 1, cells := 0, slots := 0, locals := 21 } : Room) [.ref h0, .int x, .int y] [(h0, .inr (6, [.ref a0, .ref b0, .int lx])), (a0, .inl (cB, 160, .inl f)), (b0, .inl (cB, 160, .inl g))] (fun (u : (Nat → Int32) × (Int32)) => TL u.1 u.2 (tk (w ++ revS G y.toInt n0))) (fun u : (Nat → Int32) × (Int32) => [(h0, .inr (6, [.ref a0, .ref b0, .int u.2])), (a0, .inl (cB, 160, .inl u.1)), (b0, .inl (cB, 160, .inl g))]) := by
  refine Cv.intro (cc := b_Told_addReversed) (maxL := 4) (plainFor_of_name (by decide)) rfl (Nat.le_of_ble_eq_true rfl) ?_
  intro p e s m below meth c A ls C0 hin hA hP hD hS hl
  obtain ⟨hx, hb, hml, hown, hts, hr, hlocks, hK, hN⟩ := id C0
  obtain ⟨H, hH⟩ : ∃ H, H = s.heap := ⟨_, rfl⟩
  have hP : va_P (dC, dI) vwCl [(h0, .inr (6, [.ref a0, .ref b0, .int lx])), (a0, .inl (cB, 160, .inl f)), (b0, .inl (cB, 160, .inl g))] s.heap := hP
  have hl : lv_has ls 4 [(0, .ref h0), (1, .int x), (2, .int y)] := hl
  have r_x := q_r32 x
  have r_y := q_r32 y
  suffices h : ∀ (H : Heap) (locs : List Loc), va_P (dC, dI) vwCl [(h0, .inr (6, [.ref a0, .ref b0, .int lx])), (a0, .inl (cB, 160, .inl f)), (b0, .inl (cB, 160, .inl g))] H → va_D A [(h0, .inr (6, [.ref a0, .ref b0, .int lx])), (a0, .inl (cB, 160, .inl f)), (b0, .inl (cB, 160, .inl g))] → va_S A s.heap H locs → W p l e ({ frames := 1, cells := 0, slots := 0, locals := 21 } : Room) s m ([.ref h0, .int x, .int y] : List Value).toArray below meth c H locs 0 0 (MQ below (va_Qv (fun (u : (Nat → Int32) × (Int32)) => TL u.1 u.2 (tk (w ++ revS G y.toInt n0))) (poG dC dI A (fun u : (Nat → Int32) × (Int32) => [(h0, .inr (6, [.ref a0, .ref b0, .int u.2])), (a0, .inl (cB, 160, .inl u.1)), (b0, .inl (cB, 160, .inl g))])) A) ([.ref h0, .int x, .int y] : List Value).toArray s 0 0 A) (F0 m 0 ls []) from h _ _ hP hD hS
  clear hP hD hS hH H
  intro H locs hP hD hS
  refine lv_iload_n hx hb d_Told_addReversed_0 rfl (lv_at hl 1 rfl) ?_
  refine lv_sipush (v := 160) hx hb d_Told_addReversed_1 (by decide) ?_
  refine callS_i (wr := [(h0, .inr (6, [.ref a0, .ref b0, .int lx])), (a0, .inl (cB, 160, .inl f)), (b0, .inl (cB, 160, .inl g))]) C0 (c_Math_min l dC dI cI cB cJ (x) ((160 : Int32))) (cwSx 2 hts m_443 m_340 m_60 m_341 (by decide +kernel) ⟨Nat.le_of_ble_eq_true rfl, Nat.le_of_ble_eq_true rfl⟩) hP hD hS hA [] [0, 1, 2] rfl rfl (by decide) (by decide) (by decide) rfl hl.1 rfl (Nat.le_of_ble_eq_true rfl) d_Told_addReversed_4 ⟨Nat.le_of_ble_eq_true rfl, Nat.le_of_ble_eq_true rfl⟩ (fun r4 u4 H locs hw9 hP hD hS => ?_)
  have h4 : r4.toInt = min x.toInt (160 : Int32).toInt := hw9
  have hP : va_P (dC, dI) vwCl [(h0, .inr (6, [.ref a0, .ref b0, .int lx])), (a0, .inl (cB, 160, .inl f)), (b0, .inl (cB, 160, .inl g))] H := hP
  have hD : va_D A [(h0, .inr (6, [.ref a0, .ref b0, .int lx])), (a0, .inl (cB, 160, .inl f)), (b0, .inl (cB, 160, .inl g))] := hD
  have t4 : r4.toInt = (n0 : Int) := by rw [h4, hx0, show (160 : Int32).toInt = 160 by decide]; omega
  refine lv_iconst (v := 1) hx hb d_Told_addReversed_7 (by decide) ?_
  refine lv_isub hx hb d_Told_addReversed_8 ?_
  refine lv_topi (fun v8 e8 => ?_)
  have t8 : v8.toInt = (n0 : Int) - 1 := by rw [e8]; exact q_isub t4 (show (1 : Int32).toInt = 1 by decide) (by omega)
  refine lv_istore_n (lv' := [(3, .int v8), (0, .ref h0), (1, .int x), (2, .int y)]) hx hb d_Told_addReversed_9 rfl hl (by decide) rfl (fun ls hl => ?_)
  exact L_Told_addReversed_10 (h0) (a0) (b0) (f) (g) (lx) (w) (G) (x) (y) (n0) C0 hA (hT) (hx0) (hn0) (hG) _ (v8) (n0) (f) (lx) (w) H locs ls (Nat.lt_succ_self _) ((t8).trans (by omega)) (((rfl : y.toInt = y.toInt)).trans (by omega)) (by omega) (by exact hT) (by rfl) (va_Psub hP [0, 1, 2] rfl) (hD.sub [0, 1, 2] (by decide) rfl) hS (lv_sub hl [0, 3, 1] rfl)
