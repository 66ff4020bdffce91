set_option maxHeartbeats 4000000 in
set_option maxRecDepth 100000 in
theorem c_Model_init (l : Launch) (dC : Nat → ClassId) (dI : Nat → Nat → Nat) (cI cB cJ : ClassId) (h0 : Nat) (z0 : Int32) (z1 : Int32) (z2 : Int32) (z3 : Int32) (z4 : Int32) (z5 : Int32) (z6 : Int32) (z7 : Int32) (z8 : Int32) (z9 : Int32) (z10 : Int32) (z11 : Int32) (z12 : Int32) (z13 : Int32) (z14 : Int32) (z15 : Int32) (z16 : Int32) (z17 : Int32) (z18 : Int32) (z19 : Int32) (z20 : Int32) (z21 : Int32) (z22 : Int32) (z23 : Int32) (z24 : Int32) (z25 : Int32)  : Cv l dC dI cI cB cJ y_Model_init w_Model_init ({ frames := 1, cells := 6, slots := 1400, locals := 12 } : Room) [.ref h0] [(h0, .inr (8, [.int z0, .int z1, .int z2, .int z3, .int z4, .null, .int z6, .null, .int z8, .null, .int z10, .int z11, .null, .int z13, .int z14, .int z15, .int z16, .int z17, .int z18, .int z19, .int z20, .null, .int z22, .int z23, .null, .int z25]))] (fun (u : (Nat) × (Nat) × (Nat) × (Nat) × (Nat) × (Nat)) => True) (fun u : (Nat) × (Nat) × (Nat) × (Nat) × (Nat) × (Nat) => [(h0, .inr (8, [.int z0, .int 8, .int 23, .int z3, .int z4, .ref u.1, .int z6, .ref u.2.1, .int z8, .ref u.2.2.1, .int 60, .int 60, .ref u.2.2.2.1, .int z13, .int z14, .int z15, .int z16, .int z17, .int z18, .int z19, .int z20, .ref u.2.2.2.2.1, .int z22, .int z23, .ref u.2.2.2.2.2, .int z25])), (u.1, .inl (cI, 60, .inl (fun _ => 0))), (u.2.1, .inl (cI, 300, .inl (fun _ => 0))), (u.2.2.1, .inl (cI, 400, .inl (fun _ => 0))), (u.2.2.2.1, .inl (cI, 400, .inl (fun _ => 0))), (u.2.2.2.2.1, .inl (cI, 40, .inl (fun _ => 0))), (u.2.2.2.2.2, .inl (cI, 200, .inl (fun _ => 0)))]) := by
  refine Cv.intro (cc := b_Model_init) (maxL := 1) (plainFor_of_name (by decide)) rfl (Nat.le_of_ble_eq_true rfl) ?_
  intro p e s m below meth c A ls C0 hin hA hP hD hS hl
  obtain ⟨hx, hb, hml, hown, hts, hr, hlocks, hK, hN⟩ := id C0
  obtain ⟨H, hH⟩ : ∃ H, H = s.heap := ⟨_, rfl⟩
  have hP : va_P (dC, dI) vwCl [(h0, .inr (8, [.int z0, .int z1, .int z2, .int z3, .int z4, .null, .int z6, .null, .int z8, .null, .int z10, .int z11, .null, .int z13, .int z14, .int z15, .int z16, .int z17, .int z18, .int z19, .int z20, .null, .int z22, .int z23, .null, .int z25]))] s.heap := hP
  have hl : lv_has ls 1 [(0, .ref h0)] := hl
  suffices h : ∀ (H : Heap) (locs : List Loc), va_P (dC, dI) vwCl [(h0, .inr (8, [.int z0, .int z1, .int z2, .int z3, .int z4, .null, .int z6, .null, .int z8, .null, .int z10, .int z11, .null, .int z13, .int z14, .int z15, .int z16, .int z17, .int z18, .int z19, .int z20, .null, .int z22, .int z23, .null, .int z25]))] H → va_D A [(h0, .inr (8, [.int z0, .int z1, .int z2, .int z3, .int z4, .null, .int z6, .null, .int z8, .null, .int z10, .int z11, .null, .int z13, .int z14, .int z15, .int z16, .int z17, .int z18, .int z19, .int z20, .null, .int z22, .int z23, .null, .int z25]))] → va_S A s.heap H locs → W p l e ({ frames := 1, cells := 6, slots := 1400, locals := 12 } : Room) s m ([.ref h0] : List Value).toArray below meth c H locs 0 0 (MQ below (va_Qv (fun (u : (Nat) × (Nat) × (Nat) × (Nat) × (Nat) × (Nat)) => True) (poG dC dI A (fun u : (Nat) × (Nat) × (Nat) × (Nat) × (Nat) × (Nat) => [(h0, .inr (8, [.int z0, .int 8, .int 23, .int z3, .int z4, .ref u.1, .int z6, .ref u.2.1, .int z8, .ref u.2.2.1, .int 60, .int 60, .ref u.2.2.2.1, .int z13, .int z14, .int z15, .int z16, .int z17, .int z18, .int z19, .int z20, .ref u.2.2.2.2.1, .int z22, .int z23, .ref u.2.2.2.2.2, .int z25])), (u.1, .inl (cI, 60, .inl (fun _ => 0))), (u.2.1, .inl (cI, 300, .inl (fun _ => 0))), (u.2.2.1, .inl (cI, 400, .inl (fun _ => 0))), (u.2.2.2.1, .inl (cI, 400, .inl (fun _ => 0))), (u.2.2.2.2.1, .inl (cI, 40, .inl (fun _ => 0))), (u.2.2.2.2.2, .inl (cI, 200, .inl (fun _ => 0)))])) A) ([.ref h0] : List Value).toArray s 6 1400 A) (F0 m 0 ls []) from h _ _ hP hD hS
  clear hP hD hS hH H
  intro H locs hP hD hS
  refine lv_aload_n hx hb d_Model_init_0 rfl (lv_at hl 0 rfl) ?_
  refine W.objInit hx hb hown (hts _ m_562) (hts _ m_70) (hts _ m_71) rfl (by rw [hml]; exact hl.1) rfl d_Model_init_1 (Nat.le_of_ble_eq_true rfl) (Nat.le_of_ble_eq_true rfl) ?_
  refine W.eq (g2 := F0 m 4 ls []) rfl ?_
  refine lv_aload_n hx hb d_Model_init_4 rfl (lv_at hl 0 rfl) ?_
  refine lv_bipush (v := 8) hx hb d_Model_init_5 (by decide) ?_
  refine va_put (D := (dC, dI)) (ci := 8) (v := .int 8) (ty := .int) (C := R_Model) (T := F_Model) (N := 26) hx hb hts u_Model t_Model t_Model_ok n_Model hown hK hP hD hS 0 rfl rfl 1 (by decide) (hts _ m_564) (fun _ h9 => h9) rfl (by decide +kernel) rfl rfl (Nat.le_of_ble_eq_true rfl) d_Model_init_7 (fun H locs hP hD hS => ?_)
  have hP : va_P (dC, dI) vwCl [(h0, .inr (8, [.int z0, .int 8, .int z2, .int z3, .int z4, .null, .int z6, .null, .int z8, .null, .int z10, .int z11, .null, .int z13, .int z14, .int z15, .int z16, .int z17, .int z18, .int z19, .int z20, .null, .int z22, .int z23, .null, .int z25]))] H := hP
  have hD : va_D A [(h0, .inr (8, [.int z0, .int 8, .int z2, .int z3, .int z4, .null, .int z6, .null, .int z8, .null, .int z10, .int z11, .null, .int z13, .int z14, .int z15, .int z16, .int z17, .int z18, .int z19, .int z20, .null, .int z22, .int z23, .null, .int z25]))] := hD
  refine lv_aload_n hx hb d_Model_init_10 rfl (lv_at hl 0 rfl) ?_
  refine lv_bipush (v := 23) hx hb d_Model_init_11 (by decide) ?_
  refine va_put (D := (dC, dI)) (ci := 8) (v := .int 23) (ty := .int) (C := R_Model) (T := F_Model) (N := 26) hx hb hts u_Model t_Model t_Model_ok n_Model hown hK hP hD hS 0 rfl rfl 2 (by decide) (hts _ m_565) (fun _ h9 => h9) rfl (by decide +kernel) rfl rfl (Nat.le_of_ble_eq_true rfl) d_Model_init_13 (fun H locs hP hD hS => ?_)
  have hP : va_P (dC, dI) vwCl [(h0, .inr (8, [.int z0, .int 8, .int 23, .int z3, .int z4, .null, .int z6, .null, .int z8, .null, .int z10, .int z11, .null, .int z13, .int z14, .int z15, .int z16, .int z17, .int z18, .int z19, .int z20, .null, .int z22, .int z23, .null, .int z25]))] H := hP
  have hD : va_D A [(h0, .inr (8, [.int z0, .int 8, .int 23, .int z3, .int z4, .null, .int z6, .null, .int z8, .null, .int z10, .int z11, .null, .int z13, .int z14, .int z15, .int z16, .int z17, .int z18, .int z19, .int z20, .null, .int z22, .int z23, .null, .int z25]))] := hD
  refine lv_aload_n hx hb d_Model_init_16 rfl (lv_at hl 0 rfl) ?_
  refine lv_bipush (v := 60) hx hb d_Model_init_17 (by decide) ?_
  refine newI C0 hP hD hS hA (n := 60) (N := 60) (by decide) (by decide) (by decide) (Nat.le_of_ble_eq_true rfl) (Nat.le_of_ble_eq_true rfl) d_Model_init_19 (fun tA H hP hD hS => ?_)
  have hP : va_P (dC, dI) vwCl [(h0, .inr (8, [.int z0, .int 8, .int 23, .int z3, .int z4, .null, .int z6, .null, .int z8, .null, .int z10, .int z11, .null, .int z13, .int z14, .int z15, .int z16, .int z17, .int z18, .int z19, .int z20, .null, .int z22, .int z23, .null, .int z25])), (tA, .inl (cI, 60, .inl (fun _ => 0)))] H := hP
  have hD : va_D A [(h0, .inr (8, [.int z0, .int 8, .int 23, .int z3, .int z4, .null, .int z6, .null, .int z8, .null, .int z10, .int z11, .null, .int z13, .int z14, .int z15, .int z16, .int z17, .int z18, .int z19, .int z20, .null, .int z22, .int z23, .null, .int z25])), (tA, .inl (cI, 60, .inl (fun _ => 0)))] := hD
  refine va_putF (D := (dC, dI)) (ci := 8) (v := .ref tA) (ty := .array .int) (C := R_Model) (T := F_Model) (N := 26) hx hb hts u_Model t_Model t_Model_ok n_Model hown hK hP hD hS 0 rfl rfl 5 (by decide) (hts _ m_568) (fun _ h9 => h9) rfl hin rfl (by decide +kernel) rfl rfl (Nat.le_of_ble_eq_true rfl) d_Model_init_21 (fun H locs hP hD hS => ?_)
  have hP : va_P (dC, dI) vwCl [(h0, .inr (8, [.int z0, .int 8, .int 23, .int z3, .int z4, .ref tA, .int z6, .null, .int z8, .null, .int z10, .int z11, .null, .int z13, .int z14, .int z15, .int z16, .int z17, .int z18, .int z19, .int z20, .null, .int z22, .int z23, .null, .int z25])), (tA, .inl (cI, 60, .inl (fun _ => 0)))] H := hP
  have hD : va_D A [(h0, .inr (8, [.int z0, .int 8, .int 23, .int z3, .int z4, .ref tA, .int z6, .null, .int z8, .null, .int z10, .int z11, .null, .int z13, .int z14, .int z15, .int z16, .int z17, .int z18, .int z19, .int z20, .null, .int z22, .int z23, .null, .int z25])), (tA, .inl (cI, 60, .inl (fun _ => 0)))] := hD
  refine lv_aload_n hx hb d_Model_init_24 rfl (lv_at hl 0 rfl) ?_
  refine lv_sipush (v := 300) hx hb d_Model_init_25 (by decide) ?_
  refine newI C0 hP hD hS hA (n := 300) (N := 300) (by decide) (by decide) (by decide) (Nat.le_of_ble_eq_true rfl) (Nat.le_of_ble_eq_true rfl) d_Model_init_28 (fun oA H hP hD hS => ?_)
  have hP : va_P (dC, dI) vwCl [(h0, .inr (8, [.int z0, .int 8, .int 23, .int z3, .int z4, .ref tA, .int z6, .null, .int z8, .null, .int z10, .int z11, .null, .int z13, .int z14, .int z15, .int z16, .int z17, .int z18, .int z19, .int z20, .null, .int z22, .int z23, .null, .int z25])), (tA, .inl (cI, 60, .inl (fun _ => 0))), (oA, .inl (cI, 300, .inl (fun _ => 0)))] H := hP
  have hD : va_D A [(h0, .inr (8, [.int z0, .int 8, .int 23, .int z3, .int z4, .ref tA, .int z6, .null, .int z8, .null, .int z10, .int z11, .null, .int z13, .int z14, .int z15, .int z16, .int z17, .int z18, .int z19, .int z20, .null, .int z22, .int z23, .null, .int z25])), (tA, .inl (cI, 60, .inl (fun _ => 0))), (oA, .inl (cI, 300, .inl (fun _ => 0)))] := hD
  refine va_putF (D := (dC, dI)) (ci := 8) (v := .ref oA) (ty := .array .int) (C := R_Model) (T := F_Model) (N := 26) hx hb hts u_Model t_Model t_Model_ok n_Model hown hK hP hD hS 0 rfl rfl 7 (by decide) (hts _ m_570) (fun _ h9 => h9) rfl hin rfl (by decide +kernel) rfl rfl (Nat.le_of_ble_eq_true rfl) d_Model_init_30 (fun H locs hP hD hS => ?_)
  have hP : va_P (dC, dI) vwCl [(h0, .inr (8, [.int z0, .int 8, .int 23, .int z3, .int z4, .ref tA, .int z6, .ref oA, .int z8, .null, .int z10, .int z11, .null, .int z13, .int z14, .int z15, .int z16, .int z17, .int z18, .int z19, .int z20, .null, .int z22, .int z23, .null, .int z25])), (tA, .inl (cI, 60, .inl (fun _ => 0))), (oA, .inl (cI, 300, .inl (fun _ => 0)))] H := hP
  have hD : va_D A [(h0, .inr (8, [.int z0, .int 8, .int 23, .int z3, .int z4, .ref tA, .int z6, .ref oA, .int z8, .null, .int z10, .int z11, .null, .int z13, .int z14, .int z15, .int z16, .int z17, .int z18, .int z19, .int z20, .null, .int z22, .int z23, .null, .int z25])), (tA, .inl (cI, 60, .inl (fun _ => 0))), (oA, .inl (cI, 300, .inl (fun _ => 0)))] := hD
  refine lv_aload_n hx hb d_Model_init_33 rfl (lv_at hl 0 rfl) ?_
  refine lv_sipush (v := 400) hx hb d_Model_init_34 (by decide) ?_
  refine newI C0 hP hD hS hA (n := 400) (N := 400) (by decide) (by decide) (by decide) (Nat.le_of_ble_eq_true rfl) (Nat.le_of_ble_eq_true rfl) d_Model_init_37 (fun rA H hP hD hS => ?_)
  have hP : va_P (dC, dI) vwCl [(h0, .inr (8, [.int z0, .int 8, .int 23, .int z3, .int z4, .ref tA, .int z6, .ref oA, .int z8, .null, .int z10, .int z11, .null, .int z13, .int z14, .int z15, .int z16, .int z17, .int z18, .int z19, .int z20, .null, .int z22, .int z23, .null, .int z25])), (tA, .inl (cI, 60, .inl (fun _ => 0))), (oA, .inl (cI, 300, .inl (fun _ => 0))), (rA, .inl (cI, 400, .inl (fun _ => 0)))] H := hP
  have hD : va_D A [(h0, .inr (8, [.int z0, .int 8, .int 23, .int z3, .int z4, .ref tA, .int z6, .ref oA, .int z8, .null, .int z10, .int z11, .null, .int z13, .int z14, .int z15, .int z16, .int z17, .int z18, .int z19, .int z20, .null, .int z22, .int z23, .null, .int z25])), (tA, .inl (cI, 60, .inl (fun _ => 0))), (oA, .inl (cI, 300, .inl (fun _ => 0))), (rA, .inl (cI, 400, .inl (fun _ => 0)))] := hD
  refine va_putF (D := (dC, dI)) (ci := 8) (v := .ref rA) (ty := .array .int) (C := R_Model) (T := F_Model) (N := 26) hx hb hts u_Model t_Model t_Model_ok n_Model hown hK hP hD hS 0 rfl rfl 9 (by decide) (hts _ m_572) (fun _ h9 => h9) rfl hin rfl (by decide +kernel) rfl rfl (Nat.le_of_ble_eq_true rfl) d_Model_init_39 (fun H locs hP hD hS => ?_)
  have hP : va_P (dC, dI) vwCl [(h0, .inr (8, [.int z0, .int 8, .int 23, .int z3, .int z4, .ref tA, .int z6, .ref oA, .int z8, .ref rA, .int z10, .int z11, .null, .int z13, .int z14, .int z15, .int z16, .int z17, .int z18, .int z19, .int z20, .null, .int z22, .int z23, .null, .int z25])), (tA, .inl (cI, 60, .inl (fun _ => 0))), (oA, .inl (cI, 300, .inl (fun _ => 0))), (rA, .inl (cI, 400, .inl (fun _ => 0)))] H := hP
  have hD : va_D A [(h0, .inr (8, [.int z0, .int 8, .int 23, .int z3, .int z4, .ref tA, .int z6, .ref oA, .int z8, .ref rA, .int z10, .int z11, .null, .int z13, .int z14, .int z15, .int z16, .int z17, .int z18, .int z19, .int z20, .null, .int z22, .int z23, .null, .int z25])), (tA, .inl (cI, 60, .inl (fun _ => 0))), (oA, .inl (cI, 300, .inl (fun _ => 0))), (rA, .inl (cI, 400, .inl (fun _ => 0)))] := hD
  refine lv_aload_n hx hb d_Model_init_42 rfl (lv_at hl 0 rfl) ?_
  refine lv_bipush (v := 60) hx hb d_Model_init_43 (by decide) ?_
  refine va_put (D := (dC, dI)) (ci := 8) (v := .int 60) (ty := .int) (C := R_Model) (T := F_Model) (N := 26) hx hb hts u_Model t_Model t_Model_ok n_Model hown hK hP hD hS 0 rfl rfl 10 (by decide) (hts _ m_573) (fun _ h9 => h9) rfl (by decide +kernel) rfl rfl (Nat.le_of_ble_eq_true rfl) d_Model_init_45 (fun H locs hP hD hS => ?_)
  have hP : va_P (dC, dI) vwCl [(h0, .inr (8, [.int z0, .int 8, .int 23, .int z3, .int z4, .ref tA, .int z6, .ref oA, .int z8, .ref rA, .int 60, .int z11, .null, .int z13, .int z14, .int z15, .int z16, .int z17, .int z18, .int z19, .int z20, .null, .int z22, .int z23, .null, .int z25])), (tA, .inl (cI, 60, .inl (fun _ => 0))), (oA, .inl (cI, 300, .inl (fun _ => 0))), (rA, .inl (cI, 400, .inl (fun _ => 0)))] H := hP
  have hD : va_D A [(h0, .inr (8, [.int z0, .int 8, .int 23, .int z3, .int z4, .ref tA, .int z6, .ref oA, .int z8, .ref rA, .int 60, .int z11, .null, .int z13, .int z14, .int z15, .int z16, .int z17, .int z18, .int z19, .int z20, .null, .int z22, .int z23, .null, .int z25])), (tA, .inl (cI, 60, .inl (fun _ => 0))), (oA, .inl (cI, 300, .inl (fun _ => 0))), (rA, .inl (cI, 400, .inl (fun _ => 0)))] := hD
  refine lv_aload_n hx hb d_Model_init_48 rfl (lv_at hl 0 rfl) ?_
  refine lv_bipush (v := 60) hx hb d_Model_init_49 (by decide) ?_
  refine va_put (D := (dC, dI)) (ci := 8) (v := .int 60) (ty := .int) (C := R_Model) (T := F_Model) (N := 26) hx hb hts u_Model t_Model t_Model_ok n_Model hown hK hP hD hS 0 rfl rfl 11 (by decide) (hts _ m_574) (fun _ h9 => h9) rfl (by decide +kernel) rfl rfl (Nat.le_of_ble_eq_true rfl) d_Model_init_51 (fun H locs hP hD hS => ?_)
  have hP : va_P (dC, dI) vwCl [(h0, .inr (8, [.int z0, .int 8, .int 23, .int z3, .int z4, .ref tA, .int z6, .ref oA, .int z8, .ref rA, .int 60, .int 60, .null, .int z13, .int z14, .int z15, .int z16, .int z17, .int z18, .int z19, .int z20, .null, .int z22, .int z23, .null, .int z25])), (tA, .inl (cI, 60, .inl (fun _ => 0))), (oA, .inl (cI, 300, .inl (fun _ => 0))), (rA, .inl (cI, 400, .inl (fun _ => 0)))] H := hP
  have hD : va_D A [(h0, .inr (8, [.int z0, .int 8, .int 23, .int z3, .int z4, .ref tA, .int z6, .ref oA, .int z8, .ref rA, .int 60, .int 60, .null, .int z13, .int z14, .int z15, .int z16, .int z17, .int z18, .int z19, .int z20, .null, .int z22, .int z23, .null, .int z25])), (tA, .inl (cI, 60, .inl (fun _ => 0))), (oA, .inl (cI, 300, .inl (fun _ => 0))), (rA, .inl (cI, 400, .inl (fun _ => 0)))] := hD
  refine lv_aload_n hx hb d_Model_init_54 rfl (lv_at hl 0 rfl) ?_
  refine lv_sipush (v := 400) hx hb d_Model_init_55 (by decide) ?_
  refine newI C0 hP hD hS hA (n := 400) (N := 400) (by decide) (by decide) (by decide) (Nat.le_of_ble_eq_true rfl) (Nat.le_of_ble_eq_true rfl) d_Model_init_58 (fun wA H hP hD hS => ?_)
  have hP : va_P (dC, dI) vwCl [(h0, .inr (8, [.int z0, .int 8, .int 23, .int z3, .int z4, .ref tA, .int z6, .ref oA, .int z8, .ref rA, .int 60, .int 60, .null, .int z13, .int z14, .int z15, .int z16, .int z17, .int z18, .int z19, .int z20, .null, .int z22, .int z23, .null, .int z25])), (tA, .inl (cI, 60, .inl (fun _ => 0))), (oA, .inl (cI, 300, .inl (fun _ => 0))), (rA, .inl (cI, 400, .inl (fun _ => 0))), (wA, .inl (cI, 400, .inl (fun _ => 0)))] H := hP
  have hD : va_D A [(h0, .inr (8, [.int z0, .int 8, .int 23, .int z3, .int z4, .ref tA, .int z6, .ref oA, .int z8, .ref rA, .int 60, .int 60, .null, .int z13, .int z14, .int z15, .int z16, .int z17, .int z18, .int z19, .int z20, .null, .int z22, .int z23, .null, .int z25])), (tA, .inl (cI, 60, .inl (fun _ => 0))), (oA, .inl (cI, 300, .inl (fun _ => 0))), (rA, .inl (cI, 400, .inl (fun _ => 0))), (wA, .inl (cI, 400, .inl (fun _ => 0)))] := hD
  refine va_putF (D := (dC, dI)) (ci := 8) (v := .ref wA) (ty := .array .int) (C := R_Model) (T := F_Model) (N := 26) hx hb hts u_Model t_Model t_Model_ok n_Model hown hK hP hD hS 0 rfl rfl 12 (by decide) (hts _ m_575) (fun _ h9 => h9) rfl hin rfl (by decide +kernel) rfl rfl (Nat.le_of_ble_eq_true rfl) d_Model_init_60 (fun H locs hP hD hS => ?_)
  have hP : va_P (dC, dI) vwCl [(h0, .inr (8, [.int z0, .int 8, .int 23, .int z3, .int z4, .ref tA, .int z6, .ref oA, .int z8, .ref rA, .int 60, .int 60, .ref wA, .int z13, .int z14, .int z15, .int z16, .int z17, .int z18, .int z19, .int z20, .null, .int z22, .int z23, .null, .int z25])), (tA, .inl (cI, 60, .inl (fun _ => 0))), (oA, .inl (cI, 300, .inl (fun _ => 0))), (rA, .inl (cI, 400, .inl (fun _ => 0))), (wA, .inl (cI, 400, .inl (fun _ => 0)))] H := hP
  have hD : va_D A [(h0, .inr (8, [.int z0, .int 8, .int 23, .int z3, .int z4, .ref tA, .int z6, .ref oA, .int z8, .ref rA, .int 60, .int 60, .ref wA, .int z13, .int z14, .int z15, .int z16, .int z17, .int z18, .int z19, .int z20, .null, .int z22, .int z23, .null, .int z25])), (tA, .inl (cI, 60, .inl (fun _ => 0))), (oA, .inl (cI, 300, .inl (fun _ => 0))), (rA, .inl (cI, 400, .inl (fun _ => 0))), (wA, .inl (cI, 400, .inl (fun _ => 0)))] := hD
  refine lv_aload_n hx hb d_Model_init_63 rfl (lv_at hl 0 rfl) ?_
  refine lv_bipush (v := 40) hx hb d_Model_init_64 (by decide) ?_
  refine newI C0 hP hD hS hA (n := 40) (N := 40) (by decide) (by decide) (by decide) (Nat.le_of_ble_eq_true rfl) (Nat.le_of_ble_eq_true rfl) d_Model_init_66 (fun dA H hP hD hS => ?_)
  have hP : va_P (dC, dI) vwCl [(h0, .inr (8, [.int z0, .int 8, .int 23, .int z3, .int z4, .ref tA, .int z6, .ref oA, .int z8, .ref rA, .int 60, .int 60, .ref wA, .int z13, .int z14, .int z15, .int z16, .int z17, .int z18, .int z19, .int z20, .null, .int z22, .int z23, .null, .int z25])), (tA, .inl (cI, 60, .inl (fun _ => 0))), (oA, .inl (cI, 300, .inl (fun _ => 0))), (rA, .inl (cI, 400, .inl (fun _ => 0))), (wA, .inl (cI, 400, .inl (fun _ => 0))), (dA, .inl (cI, 40, .inl (fun _ => 0)))] H := hP
  have hD : va_D A [(h0, .inr (8, [.int z0, .int 8, .int 23, .int z3, .int z4, .ref tA, .int z6, .ref oA, .int z8, .ref rA, .int 60, .int 60, .ref wA, .int z13, .int z14, .int z15, .int z16, .int z17, .int z18, .int z19, .int z20, .null, .int z22, .int z23, .null, .int z25])), (tA, .inl (cI, 60, .inl (fun _ => 0))), (oA, .inl (cI, 300, .inl (fun _ => 0))), (rA, .inl (cI, 400, .inl (fun _ => 0))), (wA, .inl (cI, 400, .inl (fun _ => 0))), (dA, .inl (cI, 40, .inl (fun _ => 0)))] := hD
  refine va_putF (D := (dC, dI)) (ci := 8) (v := .ref dA) (ty := .array .int) (C := R_Model) (T := F_Model) (N := 26) hx hb hts u_Model t_Model t_Model_ok n_Model hown hK hP hD hS 0 rfl rfl 21 (by decide) (hts _ m_584) (fun _ h9 => h9) rfl hin rfl (by decide +kernel) rfl rfl (Nat.le_of_ble_eq_true rfl) d_Model_init_68 (fun H locs hP hD hS => ?_)
  have hP : va_P (dC, dI) vwCl [(h0, .inr (8, [.int z0, .int 8, .int 23, .int z3, .int z4, .ref tA, .int z6, .ref oA, .int z8, .ref rA, .int 60, .int 60, .ref wA, .int z13, .int z14, .int z15, .int z16, .int z17, .int z18, .int z19, .int z20, .ref dA, .int z22, .int z23, .null, .int z25])), (tA, .inl (cI, 60, .inl (fun _ => 0))), (oA, .inl (cI, 300, .inl (fun _ => 0))), (rA, .inl (cI, 400, .inl (fun _ => 0))), (wA, .inl (cI, 400, .inl (fun _ => 0))), (dA, .inl (cI, 40, .inl (fun _ => 0)))] H := hP
  have hD : va_D A [(h0, .inr (8, [.int z0, .int 8, .int 23, .int z3, .int z4, .ref tA, .int z6, .ref oA, .int z8, .ref rA, .int 60, .int 60, .ref wA, .int z13, .int z14, .int z15, .int z16, .int z17, .int z18, .int z19, .int z20, .ref dA, .int z22, .int z23, .null, .int z25])), (tA, .inl (cI, 60, .inl (fun _ => 0))), (oA, .inl (cI, 300, .inl (fun _ => 0))), (rA, .inl (cI, 400, .inl (fun _ => 0))), (wA, .inl (cI, 400, .inl (fun _ => 0))), (dA, .inl (cI, 40, .inl (fun _ => 0)))] := hD
  refine lv_aload_n hx hb d_Model_init_71 rfl (lv_at hl 0 rfl) ?_
  refine lv_sipush (v := 200) hx hb d_Model_init_72 (by decide) ?_
  refine newI C0 hP hD hS hA (n := 200) (N := 200) (by decide) (by decide) (by decide) (Nat.le_of_ble_eq_true rfl) (Nat.le_of_ble_eq_true rfl) d_Model_init_75 (fun iA H hP hD hS => ?_)
  have hP : va_P (dC, dI) vwCl [(h0, .inr (8, [.int z0, .int 8, .int 23, .int z3, .int z4, .ref tA, .int z6, .ref oA, .int z8, .ref rA, .int 60, .int 60, .ref wA, .int z13, .int z14, .int z15, .int z16, .int z17, .int z18, .int z19, .int z20, .ref dA, .int z22, .int z23, .null, .int z25])), (tA, .inl (cI, 60, .inl (fun _ => 0))), (oA, .inl (cI, 300, .inl (fun _ => 0))), (rA, .inl (cI, 400, .inl (fun _ => 0))), (wA, .inl (cI, 400, .inl (fun _ => 0))), (dA, .inl (cI, 40, .inl (fun _ => 0))), (iA, .inl (cI, 200, .inl (fun _ => 0)))] H := hP
  have hD : va_D A [(h0, .inr (8, [.int z0, .int 8, .int 23, .int z3, .int z4, .ref tA, .int z6, .ref oA, .int z8, .ref rA, .int 60, .int 60, .ref wA, .int z13, .int z14, .int z15, .int z16, .int z17, .int z18, .int z19, .int z20, .ref dA, .int z22, .int z23, .null, .int z25])), (tA, .inl (cI, 60, .inl (fun _ => 0))), (oA, .inl (cI, 300, .inl (fun _ => 0))), (rA, .inl (cI, 400, .inl (fun _ => 0))), (wA, .inl (cI, 400, .inl (fun _ => 0))), (dA, .inl (cI, 40, .inl (fun _ => 0))), (iA, .inl (cI, 200, .inl (fun _ => 0)))] := hD
  refine va_putF (D := (dC, dI)) (ci := 8) (v := .ref iA) (ty := .array .int) (C := R_Model) (T := F_Model) (N := 26) hx hb hts u_Model t_Model t_Model_ok n_Model hown hK hP hD hS 0 rfl rfl 24 (by decide) (hts _ m_587) (fun _ h9 => h9) rfl hin rfl (by decide +kernel) rfl rfl (Nat.le_of_ble_eq_true rfl) d_Model_init_77 (fun H locs hP hD hS => ?_)
  have hP : va_P (dC, dI) vwCl [(h0, .inr (8, [.int z0, .int 8, .int 23, .int z3, .int z4, .ref tA, .int z6, .ref oA, .int z8, .ref rA, .int 60, .int 60, .ref wA, .int z13, .int z14, .int z15, .int z16, .int z17, .int z18, .int z19, .int z20, .ref dA, .int z22, .int z23, .ref iA, .int z25])), (tA, .inl (cI, 60, .inl (fun _ => 0))), (oA, .inl (cI, 300, .inl (fun _ => 0))), (rA, .inl (cI, 400, .inl (fun _ => 0))), (wA, .inl (cI, 400, .inl (fun _ => 0))), (dA, .inl (cI, 40, .inl (fun _ => 0))), (iA, .inl (cI, 200, .inl (fun _ => 0)))] H := hP
  have hD : va_D A [(h0, .inr (8, [.int z0, .int 8, .int 23, .int z3, .int z4, .ref tA, .int z6, .ref oA, .int z8, .ref rA, .int 60, .int 60, .ref wA, .int z13, .int z14, .int z15, .int z16, .int z17, .int z18, .int z19, .int z20, .ref dA, .int z22, .int z23, .ref iA, .int z25])), (tA, .inl (cI, 60, .inl (fun _ => 0))), (oA, .inl (cI, 300, .inl (fun _ => 0))), (rA, .inl (cI, 400, .inl (fun _ => 0))), (wA, .inl (cI, 400, .inl (fun _ => 0))), (dA, .inl (cI, 40, .inl (fun _ => 0))), (iA, .inl (cI, 200, .inl (fun _ => 0)))] := hD
  exact Cv.ret C0 (u := (tA, oA, rA, wA, dA, iA)) (Nat.le_of_ble_eq_true rfl) (Nat.le_of_ble_eq_true rfl) (by show True; trivial) hP hD hS [0, 1, 2, 3, 4, 5, 6] (by decide) rfl d_Model_init_80
set_option maxHeartbeats 4000000 in
set_option maxRecDepth 100000 in
theorem c_Model_raise (l : Launch) (dC : Nat → ClassId) (dI : Nat → Nat → Nat) (cI cB cJ : ClassId) (h0 : Nat) (th : Int32) (we : Int32) (wm : Int32) (wy : Int32) (ra : Int32) (tA : Nat) (tn : Int32) (oA : Nat) (on : Int32) (rA : Nat) (fi : Int32) (la : Int32) (wA : Nat) (wf : Int32) (wl : Int32) (lo : Int32) (ov : Int32) (un : Int32) (aT : Int32) (mi : Int32) (ds : Int32) (dA : Nat) (a0 : Int32) (xp : Int32) (iA : Nat) (te : Int32) (x : Int32)  : Ci l dC dI cI cB cJ y_Model_raise w_Model_raise ({ frames := 0, cells := 0, slots := 0, locals := 0 } : Room) [.ref h0, .int x] [(h0, .inr (8, [.int th, .int we, .int wm, .int wy, .int ra, .ref tA, .int tn, .ref oA, .int on, .ref rA, .int fi, .int la, .ref wA, .int wf, .int wl, .int lo, .int ov, .int un, .int aT, .int mi, .int ds, .ref dA, .int a0, .int xp, .ref iA, .int te]))] (fun (r : Int32) (u : Unit) => r = 0) (fun u : Unit => [(h0, .inr (8, [.int x, .int we, .int wm, .int wy, .int ra, .ref tA, .int tn, .ref oA, .int on, .ref rA, .int fi, .int la, .ref wA, .int wf, .int wl, .int lo, .int ov, .int un, .int aT, .int mi, .int ds, .ref dA, .int a0, .int xp, .ref iA, .int te]))]) := by
  refine Ci.intro (cc := b_Model_raise) (maxL := 2) (plainFor_of_name (by decide)) rfl (Nat.le_of_ble_eq_true rfl) ?_
  intro p e s m below meth c A ls C0 hin hA hP hD hS hl
  obtain ⟨hx, hb, hml, hown, hts, hr, hlocks, hK, hN⟩ := id C0
  obtain ⟨H, hH⟩ : ∃ H, H = s.heap := ⟨_, rfl⟩
  have hP : va_P (dC, dI) vwCl [(h0, .inr (8, [.int th, .int we, .int wm, .int wy, .int ra, .ref tA, .int tn, .ref oA, .int on, .ref rA, .int fi, .int la, .ref wA, .int wf, .int wl, .int lo, .int ov, .int un, .int aT, .int mi, .int ds, .ref dA, .int a0, .int xp, .ref iA, .int te]))] s.heap := hP
  have hl : lv_has ls 2 [(0, .ref h0), (1, .int x)] := hl
  suffices h : ∀ (H : Heap) (locs : List Loc), va_P (dC, dI) vwCl [(h0, .inr (8, [.int th, .int we, .int wm, .int wy, .int ra, .ref tA, .int tn, .ref oA, .int on, .ref rA, .int fi, .int la, .ref wA, .int wf, .int wl, .int lo, .int ov, .int un, .int aT, .int mi, .int ds, .ref dA, .int a0, .int xp, .ref iA, .int te]))] H → va_D A [(h0, .inr (8, [.int th, .int we, .int wm, .int wy, .int ra, .ref tA, .int tn, .ref oA, .int on, .ref rA, .int fi, .int la, .ref wA, .int wf, .int wl, .int lo, .int ov, .int un, .int aT, .int mi, .int ds, .ref dA, .int a0, .int xp, .ref iA, .int te]))] → va_S A s.heap H locs → W p l e ({ frames := 0, cells := 0, slots := 0, locals := 0 } : Room) s m ([.ref h0, .int x] : List Value).toArray below meth c H locs 0 0 (MQ below (va_Qi (fun (r : Int32) (u : Unit) => r = 0) (poG dC dI A (fun u : Unit => [(h0, .inr (8, [.int x, .int we, .int wm, .int wy, .int ra, .ref tA, .int tn, .ref oA, .int on, .ref rA, .int fi, .int la, .ref wA, .int wf, .int wl, .int lo, .int ov, .int un, .int aT, .int mi, .int ds, .ref dA, .int a0, .int xp, .ref iA, .int te]))])) A) ([.ref h0, .int x] : List Value).toArray s 0 0 A) (F0 m 0 ls []) from h _ _ hP hD hS
  clear hP hD hS hH H
  intro H locs hP hD hS
  refine lv_aload_n hx hb d_Model_raise_0 rfl (lv_at hl 0 rfl) ?_
  refine lv_iload_n hx hb d_Model_raise_1 rfl (lv_at hl 1 rfl) ?_
  refine va_put (D := (dC, dI)) (ci := 8) (v := .int x) (ty := .int) (C := R_Model) (T := F_Model) (N := 26) hx hb hts u_Model t_Model t_Model_ok n_Model hown hK hP hD hS 0 rfl rfl 0 (by decide) (hts _ m_563) (fun _ h9 => h9) rfl (by decide +kernel) rfl rfl (Nat.le_of_ble_eq_true rfl) d_Model_raise_2 (fun H locs hP hD hS => ?_)
  have hP : va_P (dC, dI) vwCl [(h0, .inr (8, [.int x, .int we, .int wm, .int wy, .int ra, .ref tA, .int tn, .ref oA, .int on, .ref rA, .int fi, .int la, .ref wA, .int wf, .int wl, .int lo, .int ov, .int un, .int aT, .int mi, .int ds, .ref dA, .int a0, .int xp, .ref iA, .int te]))] H := hP
  have hD : va_D A [(h0, .inr (8, [.int x, .int we, .int wm, .int wy, .int ra, .ref tA, .int tn, .ref oA, .int on, .ref rA, .int fi, .int la, .ref wA, .int wf, .int wl, .int lo, .int ov, .int un, .int aT, .int mi, .int ds, .ref dA, .int a0, .int xp, .ref iA, .int te]))] := hD
  refine lv_iconst (v := 0) hx hb d_Model_raise_5 (by decide) ?_
  exact Ci.ret C0 (v := 0) (u := ()) (Nat.le_of_ble_eq_true rfl) (Nat.le_of_ble_eq_true rfl) (by show (0 : Int32) = 0; rfl) hP hD hS [0] (by decide) rfl d_Model_raise_6
set_option maxHeartbeats 4000000 in
set_option maxRecDepth 100000 in
theorem c_Model_format (l : Launch) (dC : Nat → ClassId) (dI : Nat → Nat → Nat) (cI cB cJ : ClassId) (h0 : Nat) (th : Int32) (we : Int32) (wm : Int32) (wy : Int32) (ra : Int32) (tA : Nat) (tn : Int32) (oA : Nat) (on : Int32) (rA : Nat) (fi : Int32) (la : Int32) (wA : Nat) (wf : Int32) (wl : Int32) (lo : Int32) (ov : Int32) (un : Int32) (aT : Int32) (mi : Int32) (ds : Int32) (dA : Nat) (a0 : Int32) (xp : Int32) (iA : Nat) (te : Int32) (x : Int32) (y : Int32)  : Ci l dC dI cI cB cJ y_Model_format w_Model_format ({ frames := 0, cells := 0, slots := 0, locals := 0 } : Room) [.ref h0, .int x, .int y] [(h0, .inr (8, [.int th, .int we, .int wm, .int wy, .int ra, .ref tA, .int tn, .ref oA, .int on, .ref rA, .int fi, .int la, .ref wA, .int wf, .int wl, .int lo, .int ov, .int un, .int aT, .int mi, .int ds, .ref dA, .int a0, .int xp, .ref iA, .int te]))] (fun (r : Int32) (u : (Int32) × (Int32)) => (r = 1 ∧ fOK x y ∧ u.1 = x ∧ u.2 = y) ∨ (r = 0 ∧ ¬ fOK x y ∧ u.1 = we ∧ u.2 = wm)) (fun u : (Int32) × (Int32) => [(h0, .inr (8, [.int 0, .int u.1, .int u.2, .int wy, .int ra, .ref tA, .int tn, .ref oA, .int on, .ref rA, .int fi, .int la, .ref wA, .int wf, .int wl, .int lo, .int ov, .int un, .int aT, .int mi, .int ds, .ref dA, .int a0, .int xp, .ref iA, .int te]))]) := by
  refine Ci.intro (cc := b_Model_format) (maxL := 3) (plainFor_of_name (by decide)) rfl (Nat.le_of_ble_eq_true rfl) ?_
  intro p e s m below meth c A ls C0 hin hA hP hD hS hl
  obtain ⟨hx, hb, hml, hown, hts, hr, hlocks, hK, hN⟩ := id C0
  obtain ⟨H, hH⟩ : ∃ H, H = s.heap := ⟨_, rfl⟩
  have hP : va_P (dC, dI) vwCl [(h0, .inr (8, [.int th, .int we, .int wm, .int wy, .int ra, .ref tA, .int tn, .ref oA, .int on, .ref rA, .int fi, .int la, .ref wA, .int wf, .int wl, .int lo, .int ov, .int un, .int aT, .int mi, .int ds, .ref dA, .int a0, .int xp, .ref iA, .int te]))] s.heap := hP
  have hl : lv_has ls 3 [(0, .ref h0), (1, .int x), (2, .int y)] := hl
  have r_x := q_r32 x
  have r_y := q_r32 y
  suffices h : ∀ (H : Heap) (locs : List Loc), va_P (dC, dI) vwCl [(h0, .inr (8, [.int th, .int we, .int wm, .int wy, .int ra, .ref tA, .int tn, .ref oA, .int on, .ref rA, .int fi, .int la, .ref wA, .int wf, .int wl, .int lo, .int ov, .int un, .int aT, .int mi, .int ds, .ref dA, .int a0, .int xp, .ref iA, .int te]))] H → va_D A [(h0, .inr (8, [.int th, .int we, .int wm, .int wy, .int ra, .ref tA, .int tn, .ref oA, .int on, .ref rA, .int fi, .int la, .ref wA, .int wf, .int wl, .int lo, .int ov, .int un, .int aT, .int mi, .int ds, .ref dA, .int a0, .int xp, .ref iA, .int te]))] → va_S A s.heap H locs → W p l e ({ frames := 0, cells := 0, slots := 0, locals := 0 } : Room) s m ([.ref h0, .int x, .int y] : List Value).toArray below meth c H locs 0 0 (MQ below (va_Qi (fun (r : Int32) (u : (Int32) × (Int32)) => (r = 1 ∧ fOK x y ∧ u.1 = x ∧ u.2 = y) ∨ (r = 0 ∧ ¬ fOK x y ∧ u.1 = we ∧ u.2 = wm)) (poG dC dI A (fun u : (Int32) × (Int32) => [(h0, .inr (8, [.int 0, .int u.1, .int u.2, .int wy, .int ra, .ref tA, .int tn, .ref oA, .int on, .ref rA, .int fi, .int la, .ref wA, .int wf, .int wl, .int lo, .int ov, .int un, .int aT, .int mi, .int ds, .ref dA, .int a0, .int xp, .ref iA, .int te]))])) A) ([.ref h0, .int x, .int y] : List Value).toArray s 0 0 A) (F0 m 0 ls []) from h _ _ hP hD hS
  clear hP hD hS hH H
  intro H locs hP hD hS
  refine lv_aload_n hx hb d_Model_format_0 rfl (lv_at hl 0 rfl) ?_
  refine lv_iconst (v := 0) hx hb d_Model_format_1 (by decide) ?_
  refine va_put (D := (dC, dI)) (ci := 8) (v := .int 0) (ty := .int) (C := R_Model) (T := F_Model) (N := 26) hx hb hts u_Model t_Model t_Model_ok n_Model hown hK hP hD hS 0 rfl rfl 0 (by decide) (hts _ m_563) (fun _ h9 => h9) rfl (by decide +kernel) rfl rfl (Nat.le_of_ble_eq_true rfl) d_Model_format_2 (fun H locs hP hD hS => ?_)
  have hP : va_P (dC, dI) vwCl [(h0, .inr (8, [.int 0, .int we, .int wm, .int wy, .int ra, .ref tA, .int tn, .ref oA, .int on, .ref rA, .int fi, .int la, .ref wA, .int wf, .int wl, .int lo, .int ov, .int un, .int aT, .int mi, .int ds, .ref dA, .int a0, .int xp, .ref iA, .int te]))] H := hP
  have hD : va_D A [(h0, .inr (8, [.int 0, .int we, .int wm, .int wy, .int ra, .ref tA, .int tn, .ref oA, .int on, .ref rA, .int fi, .int la, .ref wA, .int wf, .int wl, .int lo, .int ov, .int un, .int aT, .int mi, .int ds, .ref dA, .int a0, .int xp, .ref iA, .int te]))] := hD
  refine lv_iload_n hx hb d_Model_format_5 rfl (lv_at hl 1 rfl) ?_
  refine lv_iconst (v := 2) hx hb d_Model_format_6 (by decide) ?_
  refine lv_icmp_lt (tgt := 27) hx hb d_Model_format_7 (by decide) (fun b7 => ?_) (fun b7 => ?_)
  · skip
    rw [q_ilt (rfl : x.toInt = x.toInt) (show (2 : Int32).toInt = 2 by decide)] at b7
    refine lv_iconst (v := 0) hx hb d_Model_format_27 (by decide) ?_
    exact Cz.ret C0 (v := 0) (u := (we, wm)) (by rfl) (Nat.le_of_ble_eq_true rfl) (Nat.le_of_ble_eq_true rfl) (by show ((0 : Int32) = 1 ∧ fOK x y ∧ we = x ∧ wm = y) ∨ ((0 : Int32) = 0 ∧ ¬ fOK x y ∧ we = we ∧ wm = wm); exact Or.inr ⟨rfl, fun h => by have := h.1; omega, rfl, rfl⟩) hP hD hS [0] (by decide) rfl d_Model_format_28
  · skip
    rw [q_ilt (rfl : x.toInt = x.toInt) (show (2 : Int32).toInt = 2 by decide)] at b7
    refine lv_iload_n hx hb d_Model_format_10 rfl (lv_at hl 1 rfl) ?_
    refine lv_bipush (v := 8) hx hb d_Model_format_11 (by decide) ?_
    refine lv_icmp_gt (tgt := 27) hx hb d_Model_format_13 (by decide) (fun b13 => ?_) (fun b13 => ?_)
    · skip
      rw [q_ilt (show (8 : Int32).toInt = 8 by decide) (rfl : x.toInt = x.toInt)] at b13
      refine lv_iconst (v := 0) hx hb d_Model_format_27 (by decide) ?_
      exact Cz.ret C0 (v := 0) (u := (we, wm)) (by rfl) (Nat.le_of_ble_eq_true rfl) (Nat.le_of_ble_eq_true rfl) (by show ((0 : Int32) = 1 ∧ fOK x y ∧ we = x ∧ wm = y) ∨ ((0 : Int32) = 0 ∧ ¬ fOK x y ∧ we = we ∧ wm = wm); exact Or.inr ⟨rfl, fun h => by have := h.2.1; omega, rfl, rfl⟩) hP hD hS [0] (by decide) rfl d_Model_format_28
    · skip
      rw [q_ilt (show (8 : Int32).toInt = 8 by decide) (rfl : x.toInt = x.toInt)] at b13
      refine lv_iload_n hx hb d_Model_format_16 rfl (lv_at hl 2 rfl) ?_
      refine lv_iconst (v := 1) hx hb d_Model_format_17 (by decide) ?_
      refine lv_icmp_lt (tgt := 27) hx hb d_Model_format_18 (by decide) (fun b18 => ?_) (fun b18 => ?_)
      · skip
        rw [q_ilt (rfl : y.toInt = y.toInt) (show (1 : Int32).toInt = 1 by decide)] at b18
        refine lv_iconst (v := 0) hx hb d_Model_format_27 (by decide) ?_
        exact Cz.ret C0 (v := 0) (u := (we, wm)) (by rfl) (Nat.le_of_ble_eq_true rfl) (Nat.le_of_ble_eq_true rfl) (by show ((0 : Int32) = 1 ∧ fOK x y ∧ we = x ∧ wm = y) ∨ ((0 : Int32) = 0 ∧ ¬ fOK x y ∧ we = we ∧ wm = wm); exact Or.inr ⟨rfl, fun h => by have := h.2.2.1; omega, rfl, rfl⟩) hP hD hS [0] (by decide) rfl d_Model_format_28
      · skip
        rw [q_ilt (rfl : y.toInt = y.toInt) (show (1 : Int32).toInt = 1 by decide)] at b18
        refine lv_iload_n hx hb d_Model_format_21 rfl (lv_at hl 2 rfl) ?_
        refine lv_bipush (v := 23) hx hb d_Model_format_22 (by decide) ?_
        refine lv_icmp_le (tgt := 29) hx hb d_Model_format_24 (by decide) (fun b24 => ?_) (fun b24 => ?_)
        · skip
          rw [q_ile (rfl : y.toInt = y.toInt) (show (23 : Int32).toInt = 23 by decide)] at b24
          refine lv_aload_n hx hb d_Model_format_29 rfl (lv_at hl 0 rfl) ?_
          refine lv_iload_n hx hb d_Model_format_30 rfl (lv_at hl 1 rfl) ?_
          refine va_put (D := (dC, dI)) (ci := 8) (v := .int x) (ty := .int) (C := R_Model) (T := F_Model) (N := 26) hx hb hts u_Model t_Model t_Model_ok n_Model hown hK hP hD hS 0 rfl rfl 1 (by decide) (hts _ m_564) (fun _ h9 => h9) rfl (by decide +kernel) rfl rfl (Nat.le_of_ble_eq_true rfl) d_Model_format_31 (fun H locs hP hD hS => ?_)
          have hP : va_P (dC, dI) vwCl [(h0, .inr (8, [.int 0, .int x, .int wm, .int wy, .int ra, .ref tA, .int tn, .ref oA, .int on, .ref rA, .int fi, .int la, .ref wA, .int wf, .int wl, .int lo, .int ov, .int un, .int aT, .int mi, .int ds, .ref dA, .int a0, .int xp, .ref iA, .int te]))] H := hP
          have hD : va_D A [(h0, .inr (8, [.int 0, .int x, .int wm, .int wy, .int ra, .ref tA, .int tn, .ref oA, .int on, .ref rA, .int fi, .int la, .ref wA, .int wf, .int wl, .int lo, .int ov, .int un, .int aT, .int mi, .int ds, .ref dA, .int a0, .int xp, .ref iA, .int te]))] := hD
          refine lv_aload_n hx hb d_Model_format_34 rfl (lv_at hl 0 rfl) ?_
          refine lv_iload_n hx hb d_Model_format_35 rfl (lv_at hl 2 rfl) ?_
          refine va_put (D := (dC, dI)) (ci := 8) (v := .int y) (ty := .int) (C := R_Model) (T := F_Model) (N := 26) hx hb hts u_Model t_Model t_Model_ok n_Model hown hK hP hD hS 0 rfl rfl 2 (by decide) (hts _ m_565) (fun _ h9 => h9) rfl (by decide +kernel) rfl rfl (Nat.le_of_ble_eq_true rfl) d_Model_format_36 (fun H locs hP hD hS => ?_)
          have hP : va_P (dC, dI) vwCl [(h0, .inr (8, [.int 0, .int x, .int y, .int wy, .int ra, .ref tA, .int tn, .ref oA, .int on, .ref rA, .int fi, .int la, .ref wA, .int wf, .int wl, .int lo, .int ov, .int un, .int aT, .int mi, .int ds, .ref dA, .int a0, .int xp, .ref iA, .int te]))] H := hP
          have hD : va_D A [(h0, .inr (8, [.int 0, .int x, .int y, .int wy, .int ra, .ref tA, .int tn, .ref oA, .int on, .ref rA, .int fi, .int la, .ref wA, .int wf, .int wl, .int lo, .int ov, .int un, .int aT, .int mi, .int ds, .ref dA, .int a0, .int xp, .ref iA, .int te]))] := hD
          refine lv_iconst (v := 1) hx hb d_Model_format_39 (by decide) ?_
          exact Cz.ret C0 (v := 1) (u := (x, y)) (by rfl) (Nat.le_of_ble_eq_true rfl) (Nat.le_of_ble_eq_true rfl) (by show ((1 : Int32) = 1 ∧ fOK x y ∧ x = x ∧ y = y) ∨ ((1 : Int32) = 0 ∧ ¬ fOK x y ∧ x = we ∧ y = wm); exact Or.inl ⟨rfl, ⟨by omega, by omega, by omega, by omega⟩, rfl, rfl⟩) hP hD hS [0] (by decide) rfl d_Model_format_40
        · skip
          rw [q_ile (rfl : y.toInt = y.toInt) (show (23 : Int32).toInt = 23 by decide)] at b24
          refine lv_iconst (v := 0) hx hb d_Model_format_27 (by decide) ?_
          exact Cz.ret C0 (v := 0) (u := (we, wm)) (by rfl) (Nat.le_of_ble_eq_true rfl) (Nat.le_of_ble_eq_true rfl) (by show ((0 : Int32) = 1 ∧ fOK x y ∧ we = x ∧ wm = y) ∨ ((0 : Int32) = 0 ∧ ¬ fOK x y ∧ we = we ∧ wm = wm); exact Or.inr ⟨rfl, fun h => by have := h.2.2.2; omega, rfl, rfl⟩) hP hD hS [0] (by decide) rfl d_Model_format_28
set_option maxHeartbeats 4000000 in
set_option maxRecDepth 100000 in
theorem c_Model_mode (l : Launch) (dC : Nat → ClassId) (dI : Nat → Nat → Nat) (cI cB cJ : ClassId) (h0 : Nat) (th : Int32) (we : Int32) (wm : Int32) (wy : Int32) (ra : Int32) (tA : Nat) (tn : Int32) (oA : Nat) (on : Int32) (rA : Nat) (fi : Int32) (la : Int32) (wA : Nat) (wf : Int32) (wl : Int32) (lo : Int32) (ov : Int32) (un : Int32) (aT : Int32) (mi : Int32) (ds : Int32) (dA : Nat) (a0 : Int32) (xp : Int32) (iA : Nat) (te : Int32) (x : Int32)  : Ci l dC dI cI cB cJ y_Model_mode w_Model_mode ({ frames := 0, cells := 0, slots := 0, locals := 0 } : Room) [.ref h0, .int x] [(h0, .inr (8, [.int th, .int we, .int wm, .int wy, .int ra, .ref tA, .int tn, .ref oA, .int on, .ref rA, .int fi, .int la, .ref wA, .int wf, .int wl, .int lo, .int ov, .int un, .int aT, .int mi, .int ds, .ref dA, .int a0, .int xp, .ref iA, .int te]))] (fun (r : Int32) (u : (Int32)) => (r = 1 ∧ mOK x ∧ u = x) ∨ (r = 0 ∧ ¬ mOK x ∧ u = wy)) (fun u : (Int32) => [(h0, .inr (8, [.int 0, .int we, .int wm, .int u, .int ra, .ref tA, .int tn, .ref oA, .int on, .ref rA, .int fi, .int la, .ref wA, .int wf, .int wl, .int lo, .int ov, .int un, .int aT, .int mi, .int ds, .ref dA, .int a0, .int xp, .ref iA, .int te]))]) := by
  refine Ci.intro (cc := b_Model_mode) (maxL := 2) (plainFor_of_name (by decide)) rfl (Nat.le_of_ble_eq_true rfl) ?_
  intro p e s m below meth c A ls C0 hin hA hP hD hS hl
  obtain ⟨hx, hb, hml, hown, hts, hr, hlocks, hK, hN⟩ := id C0
  obtain ⟨H, hH⟩ : ∃ H, H = s.heap := ⟨_, rfl⟩
  have hP : va_P (dC, dI) vwCl [(h0, .inr (8, [.int th, .int we, .int wm, .int wy, .int ra, .ref tA, .int tn, .ref oA, .int on, .ref rA, .int fi, .int la, .ref wA, .int wf, .int wl, .int lo, .int ov, .int un, .int aT, .int mi, .int ds, .ref dA, .int a0, .int xp, .ref iA, .int te]))] s.heap := hP
  have hl : lv_has ls 2 [(0, .ref h0), (1, .int x)] := hl
  have r_x := q_r32 x
  suffices h : ∀ (H : Heap) (locs : List Loc), va_P (dC, dI) vwCl [(h0, .inr (8, [.int th, .int we, .int wm, .int wy, .int ra, .ref tA, .int tn, .ref oA, .int on, .ref rA, .int fi, .int la, .ref wA, .int wf, .int wl, .int lo, .int ov, .int un, .int aT, .int mi, .int ds, .ref dA, .int a0, .int xp, .ref iA, .int te]))] H → va_D A [(h0, .inr (8, [.int th, .int we, .int wm, .int wy, .int ra, .ref tA, .int tn, .ref oA, .int on, .ref rA, .int fi, .int la, .ref wA, .int wf, .int wl, .int lo, .int ov, .int un, .int aT, .int mi, .int ds, .ref dA, .int a0, .int xp, .ref iA, .int te]))] → va_S A s.heap H locs → W p l e ({ frames := 0, cells := 0, slots := 0, locals := 0 } : Room) s m ([.ref h0, .int x] : List Value).toArray below meth c H locs 0 0 (MQ below (va_Qi (fun (r : Int32) (u : (Int32)) => (r = 1 ∧ mOK x ∧ u = x) ∨ (r = 0 ∧ ¬ mOK x ∧ u = wy)) (poG dC dI A (fun u : (Int32) => [(h0, .inr (8, [.int 0, .int we, .int wm, .int u, .int ra, .ref tA, .int tn, .ref oA, .int on, .ref rA, .int fi, .int la, .ref wA, .int wf, .int wl, .int lo, .int ov, .int un, .int aT, .int mi, .int ds, .ref dA, .int a0, .int xp, .ref iA, .int te]))])) A) ([.ref h0, .int x] : List Value).toArray s 0 0 A) (F0 m 0 ls []) from h _ _ hP hD hS
  clear hP hD hS hH H
  intro H locs hP hD hS
  refine lv_aload_n hx hb d_Model_mode_0 rfl (lv_at hl 0 rfl) ?_
  refine lv_iconst (v := 0) hx hb d_Model_mode_1 (by decide) ?_
  refine va_put (D := (dC, dI)) (ci := 8) (v := .int 0) (ty := .int) (C := R_Model) (T := F_Model) (N := 26) hx hb hts u_Model t_Model t_Model_ok n_Model hown hK hP hD hS 0 rfl rfl 0 (by decide) (hts _ m_563) (fun _ h9 => h9) rfl (by decide +kernel) rfl rfl (Nat.le_of_ble_eq_true rfl) d_Model_mode_2 (fun H locs hP hD hS => ?_)
  have hP : va_P (dC, dI) vwCl [(h0, .inr (8, [.int 0, .int we, .int wm, .int wy, .int ra, .ref tA, .int tn, .ref oA, .int on, .ref rA, .int fi, .int la, .ref wA, .int wf, .int wl, .int lo, .int ov, .int un, .int aT, .int mi, .int ds, .ref dA, .int a0, .int xp, .ref iA, .int te]))] H := hP
  have hD : va_D A [(h0, .inr (8, [.int 0, .int we, .int wm, .int wy, .int ra, .ref tA, .int tn, .ref oA, .int on, .ref rA, .int fi, .int la, .ref wA, .int wf, .int wl, .int lo, .int ov, .int un, .int aT, .int mi, .int ds, .ref dA, .int a0, .int xp, .ref iA, .int te]))] := hD
  refine lv_iload_n hx hb d_Model_mode_5 rfl (lv_at hl 1 rfl) ?_
  refine lv_if_lt (tgt := 14) hx hb d_Model_mode_6 (by decide) (fun b6 => ?_) (fun b6 => ?_)
  · skip
    rw [q_ilt (rfl : x.toInt = x.toInt) (show (0 : Int32).toInt = 0 by decide)] at b6
    refine lv_iconst (v := 0) hx hb d_Model_mode_14 (by decide) ?_
    exact Cz.ret C0 (v := 0) (u := (wy)) (by rfl) (Nat.le_of_ble_eq_true rfl) (Nat.le_of_ble_eq_true rfl) (by show ((0 : Int32) = 1 ∧ mOK x ∧ wy = x) ∨ ((0 : Int32) = 0 ∧ ¬ mOK x ∧ wy = wy); exact Or.inr ⟨rfl, fun h => by have := h.1; omega, rfl⟩) hP hD hS [0] (by decide) rfl d_Model_mode_15
  · skip
    rw [q_ilt (rfl : x.toInt = x.toInt) (show (0 : Int32).toInt = 0 by decide)] at b6
    refine lv_iload_n hx hb d_Model_mode_9 rfl (lv_at hl 1 rfl) ?_
    refine lv_iconst (v := 4) hx hb d_Model_mode_10 (by decide) ?_
    refine lv_icmp_le (tgt := 16) hx hb d_Model_mode_11 (by decide) (fun b11 => ?_) (fun b11 => ?_)
    · skip
      rw [q_ile (rfl : x.toInt = x.toInt) (show (4 : Int32).toInt = 4 by decide)] at b11
      refine lv_aload_n hx hb d_Model_mode_16 rfl (lv_at hl 0 rfl) ?_
      refine lv_iload_n hx hb d_Model_mode_17 rfl (lv_at hl 1 rfl) ?_
      refine va_put (D := (dC, dI)) (ci := 8) (v := .int x) (ty := .int) (C := R_Model) (T := F_Model) (N := 26) hx hb hts u_Model t_Model t_Model_ok n_Model hown hK hP hD hS 0 rfl rfl 3 (by decide) (hts _ m_566) (fun _ h9 => h9) rfl (by decide +kernel) rfl rfl (Nat.le_of_ble_eq_true rfl) d_Model_mode_18 (fun H locs hP hD hS => ?_)
      have hP : va_P (dC, dI) vwCl [(h0, .inr (8, [.int 0, .int we, .int wm, .int x, .int ra, .ref tA, .int tn, .ref oA, .int on, .ref rA, .int fi, .int la, .ref wA, .int wf, .int wl, .int lo, .int ov, .int un, .int aT, .int mi, .int ds, .ref dA, .int a0, .int xp, .ref iA, .int te]))] H := hP
      have hD : va_D A [(h0, .inr (8, [.int 0, .int we, .int wm, .int x, .int ra, .ref tA, .int tn, .ref oA, .int on, .ref rA, .int fi, .int la, .ref wA, .int wf, .int wl, .int lo, .int ov, .int un, .int aT, .int mi, .int ds, .ref dA, .int a0, .int xp, .ref iA, .int te]))] := hD
      refine lv_iconst (v := 1) hx hb d_Model_mode_21 (by decide) ?_
      exact Cz.ret C0 (v := 1) (u := (x)) (by rfl) (Nat.le_of_ble_eq_true rfl) (Nat.le_of_ble_eq_true rfl) (by show ((1 : Int32) = 1 ∧ mOK x ∧ x = x) ∨ ((1 : Int32) = 0 ∧ ¬ mOK x ∧ x = wy); exact Or.inl ⟨rfl, ⟨by omega, by omega⟩, rfl⟩) hP hD hS [0] (by decide) rfl d_Model_mode_22
    · skip
      rw [q_ile (rfl : x.toInt = x.toInt) (show (4 : Int32).toInt = 4 by decide)] at b11
      refine lv_iconst (v := 0) hx hb d_Model_mode_14 (by decide) ?_
      exact Cz.ret C0 (v := 0) (u := (wy)) (by rfl) (Nat.le_of_ble_eq_true rfl) (Nat.le_of_ble_eq_true rfl) (by show ((0 : Int32) = 1 ∧ mOK x ∧ wy = x) ∨ ((0 : Int32) = 0 ∧ ¬ mOK x ∧ wy = wy); exact Or.inr ⟨rfl, fun h => by have := h.2; omega, rfl⟩) hP hD hS [0] (by decide) rfl d_Model_mode_15
set_option maxHeartbeats 4000000 in
set_option maxRecDepth 100000 in
theorem c_Model_flags (l : Launch) (dC : Nat → ClassId) (dI : Nat → Nat → Nat) (cI cB cJ : ClassId) (h0 : Nat) (th : Int32) (we : Int32) (wm : Int32) (wy : Int32) (ra : Int32) (tA : Nat) (tn : Int32) (oA : Nat) (on : Int32) (rA : Nat) (fi : Int32) (la : Int32) (wA : Nat) (wf : Int32) (wl : Int32) (lo : Int32) (ov : Int32) (un : Int32) (aT : Int32) (mi : Int32) (ds : Int32) (dA : Nat) (a0 : Int32) (xp : Int32) (iA : Nat) (te : Int32)  : Ci l dC dI cI cB cJ y_Model_flags w_Model_flags ({ frames := 0, cells := 0, slots := 0, locals := 0 } : Room) [.ref h0] [(h0, .inr (8, [.int th, .int we, .int wm, .int wy, .int ra, .ref tA, .int tn, .ref oA, .int on, .ref rA, .int fi, .int la, .ref wA, .int wf, .int wl, .int lo, .int ov, .int un, .int aT, .int mi, .int ds, .ref dA, .int a0, .int xp, .ref iA, .int te]))] (fun (r : Int32) (u : Unit) => r = ra) (fun u : Unit => [(h0, .inr (8, [.int 0, .int we, .int wm, .int wy, .int ra, .ref tA, .int tn, .ref oA, .int on, .ref rA, .int fi, .int la, .ref wA, .int wf, .int wl, .int lo, .int ov, .int un, .int aT, .int mi, .int ds, .ref dA, .int a0, .int xp, .ref iA, .int te]))]) := by
  refine Ci.intro (cc := b_Model_flags) (maxL := 1) (plainFor_of_name (by decide)) rfl (Nat.le_of_ble_eq_true rfl) ?_
  intro p e s m below meth c A ls C0 hin hA hP hD hS hl
  obtain ⟨hx, hb, hml, hown, hts, hr, hlocks, hK, hN⟩ := id C0
  obtain ⟨H, hH⟩ : ∃ H, H = s.heap := ⟨_, rfl⟩
  have hP : va_P (dC, dI) vwCl [(h0, .inr (8, [.int th, .int we, .int wm, .int wy, .int ra, .ref tA, .int tn, .ref oA, .int on, .ref rA, .int fi, .int la, .ref wA, .int wf, .int wl, .int lo, .int ov, .int un, .int aT, .int mi, .int ds, .ref dA, .int a0, .int xp, .ref iA, .int te]))] s.heap := hP
  have hl : lv_has ls 1 [(0, .ref h0)] := hl
  suffices h : ∀ (H : Heap) (locs : List Loc), va_P (dC, dI) vwCl [(h0, .inr (8, [.int th, .int we, .int wm, .int wy, .int ra, .ref tA, .int tn, .ref oA, .int on, .ref rA, .int fi, .int la, .ref wA, .int wf, .int wl, .int lo, .int ov, .int un, .int aT, .int mi, .int ds, .ref dA, .int a0, .int xp, .ref iA, .int te]))] H → va_D A [(h0, .inr (8, [.int th, .int we, .int wm, .int wy, .int ra, .ref tA, .int tn, .ref oA, .int on, .ref rA, .int fi, .int la, .ref wA, .int wf, .int wl, .int lo, .int ov, .int un, .int aT, .int mi, .int ds, .ref dA, .int a0, .int xp, .ref iA, .int te]))] → va_S A s.heap H locs → W p l e ({ frames := 0, cells := 0, slots := 0, locals := 0 } : Room) s m ([.ref h0] : List Value).toArray below meth c H locs 0 0 (MQ below (va_Qi (fun (r : Int32) (u : Unit) => r = ra) (poG dC dI A (fun u : Unit => [(h0, .inr (8, [.int 0, .int we, .int wm, .int wy, .int ra, .ref tA, .int tn, .ref oA, .int on, .ref rA, .int fi, .int la, .ref wA, .int wf, .int wl, .int lo, .int ov, .int un, .int aT, .int mi, .int ds, .ref dA, .int a0, .int xp, .ref iA, .int te]))])) A) ([.ref h0] : List Value).toArray s 0 0 A) (F0 m 0 ls []) from h _ _ hP hD hS
  clear hP hD hS hH H
  intro H locs hP hD hS
  refine lv_aload_n hx hb d_Model_flags_0 rfl (lv_at hl 0 rfl) ?_
  refine lv_iconst (v := 0) hx hb d_Model_flags_1 (by decide) ?_
  refine va_put (D := (dC, dI)) (ci := 8) (v := .int 0) (ty := .int) (C := R_Model) (T := F_Model) (N := 26) hx hb hts u_Model t_Model t_Model_ok n_Model hown hK hP hD hS 0 rfl rfl 0 (by decide) (hts _ m_563) (fun _ h9 => h9) rfl (by decide +kernel) rfl rfl (Nat.le_of_ble_eq_true rfl) d_Model_flags_2 (fun H locs hP hD hS => ?_)
  have hP : va_P (dC, dI) vwCl [(h0, .inr (8, [.int 0, .int we, .int wm, .int wy, .int ra, .ref tA, .int tn, .ref oA, .int on, .ref rA, .int fi, .int la, .ref wA, .int wf, .int wl, .int lo, .int ov, .int un, .int aT, .int mi, .int ds, .ref dA, .int a0, .int xp, .ref iA, .int te]))] H := hP
  have hD : va_D A [(h0, .inr (8, [.int 0, .int we, .int wm, .int wy, .int ra, .ref tA, .int tn, .ref oA, .int on, .ref rA, .int fi, .int la, .ref wA, .int wf, .int wl, .int lo, .int ov, .int un, .int aT, .int mi, .int ds, .ref dA, .int a0, .int xp, .ref iA, .int te]))] := hD
  refine lv_aload_n hx hb d_Model_flags_5 rfl (lv_at hl 0 rfl) ?_
  refine va_get (D := (dC, dI)) (ci := 8) (v := .int ra) (C := R_Model) (T := F_Model) (N := 26) hx hb hts u_Model hown hK hP 0 rfl rfl 4 (by decide) (hts _ m_567) (fun _ h9 => h9) rfl d_Model_flags_6 ?_
  exact Ci.ret C0 (v := ra) (u := ()) (Nat.le_of_ble_eq_true rfl) (Nat.le_of_ble_eq_true rfl) (by show ra = ra; rfl) hP hD hS [0] (by decide) rfl d_Model_flags_9
set_option maxHeartbeats 4000000 in
set_option maxRecDepth 100000 in
theorem c_Model_clear (l : Launch) (dC : Nat → ClassId) (dI : Nat → Nat → Nat) (cI cB cJ : ClassId) (h0 : Nat) (th : Int32) (we : Int32) (wm : Int32) (wy : Int32) (ra : Int32) (tA : Nat) (tn : Int32) (oA : Nat) (on : Int32) (rA : Nat) (fi : Int32) (la : Int32) (wA : Nat) (wf : Int32) (wl : Int32) (lo : Int32) (ov : Int32) (un : Int32) (aT : Int32) (mi : Int32) (ds : Int32) (dA : Nat) (a0 : Int32) (xp : Int32) (iA : Nat) (te : Int32) (x : Int32)  : Ci l dC dI cI cB cJ y_Model_clear w_Model_clear ({ frames := 0, cells := 0, slots := 0, locals := 0 } : Room) [.ref h0, .int x] [(h0, .inr (8, [.int th, .int we, .int wm, .int wy, .int ra, .ref tA, .int tn, .ref oA, .int on, .ref rA, .int fi, .int la, .ref wA, .int wf, .int wl, .int lo, .int ov, .int un, .int aT, .int mi, .int ds, .ref dA, .int a0, .int xp, .ref iA, .int te]))] (fun (r : Int32) (u : (Int32)) => r = ra ∧ u = ra &&& (x ^^^ (-1))) (fun u : (Int32) => [(h0, .inr (8, [.int 0, .int we, .int wm, .int wy, .int u, .ref tA, .int tn, .ref oA, .int on, .ref rA, .int fi, .int la, .ref wA, .int wf, .int wl, .int lo, .int ov, .int un, .int aT, .int mi, .int ds, .ref dA, .int a0, .int xp, .ref iA, .int te]))]) := by
  refine Ci.intro (cc := b_Model_clear) (maxL := 3) (plainFor_of_name (by decide)) rfl (Nat.le_of_ble_eq_true rfl) ?_
  intro p e s m below meth c A ls C0 hin hA hP hD hS hl
  obtain ⟨hx, hb, hml, hown, hts, hr, hlocks, hK, hN⟩ := id C0
  obtain ⟨H, hH⟩ : ∃ H, H = s.heap := ⟨_, rfl⟩
  have hP : va_P (dC, dI) vwCl [(h0, .inr (8, [.int th, .int we, .int wm, .int wy, .int ra, .ref tA, .int tn, .ref oA, .int on, .ref rA, .int fi, .int la, .ref wA, .int wf, .int wl, .int lo, .int ov, .int un, .int aT, .int mi, .int ds, .ref dA, .int a0, .int xp, .ref iA, .int te]))] s.heap := hP
  have hl : lv_has ls 3 [(0, .ref h0), (1, .int x)] := hl
  suffices h : ∀ (H : Heap) (locs : List Loc), va_P (dC, dI) vwCl [(h0, .inr (8, [.int th, .int we, .int wm, .int wy, .int ra, .ref tA, .int tn, .ref oA, .int on, .ref rA, .int fi, .int la, .ref wA, .int wf, .int wl, .int lo, .int ov, .int un, .int aT, .int mi, .int ds, .ref dA, .int a0, .int xp, .ref iA, .int te]))] H → va_D A [(h0, .inr (8, [.int th, .int we, .int wm, .int wy, .int ra, .ref tA, .int tn, .ref oA, .int on, .ref rA, .int fi, .int la, .ref wA, .int wf, .int wl, .int lo, .int ov, .int un, .int aT, .int mi, .int ds, .ref dA, .int a0, .int xp, .ref iA, .int te]))] → va_S A s.heap H locs → W p l e ({ frames := 0, cells := 0, slots := 0, locals := 0 } : Room) s m ([.ref h0, .int x] : List Value).toArray below meth c H locs 0 0 (MQ below (va_Qi (fun (r : Int32) (u : (Int32)) => r = ra ∧ u = ra &&& (x ^^^ (-1))) (poG dC dI A (fun u : (Int32) => [(h0, .inr (8, [.int 0, .int we, .int wm, .int wy, .int u, .ref tA, .int tn, .ref oA, .int on, .ref rA, .int fi, .int la, .ref wA, .int wf, .int wl, .int lo, .int ov, .int un, .int aT, .int mi, .int ds, .ref dA, .int a0, .int xp, .ref iA, .int te]))])) A) ([.ref h0, .int x] : List Value).toArray s 0 0 A) (F0 m 0 ls []) from h _ _ hP hD hS
  clear hP hD hS hH H
  intro H locs hP hD hS
  refine lv_aload_n hx hb d_Model_clear_0 rfl (lv_at hl 0 rfl) ?_
  refine lv_iconst (v := 0) hx hb d_Model_clear_1 (by decide) ?_
  refine va_put (D := (dC, dI)) (ci := 8) (v := .int 0) (ty := .int) (C := R_Model) (T := F_Model) (N := 26) hx hb hts u_Model t_Model t_Model_ok n_Model hown hK hP hD hS 0 rfl rfl 0 (by decide) (hts _ m_563) (fun _ h9 => h9) rfl (by decide +kernel) rfl rfl (Nat.le_of_ble_eq_true rfl) d_Model_clear_2 (fun H locs hP hD hS => ?_)
  have hP : va_P (dC, dI) vwCl [(h0, .inr (8, [.int 0, .int we, .int wm, .int wy, .int ra, .ref tA, .int tn, .ref oA, .int on, .ref rA, .int fi, .int la, .ref wA, .int wf, .int wl, .int lo, .int ov, .int un, .int aT, .int mi, .int ds, .ref dA, .int a0, .int xp, .ref iA, .int te]))] H := hP
  have hD : va_D A [(h0, .inr (8, [.int 0, .int we, .int wm, .int wy, .int ra, .ref tA, .int tn, .ref oA, .int on, .ref rA, .int fi, .int la, .ref wA, .int wf, .int wl, .int lo, .int ov, .int un, .int aT, .int mi, .int ds, .ref dA, .int a0, .int xp, .ref iA, .int te]))] := hD
  refine lv_aload_n hx hb d_Model_clear_5 rfl (lv_at hl 0 rfl) ?_
  refine va_get (D := (dC, dI)) (ci := 8) (v := .int ra) (C := R_Model) (T := F_Model) (N := 26) hx hb hts u_Model hown hK hP 0 rfl rfl 4 (by decide) (hts _ m_567) (fun _ h9 => h9) rfl d_Model_clear_6 ?_
  refine lv_istore_n (lv' := [(2, .int ra), (0, .ref h0), (1, .int x)]) hx hb d_Model_clear_9 rfl hl (by decide) rfl (fun ls hl => ?_)
  refine lv_aload_n hx hb d_Model_clear_10 rfl (lv_at hl 1 rfl) ?_
  refine lv_aload_n hx hb d_Model_clear_11 rfl (lv_at hl 1 rfl) ?_
  refine va_get (D := (dC, dI)) (ci := 8) (v := .int ra) (C := R_Model) (T := F_Model) (N := 26) hx hb hts u_Model hown hK hP 0 rfl rfl 4 (by decide) (hts _ m_567) (fun _ h9 => h9) rfl d_Model_clear_12 ?_
  refine lv_iload_n hx hb d_Model_clear_15 rfl (lv_at hl 2 rfl) ?_
  refine lv_iconst (v := (-1)) hx hb d_Model_clear_16 (by decide) ?_
  refine lv_ixor hx hb d_Model_clear_17 ?_
  refine lv_topi (fun v17 e17 => ?_)
  refine lv_iand hx hb d_Model_clear_18 ?_
  refine lv_topi (fun v18 e18 => ?_)
  refine va_put (D := (dC, dI)) (ci := 8) (v := .int v18) (ty := .int) (C := R_Model) (T := F_Model) (N := 26) hx hb hts u_Model t_Model t_Model_ok n_Model hown hK hP hD hS 0 rfl rfl 4 (by decide) (hts _ m_567) (fun _ h9 => h9) rfl (by decide +kernel) rfl rfl (Nat.le_of_ble_eq_true rfl) d_Model_clear_19 (fun H locs hP hD hS => ?_)
  have hP : va_P (dC, dI) vwCl [(h0, .inr (8, [.int 0, .int we, .int wm, .int wy, .int v18, .ref tA, .int tn, .ref oA, .int on, .ref rA, .int fi, .int la, .ref wA, .int wf, .int wl, .int lo, .int ov, .int un, .int aT, .int mi, .int ds, .ref dA, .int a0, .int xp, .ref iA, .int te]))] H := hP
  have hD : va_D A [(h0, .inr (8, [.int 0, .int we, .int wm, .int wy, .int v18, .ref tA, .int tn, .ref oA, .int on, .ref rA, .int fi, .int la, .ref wA, .int wf, .int wl, .int lo, .int ov, .int un, .int aT, .int mi, .int ds, .ref dA, .int a0, .int xp, .ref iA, .int te]))] := hD
  refine lv_iload_n hx hb d_Model_clear_22 rfl (lv_at hl 0 rfl) ?_
  exact Ci.ret C0 (v := ra) (u := (v18)) (Nat.le_of_ble_eq_true rfl) (Nat.le_of_ble_eq_true rfl) (by show ra = ra ∧ v18 = ra &&& (x ^^^ (-1)); exact ⟨rfl, by rw [e18, e17]⟩) hP hD hS [0] (by decide) rfl d_Model_clear_23
set_option maxHeartbeats 4000000 in
set_option maxRecDepth 100000 in
theorem L_Model_type_79 {p : Program} {l : Launch} {e : Env} {s : State} {m : MethodId} {below : List Frame} {meth : Method} {c : Code} {dC : Nat → ClassId} {dI : Nat → Nat → Nat} {cI cB cJ : ClassId} {A : Nat → Prop} (h0 : Nat) (th : Int32) (we : Int32) (wm : Int32) (wy : Int32) (ra : Int32) (tA : Nat) (tn : Int32) (oA : Nat) (on : Int32) (rA : Nat) (fi : Int32) (la : Int32) (wA : Nat) (wf : Int32) (wl : Int32) (lo : Int32) (ov : Int32) (un : Int32) (aT : Int32) (mi : Int32) (ds : Int32) (dA : Nat) (a0 : Int32) (xp : Int32) (iA : Nat) (te : Int32) (f : Nat → Int32) (T : Nat → Nat) (len : Nat) (w : Int64) (x : Int32) (C0 : cx dC dI cI cB cJ R_Model b_Model_type 6 (some .boolean) p s m ([.ref h0, .long w, .int x] : List Value).toArray meth c) (hA : ∀ q : Nat, s.heap.size ≤ q → A q) (hT : TP f tn T len) : ∀ n : Nat, (∀ (x4 : Int32) (i : Nat) (nn : Nat) (tn1 : Int32) (k : Nat → Int32) (H : Heap) (locs : List Loc) (ls : Array Slot), i < n → x4.toInt = (i : Int) - 1 → x.toInt = (nn : Int) → (tn1.toInt = ((len + nn - i : Nat) : Int)) → (i ≤ nn) → (1 ≤ nn) → (nn ≤ 8) → (len + nn ≤ 60) → (okW w nn) → (∀ j, j < len → k j = f j) → (∀ j, len ≤ j → j < len + nn - i → (k j).toInt = (byW w (nn - 1 - (j - len)) : Int)) → va_P (dC, dI) vwCl [(h0, .inr (8, [.int 0, .int we, .int wm, .int wy, .int ra, .ref tA, .int tn1, .ref oA, .int on, .ref rA, .int fi, .int la, .ref wA, .int wf, .int wl, .int lo, .int ov, .int un, .int aT, .int mi, .int ds, .ref dA, .int a0, .int xp, .ref iA, .int te])), (tA, .inl (cI, 60, .inl k))] H → va_D A [(h0, .inr (8, [.int 0, .int we, .int wm, .int wy, .int ra, .ref tA, .int tn1, .ref oA, .int on, .ref rA, .int fi, .int la, .ref wA, .int wf, .int wl, .int lo, .int ov, .int un, .int aT, .int mi, .int ds, .ref dA, .int a0, .int xp, .ref iA, .int te])), (tA, .inl (cI, 60, .inl k))] → va_S A s.heap H locs → lv_has ls 6 [(4, .int x4), (3, .int x), (1, .long w), (0, .ref h0)] → W p l e ({ frames := 0, cells := 0, slots := 0, locals := 0 } : Room) s m ([.ref h0, .long w, .int x] : List Value).toArray below meth c H locs 0 0 (MQ below (va_Qi (fun (r : Int32) (u : (Nat → Int32) × (Int32)) => (r = 1 ∧ putC len w x ∧ TP u.1 u.2 (putT T len w x.toInt.toNat) (len + x.toInt.toNat)) ∨ (r = 0 ∧ ¬ putC len w x ∧ u.1 = f ∧ u.2 = tn)) (poG dC dI A (fun u : (Nat → Int32) × (Int32) => [(h0, .inr (8, [.int 0, .int we, .int wm, .int wy, .int ra, .ref tA, .int u.2, .ref oA, .int on, .ref rA, .int fi, .int la, .ref wA, .int wf, .int wl, .int lo, .int ov, .int un, .int aT, .int mi, .int ds, .ref dA, .int a0, .int xp, .ref iA, .int te])), (tA, .inl (cI, 60, .inl u.1))])) A) ([.ref h0, .long w, .int x] : List Value).toArray s 0 0 A) (F0 m 79 ls [])) := by
  obtain ⟨hx, hb, hml, hown, hts, hr, hlocks, hK, hN⟩ := id C0
  intro n
  induction n with
  | zero => exact fun _ _ _ _ _ _ _ _ h0 _ _ _ _ _ _ _ _ _ _ _ _ _ _ => absurd h0 (Nat.not_lt_zero _)
  | succ n ih =>
    intro x4 i nn tn1 k H locs ls hn9 t_x4 t_x t_ll hi hn1 hn8 hln hok hk hkn hP hD hS hl
    have r_x4 := q_r32 x4
    have r_x := q_r32 x
    have hn60 := hT.2.1
    refine lv_iload hx hb d_Model_type_79 (lv_at hl 0 rfl) ?_
    refine lv_if_lt (tgt := 121) hx hb d_Model_type_81 (by decide) (fun b81 => ?_) (fun b81 => ?_)
    · skip
      rw [q_ilt t_x4 (show (0 : Int32).toInt = 0 by decide)] at b81
      refine lv_iconst (v := 1) hx hb d_Model_type_121 (by decide) ?_
      have hi0 : i = 0 := by omega
      subst hi0
      have hnn : x.toInt.toNat = nn := by omega
      exact Cz.ret C0 (v := 1) (u := (k, tn1)) (by rfl) (Nat.le_of_ble_eq_true rfl) (Nat.le_of_ble_eq_true rfl) (by show ((1 : Int32) = 1 ∧ putC len w x ∧ TP k tn1 (putT T len w x.toInt.toNat) (len + x.toInt.toNat)) ∨ ((1 : Int32) = 0 ∧ ¬ putC len w x ∧ k = f ∧ tn1 = tn); exact Or.inl ⟨rfl, ⟨by omega, by omega, by omega, by rw [hnn]; exact hok⟩, by rw [hnn]; exact ⟨t_ll.trans (by omega), by omega, fun j hj => by (unfold putT; split; (rw [hk j (by omega)]; exact hT.2.2 j (by omega)); exact ⟨hkn j (by omega) (by omega), hok _ (by omega)⟩)⟩⟩) hP hD hS [0, 1] (by decide) rfl d_Model_type_122
    · skip
      rw [q_ilt t_x4 (show (0 : Int32).toInt = 0 by decide)] at b81
      refine lv_aload_n hx hb d_Model_type_84 rfl (lv_at hl 3 rfl) ?_
      refine va_get (D := (dC, dI)) (ci := 8) (v := .ref tA) (C := R_Model) (T := F_Model) (N := 26) hx hb hts u_Model hown hK hP 0 rfl rfl 5 (by decide) (hts _ m_568) (fun _ h9 => h9) rfl d_Model_type_85 ?_
      refine lv_aload_n hx hb d_Model_type_88 rfl (lv_at hl 3 rfl) ?_
      refine va_get (D := (dC, dI)) (ci := 8) (v := .int tn1) (C := R_Model) (T := F_Model) (N := 26) hx hb hts u_Model hown hK hP 0 rfl rfl 6 (by decide) (hts _ m_569) (fun _ h9 => h9) rfl d_Model_type_89 ?_
      refine lv_lload_n hx hb d_Model_type_92 rfl (lv_at hl 2 rfl) ?_
      refine lv_bipush (v := 8) hx hb d_Model_type_93 (by decide) ?_
      refine lv_iload hx hb d_Model_type_95 (lv_at hl 0 rfl) ?_
      refine lv_imul hx hb d_Model_type_97 ?_
      refine lv_topi (fun v97 e97 => ?_)
      have t97 : v97.toInt = 8 * ((i : Int) - 1) := by rw [e97]; exact q_imul (show (8 : Int32).toInt = 8 by decide) t_x4 (by omega)
      refine lv_lshr hx hb d_Model_type_98 rfl ?_
      refine lv_topl (fun v98 e98 => ?_)
      refine lv_ldc2 (v := 255) hx hb hown (hts _ m_631) d_Model_type_99 ?_
      refine lv_land hx hb d_Model_type_102 ?_
      refine lv_topl (fun v102 e102 => ?_)
      have t102 : v102.toInt = (byW w (i - 1) : Int) := by rw [e102]; exact q_byte e98 (t97.trans (by omega)) (by omega)
      have hb1 := hok (i - 1) (by omega)
      refine lv_l2i hx hb d_Model_type_103 rfl ?_
      refine lv_topi (fun v103 e103 => ?_)
      have t103 : v103.toInt = (byW w (i - 1) : Int) := by rw [e103]; exact q_l2i t102 (by omega)
      refine va_iast hx hb hK hP hD hS 1 0 rfl rfl (q_in t_ll (by omega)) d_Model_type_104 (fun H locs hP hD hS => ?_)
      rw [q_cl (k := len + nn - i) (t_ll)] at hP hD
      have hP : va_P (dC, dI) vwCl [(h0, .inr (8, [.int 0, .int we, .int wm, .int wy, .int ra, .ref tA, .int tn1, .ref oA, .int on, .ref rA, .int fi, .int la, .ref wA, .int wf, .int wl, .int lo, .int ov, .int un, .int aT, .int mi, .int ds, .ref dA, .int a0, .int xp, .ref iA, .int te])), (tA, .inl (cI, 60, .inl (upd k (len + nn - i) v103)))] H := hP
      have hD : va_D A [(h0, .inr (8, [.int 0, .int we, .int wm, .int wy, .int ra, .ref tA, .int tn1, .ref oA, .int on, .ref rA, .int fi, .int la, .ref wA, .int wf, .int wl, .int lo, .int ov, .int un, .int aT, .int mi, .int ds, .ref dA, .int a0, .int xp, .ref iA, .int te])), (tA, .inl (cI, 60, .inl (upd k (len + nn - i) v103)))] := hD
      refine lv_aload_n hx hb d_Model_type_105 rfl (lv_at hl 3 rfl) ?_
      refine lv_dup hx hb d_Model_type_106 rfl ?_
      refine va_get (D := (dC, dI)) (ci := 8) (v := .int tn1) (C := R_Model) (T := F_Model) (N := 26) hx hb hts u_Model hown hK hP 0 rfl rfl 6 (by decide) (hts _ m_569) (fun _ h9 => h9) rfl d_Model_type_107 ?_
      refine lv_iconst (v := 1) hx hb d_Model_type_110 (by decide) ?_
      refine lv_iadd hx hb d_Model_type_111 ?_
      refine lv_topi (fun v111 e111 => ?_)
      have t111 : v111.toInt = (((len + nn - i : Nat) : Int)) + 1 := by rw [e111]; exact q_iadd t_ll (show (1 : Int32).toInt = 1 by decide) (by omega)
      refine va_put (D := (dC, dI)) (ci := 8) (v := .int v111) (ty := .int) (C := R_Model) (T := F_Model) (N := 26) hx hb hts u_Model t_Model t_Model_ok n_Model hown hK hP hD hS 0 rfl rfl 6 (by decide) (hts _ m_569) (fun _ h9 => h9) rfl (by decide +kernel) rfl rfl (Nat.le_of_ble_eq_true rfl) d_Model_type_112 (fun H locs hP hD hS => ?_)
      have hP : va_P (dC, dI) vwCl [(h0, .inr (8, [.int 0, .int we, .int wm, .int wy, .int ra, .ref tA, .int v111, .ref oA, .int on, .ref rA, .int fi, .int la, .ref wA, .int wf, .int wl, .int lo, .int ov, .int un, .int aT, .int mi, .int ds, .ref dA, .int a0, .int xp, .ref iA, .int te])), (tA, .inl (cI, 60, .inl (upd k (len + nn - i) v103)))] H := hP
      have hD : va_D A [(h0, .inr (8, [.int 0, .int we, .int wm, .int wy, .int ra, .ref tA, .int v111, .ref oA, .int on, .ref rA, .int fi, .int la, .ref wA, .int wf, .int wl, .int lo, .int ov, .int un, .int aT, .int mi, .int ds, .ref dA, .int a0, .int xp, .ref iA, .int te])), (tA, .inl (cI, 60, .inl (upd k (len + nn - i) v103)))] := hD
      obtain ⟨v115, e115⟩ : ∃ y : Int32, y = x4 + (-1) := ⟨_, rfl⟩
      have t115 : v115.toInt = (i : Int) - 1 + (-1) := by rw [e115]; exact q_iadd t_x4 (show ((-1) : Int32).toInt = (-1) by decide) (by omega)
      refine lv_iinc (v := v115) (lv' := [(4, .int v115), (3, .int x), (1, .long w), (0, .ref h0)]) hx hb d_Model_type_115 hl (k := 0) rfl (by rw [e115]; rfl) (by decide) rfl (fun ls hl => ?_)
      refine lv_goto (tgt := 79) hx hb d_Model_type_118 (by decide) ?_
      exact ih (v115) (i - 1) (nn) (v111) (upd k (len + nn - i) v103) H locs ls (by omega) ((t115).trans (by omega)) ((t_x).trans (by omega)) (by exact t111.trans (by omega)) (by omega) (by omega) (by omega) (by omega) (by exact hok) (by intro j hj; rw [pk_un (by omega)]; exact hk j hj) (by intro j h1 h2; rcases Nat.lt_or_ge j (len + nn - i) with h | h; rw [pk_un (by omega)]; exact hkn j h1 h; rw [show j = len + nn - i by omega, pk_us, t103, show nn - 1 - (len + nn - i - len) = i - 1 by omega]) (va_Psub hP [0, 1] rfl) (hD.sub [0, 1] (by decide) rfl) hS (lv_sub hl [0, 1, 2, 3] rfl)
set_option maxHeartbeats 4000000 in
set_option maxRecDepth 100000 in
theorem L_Model_type_32 {p : Program} {l : Launch} {e : Env} {s : State} {m : MethodId} {below : List Frame} {meth : Method} {c : Code} {dC : Nat → ClassId} {dI : Nat → Nat → Nat} {cI cB cJ : ClassId} {A : Nat → Prop} (h0 : Nat) (th : Int32) (we : Int32) (wm : Int32) (wy : Int32) (ra : Int32) (tA : Nat) (tn : Int32) (oA : Nat) (on : Int32) (rA : Nat) (fi : Int32) (la : Int32) (wA : Nat) (wf : Int32) (wl : Int32) (lo : Int32) (ov : Int32) (un : Int32) (aT : Int32) (mi : Int32) (ds : Int32) (dA : Nat) (a0 : Int32) (xp : Int32) (iA : Nat) (te : Int32) (f : Nat → Int32) (T : Nat → Nat) (len : Nat) (w : Int64) (x : Int32) (C0 : cx dC dI cI cB cJ R_Model b_Model_type 6 (some .boolean) p s m ([.ref h0, .long w, .int x] : List Value).toArray meth c) (hA : ∀ q : Nat, s.heap.size ≤ q → A q) (hT : TP f tn T len) : ∀ n : Nat, (∀ (x4 : Int32) (i : Nat) (nn : Nat) (H : Heap) (locs : List Loc) (ls : Array Slot), nn - i < n → x4.toInt = (i : Int) → x.toInt = (nn : Int) → (i ≤ nn) → (1 ≤ nn) → (nn ≤ 8) → (len + nn ≤ 60) → (okW w i) → va_P (dC, dI) vwCl [(h0, .inr (8, [.int 0, .int we, .int wm, .int wy, .int ra, .ref tA, .int tn, .ref oA, .int on, .ref rA, .int fi, .int la, .ref wA, .int wf, .int wl, .int lo, .int ov, .int un, .int aT, .int mi, .int ds, .ref dA, .int a0, .int xp, .ref iA, .int te])), (tA, .inl (cI, 60, .inl f))] H → va_D A [(h0, .inr (8, [.int 0, .int we, .int wm, .int wy, .int ra, .ref tA, .int tn, .ref oA, .int on, .ref rA, .int fi, .int la, .ref wA, .int wf, .int wl, .int lo, .int ov, .int un, .int aT, .int mi, .int ds, .ref dA, .int a0, .int xp, .ref iA, .int te])), (tA, .inl (cI, 60, .inl f))] → va_S A s.heap H locs → lv_has ls 6 [(4, .int x4), (3, .int x), (1, .long w), (0, .ref h0)] → W p l e ({ frames := 0, cells := 0, slots := 0, locals := 0 } : Room) s m ([.ref h0, .long w, .int x] : List Value).toArray below meth c H locs 0 0 (MQ below (va_Qi (fun (r : Int32) (u : (Nat → Int32) × (Int32)) => (r = 1 ∧ putC len w x ∧ TP u.1 u.2 (putT T len w x.toInt.toNat) (len + x.toInt.toNat)) ∨ (r = 0 ∧ ¬ putC len w x ∧ u.1 = f ∧ u.2 = tn)) (poG dC dI A (fun u : (Nat → Int32) × (Int32) => [(h0, .inr (8, [.int 0, .int we, .int wm, .int wy, .int ra, .ref tA, .int u.2, .ref oA, .int on, .ref rA, .int fi, .int la, .ref wA, .int wf, .int wl, .int lo, .int ov, .int un, .int aT, .int mi, .int ds, .ref dA, .int a0, .int xp, .ref iA, .int te])), (tA, .inl (cI, 60, .inl u.1))])) A) ([.ref h0, .long w, .int x] : List Value).toArray s 0 0 A) (F0 m 32 ls [])) := by
  obtain ⟨hx, hb, hml, hown, hts, hr, hlocks, hK, hN⟩ := id C0
  intro n
  induction n with
  | zero => exact fun _ _ _ _ _ _ h0 _ _ _ _ _ _ _ _ _ _ _ => absurd h0 (Nat.not_lt_zero _)
  | succ n ih =>
    intro x4 i nn H locs ls hn9 t_x4 t_x hi hn1 hn8 hln hok hP hD hS hl
    have r_x4 := q_r32 x4
    have r_x := q_r32 x
    have hn60 := hT.2.1
    refine lv_iload hx hb d_Model_type_32 (lv_at hl 0 rfl) ?_
    refine lv_iload_n hx hb d_Model_type_34 rfl (lv_at hl 1 rfl) ?_
    refine lv_icmp_ge (tgt := 74) hx hb d_Model_type_35 (by decide) (fun b35 => ?_) (fun b35 => ?_)
    · skip
      rw [q_ile t_x t_x4] at b35
      refine lv_iload_n hx hb d_Model_type_74 rfl (lv_at hl 1 rfl) ?_
      refine lv_iconst (v := 1) hx hb d_Model_type_75 (by decide) ?_
      refine lv_isub hx hb d_Model_type_76 ?_
      refine lv_topi (fun v76 e76 => ?_)
      have t76 : v76.toInt = (nn : Int) - 1 := by rw [e76]; exact q_isub t_x (show (1 : Int32).toInt = 1 by decide) (by omega)
      refine lv_istore (lv' := [(4, .int v76), (3, .int x), (1, .long w), (0, .ref h0)]) hx hb d_Model_type_77 hl (by decide) rfl (fun ls hl => ?_)
      exact L_Model_type_79 (h0) (th) (we) (wm) (wy) (ra) (tA) (tn) (oA) (on) (rA) (fi) (la) (wA) (wf) (wl) (lo) (ov) (un) (aT) (mi) (ds) (dA) (a0) (xp) (iA) (te) (f) (T) (len) (w) (x) C0 hA (hT) _ (v76) (nn) (nn) (tn) (f) H locs ls (Nat.lt_succ_self _) ((t76).trans (by omega)) ((t_x).trans (by omega)) (by exact hT.1.trans (by omega)) (by omega) (by omega) (by omega) (by omega) (by rw [← show i = nn by omega]; exact hok) (by intro j hj; rfl) (by intro j h1 h2; omega) (va_Psub hP [0, 1] rfl) (hD.sub [0, 1] (by decide) rfl) hS (lv_sub hl [0, 1, 2, 3] rfl)
    · skip
      rw [q_ile t_x t_x4] at b35
      refine lv_lload_n hx hb d_Model_type_38 rfl (lv_at hl 2 rfl) ?_
      refine lv_bipush (v := 8) hx hb d_Model_type_39 (by decide) ?_
      refine lv_iload hx hb d_Model_type_41 (lv_at hl 0 rfl) ?_
      refine lv_imul hx hb d_Model_type_43 ?_
      refine lv_topi (fun v43 e43 => ?_)
      have t43 : v43.toInt = 8 * (i : Int) := by rw [e43]; exact q_imul (show (8 : Int32).toInt = 8 by decide) t_x4 (by omega)
      refine lv_lshr hx hb d_Model_type_44 rfl ?_
      refine lv_topl (fun v44 e44 => ?_)
      refine lv_ldc2 (v := 255) hx hb hown (hts _ m_631) d_Model_type_45 ?_
      refine lv_land hx hb d_Model_type_48 ?_
      refine lv_topl (fun v48 e48 => ?_)
      have t48 : v48.toInt = (byW w i : Int) := by rw [e48]; exact q_byte e44 (t43.trans (by omega)) (by omega)
      have hb2 := byW_lt w i
      refine lv_l2i hx hb d_Model_type_49 rfl ?_
      refine lv_topi (fun v49 e49 => ?_)
      have t49 : v49.toInt = (byW w i : Int) := by rw [e49]; exact q_l2i t48 (by omega)
      refine lv_istore (lv' := [(5, .int v49), (4, .int x4), (3, .int x), (1, .long w), (0, .ref h0)]) hx hb d_Model_type_50 hl (by decide) rfl (fun ls hl => ?_)
      refine lv_iload hx hb d_Model_type_52 (lv_at hl 0 rfl) ?_
      refine lv_bipush (v := 33) hx hb d_Model_type_54 (by decide) ?_
      refine lv_icmp_lt (tgt := 66) hx hb d_Model_type_56 (by decide) (fun b56 => ?_) (fun b56 => ?_)
      · skip
        rw [q_ilt t49 (show (33 : Int32).toInt = 33 by decide)] at b56
        refine lv_iconst (v := 0) hx hb d_Model_type_66 (by decide) ?_
        exact Cz.ret C0 (v := 0) (u := (f, tn)) (by rfl) (Nat.le_of_ble_eq_true rfl) (Nat.le_of_ble_eq_true rfl) (by show ((0 : Int32) = 1 ∧ putC len w x ∧ TP f tn (putT T len w x.toInt.toNat) (len + x.toInt.toNat)) ∨ ((0 : Int32) = 0 ∧ ¬ putC len w x ∧ f = f ∧ tn = tn); exact Or.inr ⟨rfl, fun h => by have h2 := h.2.2.2 i (by omega); omega, rfl, rfl⟩) hP hD hS [0, 1] (by decide) rfl d_Model_type_67
      · skip
        rw [q_ilt t49 (show (33 : Int32).toInt = 33 by decide)] at b56
        refine lv_iload hx hb d_Model_type_59 (lv_at hl 0 rfl) ?_
        refine lv_bipush (v := 126) hx hb d_Model_type_61 (by decide) ?_
        refine lv_icmp_le (tgt := 68) hx hb d_Model_type_63 (by decide) (fun b63 => ?_) (fun b63 => ?_)
        · skip
          rw [q_ile t49 (show (126 : Int32).toInt = 126 by decide)] at b63
          obtain ⟨v68, e68⟩ : ∃ y : Int32, y = x4 + 1 := ⟨_, rfl⟩
          have t68 : v68.toInt = (i : Int) + 1 := by rw [e68]; exact q_iadd t_x4 (show (1 : Int32).toInt = 1 by decide) (by omega)
          refine lv_iinc (v := v68) (lv' := [(4, .int v68), (5, .int v49), (3, .int x), (1, .long w), (0, .ref h0)]) hx hb d_Model_type_68 hl (k := 1) rfl (by rw [e68]; rfl) (by decide) rfl (fun ls hl => ?_)
          refine lv_goto (tgt := 32) hx hb d_Model_type_71 (by decide) ?_
          exact ih (v68) (i + 1) (nn) H locs ls (by omega) ((t68).trans (by omega)) ((t_x).trans (by omega)) (by omega) (by omega) (by omega) (by omega) (by intro j hj; rcases Nat.lt_or_ge j i with h | h; exact hok j h; rw [show j = i by omega]; exact ⟨by omega, by omega⟩) (va_Psub hP [0, 1] rfl) (hD.sub [0, 1] (by decide) rfl) hS (lv_sub hl [0, 2, 3, 4] rfl)
        · skip
          rw [q_ile t49 (show (126 : Int32).toInt = 126 by decide)] at b63
          refine lv_iconst (v := 0) hx hb d_Model_type_66 (by decide) ?_
          exact Cz.ret C0 (v := 0) (u := (f, tn)) (by rfl) (Nat.le_of_ble_eq_true rfl) (Nat.le_of_ble_eq_true rfl) (by show ((0 : Int32) = 1 ∧ putC len w x ∧ TP f tn (putT T len w x.toInt.toNat) (len + x.toInt.toNat)) ∨ ((0 : Int32) = 0 ∧ ¬ putC len w x ∧ f = f ∧ tn = tn); exact Or.inr ⟨rfl, fun h => by have h2 := h.2.2.2 i (by omega); omega, rfl, rfl⟩) hP hD hS [0, 1] (by decide) rfl d_Model_type_67
set_option maxHeartbeats 4000000 in
set_option maxRecDepth 100000 in
theorem c_Model_type (l : Launch) (dC : Nat → ClassId) (dI : Nat → Nat → Nat) (cI cB cJ : ClassId) (h0 : Nat) (th : Int32) (we : Int32) (wm : Int32) (wy : Int32) (ra : Int32) (tA : Nat) (tn : Int32) (oA : Nat) (on : Int32) (rA : Nat) (fi : Int32) (la : Int32) (wA : Nat) (wf : Int32) (wl : Int32) (lo : Int32) (ov : Int32) (un : Int32) (aT : Int32) (mi : Int32) (ds : Int32) (dA : Nat) (a0 : Int32) (xp : Int32) (iA : Nat) (te : Int32) (f : Nat → Int32) (T : Nat → Nat) (len : Nat) (w : Int64) (x : Int32) (hT : TP f tn T len) : Ci l dC dI cI cB cJ y_Model_type w_Model_type ({ frames := 0, cells := 0, slots := 0, locals := 0 } : Room) [.ref h0, .long w, .int x] [(h0, .inr (8, [.int th, .int we, .int wm, .int wy, .int ra, .ref tA, .int tn, .ref oA, .int on, .ref rA, .int fi, .int la, .ref wA, .int wf, .int wl, .int lo, .int ov, .int un, .int aT, .int mi, .int ds, .ref dA, .int a0, .int xp, .ref iA, .int te])), (tA, .inl (cI, 60, .inl f))] (fun (r : Int32) (u : (Nat → Int32) × (Int32)) => (r = 1 ∧ putC len w x ∧ TP u.1 u.2 (putT T len w x.toInt.toNat) (len + x.toInt.toNat)) ∨ (r = 0 ∧ ¬ putC len w x ∧ u.1 = f ∧ u.2 = tn)) (fun u : (Nat → Int32) × (Int32) => [(h0, .inr (8, [.int 0, .int we, .int wm, .int wy, .int ra, .ref tA, .int u.2, .ref oA, .int on, .ref rA, .int fi, .int la, .ref wA, .int wf, .int wl, .int lo, .int ov, .int un, .int aT, .int mi, .int ds, .ref dA, .int a0, .int xp, .ref iA, .int te])), (tA, .inl (cI, 60, .inl u.1))]) := by
  refine Ci.intro (cc := b_Model_type) (maxL := 6) (plainFor_of_name (by decide)) rfl (Nat.le_of_ble_eq_true rfl) ?_
  intro p e s m below meth c A ls C0 hin hA hP hD hS hl
  obtain ⟨hx, hb, hml, hown, hts, hr, hlocks, hK, hN⟩ := id C0
  obtain ⟨H, hH⟩ : ∃ H, H = s.heap := ⟨_, rfl⟩
  have hP : va_P (dC, dI) vwCl [(h0, .inr (8, [.int th, .int we, .int wm, .int wy, .int ra, .ref tA, .int tn, .ref oA, .int on, .ref rA, .int fi, .int la, .ref wA, .int wf, .int wl, .int lo, .int ov, .int un, .int aT, .int mi, .int ds, .ref dA, .int a0, .int xp, .ref iA, .int te])), (tA, .inl (cI, 60, .inl f))] s.heap := hP
  have hl : lv_has ls 6 [(0, .ref h0), (1, .long w), (3, .int x)] := hl
  have r_x := q_r32 x
  suffices h : ∀ (H : Heap) (locs : List Loc), va_P (dC, dI) vwCl [(h0, .inr (8, [.int th, .int we, .int wm, .int wy, .int ra, .ref tA, .int tn, .ref oA, .int on, .ref rA, .int fi, .int la, .ref wA, .int wf, .int wl, .int lo, .int ov, .int un, .int aT, .int mi, .int ds, .ref dA, .int a0, .int xp, .ref iA, .int te])), (tA, .inl (cI, 60, .inl f))] H → va_D A [(h0, .inr (8, [.int th, .int we, .int wm, .int wy, .int ra, .ref tA, .int tn, .ref oA, .int on, .ref rA, .int fi, .int la, .ref wA, .int wf, .int wl, .int lo, .int ov, .int un, .int aT, .int mi, .int ds, .ref dA, .int a0, .int xp, .ref iA, .int te])), (tA, .inl (cI, 60, .inl f))] → va_S A s.heap H locs → W p l e ({ frames := 0, cells := 0, slots := 0, locals := 0 } : Room) s m ([.ref h0, .long w, .int x] : List Value).toArray below meth c H locs 0 0 (MQ below (va_Qi (fun (r : Int32) (u : (Nat → Int32) × (Int32)) => (r = 1 ∧ putC len w x ∧ TP u.1 u.2 (putT T len w x.toInt.toNat) (len + x.toInt.toNat)) ∨ (r = 0 ∧ ¬ putC len w x ∧ u.1 = f ∧ u.2 = tn)) (poG dC dI A (fun u : (Nat → Int32) × (Int32) => [(h0, .inr (8, [.int 0, .int we, .int wm, .int wy, .int ra, .ref tA, .int u.2, .ref oA, .int on, .ref rA, .int fi, .int la, .ref wA, .int wf, .int wl, .int lo, .int ov, .int un, .int aT, .int mi, .int ds, .ref dA, .int a0, .int xp, .ref iA, .int te])), (tA, .inl (cI, 60, .inl u.1))])) A) ([.ref h0, .long w, .int x] : List Value).toArray s 0 0 A) (F0 m 0 ls []) from h _ _ hP hD hS
  clear hP hD hS hH H
  intro H locs hP hD hS
  have hn60 := hT.2.1
  refine lv_aload_n hx hb d_Model_type_0 rfl (lv_at hl 0 rfl) ?_
  refine lv_iconst (v := 0) hx hb d_Model_type_1 (by decide) ?_
  refine va_put (D := (dC, dI)) (ci := 8) (v := .int 0) (ty := .int) (C := R_Model) (T := F_Model) (N := 26) hx hb hts u_Model t_Model t_Model_ok n_Model hown hK hP hD hS 0 rfl rfl 0 (by decide) (hts _ m_563) (fun _ h9 => h9) rfl (by decide +kernel) rfl rfl (Nat.le_of_ble_eq_true rfl) d_Model_type_2 (fun H locs hP hD hS => ?_)
  have hP : va_P (dC, dI) vwCl [(h0, .inr (8, [.int 0, .int we, .int wm, .int wy, .int ra, .ref tA, .int tn, .ref oA, .int on, .ref rA, .int fi, .int la, .ref wA, .int wf, .int wl, .int lo, .int ov, .int un, .int aT, .int mi, .int ds, .ref dA, .int a0, .int xp, .ref iA, .int te])), (tA, .inl (cI, 60, .inl f))] H := hP
  have hD : va_D A [(h0, .inr (8, [.int 0, .int we, .int wm, .int wy, .int ra, .ref tA, .int tn, .ref oA, .int on, .ref rA, .int fi, .int la, .ref wA, .int wf, .int wl, .int lo, .int ov, .int un, .int aT, .int mi, .int ds, .ref dA, .int a0, .int xp, .ref iA, .int te])), (tA, .inl (cI, 60, .inl f))] := hD
  refine lv_iload_n hx hb d_Model_type_5 rfl (lv_at hl 2 rfl) ?_
  refine lv_iconst (v := 1) hx hb d_Model_type_6 (by decide) ?_
  refine lv_icmp_lt (tgt := 27) hx hb d_Model_type_7 (by decide) (fun b7 => ?_) (fun b7 => ?_)
  · skip
    rw [q_ilt (rfl : x.toInt = x.toInt) (show (1 : Int32).toInt = 1 by decide)] at b7
    refine lv_iconst (v := 0) hx hb d_Model_type_27 (by decide) ?_
    exact Cz.ret C0 (v := 0) (u := (f, tn)) (by rfl) (Nat.le_of_ble_eq_true rfl) (Nat.le_of_ble_eq_true rfl) (by show ((0 : Int32) = 1 ∧ putC len w x ∧ TP f tn (putT T len w x.toInt.toNat) (len + x.toInt.toNat)) ∨ ((0 : Int32) = 0 ∧ ¬ putC len w x ∧ f = f ∧ tn = tn); exact Or.inr ⟨rfl, fun h => by have := h.1; omega, rfl, rfl⟩) hP hD hS [0, 1] (by decide) rfl d_Model_type_28
  · skip
    rw [q_ilt (rfl : x.toInt = x.toInt) (show (1 : Int32).toInt = 1 by decide)] at b7
    refine lv_iload_n hx hb d_Model_type_10 rfl (lv_at hl 2 rfl) ?_
    refine lv_bipush (v := 8) hx hb d_Model_type_11 (by decide) ?_
    refine lv_icmp_gt (tgt := 27) hx hb d_Model_type_13 (by decide) (fun b13 => ?_) (fun b13 => ?_)
    · skip
      rw [q_ilt (show (8 : Int32).toInt = 8 by decide) (rfl : x.toInt = x.toInt)] at b13
      refine lv_iconst (v := 0) hx hb d_Model_type_27 (by decide) ?_
      exact Cz.ret C0 (v := 0) (u := (f, tn)) (by rfl) (Nat.le_of_ble_eq_true rfl) (Nat.le_of_ble_eq_true rfl) (by show ((0 : Int32) = 1 ∧ putC len w x ∧ TP f tn (putT T len w x.toInt.toNat) (len + x.toInt.toNat)) ∨ ((0 : Int32) = 0 ∧ ¬ putC len w x ∧ f = f ∧ tn = tn); exact Or.inr ⟨rfl, fun h => by have := h.2.1; omega, rfl, rfl⟩) hP hD hS [0, 1] (by decide) rfl d_Model_type_28
    · skip
      rw [q_ilt (show (8 : Int32).toInt = 8 by decide) (rfl : x.toInt = x.toInt)] at b13
      refine lv_aload_n hx hb d_Model_type_16 rfl (lv_at hl 0 rfl) ?_
      refine va_get (D := (dC, dI)) (ci := 8) (v := .int tn) (C := R_Model) (T := F_Model) (N := 26) hx hb hts u_Model hown hK hP 0 rfl rfl 6 (by decide) (hts _ m_569) (fun _ h9 => h9) rfl d_Model_type_17 ?_
      refine lv_iload_n hx hb d_Model_type_20 rfl (lv_at hl 2 rfl) ?_
      refine lv_iadd hx hb d_Model_type_21 ?_
      refine lv_topi (fun v21 e21 => ?_)
      have t21 : v21.toInt = (len : Int) + x.toInt := by rw [e21]; exact q_iadd hT.1 (rfl : x.toInt = x.toInt) (by omega)
      refine lv_bipush (v := 60) hx hb d_Model_type_22 (by decide) ?_
      refine lv_icmp_le (tgt := 29) hx hb d_Model_type_24 (by decide) (fun b24 => ?_) (fun b24 => ?_)
      · skip
        rw [q_ile t21 (show (60 : Int32).toInt = 60 by decide)] at b24
        refine lv_iconst (v := 0) hx hb d_Model_type_29 (by decide) ?_
        refine lv_istore (lv' := [(4, .int 0), (0, .ref h0), (1, .long w), (3, .int x)]) hx hb d_Model_type_30 hl (by decide) rfl (fun ls hl => ?_)
        exact L_Model_type_32 (h0) (th) (we) (wm) (wy) (ra) (tA) (tn) (oA) (on) (rA) (fi) (la) (wA) (wf) (wl) (lo) (ov) (un) (aT) (mi) (ds) (dA) (a0) (xp) (iA) (te) (f) (T) (len) (w) (x) C0 hA (hT) _ (0) (0) (x.toInt.toNat) H locs ls (Nat.lt_succ_self _) (((show (0 : Int32).toInt = 0 by decide)).trans (by omega)) ((Int.toNat_of_nonneg (by omega)).symm) (by omega) (by omega) (by omega) (by omega) (by intro j hj; omega) (va_Psub hP [0, 1] rfl) (hD.sub [0, 1] (by decide) rfl) hS (lv_sub hl [0, 3, 2, 1] rfl)
      · skip
        rw [q_ile t21 (show (60 : Int32).toInt = 60 by decide)] at b24
        refine lv_iconst (v := 0) hx hb d_Model_type_27 (by decide) ?_
        exact Cz.ret C0 (v := 0) (u := (f, tn)) (by rfl) (Nat.le_of_ble_eq_true rfl) (Nat.le_of_ble_eq_true rfl) (by show ((0 : Int32) = 1 ∧ putC len w x ∧ TP f tn (putT T len w x.toInt.toNat) (len + x.toInt.toNat)) ∨ ((0 : Int32) = 0 ∧ ¬ putC len w x ∧ f = f ∧ tn = tn); exact Or.inr ⟨rfl, fun h => by have := h.2.2.1; omega, rfl, rfl⟩) hP hD hS [0, 1] (by decide) rfl d_Model_type_28
set_option maxHeartbeats 4000000 in
set_option maxRecDepth 100000 in
theorem c_Model_bias (l : Launch) (dC : Nat → ClassId) (dI : Nat → Nat → Nat) (cI cB cJ : ClassId) (h0 : Nat) (th : Int32) (we : Int32) (wm : Int32) (wy : Int32) (ra : Int32) (tA : Nat) (tn : Int32) (oA : Nat) (on : Int32) (rA : Nat) (fi : Int32) (la : Int32) (wA : Nat) (wf : Int32) (wl : Int32) (lo : Int32) (ov : Int32) (un : Int32) (aT : Int32) (mi : Int32) (ds : Int32) (dA : Nat) (a0 : Int32) (xp : Int32) (iA : Nat) (te : Int32) (E : Nat) (M : Nat) (hL : LY we wm E M) : Ci l dC dI cI cB cJ y_Model_bias w_Model_bias ({ frames := 0, cells := 0, slots := 0, locals := 0 } : Room) [.ref h0] [(h0, .inr (8, [.int th, .int we, .int wm, .int wy, .int ra, .ref tA, .int tn, .ref oA, .int on, .ref rA, .int fi, .int la, .ref wA, .int wf, .int wl, .int lo, .int ov, .int un, .int aT, .int mi, .int ds, .ref dA, .int a0, .int xp, .ref iA, .int te]))] (fun (r : Int32) (u : Unit) => r.toInt = ((2 ^ (E - 1) - 1 : Nat) : Int)) (fun u : Unit => [(h0, .inr (8, [.int th, .int we, .int wm, .int wy, .int ra, .ref tA, .int tn, .ref oA, .int on, .ref rA, .int fi, .int la, .ref wA, .int wf, .int wl, .int lo, .int ov, .int un, .int aT, .int mi, .int ds, .ref dA, .int a0, .int xp, .ref iA, .int te]))]) := by
  refine Ci.intro (cc := b_Model_bias) (maxL := 1) (plainFor_of_name (by decide)) rfl (Nat.le_of_ble_eq_true rfl) ?_
  intro p e s m below meth c A ls C0 hin hA hP hD hS hl
  obtain ⟨hx, hb, hml, hown, hts, hr, hlocks, hK, hN⟩ := id C0
  obtain ⟨H, hH⟩ : ∃ H, H = s.heap := ⟨_, rfl⟩
  have hP : va_P (dC, dI) vwCl [(h0, .inr (8, [.int th, .int we, .int wm, .int wy, .int ra, .ref tA, .int tn, .ref oA, .int on, .ref rA, .int fi, .int la, .ref wA, .int wf, .int wl, .int lo, .int ov, .int un, .int aT, .int mi, .int ds, .ref dA, .int a0, .int xp, .ref iA, .int te]))] s.heap := hP
  have hl : lv_has ls 1 [(0, .ref h0)] := hl
  suffices h : ∀ (H : Heap) (locs : List Loc), va_P (dC, dI) vwCl [(h0, .inr (8, [.int th, .int we, .int wm, .int wy, .int ra, .ref tA, .int tn, .ref oA, .int on, .ref rA, .int fi, .int la, .ref wA, .int wf, .int wl, .int lo, .int ov, .int un, .int aT, .int mi, .int ds, .ref dA, .int a0, .int xp, .ref iA, .int te]))] H → va_D A [(h0, .inr (8, [.int th, .int we, .int wm, .int wy, .int ra, .ref tA, .int tn, .ref oA, .int on, .ref rA, .int fi, .int la, .ref wA, .int wf, .int wl, .int lo, .int ov, .int un, .int aT, .int mi, .int ds, .ref dA, .int a0, .int xp, .ref iA, .int te]))] → va_S A s.heap H locs → W p l e ({ frames := 0, cells := 0, slots := 0, locals := 0 } : Room) s m ([.ref h0] : List Value).toArray below meth c H locs 0 0 (MQ below (va_Qi (fun (r : Int32) (u : Unit) => r.toInt = ((2 ^ (E - 1) - 1 : Nat) : Int)) (poG dC dI A (fun u : Unit => [(h0, .inr (8, [.int th, .int we, .int wm, .int wy, .int ra, .ref tA, .int tn, .ref oA, .int on, .ref rA, .int fi, .int la, .ref wA, .int wf, .int wl, .int lo, .int ov, .int un, .int aT, .int mi, .int ds, .ref dA, .int a0, .int xp, .ref iA, .int te]))])) A) ([.ref h0] : List Value).toArray s 0 0 A) (F0 m 0 ls []) from h _ _ hP hD hS
  clear hP hD hS hH H
  intro H locs hP hD hS
  obtain ⟨he, hm, hE1, hE2, hM1, hM2⟩ := id hL
  have hbz := p_bias hE1 hE2
  have hem := p_em hE1 hE2 hM1 hM2
  have hiz := iz_sb E M
  have hpm := p_m hM2
  have hpm1 := pw_p M
  have hpe := p_e hE1 hE2
  refine lv_iconst (v := 1) hx hb d_Model_bias_0 (by decide) ?_
  refine lv_aload_n hx hb d_Model_bias_1 rfl (lv_at hl 0 rfl) ?_
  refine va_get (D := (dC, dI)) (ci := 8) (v := .int we) (C := R_Model) (T := F_Model) (N := 26) hx hb hts u_Model hown hK hP 0 rfl rfl 1 (by decide) (hts _ m_564) (fun _ h9 => h9) rfl d_Model_bias_2 ?_
  refine lv_iconst (v := 1) hx hb d_Model_bias_5 (by decide) ?_
  refine lv_isub hx hb d_Model_bias_6 ?_
  refine lv_topi (fun v6 e6 => ?_)
  have t6 : v6.toInt = (E : Int) - 1 := by rw [e6]; exact q_isub he (show (1 : Int32).toInt = 1 by decide) (by omega)
  refine lv_ishl hx hb d_Model_bias_7 ?_
  refine lv_topi (fun v7 e7 => ?_)
  have t7 : v7.toInt = ((1 * 2 ^ (E - 1) : Nat) : Int) := by rw [e7]; exact q_ishl (a := 1) (by decide) (t6.trans (by omega)) (by omega) (by omega)
  refine lv_iconst (v := 1) hx hb d_Model_bias_8 (by decide) ?_
  refine lv_isub hx hb d_Model_bias_9 ?_
  refine lv_topi (fun v9 e9 => ?_)
  have t9 : v9.toInt = (((1 * 2 ^ (E - 1) : Nat) : Int)) - 1 := by rw [e9]; exact q_isub t7 (show (1 : Int32).toInt = 1 by decide) (by omega)
  exact Ci.ret C0 (v := v9) (u := ()) (Nat.le_of_ble_eq_true rfl) (Nat.le_of_ble_eq_true rfl) (by show v9.toInt = ((2 ^ (E - 1) - 1 : Nat) : Int); rw [t9]; omega) hP hD hS [0] (by decide) rfl d_Model_bias_10
set_option maxHeartbeats 4000000 in
set_option maxRecDepth 100000 in
theorem c_Model_beyond (l : Launch) (dC : Nat → ClassId) (dI : Nat → Nat → Nat) (cI cB cJ : ClassId) (h0 : Nat) (th : Int32) (we : Int32) (wm : Int32) (wy : Int32) (ra : Int32) (tA : Nat) (tn : Int32) (oA : Nat) (on : Int32) (rA : Nat) (fi : Int32) (la : Int32) (wA : Nat) (wf : Int32) (wl : Int32) (lo : Int32) (ov : Int32) (un : Int32) (aT : Int32) (mi : Int32) (ds : Int32) (dA : Nat) (a0 : Int32) (xp : Int32) (iA : Nat) (te : Int32) (E : Nat) (M : Nat) (hL : LY we wm E M) : Cl l dC dI cI cB cJ y_Model_beyond w_Model_beyond ({ frames := 0, cells := 0, slots := 0, locals := 0 } : Room) [.ref h0] [(h0, .inr (8, [.int th, .int we, .int wm, .int wy, .int ra, .ref tA, .int tn, .ref oA, .int on, .ref rA, .int fi, .int la, .ref wA, .int wf, .int wl, .int lo, .int ov, .int un, .int aT, .int mi, .int ds, .ref dA, .int a0, .int xp, .ref iA, .int te]))] (fun (r : Int64) (u : Unit) => r.toInt = ((iz E M : Nat) : Int)) (fun u : Unit => [(h0, .inr (8, [.int th, .int we, .int wm, .int wy, .int ra, .ref tA, .int tn, .ref oA, .int on, .ref rA, .int fi, .int la, .ref wA, .int wf, .int wl, .int lo, .int ov, .int un, .int aT, .int mi, .int ds, .ref dA, .int a0, .int xp, .ref iA, .int te]))]) := by
  refine Cl.intro (cc := b_Model_beyond) (maxL := 1) (plainFor_of_name (by decide)) rfl (Nat.le_of_ble_eq_true rfl) ?_
  intro p e s m below meth c A ls C0 hin hA hP hD hS hl
  obtain ⟨hx, hb, hml, hown, hts, hr, hlocks, hK, hN⟩ := id C0
  obtain ⟨H, hH⟩ : ∃ H, H = s.heap := ⟨_, rfl⟩
  have hP : va_P (dC, dI) vwCl [(h0, .inr (8, [.int th, .int we, .int wm, .int wy, .int ra, .ref tA, .int tn, .ref oA, .int on, .ref rA, .int fi, .int la, .ref wA, .int wf, .int wl, .int lo, .int ov, .int un, .int aT, .int mi, .int ds, .ref dA, .int a0, .int xp, .ref iA, .int te]))] s.heap := hP
  have hl : lv_has ls 1 [(0, .ref h0)] := hl
  suffices h : ∀ (H : Heap) (locs : List Loc), va_P (dC, dI) vwCl [(h0, .inr (8, [.int th, .int we, .int wm, .int wy, .int ra, .ref tA, .int tn, .ref oA, .int on, .ref rA, .int fi, .int la, .ref wA, .int wf, .int wl, .int lo, .int ov, .int un, .int aT, .int mi, .int ds, .ref dA, .int a0, .int xp, .ref iA, .int te]))] H → va_D A [(h0, .inr (8, [.int th, .int we, .int wm, .int wy, .int ra, .ref tA, .int tn, .ref oA, .int on, .ref rA, .int fi, .int la, .ref wA, .int wf, .int wl, .int lo, .int ov, .int un, .int aT, .int mi, .int ds, .ref dA, .int a0, .int xp, .ref iA, .int te]))] → va_S A s.heap H locs → W p l e ({ frames := 0, cells := 0, slots := 0, locals := 0 } : Room) s m ([.ref h0] : List Value).toArray below meth c H locs 0 0 (MQ below (va_Ql (fun (r : Int64) (u : Unit) => r.toInt = ((iz E M : Nat) : Int)) (poG dC dI A (fun u : Unit => [(h0, .inr (8, [.int th, .int we, .int wm, .int wy, .int ra, .ref tA, .int tn, .ref oA, .int on, .ref rA, .int fi, .int la, .ref wA, .int wf, .int wl, .int lo, .int ov, .int un, .int aT, .int mi, .int ds, .ref dA, .int a0, .int xp, .ref iA, .int te]))])) A) ([.ref h0] : List Value).toArray s 0 0 A) (F0 m 0 ls []) from h _ _ hP hD hS
  clear hP hD hS hH H
  intro H locs hP hD hS
  obtain ⟨he, hm, hE1, hE2, hM1, hM2⟩ := id hL
  have hbz := p_bias hE1 hE2
  have hem := p_em hE1 hE2 hM1 hM2
  have hiz := iz_sb E M
  have hpm := p_m hM2
  have hpm1 := pw_p M
  have hpe := p_e hE1 hE2
  refine lv_lconst (v := 1) hx hb d_Model_beyond_0 (by decide) ?_
  refine lv_aload_n hx hb d_Model_beyond_1 rfl (lv_at hl 0 rfl) ?_
  refine va_get (D := (dC, dI)) (ci := 8) (v := .int we) (C := R_Model) (T := F_Model) (N := 26) hx hb hts u_Model hown hK hP 0 rfl rfl 1 (by decide) (hts _ m_564) (fun _ h9 => h9) rfl d_Model_beyond_2 ?_
  refine lv_lshl hx hb d_Model_beyond_5 rfl ?_
  refine lv_topl (fun v5 e5 => ?_)
  have t5 : v5.toInt = ((1 * 2 ^ E : Nat) : Int) := by rw [e5]; exact q_lshl (a := 1) (by decide) he (by omega) (by omega)
  refine lv_lconst (v := 1) hx hb d_Model_beyond_6 (by decide) ?_
  refine lv_lsub hx hb d_Model_beyond_7 ?_
  refine lv_topl (fun v7 e7 => ?_)
  have t7 : v7.toInt = (((1 * 2 ^ E : Nat) : Int)) - 1 := by rw [e7]; exact q_lsub t5 (show (1 : Int64).toInt = 1 by decide) (by omega)
  refine lv_aload_n hx hb d_Model_beyond_8 rfl (lv_at hl 0 rfl) ?_
  refine va_get (D := (dC, dI)) (ci := 8) (v := .int wm) (C := R_Model) (T := F_Model) (N := 26) hx hb hts u_Model hown hK hP 0 rfl rfl 2 (by decide) (hts _ m_565) (fun _ h9 => h9) rfl d_Model_beyond_9 ?_
  refine lv_lshl hx hb d_Model_beyond_12 rfl ?_
  refine lv_topl (fun v12 e12 => ?_)
  have t12 : v12.toInt = ((iz E M : Nat) : Int) := by rw [e12]; exact q_lshl (t7.trans (by omega)) hm (by omega) (Nat.lt_of_le_of_lt (Nat.mul_le_mul (Nat.sub_le _ _) (Nat.le_refl _)) (Nat.lt_of_le_of_lt (Nat.mul_le_mul hpe.2 hpm) (by decide)))
  exact Cl.ret C0 (v := v12) (u := ()) (Nat.le_of_ble_eq_true rfl) (Nat.le_of_ble_eq_true rfl) (by show v12.toInt = ((iz E M : Nat) : Int); exact t12) hP hD hS [0] (by decide) rfl d_Model_beyond_13
set_option maxHeartbeats 4000000 in
set_option maxRecDepth 100000 in
theorem c_Model_isDigit (l : Launch) (dC : Nat → ClassId) (dI : Nat → Nat → Nat) (cI cB cJ : ClassId) (x : Int32)  : Ci l dC dI cI cB cJ y_Model_isDigit w_Model_isDigit ({ frames := 0, cells := 0, slots := 0, locals := 0 } : Room) [.int x] [] (fun (r : Int32) (u : Unit) => r = if 48 ≤ x.toInt ∧ x.toInt ≤ 57 then 1 else 0) (fun u : Unit => []) := by
  refine Ci.intro (cc := b_Model_isDigit) (maxL := 1) (plainFor_of_name (by decide)) rfl (Nat.le_of_ble_eq_true rfl) ?_
  intro p e s m below meth c A ls C0 hin hA hP hD hS hl
  obtain ⟨hx, hb, hml, hown, hts, hr, hlocks, hK, hN⟩ := id C0
  obtain ⟨H, hH⟩ : ∃ H, H = s.heap := ⟨_, rfl⟩
  have hP : va_P (dC, dI) vwCl [] s.heap := hP
  have hl : lv_has ls 1 [(0, .int x)] := hl
  have r_x := q_r32 x
  suffices h : ∀ (H : Heap) (locs : List Loc), va_P (dC, dI) vwCl [] H → va_D A [] → va_S A s.heap H locs → W p l e ({ frames := 0, cells := 0, slots := 0, locals := 0 } : Room) s m ([.int x] : List Value).toArray below meth c H locs 0 0 (MQ below (va_Qi (fun (r : Int32) (u : Unit) => r = if 48 ≤ x.toInt ∧ x.toInt ≤ 57 then 1 else 0) (poG dC dI A (fun u : Unit => [])) A) ([.int x] : List Value).toArray s 0 0 A) (F0 m 0 ls []) from h _ _ hP hD hS
  clear hP hD hS hH H
  intro H locs hP hD hS
  refine lv_iload_n hx hb d_Model_isDigit_0 rfl (lv_at hl 0 rfl) ?_
  refine lv_bipush (v := 48) hx hb d_Model_isDigit_1 (by decide) ?_
  refine lv_icmp_lt (tgt := 16) hx hb d_Model_isDigit_3 (by decide) (fun b3 => ?_) (fun b3 => ?_)
  · skip
    rw [q_ilt (rfl : x.toInt = x.toInt) (show (48 : Int32).toInt = 48 by decide)] at b3
    refine lv_iconst (v := 0) hx hb d_Model_isDigit_16 (by decide) ?_
    exact Cz.ret C0 (v := 0) (u := ()) (by rfl) (Nat.le_of_ble_eq_true rfl) (Nat.le_of_ble_eq_true rfl) (by show (0 : Int32) = if 48 ≤ x.toInt ∧ x.toInt ≤ 57 then 1 else 0; rw [if_neg (by omega)]) hP hD hS [] (by decide) rfl d_Model_isDigit_17
  · skip
    rw [q_ilt (rfl : x.toInt = x.toInt) (show (48 : Int32).toInt = 48 by decide)] at b3
    refine lv_iload_n hx hb d_Model_isDigit_6 rfl (lv_at hl 0 rfl) ?_
    refine lv_bipush (v := 57) hx hb d_Model_isDigit_7 (by decide) ?_
    refine lv_icmp_gt (tgt := 16) hx hb d_Model_isDigit_9 (by decide) (fun b9 => ?_) (fun b9 => ?_)
    · skip
      rw [q_ilt (show (57 : Int32).toInt = 57 by decide) (rfl : x.toInt = x.toInt)] at b9
      refine lv_iconst (v := 0) hx hb d_Model_isDigit_16 (by decide) ?_
      exact Cz.ret C0 (v := 0) (u := ()) (by rfl) (Nat.le_of_ble_eq_true rfl) (Nat.le_of_ble_eq_true rfl) (by show (0 : Int32) = if 48 ≤ x.toInt ∧ x.toInt ≤ 57 then 1 else 0; rw [if_neg (by omega)]) hP hD hS [] (by decide) rfl d_Model_isDigit_17
    · skip
      rw [q_ilt (show (57 : Int32).toInt = 57 by decide) (rfl : x.toInt = x.toInt)] at b9
      refine lv_iconst (v := 1) hx hb d_Model_isDigit_12 (by decide) ?_
      refine lv_goto (tgt := 17) hx hb d_Model_isDigit_13 (by decide) ?_
      exact Cz.ret C0 (v := 1) (u := ()) (by rfl) (Nat.le_of_ble_eq_true rfl) (Nat.le_of_ble_eq_true rfl) (by show (1 : Int32) = if 48 ≤ x.toInt ∧ x.toInt ≤ 57 then 1 else 0; rw [if_pos (by omega)]) hP hD hS [] (by decide) rfl d_Model_isDigit_17
set_option maxHeartbeats 4000000 in
set_option maxRecDepth 100000 in
theorem c_Model_isPattern (l : Launch) (dC : Nat → ClassId) (dI : Nat → Nat → Nat) (cI cB cJ : ClassId) (h0 : Nat) (th : Int32) (we : Int32) (wm : Int32) (wy : Int32) (ra : Int32) (tA : Nat) (tn : Int32) (oA : Nat) (on : Int32) (rA : Nat) (fi : Int32) (la : Int32) (wA : Nat) (wf : Int32) (wl : Int32) (lo : Int32) (ov : Int32) (un : Int32) (aT : Int32) (mi : Int32) (ds : Int32) (dA : Nat) (a0 : Int32) (xp : Int32) (iA : Nat) (te : Int32) (E : Nat) (M : Nat) (x : Int64) (hL : LY we wm E M) : Ci l dC dI cI cB cJ y_Model_isPattern w_Model_isPattern ({ frames := 0, cells := 0, slots := 0, locals := 0 } : Room) [.ref h0, .long x] [(h0, .inr (8, [.int th, .int we, .int wm, .int wy, .int ra, .ref tA, .int tn, .ref oA, .int on, .ref rA, .int fi, .int la, .ref wA, .int wf, .int wl, .int lo, .int ov, .int un, .int aT, .int mi, .int ds, .ref dA, .int a0, .int xp, .ref iA, .int te]))] (fun (r : Int32) (u : Unit) => r = if isPat E M x.toInt then 1 else 0) (fun u : Unit => [(h0, .inr (8, [.int th, .int we, .int wm, .int wy, .int ra, .ref tA, .int tn, .ref oA, .int on, .ref rA, .int fi, .int la, .ref wA, .int wf, .int wl, .int lo, .int ov, .int un, .int aT, .int mi, .int ds, .ref dA, .int a0, .int xp, .ref iA, .int te]))]) := by
  refine Ci.intro (cc := b_Model_isPattern) (maxL := 3) (plainFor_of_name (by decide)) rfl (Nat.le_of_ble_eq_true rfl) ?_
  intro p e s m below meth c A ls C0 hin hA hP hD hS hl
  obtain ⟨hx, hb, hml, hown, hts, hr, hlocks, hK, hN⟩ := id C0
  obtain ⟨H, hH⟩ : ∃ H, H = s.heap := ⟨_, rfl⟩
  have hP : va_P (dC, dI) vwCl [(h0, .inr (8, [.int th, .int we, .int wm, .int wy, .int ra, .ref tA, .int tn, .ref oA, .int on, .ref rA, .int fi, .int la, .ref wA, .int wf, .int wl, .int lo, .int ov, .int un, .int aT, .int mi, .int ds, .ref dA, .int a0, .int xp, .ref iA, .int te]))] s.heap := hP
  have hl : lv_has ls 3 [(0, .ref h0), (1, .long x)] := hl
  have r_x := q_r64 x
  suffices h : ∀ (H : Heap) (locs : List Loc), va_P (dC, dI) vwCl [(h0, .inr (8, [.int th, .int we, .int wm, .int wy, .int ra, .ref tA, .int tn, .ref oA, .int on, .ref rA, .int fi, .int la, .ref wA, .int wf, .int wl, .int lo, .int ov, .int un, .int aT, .int mi, .int ds, .ref dA, .int a0, .int xp, .ref iA, .int te]))] H → va_D A [(h0, .inr (8, [.int th, .int we, .int wm, .int wy, .int ra, .ref tA, .int tn, .ref oA, .int on, .ref rA, .int fi, .int la, .ref wA, .int wf, .int wl, .int lo, .int ov, .int un, .int aT, .int mi, .int ds, .ref dA, .int a0, .int xp, .ref iA, .int te]))] → va_S A s.heap H locs → W p l e ({ frames := 0, cells := 0, slots := 0, locals := 0 } : Room) s m ([.ref h0, .long x] : List Value).toArray below meth c H locs 0 0 (MQ below (va_Qi (fun (r : Int32) (u : Unit) => r = if isPat E M x.toInt then 1 else 0) (poG dC dI A (fun u : Unit => [(h0, .inr (8, [.int th, .int we, .int wm, .int wy, .int ra, .ref tA, .int tn, .ref oA, .int on, .ref rA, .int fi, .int la, .ref wA, .int wf, .int wl, .int lo, .int ov, .int un, .int aT, .int mi, .int ds, .ref dA, .int a0, .int xp, .ref iA, .int te]))])) A) ([.ref h0, .long x] : List Value).toArray s 0 0 A) (F0 m 0 ls []) from h _ _ hP hD hS
  clear hP hD hS hH H
  intro H locs hP hD hS
  obtain ⟨he, hm, hE1, hE2, hM1, hM2⟩ := id hL
  have hbz := p_bias hE1 hE2
  have hem := p_em hE1 hE2 hM1 hM2
  have hiz := iz_sb E M
  have hpm := p_m hM2
  have hpm1 := pw_p M
  have hpe := p_e hE1 hE2
  refine lv_lload_n hx hb d_Model_isPattern_0 rfl (lv_at hl 1 rfl) ?_
  refine lv_lconst (v := 0) hx hb d_Model_isPattern_1 (by decide) ?_
  refine W.lcmp hx hb d_Model_isPattern_2 ?_
  refine lv_if_lt (tgt := 28) hx hb d_Model_isPattern_3 (by decide) (fun b3 => ?_) (fun b3 => ?_)
  · skip
    rw [q_cmp_lt (rfl : x.toInt = x.toInt) (show (0 : Int64).toInt = 0 by decide)] at b3
    refine lv_iconst (v := 0) hx hb d_Model_isPattern_28 (by decide) ?_
    exact Cz.ret C0 (v := 0) (u := ()) (by rfl) (Nat.le_of_ble_eq_true rfl) (Nat.le_of_ble_eq_true rfl) (by show (0 : Int32) = if isPat E M x.toInt then 1 else 0; rw [if_neg (fun h => by have := h.1; omega)]) hP hD hS [0] (by decide) rfl d_Model_isPattern_29
  · skip
    rw [q_cmp_lt (rfl : x.toInt = x.toInt) (show (0 : Int64).toInt = 0 by decide)] at b3
    refine lv_lload_n hx hb d_Model_isPattern_6 rfl (lv_at hl 1 rfl) ?_
    refine lv_iconst (v := 1) hx hb d_Model_isPattern_7 (by decide) ?_
    refine lv_aload_n hx hb d_Model_isPattern_8 rfl (lv_at hl 0 rfl) ?_
    refine va_get (D := (dC, dI)) (ci := 8) (v := .int we) (C := R_Model) (T := F_Model) (N := 26) hx hb hts u_Model hown hK hP 0 rfl rfl 1 (by decide) (hts _ m_564) (fun _ h9 => h9) rfl d_Model_isPattern_9 ?_
    refine lv_iadd hx hb d_Model_isPattern_12 ?_
    refine lv_topi (fun v12 e12 => ?_)
    have t12 : v12.toInt = 1 + (E : Int) := by rw [e12]; exact q_iadd (show (1 : Int32).toInt = 1 by decide) he (by omega)
    refine lv_aload_n hx hb d_Model_isPattern_13 rfl (lv_at hl 0 rfl) ?_
    refine va_get (D := (dC, dI)) (ci := 8) (v := .int wm) (C := R_Model) (T := F_Model) (N := 26) hx hb hts u_Model hown hK hP 0 rfl rfl 2 (by decide) (hts _ m_565) (fun _ h9 => h9) rfl d_Model_isPattern_14 ?_
    refine lv_iadd hx hb d_Model_isPattern_17 ?_
    refine lv_topi (fun v17 e17 => ?_)
    have t17 : v17.toInt = (1 + (E : Int)) + (M : Int) := by rw [e17]; exact q_iadd t12 hm (by omega)
    refine lv_lshr hx hb d_Model_isPattern_18 rfl ?_
    refine lv_topl (fun v18 e18 => ?_)
    have t18 : v18.toInt = x.toInt / (2 ^ (1 + E + M) : Nat) := by rw [e18]; exact q_sarK (k := 1 + E + M) (t17.trans (by omega)) (by omega)
    refine lv_lconst (v := 0) hx hb d_Model_isPattern_19 (by decide) ?_
    refine W.lcmp hx hb d_Model_isPattern_20 ?_
    refine lv_if_ne (tgt := 28) hx hb d_Model_isPattern_21 (by decide) (fun b21 => ?_) (fun b21 => ?_)
    · skip
      rw [q_cmp_eq t18 (show (0 : Int64).toInt = 0 by decide)] at b21
      refine lv_iconst (v := 0) hx hb d_Model_isPattern_28 (by decide) ?_
      exact Cz.ret C0 (v := 0) (u := ()) (by rfl) (Nat.le_of_ble_eq_true rfl) (Nat.le_of_ble_eq_true rfl) (by show (0 : Int32) = if isPat E M x.toInt then 1 else 0; rw [if_neg (fun h => b21 ((isPat_shr h.1).mpr h.2))]) hP hD hS [0] (by decide) rfl d_Model_isPattern_29
    · skip
      rw [q_cmp_eq t18 (show (0 : Int64).toInt = 0 by decide)] at b21
      refine lv_iconst (v := 1) hx hb d_Model_isPattern_24 (by decide) ?_
      refine lv_goto (tgt := 29) hx hb d_Model_isPattern_25 (by decide) ?_
      exact Cz.ret C0 (v := 1) (u := ()) (by rfl) (Nat.le_of_ble_eq_true rfl) (Nat.le_of_ble_eq_true rfl) (by show (1 : Int32) = if isPat E M x.toInt then 1 else 0; rw [if_pos ⟨by omega, (isPat_shr (by omega)).mp b21⟩]) hP hD hS [0] (by decide) rfl d_Model_isPattern_29
set_option maxHeartbeats 4000000 in
set_option maxRecDepth 100000 in
theorem c_Model_sizeOf (l : Launch) (dC : Nat → ClassId) (dI : Nat → Nat → Nat) (cI cB cJ : ClassId) (h0 : Nat) (th : Int32) (we : Int32) (wm : Int32) (wy : Int32) (ra : Int32) (tA : Nat) (tn : Int32) (oA : Nat) (on : Int32) (rA : Nat) (fi : Int32) (la : Int32) (wA : Nat) (wf : Int32) (wl : Int32) (lo : Int32) (ov : Int32) (un : Int32) (aT : Int32) (mi : Int32) (ds : Int32) (dA : Nat) (a0 : Int32) (xp : Int32) (iA : Nat) (te : Int32) (E : Nat) (M : Nat) (x : Int64) (Z : Nat) (hL : LY we wm E M) (hZ : x.toInt = (Z : Int)) : Cl l dC dI cI cB cJ y_Model_sizeOf w_Model_sizeOf ({ frames := 0, cells := 0, slots := 0, locals := 0 } : Room) [.ref h0, .long x] [(h0, .inr (8, [.int th, .int we, .int wm, .int wy, .int ra, .ref tA, .int tn, .ref oA, .int on, .ref rA, .int fi, .int la, .ref wA, .int wf, .int wl, .int lo, .int ov, .int un, .int aT, .int mi, .int ds, .ref dA, .int a0, .int xp, .ref iA, .int te]))] (fun (r : Int64) (u : Unit) => r.toInt = ((szo E M Z : Nat) : Int)) (fun u : Unit => [(h0, .inr (8, [.int th, .int we, .int wm, .int wy, .int ra, .ref tA, .int tn, .ref oA, .int on, .ref rA, .int fi, .int la, .ref wA, .int wf, .int wl, .int lo, .int ov, .int un, .int aT, .int mi, .int ds, .ref dA, .int a0, .int xp, .ref iA, .int te]))]) := by
  refine Cl.intro (cc := b_Model_sizeOf) (maxL := 3) (plainFor_of_name (by decide)) rfl (Nat.le_of_ble_eq_true rfl) ?_
  intro p e s m below meth c A ls C0 hin hA hP hD hS hl
  obtain ⟨hx, hb, hml, hown, hts, hr, hlocks, hK, hN⟩ := id C0
  obtain ⟨H, hH⟩ : ∃ H, H = s.heap := ⟨_, rfl⟩
  have hP : va_P (dC, dI) vwCl [(h0, .inr (8, [.int th, .int we, .int wm, .int wy, .int ra, .ref tA, .int tn, .ref oA, .int on, .ref rA, .int fi, .int la, .ref wA, .int wf, .int wl, .int lo, .int ov, .int un, .int aT, .int mi, .int ds, .ref dA, .int a0, .int xp, .ref iA, .int te]))] s.heap := hP
  have hl : lv_has ls 3 [(0, .ref h0), (1, .long x)] := hl
  have r_x := q_r64 x
  suffices h : ∀ (H : Heap) (locs : List Loc), va_P (dC, dI) vwCl [(h0, .inr (8, [.int th, .int we, .int wm, .int wy, .int ra, .ref tA, .int tn, .ref oA, .int on, .ref rA, .int fi, .int la, .ref wA, .int wf, .int wl, .int lo, .int ov, .int un, .int aT, .int mi, .int ds, .ref dA, .int a0, .int xp, .ref iA, .int te]))] H → va_D A [(h0, .inr (8, [.int th, .int we, .int wm, .int wy, .int ra, .ref tA, .int tn, .ref oA, .int on, .ref rA, .int fi, .int la, .ref wA, .int wf, .int wl, .int lo, .int ov, .int un, .int aT, .int mi, .int ds, .ref dA, .int a0, .int xp, .ref iA, .int te]))] → va_S A s.heap H locs → W p l e ({ frames := 0, cells := 0, slots := 0, locals := 0 } : Room) s m ([.ref h0, .long x] : List Value).toArray below meth c H locs 0 0 (MQ below (va_Ql (fun (r : Int64) (u : Unit) => r.toInt = ((szo E M Z : Nat) : Int)) (poG dC dI A (fun u : Unit => [(h0, .inr (8, [.int th, .int we, .int wm, .int wy, .int ra, .ref tA, .int tn, .ref oA, .int on, .ref rA, .int fi, .int la, .ref wA, .int wf, .int wl, .int lo, .int ov, .int un, .int aT, .int mi, .int ds, .ref dA, .int a0, .int xp, .ref iA, .int te]))])) A) ([.ref h0, .long x] : List Value).toArray s 0 0 A) (F0 m 0 ls []) from h _ _ hP hD hS
  clear hP hD hS hH H
  intro H locs hP hD hS
  obtain ⟨he, hm, hE1, hE2, hM1, hM2⟩ := id hL
  have hbz := p_bias hE1 hE2
  have hem := p_em hE1 hE2 hM1 hM2
  have hiz := iz_sb E M
  have hpm := p_m hM2
  have hpm1 := pw_p M
  have hpe := p_e hE1 hE2
  refine lv_lload_n hx hb d_Model_sizeOf_0 rfl (lv_at hl 1 rfl) ?_
  refine lv_lconst (v := 1) hx hb d_Model_sizeOf_1 (by decide) ?_
  refine lv_aload_n hx hb d_Model_sizeOf_2 rfl (lv_at hl 0 rfl) ?_
  refine va_get (D := (dC, dI)) (ci := 8) (v := .int we) (C := R_Model) (T := F_Model) (N := 26) hx hb hts u_Model hown hK hP 0 rfl rfl 1 (by decide) (hts _ m_564) (fun _ h9 => h9) rfl d_Model_sizeOf_3 ?_
  refine lv_aload_n hx hb d_Model_sizeOf_6 rfl (lv_at hl 0 rfl) ?_
  refine va_get (D := (dC, dI)) (ci := 8) (v := .int wm) (C := R_Model) (T := F_Model) (N := 26) hx hb hts u_Model hown hK hP 0 rfl rfl 2 (by decide) (hts _ m_565) (fun _ h9 => h9) rfl d_Model_sizeOf_7 ?_
  refine lv_iadd hx hb d_Model_sizeOf_10 ?_
  refine lv_topi (fun v10 e10 => ?_)
  have t10 : v10.toInt = (E : Int) + (M : Int) := by rw [e10]; exact q_iadd he hm (by omega)
  refine lv_lshl hx hb d_Model_sizeOf_11 rfl ?_
  refine lv_topl (fun v11 e11 => ?_)
  have t11 : v11.toInt = ((sb E M : Nat) : Int) := by rw [e11, ← Nat.one_mul (sb E M)]; exact q_lshl (a := 1) (k := E + M) (by decide) (t10.trans (by omega)) (by omega) (by rw [Nat.one_mul]; exact Nat.lt_of_le_of_lt hem.2 (by decide))
  refine lv_lconst (v := 1) hx hb d_Model_sizeOf_12 (by decide) ?_
  refine lv_lsub hx hb d_Model_sizeOf_13 ?_
  refine lv_topl (fun v13 e13 => ?_)
  have t13 : v13.toInt = (((sb E M : Nat) : Int)) - 1 := by rw [e13]; exact q_lsub t11 (show (1 : Int64).toInt = 1 by decide) (by omega)
  refine lv_land hx hb d_Model_sizeOf_14 ?_
  refine lv_topl (fun v14 e14 => ?_)
  have t14 : v14.toInt = ((szo E M Z : Nat) : Int) := by rw [e14]; exact q_land (k := E + M) hZ (t13.trans (show ((sb E M : Nat) : Int) - 1 = ((sb E M - 1 : Nat) : Int) by omega))
  exact Cl.ret C0 (v := v14) (u := ()) (Nat.le_of_ble_eq_true rfl) (Nat.le_of_ble_eq_true rfl) (by show v14.toInt = ((szo E M Z : Nat) : Int); exact t14) hP hD hS [0] (by decide) rfl d_Model_sizeOf_15
set_option maxHeartbeats 4000000 in
set_option maxRecDepth 100000 in
theorem c_Model_isBelow (l : Launch) (dC : Nat → ClassId) (dI : Nat → Nat → Nat) (cI cB cJ : ClassId) (h0 : Nat) (th : Int32) (we : Int32) (wm : Int32) (wy : Int32) (ra : Int32) (tA : Nat) (tn : Int32) (oA : Nat) (on : Int32) (rA : Nat) (fi : Int32) (la : Int32) (wA : Nat) (wf : Int32) (wl : Int32) (lo : Int32) (ov : Int32) (un : Int32) (aT : Int32) (mi : Int32) (ds : Int32) (dA : Nat) (a0 : Int32) (xp : Int32) (iA : Nat) (te : Int32) (E : Nat) (M : Nat) (x : Int64) (Z : Nat) (hL : LY we wm E M) (hZ : x.toInt = (Z : Int)) : Ci l dC dI cI cB cJ y_Model_isBelow w_Model_isBelow ({ frames := 1, cells := 0, slots := 0, locals := 22 } : Room) [.ref h0, .long x] [(h0, .inr (8, [.int th, .int we, .int wm, .int wy, .int ra, .ref tA, .int tn, .ref oA, .int on, .ref rA, .int fi, .int la, .ref wA, .int wf, .int wl, .int lo, .int ov, .int un, .int aT, .int mi, .int ds, .ref dA, .int a0, .int xp, .ref iA, .int te]))] (fun (r : Int32) (u : Unit) => r = if szo E M Z = Z then 0 else 1) (fun u : Unit => [(h0, .inr (8, [.int th, .int we, .int wm, .int wy, .int ra, .ref tA, .int tn, .ref oA, .int on, .ref rA, .int fi, .int la, .ref wA, .int wf, .int wl, .int lo, .int ov, .int un, .int aT, .int mi, .int ds, .ref dA, .int a0, .int xp, .ref iA, .int te]))]) := by
  refine Ci.intro (cc := b_Model_isBelow) (maxL := 3) (plainFor_of_name (by decide)) rfl (Nat.le_of_ble_eq_true rfl) ?_
  intro p e s m below meth c A ls C0 hin hA hP hD hS hl
  obtain ⟨hx, hb, hml, hown, hts, hr, hlocks, hK, hN⟩ := id C0
  obtain ⟨H, hH⟩ : ∃ H, H = s.heap := ⟨_, rfl⟩
  have hP : va_P (dC, dI) vwCl [(h0, .inr (8, [.int th, .int we, .int wm, .int wy, .int ra, .ref tA, .int tn, .ref oA, .int on, .ref rA, .int fi, .int la, .ref wA, .int wf, .int wl, .int lo, .int ov, .int un, .int aT, .int mi, .int ds, .ref dA, .int a0, .int xp, .ref iA, .int te]))] s.heap := hP
  have hl : lv_has ls 3 [(0, .ref h0), (1, .long x)] := hl
  have r_x := q_r64 x
  suffices h : ∀ (H : Heap) (locs : List Loc), va_P (dC, dI) vwCl [(h0, .inr (8, [.int th, .int we, .int wm, .int wy, .int ra, .ref tA, .int tn, .ref oA, .int on, .ref rA, .int fi, .int la, .ref wA, .int wf, .int wl, .int lo, .int ov, .int un, .int aT, .int mi, .int ds, .ref dA, .int a0, .int xp, .ref iA, .int te]))] H → va_D A [(h0, .inr (8, [.int th, .int we, .int wm, .int wy, .int ra, .ref tA, .int tn, .ref oA, .int on, .ref rA, .int fi, .int la, .ref wA, .int wf, .int wl, .int lo, .int ov, .int un, .int aT, .int mi, .int ds, .ref dA, .int a0, .int xp, .ref iA, .int te]))] → va_S A s.heap H locs → W p l e ({ frames := 1, cells := 0, slots := 0, locals := 22 } : Room) s m ([.ref h0, .long x] : List Value).toArray below meth c H locs 0 0 (MQ below (va_Qi (fun (r : Int32) (u : Unit) => r = if szo E M Z = Z then 0 else 1) (poG dC dI A (fun u : Unit => [(h0, .inr (8, [.int th, .int we, .int wm, .int wy, .int ra, .ref tA, .int tn, .ref oA, .int on, .ref rA, .int fi, .int la, .ref wA, .int wf, .int wl, .int lo, .int ov, .int un, .int aT, .int mi, .int ds, .ref dA, .int a0, .int xp, .ref iA, .int te]))])) A) ([.ref h0, .long x] : List Value).toArray s 0 0 A) (F0 m 0 ls []) from h _ _ hP hD hS
  clear hP hD hS hH H
  intro H locs hP hD hS
  obtain ⟨he, hm, hE1, hE2, hM1, hM2⟩ := id hL
  have hbz := p_bias hE1 hE2
  have hem := p_em hE1 hE2 hM1 hM2
  have hiz := iz_sb E M
  have hpm := p_m hM2
  have hpm1 := pw_p M
  have hpe := p_e hE1 hE2
  refine lv_aload_n hx hb d_Model_isBelow_0 rfl (lv_at hl 0 rfl) ?_
  refine lv_lload_n hx hb d_Model_isBelow_1 rfl (lv_at hl 1 rfl) ?_
  refine callV_l (wr := []) C0 (c_Model_sizeOf l dC dI cI cB cJ (h0) (th) (we) (wm) (wy) (ra) (tA) (tn) (oA) (on) (rA) (fi) (la) (wA) (wf) (wl) (lo) (ov) (un) (aT) (mi) (ds) (dA) (a0) (xp) (iA) (te) (E) (M) (x) (Z) (by exact hL) (by exact hZ)) (cwV 1 hts (gV m_706 m_707 m_37 m_55 m_708) rfl rfl rfl (by decide +kernel) ⟨Nat.le_of_ble_eq_true rfl, Nat.le_of_ble_eq_true rfl⟩) 8 rfl rfl 0 rfl hP hD hS hA [0] [] rfl rfl (by decide) (by decide) (by decide) rfl hl.1 rfl (Nat.le_of_ble_eq_true rfl) d_Model_isBelow_2 ⟨Nat.le_of_ble_eq_true rfl, Nat.le_of_ble_eq_true rfl⟩ (fun r2 u2 H locs hw9 hP hD hS => ?_)
  have h2 : r2.toInt = ((szo E M Z : Nat) : Int) := hw9
  have hP : va_P (dC, dI) vwCl [(h0, .inr (8, [.int th, .int we, .int wm, .int wy, .int ra, .ref tA, .int tn, .ref oA, .int on, .ref rA, .int fi, .int la, .ref wA, .int wf, .int wl, .int lo, .int ov, .int un, .int aT, .int mi, .int ds, .ref dA, .int a0, .int xp, .ref iA, .int te]))] H := hP
  have hD : va_D A [(h0, .inr (8, [.int th, .int we, .int wm, .int wy, .int ra, .ref tA, .int tn, .ref oA, .int on, .ref rA, .int fi, .int la, .ref wA, .int wf, .int wl, .int lo, .int ov, .int un, .int aT, .int mi, .int ds, .ref dA, .int a0, .int xp, .ref iA, .int te]))] := hD
  have t2 : r2.toInt = ((szo E M Z : Nat) : Int) := h2
  refine lv_lload_n hx hb d_Model_isBelow_5 rfl (lv_at hl 1 rfl) ?_
  refine W.lcmp hx hb d_Model_isBelow_6 ?_
  refine lv_if_eq (tgt := 14) hx hb d_Model_isBelow_7 (by decide) (fun b7 => ?_) (fun b7 => ?_)
  · skip
    rw [q_cmp_eq t2 hZ] at b7
    refine lv_iconst (v := 0) hx hb d_Model_isBelow_14 (by decide) ?_
    exact Cz.ret C0 (v := 0) (u := ()) (by rfl) (Nat.le_of_ble_eq_true rfl) (Nat.le_of_ble_eq_true rfl) (by show (0 : Int32) = if szo E M Z = Z then 0 else 1; rw [if_pos (by omega)]) hP hD hS [0] (by decide) rfl d_Model_isBelow_15
  · skip
    rw [q_cmp_eq t2 hZ] at b7
    refine lv_iconst (v := 1) hx hb d_Model_isBelow_10 (by decide) ?_
    refine lv_goto (tgt := 15) hx hb d_Model_isBelow_11 (by decide) ?_
    exact Cz.ret C0 (v := 1) (u := ()) (by rfl) (Nat.le_of_ble_eq_true rfl) (Nat.le_of_ble_eq_true rfl) (by show (1 : Int32) = if szo E M Z = Z then 0 else 1; rw [if_neg (by omega)]) hP hD hS [0] (by decide) rfl d_Model_isBelow_15
