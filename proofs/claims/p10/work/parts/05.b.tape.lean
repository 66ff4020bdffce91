set_option maxHeartbeats 4000000 in
set_option maxRecDepth 100000 in
theorem c_Tape_init (l : Launch) (dC : Nat → ClassId) (dI : Nat → Nat → Nat) (cI cB cJ : ClassId) (h0 : Nat) (z0 : Int32)  : Cv l dC dI cI cB cJ y_Tape_init w_Tape_init ({ frames := 1, cells := 1, slots := 60, locals := 12 } : Room) [.ref h0] [(h0, .inr (2, [.null, .int z0]))] (fun (u : (Nat) × (Nat → Int32) × (Int32)) => TP u.2.1 u.2.2 (fun _ => 0) 0) (fun u : (Nat) × (Nat → Int32) × (Int32) => [(h0, .inr (2, [.ref u.1, .int u.2.2])), (u.1, .inl (cB, 60, .inl u.2.1))]) := by
  refine Cv.intro (cc := b_Tape_init) (maxL := 1) (plainFor_of_name (by decide)) rfl (Nat.le_of_ble_eq_true rfl) ?_
  intro p e s m below meth c A ls C0 hin hA hP hD hS hl
  obtain ⟨hx, hb, hml, hown, hts, hr, hlocks, hK, hN⟩ := id C0
  obtain ⟨H, hH⟩ : ∃ H, H = s.heap := ⟨_, rfl⟩
  have hP : va_P (dC, dI) vwCl [(h0, .inr (2, [.null, .int z0]))] s.heap := hP
  have hl : lv_has ls 1 [(0, .ref h0)] := hl
  suffices h : ∀ (H : Heap) (locs : List Loc), va_P (dC, dI) vwCl [(h0, .inr (2, [.null, .int z0]))] H → va_D A [(h0, .inr (2, [.null, .int z0]))] → va_S A s.heap H locs → W p l e ({ frames := 1, cells := 1, slots := 60, locals := 12 } : Room) s m ([.ref h0] : List Value).toArray below meth c H locs 0 0 (MQ below (va_Qv (fun (u : (Nat) × (Nat → Int32) × (Int32)) => TP u.2.1 u.2.2 (fun _ => 0) 0) (poG dC dI A (fun u : (Nat) × (Nat → Int32) × (Int32) => [(h0, .inr (2, [.ref u.1, .int u.2.2])), (u.1, .inl (cB, 60, .inl u.2.1))])) A) ([.ref h0] : List Value).toArray s 1 60 A) (F0 m 0 ls []) from h _ _ hP hD hS
  clear hP hD hS hH H
  intro H locs hP hD hS
  refine lv_aload_n hx hb d_Tape_init_0 rfl (lv_at hl 0 rfl) ?_
  refine W.objInit hx hb hown (hts _ m_87) (hts _ m_70) (hts _ m_71) rfl (by rw [hml]; exact hl.1) rfl d_Tape_init_1 (Nat.le_of_ble_eq_true rfl) (Nat.le_of_ble_eq_true rfl) ?_
  refine W.eq (g2 := F0 m 4 ls []) rfl ?_
  refine lv_aload_n hx hb d_Tape_init_4 rfl (lv_at hl 0 rfl) ?_
  refine lv_bipush (v := 60) hx hb d_Tape_init_5 (by decide) ?_
  refine newB C0 hP hD hS hA (n := 60) (N := 60) (by decide) (by decide) (by decide) (Nat.le_of_ble_eq_true rfl) (Nat.le_of_ble_eq_true rfl) d_Tape_init_7 (fun qa H hP hD hS => ?_)
  have hP : va_P (dC, dI) vwCl [(h0, .inr (2, [.null, .int z0])), (qa, .inl (cB, 60, .inl (fun _ => 0)))] H := hP
  have hD : va_D A [(h0, .inr (2, [.null, .int z0])), (qa, .inl (cB, 60, .inl (fun _ => 0)))] := hD
  refine va_putF (D := (dC, dI)) (ci := 2) (v := .ref qa) (ty := .array .byte) (C := R_Tape) (T := F_Tape) (N := 2) hx hb hts u_Tape t_Tape t_Tape_ok n_Tape hown hK hP hD hS 0 rfl rfl 0 (by decide) (hts _ m_88) (fun _ h9 => h9) rfl hin rfl (by decide +kernel) rfl rfl (Nat.le_of_ble_eq_true rfl) d_Tape_init_9 (fun H locs hP hD hS => ?_)
  have hP : va_P (dC, dI) vwCl [(h0, .inr (2, [.ref qa, .int z0])), (qa, .inl (cB, 60, .inl (fun _ => 0)))] H := hP
  have hD : va_D A [(h0, .inr (2, [.ref qa, .int z0])), (qa, .inl (cB, 60, .inl (fun _ => 0)))] := hD
  refine lv_aload_n hx hb d_Tape_init_12 rfl (lv_at hl 0 rfl) ?_
  refine lv_iconst (v := 0) hx hb d_Tape_init_13 (by decide) ?_
  refine va_put (D := (dC, dI)) (ci := 2) (v := .int 0) (ty := .int) (C := R_Tape) (T := F_Tape) (N := 2) hx hb hts u_Tape t_Tape t_Tape_ok n_Tape hown hK hP hD hS 0 rfl rfl 1 (by decide) (hts _ m_89) (fun _ h9 => h9) rfl (by decide +kernel) rfl rfl (Nat.le_of_ble_eq_true rfl) d_Tape_init_14 (fun H locs hP hD hS => ?_)
  have hP : va_P (dC, dI) vwCl [(h0, .inr (2, [.ref qa, .int 0])), (qa, .inl (cB, 60, .inl (fun _ => 0)))] H := hP
  have hD : va_D A [(h0, .inr (2, [.ref qa, .int 0])), (qa, .inl (cB, 60, .inl (fun _ => 0)))] := hD
  exact Cv.ret C0 (u := (qa, (fun _ => 0), 0)) (Nat.le_of_ble_eq_true rfl) (Nat.le_of_ble_eq_true rfl) (by show TP (fun _ => 0) (0 : Int32) (fun _ => 0) 0; exact ⟨by decide, by omega, fun j h => by omega⟩) hP hD hS [0, 1] (by decide) rfl d_Tape_init_17
set_option maxHeartbeats 4000000 in
set_option maxRecDepth 100000 in
theorem c_Tape_wipe (l : Launch) (dC : Nat → ClassId) (dI : Nat → Nat → Nat) (cI cB cJ : ClassId) (h0 : Nat) (a0 : Nat) (f : Nat → Int32) (l0 : Int32)  : Cv l dC dI cI cB cJ y_Tape_wipe w_Tape_wipe ({ frames := 0, cells := 0, slots := 0, locals := 0 } : Room) [.ref h0] [(h0, .inr (2, [.ref a0, .int l0])), (a0, .inl (cB, 60, .inl f))] (fun (u : Unit) => True) (fun u : Unit => [(h0, .inr (2, [.ref a0, .int 0])), (a0, .inl (cB, 60, .inl f))]) := by
  refine Cv.intro (cc := b_Tape_wipe) (maxL := 1) (plainFor_of_name (by decide)) rfl (Nat.le_of_ble_eq_true rfl) ?_
  intro p e s m below meth c A ls C0 hin hA hP hD hS hl
  obtain ⟨hx, hb, hml, hown, hts, hr, hlocks, hK, hN⟩ := id C0
  obtain ⟨H, hH⟩ : ∃ H, H = s.heap := ⟨_, rfl⟩
  have hP : va_P (dC, dI) vwCl [(h0, .inr (2, [.ref a0, .int l0])), (a0, .inl (cB, 60, .inl f))] s.heap := hP
  have hl : lv_has ls 1 [(0, .ref h0)] := hl
  suffices h : ∀ (H : Heap) (locs : List Loc), va_P (dC, dI) vwCl [(h0, .inr (2, [.ref a0, .int l0])), (a0, .inl (cB, 60, .inl f))] H → va_D A [(h0, .inr (2, [.ref a0, .int l0])), (a0, .inl (cB, 60, .inl f))] → va_S A s.heap H locs → W p l e ({ frames := 0, cells := 0, slots := 0, locals := 0 } : Room) s m ([.ref h0] : List Value).toArray below meth c H locs 0 0 (MQ below (va_Qv (fun (u : Unit) => True) (poG dC dI A (fun u : Unit => [(h0, .inr (2, [.ref a0, .int 0])), (a0, .inl (cB, 60, .inl f))])) A) ([.ref h0] : List Value).toArray s 0 0 A) (F0 m 0 ls []) from h _ _ hP hD hS
  clear hP hD hS hH H
  intro H locs hP hD hS
  refine lv_aload_n hx hb d_Tape_wipe_0 rfl (lv_at hl 0 rfl) ?_
  refine lv_iconst (v := 0) hx hb d_Tape_wipe_1 (by decide) ?_
  refine va_put (D := (dC, dI)) (ci := 2) (v := .int 0) (ty := .int) (C := R_Tape) (T := F_Tape) (N := 2) hx hb hts u_Tape t_Tape t_Tape_ok n_Tape hown hK hP hD hS 0 rfl rfl 1 (by decide) (hts _ m_89) (fun _ h9 => h9) rfl (by decide +kernel) rfl rfl (Nat.le_of_ble_eq_true rfl) d_Tape_wipe_2 (fun H locs hP hD hS => ?_)
  have hP : va_P (dC, dI) vwCl [(h0, .inr (2, [.ref a0, .int 0])), (a0, .inl (cB, 60, .inl f))] H := hP
  have hD : va_D A [(h0, .inr (2, [.ref a0, .int 0])), (a0, .inl (cB, 60, .inl f))] := hD
  exact Cv.ret C0 (u := ()) (Nat.le_of_ble_eq_true rfl) (Nat.le_of_ble_eq_true rfl) (by show True; trivial) hP hD hS [0, 1] (by decide) rfl d_Tape_wipe_5
set_option maxHeartbeats 4000000 in
set_option maxRecDepth 100000 in
theorem c_Tape_at (l : Launch) (dC : Nat → ClassId) (dI : Nat → Nat → Nat) (cI cB cJ : ClassId) (h0 : Nat) (a0 : Nat) (f : Nat → Int32) (l0 : Int32) (T : Nat → Nat) (len : Nat) (x : Int32) (hT : TP f l0 T len) : Ci l dC dI cI cB cJ y_Tape_at w_Tape_at ({ frames := 0, cells := 0, slots := 0, locals := 0 } : Room) [.ref h0, .int x] [(h0, .inr (2, [.ref a0, .int l0])), (a0, .inl (cB, 60, .inl f))] (fun (r : Int32) (u : Unit) => r.toInt = tAt T len x.toInt) (fun u : Unit => [(h0, .inr (2, [.ref a0, .int l0])), (a0, .inl (cB, 60, .inl f))]) := by
  refine Ci.intro (cc := b_Tape_at) (maxL := 2) (plainFor_of_name (by decide)) rfl (Nat.le_of_ble_eq_true rfl) ?_
  intro p e s m below meth c A ls C0 hin hA hP hD hS hl
  obtain ⟨hx, hb, hml, hown, hts, hr, hlocks, hK, hN⟩ := id C0
  obtain ⟨H, hH⟩ : ∃ H, H = s.heap := ⟨_, rfl⟩
  have hP : va_P (dC, dI) vwCl [(h0, .inr (2, [.ref a0, .int l0])), (a0, .inl (cB, 60, .inl f))] s.heap := hP
  have hl : lv_has ls 2 [(0, .ref h0), (1, .int x)] := hl
  have r_x := q_r32 x
  suffices h : ∀ (H : Heap) (locs : List Loc), va_P (dC, dI) vwCl [(h0, .inr (2, [.ref a0, .int l0])), (a0, .inl (cB, 60, .inl f))] H → va_D A [(h0, .inr (2, [.ref a0, .int l0])), (a0, .inl (cB, 60, .inl f))] → va_S A s.heap H locs → W p l e ({ frames := 0, cells := 0, slots := 0, locals := 0 } : Room) s m ([.ref h0, .int x] : List Value).toArray below meth c H locs 0 0 (MQ below (va_Qi (fun (r : Int32) (u : Unit) => r.toInt = tAt T len x.toInt) (poG dC dI A (fun u : Unit => [(h0, .inr (2, [.ref a0, .int l0])), (a0, .inl (cB, 60, .inl f))])) A) ([.ref h0, .int x] : List Value).toArray s 0 0 A) (F0 m 0 ls []) from h _ _ hP hD hS
  clear hP hD hS hH H
  intro H locs hP hD hS
  have hn60 := hT.2.1
  refine lv_iload_n hx hb d_Tape_at_0 rfl (lv_at hl 1 rfl) ?_
  refine lv_if_lt (tgt := 27) hx hb d_Tape_at_1 (by decide) (fun b1 => ?_) (fun b1 => ?_)
  · skip
    rw [q_ilt (rfl : x.toInt = x.toInt) (show (0 : Int32).toInt = 0 by decide)] at b1
    refine lv_iconst (v := (-1)) hx hb d_Tape_at_27 (by decide) ?_
    exact Ci.ret C0 (v := (-1)) (u := ()) (Nat.le_of_ble_eq_true rfl) (Nat.le_of_ble_eq_true rfl) (by show (((-1) : Int32)).toInt = tAt T len x.toInt; show (-1 : Int32).toInt = _; rw [tAt, if_neg (by omega)]; rfl) hP hD hS [0, 1] (by decide) rfl d_Tape_at_28
  · skip
    rw [q_ilt (rfl : x.toInt = x.toInt) (show (0 : Int32).toInt = 0 by decide)] at b1
    refine lv_iload_n hx hb d_Tape_at_4 rfl (lv_at hl 1 rfl) ?_
    refine lv_aload_n hx hb d_Tape_at_5 rfl (lv_at hl 0 rfl) ?_
    refine va_get (D := (dC, dI)) (ci := 2) (v := .int l0) (C := R_Tape) (T := F_Tape) (N := 2) hx hb hts u_Tape hown hK hP 0 rfl rfl 1 (by decide) (hts _ m_89) (fun _ h9 => h9) rfl d_Tape_at_6 ?_
    refine lv_icmp_ge (tgt := 27) hx hb d_Tape_at_9 (by decide) (fun b9 => ?_) (fun b9 => ?_)
    · skip
      rw [q_ile hT.1 (rfl : x.toInt = x.toInt)] at b9
      refine lv_iconst (v := (-1)) hx hb d_Tape_at_27 (by decide) ?_
      exact Ci.ret C0 (v := (-1)) (u := ()) (Nat.le_of_ble_eq_true rfl) (Nat.le_of_ble_eq_true rfl) (by show (((-1) : Int32)).toInt = tAt T len x.toInt; show (-1 : Int32).toInt = _; rw [tAt, if_neg (by omega)]; rfl) hP hD hS [0, 1] (by decide) rfl d_Tape_at_28
    · skip
      rw [q_ile hT.1 (rfl : x.toInt = x.toInt)] at b9
      refine lv_iload_n hx hb d_Tape_at_12 rfl (lv_at hl 1 rfl) ?_
      refine lv_bipush (v := 60) hx hb d_Tape_at_13 (by decide) ?_
      refine lv_icmp_ge (tgt := 27) hx hb d_Tape_at_15 (by decide) (fun b15 => ?_) (fun b15 => ?_)
      · skip
        rw [q_ile (show (60 : Int32).toInt = 60 by decide) (rfl : x.toInt = x.toInt)] at b15
        refine lv_iconst (v := (-1)) hx hb d_Tape_at_27 (by decide) ?_
        exact Ci.ret C0 (v := (-1)) (u := ()) (Nat.le_of_ble_eq_true rfl) (Nat.le_of_ble_eq_true rfl) (by show (((-1) : Int32)).toInt = tAt T len x.toInt; exact absurd b15 (by omega)) hP hD hS [0, 1] (by decide) rfl d_Tape_at_28
      · skip
        rw [q_ile (show (60 : Int32).toInt = 60 by decide) (rfl : x.toInt = x.toInt)] at b15
        refine lv_aload_n hx hb d_Tape_at_18 rfl (lv_at hl 0 rfl) ?_
        refine va_get (D := (dC, dI)) (ci := 2) (v := .ref a0) (C := R_Tape) (T := F_Tape) (N := 2) hx hb hts u_Tape hown hK hP 0 rfl rfl 0 (by decide) (hts _ m_88) (fun _ h9 => h9) rfl d_Tape_at_19 ?_
        refine lv_iload_n hx hb d_Tape_at_22 rfl (lv_at hl 1 rfl) ?_
        refine va_bald hx hb hK hP 1 1 rfl rfl (q_in (rfl : x.toInt = x.toInt) (by omega)) d_Tape_at_23 ?_
        refine lv_topi (fun v23 e23 => ?_)
        rw [q_cl (k := x.toInt.toNat) ((Int.toNat_of_nonneg (by omega)).symm)] at e23
        refine lv_goto (tgt := 28) hx hb d_Tape_at_24 (by decide) ?_
        exact Ci.ret C0 (v := v23) (u := ()) (Nat.le_of_ble_eq_true rfl) (Nat.le_of_ble_eq_true rfl) (by show v23.toInt = tAt T len x.toInt; show v23.toInt = _; rw [tAt, if_pos (by omega), e23]; exact (hT.2.2 x.toInt.toNat (by omega)).1) hP hD hS [0, 1] (by decide) rfl d_Tape_at_28
set_option maxHeartbeats 4000000 in
set_option maxRecDepth 100000 in
theorem c_Tape_byteOf (l : Launch) (dC : Nat → ClassId) (dI : Nat → Nat → Nat) (cI cB cJ : ClassId) (w : Int64) (x : Int32) (i : Nat) (hx0 : x.toInt = (i : Int)) (hi8 : i < 8) : Ci l dC dI cI cB cJ y_Tape_byteOf w_Tape_byteOf ({ frames := 0, cells := 0, slots := 0, locals := 0 } : Room) [.long w, .int x] [] (fun (r : Int32) (u : Unit) => r.toInt = (byW w i : Int)) (fun u : Unit => []) := by
  refine Ci.intro (cc := b_Tape_byteOf) (maxL := 3) (plainFor_of_name (by decide)) rfl (Nat.le_of_ble_eq_true rfl) ?_
  intro p e s m below meth c A ls C0 hin hA hP hD hS hl
  obtain ⟨hx, hb, hml, hown, hts, hr, hlocks, hK, hN⟩ := id C0
  obtain ⟨H, hH⟩ : ∃ H, H = s.heap := ⟨_, rfl⟩
  have hP : va_P (dC, dI) vwCl [] s.heap := hP
  have hl : lv_has ls 3 [(0, .long w), (2, .int x)] := hl
  have r_x := q_r32 x
  suffices h : ∀ (H : Heap) (locs : List Loc), va_P (dC, dI) vwCl [] H → va_D A [] → va_S A s.heap H locs → W p l e ({ frames := 0, cells := 0, slots := 0, locals := 0 } : Room) s m ([.long w, .int x] : List Value).toArray below meth c H locs 0 0 (MQ below (va_Qi (fun (r : Int32) (u : Unit) => r.toInt = (byW w i : Int)) (poG dC dI A (fun u : Unit => [])) A) ([.long w, .int x] : List Value).toArray s 0 0 A) (F0 m 0 ls []) from h _ _ hP hD hS
  clear hP hD hS hH H
  intro H locs hP hD hS
  refine lv_lload_n hx hb d_Tape_byteOf_0 rfl (lv_at hl 0 rfl) ?_
  refine lv_bipush (v := 8) hx hb d_Tape_byteOf_1 (by decide) ?_
  refine lv_iload_n hx hb d_Tape_byteOf_3 rfl (lv_at hl 1 rfl) ?_
  refine lv_imul hx hb d_Tape_byteOf_4 ?_
  refine lv_topi (fun v4 e4 => ?_)
  have t4 : v4.toInt = 8 * (i : Int) := by rw [e4]; exact q_imul (show (8 : Int32).toInt = 8 by decide) hx0 (by omega)
  refine lv_lushr hx hb d_Tape_byteOf_5 rfl ?_
  refine lv_topl (fun v5 e5 => ?_)
  refine lv_l2i hx hb d_Tape_byteOf_6 rfl ?_
  refine lv_topi (fun v6 e6 => ?_)
  refine lv_sipush (v := 255) hx hb d_Tape_byteOf_7 (by decide) ?_
  refine lv_iand hx hb d_Tape_byteOf_10 ?_
  refine lv_topi (fun v10 e10 => ?_)
  have t10 : v10.toInt = ((uw v6 % 256 : Nat) : Int) := by rw [e10]; exact q_and255 v6
  have k5 : ul v5 = ul w / 2 ^ (8 * i) := by rw [e5]; exact ul_ushr (t4.trans (by omega)) (by omega)
  have k6 : uw v6 % 256 = byW w i := by rw [e6, uw_l2i, k5, byW]; omega
  exact Ci.ret C0 (v := v10) (u := ()) (Nat.le_of_ble_eq_true rfl) (Nat.le_of_ble_eq_true rfl) (by show v10.toInt = (byW w i : Int); show v10.toInt = _; rw [t10, k6]) hP hD hS [] (by decide) rfl d_Tape_byteOf_11
set_option maxHeartbeats 4000000 in
set_option maxRecDepth 100000 in
theorem L_Tape_put_68 {p : Program} {l : Launch} {e : Env} {s : State} {m : MethodId} {below : List Frame} {meth : Method} {c : Code} {dC : Nat → ClassId} {dI : Nat → Nat → Nat} {cI cB cJ : ClassId} {A : Nat → Prop} (h0 : Nat) (a0 : Nat) (f : Nat → Int32) (l0 : Int32) (T : Nat → Nat) (len : Nat) (w : Int64) (x : Int32) (C0 : cx dC dI cI cB cJ R_Tape b_Tape_put 6 (some .boolean) p s m ([.ref h0, .long w, .int x] : List Value).toArray meth c) (hA : ∀ q : Nat, s.heap.size ≤ q → A q) (hT : TP f l0 T len) : ∀ n : Nat, (∀ (x4 : Int32) (i : Nat) (nn : Nat) (ll : Int32) (k : Nat → Int32) (H : Heap) (locs : List Loc) (ls : Array Slot), i < n → x4.toInt = (i : Int) - 1 → x.toInt = (nn : Int) → (ll.toInt = ((len + nn - i : Nat) : Int)) → (i ≤ nn) → (1 ≤ nn) → (nn ≤ 8) → (len + nn ≤ 60) → (okW w nn) → (∀ j, j < len → k j = f j) → (∀ j, len ≤ j → j < len + nn - i → (k j).toInt = (byW w (nn - 1 - (j - len)) : Int)) → va_P (dC, dI) vwCl [(h0, .inr (2, [.ref a0, .int ll])), (a0, .inl (cB, 60, .inl k))] H → va_D A [(h0, .inr (2, [.ref a0, .int ll])), (a0, .inl (cB, 60, .inl k))] → va_S A s.heap H locs → lv_has ls 6 [(4, .int x4), (3, .int x), (1, .long w), (0, .ref h0)] → W p l e ({ frames := 1, cells := 0, slots := 0, locals := 22 } : Room) s m ([.ref h0, .long w, .int x] : List Value).toArray below meth c H locs 0 0 (MQ below (va_Qi (fun (r : Int32) (u : (Nat → Int32) × (Int32)) => (r = 1 ∧ putC len w x ∧ TP u.1 u.2 (putT T len w x.toInt.toNat) (len + x.toInt.toNat)) ∨ (r = 0 ∧ ¬ putC len w x ∧ u.1 = f ∧ u.2 = l0)) (poG dC dI A (fun u : (Nat → Int32) × (Int32) => [(h0, .inr (2, [.ref a0, .int u.2])), (a0, .inl (cB, 60, .inl u.1))])) A) ([.ref h0, .long w, .int x] : List Value).toArray s 0 0 A) (F0 m 68 ls [])) := by
  obtain ⟨hx, hb, hml, hown, hts, hr, hlocks, hK, hN⟩ := id C0
  intro n
  induction n with
  | zero => exact fun _ _ _ _ _ _ _ _ h0 _ _ _ _ _ _ _ _ _ _ _ _ _ _ => absurd h0 (Nat.not_lt_zero _)
  | succ n ih =>
    intro x4 i nn ll k H locs ls hn9 t_x4 t_x t_ll hi hn1 hn8 hln hok hk hkn hP hD hS hl
    have r_x4 := q_r32 x4
    have r_x := q_r32 x
    have hn60 := hT.2.1
    refine lv_iload hx hb d_Tape_put_68 (lv_at hl 0 rfl) ?_
    refine lv_if_lt (tgt := 121) hx hb d_Tape_put_70 (by decide) (fun b70 => ?_) (fun b70 => ?_)
    · skip
      rw [q_ilt t_x4 (show (0 : Int32).toInt = 0 by decide)] at b70
      refine lv_iconst (v := 1) hx hb d_Tape_put_121 (by decide) ?_
      have hi0 : i = 0 := by omega
      subst hi0
      have hnn : x.toInt.toNat = nn := by omega
      exact Cz.ret C0 (v := 1) (u := (k, ll)) (by rfl) (Nat.le_of_ble_eq_true rfl) (Nat.le_of_ble_eq_true rfl) (by show ((1 : Int32) = 1 ∧ putC len w x ∧ TP k ll (putT T len w x.toInt.toNat) (len + x.toInt.toNat)) ∨ ((1 : Int32) = 0 ∧ ¬ putC len w x ∧ k = f ∧ ll = l0); exact Or.inl ⟨rfl, ⟨by omega, by omega, by omega, by rw [hnn]; exact hok⟩, by rw [hnn]; exact ⟨t_ll.trans (by omega), by omega, fun j hj => by (unfold putT; split; (rw [hk j (by omega)]; exact hT.2.2 j (by omega)); exact ⟨hkn j (by omega) (by omega), hok _ (by omega)⟩)⟩⟩) hP hD hS [0, 1] (by decide) rfl d_Tape_put_122
    · skip
      rw [q_ilt t_x4 (show (0 : Int32).toInt = 0 by decide)] at b70
      refine lv_aload_n hx hb d_Tape_put_73 rfl (lv_at hl 3 rfl) ?_
      refine va_get (D := (dC, dI)) (ci := 2) (v := .int ll) (C := R_Tape) (T := F_Tape) (N := 2) hx hb hts u_Tape hown hK hP 0 rfl rfl 1 (by decide) (hts _ m_89) (fun _ h9 => h9) rfl d_Tape_put_74 ?_
      refine lv_if_lt (tgt := 115) hx hb d_Tape_put_77 (by decide) (fun b77 => ?_) (fun b77 => ?_)
      · skip
        rw [q_ilt t_ll (show (0 : Int32).toInt = 0 by decide)] at b77
        exact absurd b77 (by omega)
      · skip
        rw [q_ilt t_ll (show (0 : Int32).toInt = 0 by decide)] at b77
        refine lv_aload_n hx hb d_Tape_put_80 rfl (lv_at hl 3 rfl) ?_
        refine va_get (D := (dC, dI)) (ci := 2) (v := .int ll) (C := R_Tape) (T := F_Tape) (N := 2) hx hb hts u_Tape hown hK hP 0 rfl rfl 1 (by decide) (hts _ m_89) (fun _ h9 => h9) rfl d_Tape_put_81 ?_
        refine lv_bipush (v := 60) hx hb d_Tape_put_84 (by decide) ?_
        refine lv_icmp_ge (tgt := 115) hx hb d_Tape_put_86 (by decide) (fun b86 => ?_) (fun b86 => ?_)
        · skip
          rw [q_ile (show (60 : Int32).toInt = 60 by decide) t_ll] at b86
          exact absurd b86 (by omega)
        · skip
          rw [q_ile (show (60 : Int32).toInt = 60 by decide) t_ll] at b86
          refine lv_aload_n hx hb d_Tape_put_89 rfl (lv_at hl 3 rfl) ?_
          refine va_get (D := (dC, dI)) (ci := 2) (v := .ref a0) (C := R_Tape) (T := F_Tape) (N := 2) hx hb hts u_Tape hown hK hP 0 rfl rfl 0 (by decide) (hts _ m_88) (fun _ h9 => h9) rfl d_Tape_put_90 ?_
          refine lv_aload_n hx hb d_Tape_put_93 rfl (lv_at hl 3 rfl) ?_
          refine va_get (D := (dC, dI)) (ci := 2) (v := .int ll) (C := R_Tape) (T := F_Tape) (N := 2) hx hb hts u_Tape hown hK hP 0 rfl rfl 1 (by decide) (hts _ m_89) (fun _ h9 => h9) rfl d_Tape_put_94 ?_
          refine lv_lload_n hx hb d_Tape_put_97 rfl (lv_at hl 2 rfl) ?_
          refine lv_iload hx hb d_Tape_put_98 (lv_at hl 0 rfl) ?_
          refine callS_i (wr := [(h0, .inr (2, [.ref a0, .int ll])), (a0, .inl (cB, 60, .inl k))]) C0 (c_Tape_byteOf l dC dI cI cB cJ (w) (x4) (i - 1) (by exact t_x4.trans (by omega)) (by omega)) (cwS 2 hts (gS m_206 m_207 m_49 m_208) rfl rfl rfl (by decide +kernel) ⟨Nat.le_of_ble_eq_true rfl, Nat.le_of_ble_eq_true rfl⟩) hP hD hS hA [] [0, 1] rfl rfl (by decide) (by decide) (by decide) rfl hl.1 rfl (Nat.le_of_ble_eq_true rfl) d_Tape_put_100 ⟨Nat.le_of_ble_eq_true rfl, Nat.le_of_ble_eq_true rfl⟩ (fun r100 u100 H locs hw9 hP hD hS => ?_)
          have h100 : r100.toInt = (byW w (i - 1) : Int) := hw9
          have hP : va_P (dC, dI) vwCl [(h0, .inr (2, [.ref a0, .int ll])), (a0, .inl (cB, 60, .inl k))] H := hP
          have hD : va_D A [(h0, .inr (2, [.ref a0, .int ll])), (a0, .inl (cB, 60, .inl k))] := hD
          have t100 : r100.toInt = (byW w (i - 1) : Int) := h100
          have hb1 := hok (i - 1) (by omega)
          refine lv_i2b hx hb d_Tape_put_103 rfl ?_
          refine lv_topi (fun v103 e103 => ?_)
          have t103 : v103.toInt = (byW w (i - 1) : Int) := by rw [e103]; exact q_i2b t100 (by omega)
          refine va_bast hx hb hK hP hD hS 1 1 rfl rfl (q_in t_ll (by omega)) d_Tape_put_104 (fun H locs hP hD hS => ?_)
          rw [q_cl (k := len + nn - i) (t_ll)] at hP hD
          have hP : va_P (dC, dI) vwCl [(h0, .inr (2, [.ref a0, .int ll])), (a0, .inl (cB, 60, .inl (upd k (len + nn - i) (vp_nar .byte v103))))] H := hP
          have hD : va_D A [(h0, .inr (2, [.ref a0, .int ll])), (a0, .inl (cB, 60, .inl (upd k (len + nn - i) (vp_nar .byte v103))))] := hD
          refine lv_aload_n hx hb d_Tape_put_105 rfl (lv_at hl 3 rfl) ?_
          refine lv_dup hx hb d_Tape_put_106 rfl ?_
          refine va_get (D := (dC, dI)) (ci := 2) (v := .int ll) (C := R_Tape) (T := F_Tape) (N := 2) hx hb hts u_Tape hown hK hP 0 rfl rfl 1 (by decide) (hts _ m_89) (fun _ h9 => h9) rfl d_Tape_put_107 ?_
          refine lv_iconst (v := 1) hx hb d_Tape_put_110 (by decide) ?_
          refine lv_iadd hx hb d_Tape_put_111 ?_
          refine lv_topi (fun v111 e111 => ?_)
          have t111 : v111.toInt = (((len + nn - i : Nat) : Int)) + 1 := by rw [e111]; exact q_iadd t_ll (show (1 : Int32).toInt = 1 by decide) (by omega)
          refine va_put (D := (dC, dI)) (ci := 2) (v := .int v111) (ty := .int) (C := R_Tape) (T := F_Tape) (N := 2) hx hb hts u_Tape t_Tape t_Tape_ok n_Tape hown hK hP hD hS 0 rfl rfl 1 (by decide) (hts _ m_89) (fun _ h9 => h9) rfl (by decide +kernel) rfl rfl (Nat.le_of_ble_eq_true rfl) d_Tape_put_112 (fun H locs hP hD hS => ?_)
          have hP : va_P (dC, dI) vwCl [(h0, .inr (2, [.ref a0, .int v111])), (a0, .inl (cB, 60, .inl (upd k (len + nn - i) (vp_nar .byte v103))))] H := hP
          have hD : va_D A [(h0, .inr (2, [.ref a0, .int v111])), (a0, .inl (cB, 60, .inl (upd k (len + nn - i) (vp_nar .byte v103))))] := hD
          obtain ⟨v115, e115⟩ : ∃ y : Int32, y = x4 + (-1) := ⟨_, rfl⟩
          have t115 : v115.toInt = (i : Int) - 1 + (-1) := by rw [e115]; exact q_iadd t_x4 (show ((-1) : Int32).toInt = (-1) by decide) (by omega)
          refine lv_iinc (v := v115) (lv' := [(4, .int v115), (3, .int x), (1, .long w), (0, .ref h0)]) hx hb d_Tape_put_115 hl (k := 0) rfl (by rw [e115]; rfl) (by decide) rfl (fun ls hl => ?_)
          refine lv_goto (tgt := 68) hx hb d_Tape_put_118 (by decide) ?_
          exact ih (v115) (i - 1) (nn) (v111) (upd k (len + nn - i) (vp_nar .byte v103)) H locs ls (by omega) ((t115).trans (by omega)) ((t_x).trans (by omega)) (by exact t111.trans (by omega)) (by omega) (by omega) (by omega) (by omega) (by exact hok) (by intro j hj; rw [pk_un (by omega)]; exact hk j hj) (by intro j h1 h2; rcases Nat.lt_or_ge j (len + nn - i) with h | h; rw [pk_un (by omega)]; exact hkn j h1 h; rw [show j = len + nn - i by omega, pk_us, nar_b t103 (by omega), t103, show nn - 1 - (len + nn - i - len) = i - 1 by omega]) (va_Psub hP [0, 1] rfl) (hD.sub [0, 1] (by decide) rfl) hS (lv_sub hl [0, 1, 2, 3] rfl)
set_option maxHeartbeats 4000000 in
set_option maxRecDepth 100000 in
theorem L_Tape_put_27 {p : Program} {l : Launch} {e : Env} {s : State} {m : MethodId} {below : List Frame} {meth : Method} {c : Code} {dC : Nat → ClassId} {dI : Nat → Nat → Nat} {cI cB cJ : ClassId} {A : Nat → Prop} (h0 : Nat) (a0 : Nat) (f : Nat → Int32) (l0 : Int32) (T : Nat → Nat) (len : Nat) (w : Int64) (x : Int32) (C0 : cx dC dI cI cB cJ R_Tape b_Tape_put 6 (some .boolean) p s m ([.ref h0, .long w, .int x] : List Value).toArray meth c) (hA : ∀ q : Nat, s.heap.size ≤ q → A q) (hT : TP f l0 T len) : ∀ n : Nat, (∀ (x4 : Int32) (i : Nat) (nn : Nat) (H : Heap) (locs : List Loc) (ls : Array Slot), nn - i < n → x4.toInt = (i : Int) → x.toInt = (nn : Int) → (i ≤ nn) → (1 ≤ nn) → (nn ≤ 8) → (len + nn ≤ 60) → (okW w i) → va_P (dC, dI) vwCl [(h0, .inr (2, [.ref a0, .int l0])), (a0, .inl (cB, 60, .inl f))] H → va_D A [(h0, .inr (2, [.ref a0, .int l0])), (a0, .inl (cB, 60, .inl f))] → va_S A s.heap H locs → lv_has ls 6 [(4, .int x4), (3, .int x), (1, .long w), (0, .ref h0)] → W p l e ({ frames := 1, cells := 0, slots := 0, locals := 22 } : Room) s m ([.ref h0, .long w, .int x] : List Value).toArray below meth c H locs 0 0 (MQ below (va_Qi (fun (r : Int32) (u : (Nat → Int32) × (Int32)) => (r = 1 ∧ putC len w x ∧ TP u.1 u.2 (putT T len w x.toInt.toNat) (len + x.toInt.toNat)) ∨ (r = 0 ∧ ¬ putC len w x ∧ u.1 = f ∧ u.2 = l0)) (poG dC dI A (fun u : (Nat → Int32) × (Int32) => [(h0, .inr (2, [.ref a0, .int u.2])), (a0, .inl (cB, 60, .inl u.1))])) A) ([.ref h0, .long w, .int x] : List Value).toArray s 0 0 A) (F0 m 27 ls [])) := by
  obtain ⟨hx, hb, hml, hown, hts, hr, hlocks, hK, hN⟩ := id C0
  intro n
  induction n with
  | zero => exact fun _ _ _ _ _ _ h0 _ _ _ _ _ _ _ _ _ _ _ => absurd h0 (Nat.not_lt_zero _)
  | succ n ih =>
    intro x4 i nn H locs ls hn9 t_x4 t_x hi hn1 hn8 hln hok hP hD hS hl
    have r_x4 := q_r32 x4
    have r_x := q_r32 x
    have hn60 := hT.2.1
    refine lv_iload hx hb d_Tape_put_27 (lv_at hl 0 rfl) ?_
    refine lv_iload_n hx hb d_Tape_put_29 rfl (lv_at hl 1 rfl) ?_
    refine lv_icmp_ge (tgt := 63) hx hb d_Tape_put_30 (by decide) (fun b30 => ?_) (fun b30 => ?_)
    · skip
      rw [q_ile t_x t_x4] at b30
      refine lv_iload_n hx hb d_Tape_put_63 rfl (lv_at hl 1 rfl) ?_
      refine lv_iconst (v := 1) hx hb d_Tape_put_64 (by decide) ?_
      refine lv_isub hx hb d_Tape_put_65 ?_
      refine lv_topi (fun v65 e65 => ?_)
      have t65 : v65.toInt = (nn : Int) - 1 := by rw [e65]; exact q_isub t_x (show (1 : Int32).toInt = 1 by decide) (by omega)
      refine lv_istore (lv' := [(4, .int v65), (3, .int x), (1, .long w), (0, .ref h0)]) hx hb d_Tape_put_66 hl (by decide) rfl (fun ls hl => ?_)
      exact L_Tape_put_68 (h0) (a0) (f) (l0) (T) (len) (w) (x) C0 hA (hT) _ (v65) (nn) (nn) (l0) (f) H locs ls (Nat.lt_succ_self _) ((t65).trans (by omega)) ((t_x).trans (by omega)) (by exact hT.1.trans (by omega)) (by omega) (by omega) (by omega) (by omega) (by rw [← show i = nn by omega]; exact hok) (by intro j hj; rfl) (by intro j h1 h2; omega) (va_Psub hP [0, 1] rfl) (hD.sub [0, 1] (by decide) rfl) hS (lv_sub hl [0, 1, 2, 3] rfl)
    · skip
      rw [q_ile t_x t_x4] at b30
      refine lv_lload_n hx hb d_Tape_put_33 rfl (lv_at hl 2 rfl) ?_
      refine lv_iload hx hb d_Tape_put_34 (lv_at hl 0 rfl) ?_
      refine callS_i (wr := [(h0, .inr (2, [.ref a0, .int l0])), (a0, .inl (cB, 60, .inl f))]) C0 (c_Tape_byteOf l dC dI cI cB cJ (w) (x4) (i) (by exact t_x4) (by omega)) (cwS 2 hts (gS m_206 m_207 m_49 m_208) rfl rfl rfl (by decide +kernel) ⟨Nat.le_of_ble_eq_true rfl, Nat.le_of_ble_eq_true rfl⟩) hP hD hS hA [] [0, 1] rfl rfl (by decide) (by decide) (by decide) rfl hl.1 rfl (Nat.le_of_ble_eq_true rfl) d_Tape_put_36 ⟨Nat.le_of_ble_eq_true rfl, Nat.le_of_ble_eq_true rfl⟩ (fun r36 u36 H locs hw9 hP hD hS => ?_)
      have h36 : r36.toInt = (byW w i : Int) := hw9
      have hP : va_P (dC, dI) vwCl [(h0, .inr (2, [.ref a0, .int l0])), (a0, .inl (cB, 60, .inl f))] H := hP
      have hD : va_D A [(h0, .inr (2, [.ref a0, .int l0])), (a0, .inl (cB, 60, .inl f))] := hD
      have t36 : r36.toInt = (byW w i : Int) := h36
      refine lv_istore (lv' := [(5, .int r36), (4, .int x4), (3, .int x), (1, .long w), (0, .ref h0)]) hx hb d_Tape_put_39 hl (by decide) rfl (fun ls hl => ?_)
      refine lv_iload hx hb d_Tape_put_41 (lv_at hl 0 rfl) ?_
      refine lv_bipush (v := 33) hx hb d_Tape_put_43 (by decide) ?_
      refine lv_icmp_lt (tgt := 55) hx hb d_Tape_put_45 (by decide) (fun b45 => ?_) (fun b45 => ?_)
      · skip
        rw [q_ilt t36 (show (33 : Int32).toInt = 33 by decide)] at b45
        refine lv_iconst (v := 0) hx hb d_Tape_put_55 (by decide) ?_
        exact Cz.ret C0 (v := 0) (u := (f, l0)) (by rfl) (Nat.le_of_ble_eq_true rfl) (Nat.le_of_ble_eq_true rfl) (by show ((0 : Int32) = 1 ∧ putC len w x ∧ TP f l0 (putT T len w x.toInt.toNat) (len + x.toInt.toNat)) ∨ ((0 : Int32) = 0 ∧ ¬ putC len w x ∧ f = f ∧ l0 = l0); exact Or.inr ⟨rfl, fun h => by have h2 := h.2.2.2 i (by omega); omega, rfl, rfl⟩) hP hD hS [0, 1] (by decide) rfl d_Tape_put_56
      · skip
        rw [q_ilt t36 (show (33 : Int32).toInt = 33 by decide)] at b45
        refine lv_iload hx hb d_Tape_put_48 (lv_at hl 0 rfl) ?_
        refine lv_bipush (v := 126) hx hb d_Tape_put_50 (by decide) ?_
        refine lv_icmp_le (tgt := 57) hx hb d_Tape_put_52 (by decide) (fun b52 => ?_) (fun b52 => ?_)
        · skip
          rw [q_ile t36 (show (126 : Int32).toInt = 126 by decide)] at b52
          obtain ⟨v57, e57⟩ : ∃ y : Int32, y = x4 + 1 := ⟨_, rfl⟩
          have t57 : v57.toInt = (i : Int) + 1 := by rw [e57]; exact q_iadd t_x4 (show (1 : Int32).toInt = 1 by decide) (by omega)
          refine lv_iinc (v := v57) (lv' := [(4, .int v57), (5, .int r36), (3, .int x), (1, .long w), (0, .ref h0)]) hx hb d_Tape_put_57 hl (k := 1) rfl (by rw [e57]; rfl) (by decide) rfl (fun ls hl => ?_)
          refine lv_goto (tgt := 27) hx hb d_Tape_put_60 (by decide) ?_
          exact ih (v57) (i + 1) (nn) H locs ls (by omega) ((t57).trans (by omega)) ((t_x).trans (by omega)) (by omega) (by omega) (by omega) (by omega) (by intro j hj; rcases Nat.lt_or_ge j i with h | h; exact hok j h; rw [show j = i by omega]; exact ⟨by omega, by omega⟩) (va_Psub hP [0, 1] rfl) (hD.sub [0, 1] (by decide) rfl) hS (lv_sub hl [0, 2, 3, 4] rfl)
        · skip
          rw [q_ile t36 (show (126 : Int32).toInt = 126 by decide)] at b52
          refine lv_iconst (v := 0) hx hb d_Tape_put_55 (by decide) ?_
          exact Cz.ret C0 (v := 0) (u := (f, l0)) (by rfl) (Nat.le_of_ble_eq_true rfl) (Nat.le_of_ble_eq_true rfl) (by show ((0 : Int32) = 1 ∧ putC len w x ∧ TP f l0 (putT T len w x.toInt.toNat) (len + x.toInt.toNat)) ∨ ((0 : Int32) = 0 ∧ ¬ putC len w x ∧ f = f ∧ l0 = l0); exact Or.inr ⟨rfl, fun h => by have h2 := h.2.2.2 i (by omega); omega, rfl, rfl⟩) hP hD hS [0, 1] (by decide) rfl d_Tape_put_56
set_option maxHeartbeats 4000000 in
set_option maxRecDepth 100000 in
theorem c_Tape_put (l : Launch) (dC : Nat → ClassId) (dI : Nat → Nat → Nat) (cI cB cJ : ClassId) (h0 : Nat) (a0 : Nat) (f : Nat → Int32) (l0 : Int32) (T : Nat → Nat) (len : Nat) (w : Int64) (x : Int32) (hT : TP f l0 T len) : Ci l dC dI cI cB cJ y_Tape_put w_Tape_put ({ frames := 1, cells := 0, slots := 0, locals := 22 } : Room) [.ref h0, .long w, .int x] [(h0, .inr (2, [.ref a0, .int l0])), (a0, .inl (cB, 60, .inl f))] (fun (r : Int32) (u : (Nat → Int32) × (Int32)) => (r = 1 ∧ putC len w x ∧ TP u.1 u.2 (putT T len w x.toInt.toNat) (len + x.toInt.toNat)) ∨ (r = 0 ∧ ¬ putC len w x ∧ u.1 = f ∧ u.2 = l0)) (fun u : (Nat → Int32) × (Int32) => [(h0, .inr (2, [.ref a0, .int u.2])), (a0, .inl (cB, 60, .inl u.1))]) := by
  refine Ci.intro (cc := b_Tape_put) (maxL := 6) (plainFor_of_name (by decide)) rfl (Nat.le_of_ble_eq_true rfl) ?_
  intro p e s m below meth c A ls C0 hin hA hP hD hS hl
  obtain ⟨hx, hb, hml, hown, hts, hr, hlocks, hK, hN⟩ := id C0
  obtain ⟨H, hH⟩ : ∃ H, H = s.heap := ⟨_, rfl⟩
  have hP : va_P (dC, dI) vwCl [(h0, .inr (2, [.ref a0, .int l0])), (a0, .inl (cB, 60, .inl f))] s.heap := hP
  have hl : lv_has ls 6 [(0, .ref h0), (1, .long w), (3, .int x)] := hl
  have r_x := q_r32 x
  suffices h : ∀ (H : Heap) (locs : List Loc), va_P (dC, dI) vwCl [(h0, .inr (2, [.ref a0, .int l0])), (a0, .inl (cB, 60, .inl f))] H → va_D A [(h0, .inr (2, [.ref a0, .int l0])), (a0, .inl (cB, 60, .inl f))] → va_S A s.heap H locs → W p l e ({ frames := 1, cells := 0, slots := 0, locals := 22 } : Room) s m ([.ref h0, .long w, .int x] : List Value).toArray below meth c H locs 0 0 (MQ below (va_Qi (fun (r : Int32) (u : (Nat → Int32) × (Int32)) => (r = 1 ∧ putC len w x ∧ TP u.1 u.2 (putT T len w x.toInt.toNat) (len + x.toInt.toNat)) ∨ (r = 0 ∧ ¬ putC len w x ∧ u.1 = f ∧ u.2 = l0)) (poG dC dI A (fun u : (Nat → Int32) × (Int32) => [(h0, .inr (2, [.ref a0, .int u.2])), (a0, .inl (cB, 60, .inl u.1))])) A) ([.ref h0, .long w, .int x] : List Value).toArray s 0 0 A) (F0 m 0 ls []) from h _ _ hP hD hS
  clear hP hD hS hH H
  intro H locs hP hD hS
  have hn60 := hT.2.1
  refine lv_iload_n hx hb d_Tape_put_0 rfl (lv_at hl 2 rfl) ?_
  refine lv_iconst (v := 1) hx hb d_Tape_put_1 (by decide) ?_
  refine lv_icmp_lt (tgt := 22) hx hb d_Tape_put_2 (by decide) (fun b2 => ?_) (fun b2 => ?_)
  · skip
    rw [q_ilt (rfl : x.toInt = x.toInt) (show (1 : Int32).toInt = 1 by decide)] at b2
    refine lv_iconst (v := 0) hx hb d_Tape_put_22 (by decide) ?_
    exact Cz.ret C0 (v := 0) (u := (f, l0)) (by rfl) (Nat.le_of_ble_eq_true rfl) (Nat.le_of_ble_eq_true rfl) (by show ((0 : Int32) = 1 ∧ putC len w x ∧ TP f l0 (putT T len w x.toInt.toNat) (len + x.toInt.toNat)) ∨ ((0 : Int32) = 0 ∧ ¬ putC len w x ∧ f = f ∧ l0 = l0); exact Or.inr ⟨rfl, fun h => by have := h.1; omega, rfl, rfl⟩) hP hD hS [0, 1] (by decide) rfl d_Tape_put_23
  · skip
    rw [q_ilt (rfl : x.toInt = x.toInt) (show (1 : Int32).toInt = 1 by decide)] at b2
    refine lv_iload_n hx hb d_Tape_put_5 rfl (lv_at hl 2 rfl) ?_
    refine lv_bipush (v := 8) hx hb d_Tape_put_6 (by decide) ?_
    refine lv_icmp_gt (tgt := 22) hx hb d_Tape_put_8 (by decide) (fun b8 => ?_) (fun b8 => ?_)
    · skip
      rw [q_ilt (show (8 : Int32).toInt = 8 by decide) (rfl : x.toInt = x.toInt)] at b8
      refine lv_iconst (v := 0) hx hb d_Tape_put_22 (by decide) ?_
      exact Cz.ret C0 (v := 0) (u := (f, l0)) (by rfl) (Nat.le_of_ble_eq_true rfl) (Nat.le_of_ble_eq_true rfl) (by show ((0 : Int32) = 1 ∧ putC len w x ∧ TP f l0 (putT T len w x.toInt.toNat) (len + x.toInt.toNat)) ∨ ((0 : Int32) = 0 ∧ ¬ putC len w x ∧ f = f ∧ l0 = l0); exact Or.inr ⟨rfl, fun h => by have := h.2.1; omega, rfl, rfl⟩) hP hD hS [0, 1] (by decide) rfl d_Tape_put_23
    · skip
      rw [q_ilt (show (8 : Int32).toInt = 8 by decide) (rfl : x.toInt = x.toInt)] at b8
      refine lv_aload_n hx hb d_Tape_put_11 rfl (lv_at hl 0 rfl) ?_
      refine va_get (D := (dC, dI)) (ci := 2) (v := .int l0) (C := R_Tape) (T := F_Tape) (N := 2) hx hb hts u_Tape hown hK hP 0 rfl rfl 1 (by decide) (hts _ m_89) (fun _ h9 => h9) rfl d_Tape_put_12 ?_
      refine lv_iload_n hx hb d_Tape_put_15 rfl (lv_at hl 2 rfl) ?_
      refine lv_iadd hx hb d_Tape_put_16 ?_
      refine lv_topi (fun v16 e16 => ?_)
      have t16 : v16.toInt = (len : Int) + x.toInt := by rw [e16]; exact q_iadd hT.1 (rfl : x.toInt = x.toInt) (by omega)
      refine lv_bipush (v := 60) hx hb d_Tape_put_17 (by decide) ?_
      refine lv_icmp_le (tgt := 24) hx hb d_Tape_put_19 (by decide) (fun b19 => ?_) (fun b19 => ?_)
      · skip
        rw [q_ile t16 (show (60 : Int32).toInt = 60 by decide)] at b19
        refine lv_iconst (v := 0) hx hb d_Tape_put_24 (by decide) ?_
        refine lv_istore (lv' := [(4, .int 0), (0, .ref h0), (1, .long w), (3, .int x)]) hx hb d_Tape_put_25 hl (by decide) rfl (fun ls hl => ?_)
        exact L_Tape_put_27 (h0) (a0) (f) (l0) (T) (len) (w) (x) C0 hA (hT) _ (0) (0) (x.toInt.toNat) H locs ls (Nat.lt_succ_self _) (((show (0 : Int32).toInt = 0 by decide)).trans (by omega)) ((Int.toNat_of_nonneg (by omega)).symm) (by omega) (by omega) (by omega) (by omega) (by intro j hj; omega) (va_Psub hP [0, 1] rfl) (hD.sub [0, 1] (by decide) rfl) hS (lv_sub hl [0, 3, 2, 1] rfl)
      · skip
        rw [q_ile t16 (show (60 : Int32).toInt = 60 by decide)] at b19
        refine lv_iconst (v := 0) hx hb d_Tape_put_22 (by decide) ?_
        exact Cz.ret C0 (v := 0) (u := (f, l0)) (by rfl) (Nat.le_of_ble_eq_true rfl) (Nat.le_of_ble_eq_true rfl) (by show ((0 : Int32) = 1 ∧ putC len w x ∧ TP f l0 (putT T len w x.toInt.toNat) (len + x.toInt.toNat)) ∨ ((0 : Int32) = 0 ∧ ¬ putC len w x ∧ f = f ∧ l0 = l0); exact Or.inr ⟨rfl, fun h => by have := h.2.2.1; omega, rfl, rfl⟩) hP hD hS [0, 1] (by decide) rfl d_Tape_put_23
