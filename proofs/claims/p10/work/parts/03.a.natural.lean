set_option maxHeartbeats 4000000 in
set_option maxRecDepth 100000 in
theorem c_Natural_limbAt (l : Launch) (dC : Nat → ClassId) (dI : Nat → Nat → Nat) (cI cB cJ : ClassId) (h0 : Nat) (a0 : Nat) (f : Nat → Int32) (x : Int32)  : Cl l dC dI cI cB cJ y_Natural_limbAt w_Natural_limbAt ({ frames := 0, cells := 0, slots := 0, locals := 0 } : Room) [.ref h0, .int x] [(h0, .inr (1, [.ref a0])), (a0, .inl (cI, 12, .inl f))] (fun (r : Int64) (u : Unit) => ul r = lz f x.toInt) (fun u : Unit => [(h0, .inr (1, [.ref a0])), (a0, .inl (cI, 12, .inl f))]) := by
  refine Cl.intro (cc := b_Natural_limbAt) (maxL := 2) (plainFor_of_name (by decide)) rfl (Nat.le_of_ble_eq_true rfl) ?_
  intro p e s m below meth c A ls C0 hin hA hP hD hS hl
  obtain ⟨hx, hb, hml, hown, hts, hr, hlocks, hK, hN⟩ := id C0
  obtain ⟨H, hH⟩ : ∃ H, H = s.heap := ⟨_, rfl⟩
  have hP : va_P (dC, dI) vwCl [(h0, .inr (1, [.ref a0])), (a0, .inl (cI, 12, .inl f))] s.heap := hP
  have hl : lv_has ls 2 [(0, .ref h0), (1, .int x)] := hl
  have r_x := q_r32 x
  suffices h : ∀ (H : Heap) (locs : List Loc), va_P (dC, dI) vwCl [(h0, .inr (1, [.ref a0])), (a0, .inl (cI, 12, .inl f))] H → va_D A [(h0, .inr (1, [.ref a0])), (a0, .inl (cI, 12, .inl f))] → va_S A s.heap H locs → W p l e ({ frames := 0, cells := 0, slots := 0, locals := 0 } : Room) s m ([.ref h0, .int x] : List Value).toArray below meth c H locs 0 0 (MQ below (va_Ql (fun (r : Int64) (u : Unit) => ul r = lz f x.toInt) (poG dC dI A (fun u : Unit => [(h0, .inr (1, [.ref a0])), (a0, .inl (cI, 12, .inl f))])) A) ([.ref h0, .int x] : List Value).toArray s 0 0 A) (F0 m 0 ls []) from h _ _ hP hD hS
  clear hP hD hS hH H
  intro H locs hP hD hS
  refine lv_iload_n hx hb d_Natural_limbAt_0 rfl (lv_at hl 1 rfl) ?_
  refine lv_if_lt (tgt := 24) hx hb d_Natural_limbAt_1 (by decide) (fun b1 => ?_) (fun b1 => ?_)
  · skip
    rw [q_ilt (rfl : x.toInt = x.toInt) (show (0 : Int32).toInt = 0 by decide)] at b1
    refine lv_lconst (v := 0) hx hb d_Natural_limbAt_24 (by decide) ?_
    exact Cl.ret C0 (v := 0) (u := ()) (Nat.le_of_ble_eq_true rfl) (Nat.le_of_ble_eq_true rfl) (by show ul (0 : Int64) = lz f x.toInt; show ul 0 = lz f x.toInt; rw [lz, if_neg (by omega)]; rfl) hP hD hS [0, 1] (by decide) rfl d_Natural_limbAt_25
  · skip
    rw [q_ilt (rfl : x.toInt = x.toInt) (show (0 : Int32).toInt = 0 by decide)] at b1
    refine lv_iload_n hx hb d_Natural_limbAt_4 rfl (lv_at hl 1 rfl) ?_
    refine lv_bipush (v := 12) hx hb d_Natural_limbAt_5 (by decide) ?_
    refine lv_icmp_ge (tgt := 24) hx hb d_Natural_limbAt_7 (by decide) (fun b7 => ?_) (fun b7 => ?_)
    · skip
      rw [q_ile (show (12 : Int32).toInt = 12 by decide) (rfl : x.toInt = x.toInt)] at b7
      refine lv_lconst (v := 0) hx hb d_Natural_limbAt_24 (by decide) ?_
      exact Cl.ret C0 (v := 0) (u := ()) (Nat.le_of_ble_eq_true rfl) (Nat.le_of_ble_eq_true rfl) (by show ul (0 : Int64) = lz f x.toInt; show ul 0 = lz f x.toInt; rw [lz, if_neg (by omega)]; rfl) hP hD hS [0, 1] (by decide) rfl d_Natural_limbAt_25
    · skip
      rw [q_ile (show (12 : Int32).toInt = 12 by decide) (rfl : x.toInt = x.toInt)] at b7
      refine lv_aload_n hx hb d_Natural_limbAt_10 rfl (lv_at hl 0 rfl) ?_
      refine va_get (D := (dC, dI)) (ci := 1) (v := .ref a0) (C := R_Natural) (T := F_Natural) (N := 1) hx hb hts u_Natural hown hK hP 0 rfl rfl 0 (by decide) (hts _ m_105) (fun _ h9 => h9) rfl d_Natural_limbAt_11 ?_
      refine lv_iload_n hx hb d_Natural_limbAt_14 rfl (lv_at hl 1 rfl) ?_
      refine va_iald hx hb hK hP 1 0 rfl rfl (q_in (rfl : x.toInt = x.toInt) (by omega)) d_Natural_limbAt_15 ?_
      refine lv_topi (fun v15 e15 => ?_)
      rw [q_cl (k := x.toInt.toNat) ((Int.toNat_of_nonneg (by omega)).symm)] at e15
      refine lv_i2l hx hb d_Natural_limbAt_16 rfl ?_
      refine lv_topl (fun v16 e16 => ?_)
      refine lv_ldc2 (v := 4294967295) hx hb hown (hts _ m_273) d_Natural_limbAt_17 ?_
      refine lv_land hx hb d_Natural_limbAt_20 ?_
      refine lv_topl (fun v20 e20 => ?_)
      refine lv_goto (tgt := 25) hx hb d_Natural_limbAt_21 (by decide) ?_
      exact Cl.ret C0 (v := v20) (u := ()) (Nat.le_of_ble_eq_true rfl) (Nat.le_of_ble_eq_true rfl) (by show ul v20 = lz f x.toInt; show ul v20 = lz f x.toInt; rw [lz, if_pos (by omega), e20, e16, ul_i2l_lo, e15]) hP hD hS [0, 1] (by decide) rfl d_Natural_limbAt_25
set_option maxHeartbeats 4000000 in
set_option maxRecDepth 100000 in
theorem L_Natural_isZero_2 {p : Program} {l : Launch} {e : Env} {s : State} {m : MethodId} {below : List Frame} {meth : Method} {c : Code} {dC : Nat → ClassId} {dI : Nat → Nat → Nat} {cI cB cJ : ClassId} {A : Nat → Prop} (h0 : Nat) (a0 : Nat) (f : Nat → Int32) (C0 : cx dC dI cI cB cJ R_Natural b_Natural_isZero 2 (some .boolean) p s m ([.ref h0] : List Value).toArray meth c) (hA : ∀ q : Nat, s.heap.size ≤ q → A q)  : ∀ n : Nat, (∀ (x1 : Int32) (i : Nat) (H : Heap) (locs : List Loc) (ls : Array Slot), 12 - i < n → x1.toInt = (i : Int) → (i ≤ 12) → (∀ j, j < i → f j = 0) → va_P (dC, dI) vwCl [(h0, .inr (1, [.ref a0])), (a0, .inl (cI, 12, .inl f))] H → va_D A [(h0, .inr (1, [.ref a0])), (a0, .inl (cI, 12, .inl f))] → va_S A s.heap H locs → lv_has ls 2 [(1, .int x1), (0, .ref h0)] → W p l e ({ frames := 0, cells := 0, slots := 0, locals := 0 } : Room) s m ([.ref h0] : List Value).toArray below meth c H locs 0 0 (MQ below (va_Qi (fun (r : Int32) (u : Unit) => r = if nv f 12 = 0 then 1 else 0) (poG dC dI A (fun u : Unit => [(h0, .inr (1, [.ref a0])), (a0, .inl (cI, 12, .inl f))])) A) ([.ref h0] : List Value).toArray s 0 0 A) (F0 m 2 ls [])) := by
  obtain ⟨hx, hb, hml, hown, hts, hr, hlocks, hK, hN⟩ := id C0
  intro n
  induction n with
  | zero => exact fun _ _ _ _ _ h0 _ _ _ _ _ _ _ => absurd h0 (Nat.not_lt_zero _)
  | succ n ih =>
    intro x1 i H locs ls hn9 t_x1 hi hz hP hD hS hl
    have r_x1 := q_r32 x1
    refine lv_iload_n hx hb d_Natural_isZero_2 rfl (lv_at hl 0 rfl) ?_
    refine lv_bipush (v := 12) hx hb d_Natural_isZero_3 (by decide) ?_
    refine lv_icmp_ge (tgt := 25) hx hb d_Natural_isZero_5 (by decide) (fun b5 => ?_) (fun b5 => ?_)
    · skip
      rw [q_ile (show (12 : Int32).toInt = 12 by decide) t_x1] at b5
      refine lv_iconst (v := 1) hx hb d_Natural_isZero_25 (by decide) ?_
      exact Cz.ret C0 (v := 1) (u := ()) (by rfl) (Nat.le_of_ble_eq_true rfl) (Nat.le_of_ble_eq_true rfl) (by show (1 : Int32) = if nv f 12 = 0 then 1 else 0; show (1 : Int32) = if nv f 12 = 0 then 1 else 0; rw [if_pos (nv_zero (fun j hj => hz j (by omega)))]) hP hD hS [0, 1] (by decide) rfl d_Natural_isZero_26
    · skip
      rw [q_ile (show (12 : Int32).toInt = 12 by decide) t_x1] at b5
      refine lv_aload_n hx hb d_Natural_isZero_8 rfl (lv_at hl 1 rfl) ?_
      refine va_get (D := (dC, dI)) (ci := 1) (v := .ref a0) (C := R_Natural) (T := F_Natural) (N := 1) hx hb hts u_Natural hown hK hP 0 rfl rfl 0 (by decide) (hts _ m_105) (fun _ h9 => h9) rfl d_Natural_isZero_9 ?_
      refine lv_iload_n hx hb d_Natural_isZero_12 rfl (lv_at hl 0 rfl) ?_
      refine va_iald hx hb hK hP 1 0 rfl rfl (q_in t_x1 (by omega)) d_Natural_isZero_13 ?_
      refine lv_topi (fun v13 e13 => ?_)
      rw [q_cl (k := i) (t_x1)] at e13
      refine lv_if_eq (tgt := 19) hx hb d_Natural_isZero_14 (by decide) (fun b14 => ?_) (fun b14 => ?_)
      · skip
        obtain ⟨v19, e19⟩ : ∃ y : Int32, y = x1 + 1 := ⟨_, rfl⟩
        have t19 : v19.toInt = (i : Int) + 1 := by rw [e19]; exact q_iadd t_x1 (show (1 : Int32).toInt = 1 by decide) (by omega)
        refine lv_iinc (v := v19) (lv' := [(1, .int v19), (0, .ref h0)]) hx hb d_Natural_isZero_19 hl (k := 0) rfl (by rw [e19]; rfl) (by decide) rfl (fun ls hl => ?_)
        refine lv_goto (tgt := 2) hx hb d_Natural_isZero_22 (by decide) ?_
        exact ih (v19) (i + 1) H locs ls (by omega) ((t19).trans (by omega)) (by omega) (by intro j hj; rcases Nat.lt_or_ge j i with h | h; exact hz j h; rw [show j = i by omega, ← e13]; exact b14) (va_Psub hP [0, 1] rfl) (hD.sub [0, 1] (by decide) rfl) hS (lv_sub hl [0, 1] rfl)
      · skip
        refine lv_iconst (v := 0) hx hb d_Natural_isZero_17 (by decide) ?_
        exact Cz.ret C0 (v := 0) (u := ()) (by rfl) (Nat.le_of_ble_eq_true rfl) (Nat.le_of_ble_eq_true rfl) (by show (0 : Int32) = if nv f 12 = 0 then 1 else 0; show (0 : Int32) = if nv f 12 = 0 then 1 else 0; rw [if_neg (Nat.ne_of_gt (nv_pos (i := i) (by omega) (by rw [← e13]; exact b14)))]) hP hD hS [0, 1] (by decide) rfl d_Natural_isZero_18
set_option maxHeartbeats 4000000 in
set_option maxRecDepth 100000 in
theorem c_Natural_isZero (l : Launch) (dC : Nat → ClassId) (dI : Nat → Nat → Nat) (cI cB cJ : ClassId) (h0 : Nat) (a0 : Nat) (f : Nat → Int32)  : Ci l dC dI cI cB cJ y_Natural_isZero w_Natural_isZero ({ frames := 0, cells := 0, slots := 0, locals := 0 } : Room) [.ref h0] [(h0, .inr (1, [.ref a0])), (a0, .inl (cI, 12, .inl f))] (fun (r : Int32) (u : Unit) => r = if nv f 12 = 0 then 1 else 0) (fun u : Unit => [(h0, .inr (1, [.ref a0])), (a0, .inl (cI, 12, .inl f))]) := by
  refine Ci.intro (cc := b_Natural_isZero) (maxL := 2) (plainFor_of_name (by decide)) rfl (Nat.le_of_ble_eq_true rfl) ?_
  intro p e s m below meth c A ls C0 hin hA hP hD hS hl
  obtain ⟨hx, hb, hml, hown, hts, hr, hlocks, hK, hN⟩ := id C0
  obtain ⟨H, hH⟩ : ∃ H, H = s.heap := ⟨_, rfl⟩
  have hP : va_P (dC, dI) vwCl [(h0, .inr (1, [.ref a0])), (a0, .inl (cI, 12, .inl f))] s.heap := hP
  have hl : lv_has ls 2 [(0, .ref h0)] := hl
  suffices h : ∀ (H : Heap) (locs : List Loc), va_P (dC, dI) vwCl [(h0, .inr (1, [.ref a0])), (a0, .inl (cI, 12, .inl f))] H → va_D A [(h0, .inr (1, [.ref a0])), (a0, .inl (cI, 12, .inl f))] → va_S A s.heap H locs → W p l e ({ frames := 0, cells := 0, slots := 0, locals := 0 } : Room) s m ([.ref h0] : List Value).toArray below meth c H locs 0 0 (MQ below (va_Qi (fun (r : Int32) (u : Unit) => r = if nv f 12 = 0 then 1 else 0) (poG dC dI A (fun u : Unit => [(h0, .inr (1, [.ref a0])), (a0, .inl (cI, 12, .inl f))])) A) ([.ref h0] : List Value).toArray s 0 0 A) (F0 m 0 ls []) from h _ _ hP hD hS
  clear hP hD hS hH H
  intro H locs hP hD hS
  refine lv_iconst (v := 0) hx hb d_Natural_isZero_0 (by decide) ?_
  refine lv_istore_n (lv' := [(1, .int 0), (0, .ref h0)]) hx hb d_Natural_isZero_1 rfl hl (by decide) rfl (fun ls hl => ?_)
  exact L_Natural_isZero_2 (h0) (a0) (f) C0 hA  _ (0) (0) H locs ls (Nat.lt_succ_self _) (((show (0 : Int32).toInt = 0 by decide)).trans (by omega)) (by omega) (by intro j hj; omega) (va_Psub hP [0, 1] rfl) (hD.sub [0, 1] (by decide) rfl) hS (lv_sub hl [0, 1] rfl)
set_option maxHeartbeats 4000000 in
set_option maxRecDepth 100000 in
theorem L_Natural_against_3 {p : Program} {l : Launch} {e : Env} {s : State} {m : MethodId} {below : List Frame} {meth : Method} {c : Code} {dC : Nat → ClassId} {dI : Nat → Nat → Nat} {cI cB cJ : ClassId} {A : Nat → Prop} (h0 : Nat) (a0 : Nat) (f : Nat → Int32) (h1 : Nat) (a1 : Nat) (g : Nat → Int32) (C0 : cx dC dI cI cB cJ R_Natural b_Natural_against 3 (some .int) p s m ([.ref h0, .ref h1] : List Value).toArray meth c) (hA : ∀ q : Nat, s.heap.size ≤ q → A q)  : ∀ n : Nat, (∀ (x2 : Int32) (i : Nat) (H : Heap) (locs : List Loc) (ls : Array Slot), i < n → x2.toInt = (i : Int) - 1 → (i ≤ 12) → (∀ j, i ≤ j → j < 12 → f j = g j) → va_P (dC, dI) vwCl [(h0, .inr (1, [.ref a0])), (a0, .inl (cI, 12, .inl f)), (h1, .inr (1, [.ref a1])), (a1, .inl (cI, 12, .inl g))] H → va_D A [(h0, .inr (1, [.ref a0])), (a0, .inl (cI, 12, .inl f)), (h1, .inr (1, [.ref a1])), (a1, .inl (cI, 12, .inl g))] → va_S A s.heap H locs → lv_has ls 3 [(2, .int x2), (1, .ref h1), (0, .ref h0)] → W p l e ({ frames := 0, cells := 0, slots := 0, locals := 0 } : Room) s m ([.ref h0, .ref h1] : List Value).toArray below meth c H locs 0 0 (MQ below (va_Qi (fun (r : Int32) (u : Unit) => (nv f 12 < nv g 12 ∧ r = -1) ∨ (nv f 12 = nv g 12 ∧ r = 0) ∨ (nv g 12 < nv f 12 ∧ r = 1)) (poG dC dI A (fun u : Unit => [(h0, .inr (1, [.ref a0])), (a0, .inl (cI, 12, .inl f)), (h1, .inr (1, [.ref a1])), (a1, .inl (cI, 12, .inl g))])) A) ([.ref h0, .ref h1] : List Value).toArray s 0 0 A) (F0 m 3 ls [])) := by
  obtain ⟨hx, hb, hml, hown, hts, hr, hlocks, hK, hN⟩ := id C0
  intro n
  induction n with
  | zero => exact fun _ _ _ _ _ h0 _ _ _ _ _ _ _ => absurd h0 (Nat.not_lt_zero _)
  | succ n ih =>
    intro x2 i H locs ls hn9 t_x2 hi hs hP hD hS hl
    have r_x2 := q_r32 x2
    refine lv_iload_n hx hb d_Natural_against_3 rfl (lv_at hl 0 rfl) ?_
    refine lv_if_lt (tgt := 60) hx hb d_Natural_against_4 (by decide) (fun b4 => ?_) (fun b4 => ?_)
    · skip
      rw [q_ilt t_x2 (show (0 : Int32).toInt = 0 by decide)] at b4
      refine lv_iconst (v := 0) hx hb d_Natural_against_60 (by decide) ?_
      exact Ci.ret C0 (v := 0) (u := ()) (Nat.le_of_ble_eq_true rfl) (Nat.le_of_ble_eq_true rfl) (by show (nv f 12 < nv g 12 ∧ (0 : Int32) = -1) ∨ (nv f 12 = nv g 12 ∧ (0 : Int32) = 0) ∨ (nv g 12 < nv f 12 ∧ (0 : Int32) = 1); exact Or.inr (Or.inl ⟨nv_congr (fun j hj => hs j (by omega) hj), rfl⟩)) hP hD hS [0, 1, 2, 3] (by decide) rfl d_Natural_against_61
    · skip
      rw [q_ilt t_x2 (show (0 : Int32).toInt = 0 by decide)] at b4
      refine lv_aload_n hx hb d_Natural_against_7 rfl (lv_at hl 2 rfl) ?_
      refine va_get (D := (dC, dI)) (ci := 1) (v := .ref a0) (C := R_Natural) (T := F_Natural) (N := 1) hx hb hts u_Natural hown hK hP 0 rfl rfl 0 (by decide) (hts _ m_105) (fun _ h9 => h9) rfl d_Natural_against_8 ?_
      refine lv_iload_n hx hb d_Natural_against_11 rfl (lv_at hl 0 rfl) ?_
      refine va_iald hx hb hK hP 1 0 rfl rfl (q_in t_x2 (by omega)) d_Natural_against_12 ?_
      refine lv_topi (fun v12 e12 => ?_)
      rw [q_cl (k := i - 1) (t_x2.trans (by omega))] at e12
      refine lv_aload_n hx hb d_Natural_against_13 rfl (lv_at hl 1 rfl) ?_
      refine va_get (D := (dC, dI)) (ci := 1) (v := .ref a1) (C := R_Natural) (T := F_Natural) (N := 1) hx hb hts u_Natural hown hK hP 2 rfl rfl 0 (by decide) (hts _ m_105) (fun _ h9 => h9) rfl d_Natural_against_14 ?_
      refine lv_iload_n hx hb d_Natural_against_17 rfl (lv_at hl 0 rfl) ?_
      refine va_iald hx hb hK hP 3 0 rfl rfl (q_in t_x2 (by omega)) d_Natural_against_18 ?_
      refine lv_topi (fun v18 e18 => ?_)
      rw [q_cl (k := i - 1) (t_x2.trans (by omega))] at e18
      refine lv_icmp_eq (tgt := 54) hx hb d_Natural_against_19 (by decide) (fun b19 => ?_) (fun b19 => ?_)
      · skip
        obtain ⟨v54, e54⟩ : ∃ y : Int32, y = x2 + (-1) := ⟨_, rfl⟩
        have t54 : v54.toInt = (i : Int) - 1 + (-1) := by rw [e54]; exact q_iadd t_x2 (show ((-1) : Int32).toInt = (-1) by decide) (by omega)
        refine lv_iinc (v := v54) (lv' := [(2, .int v54), (1, .ref h1), (0, .ref h0)]) hx hb d_Natural_against_54 hl (k := 0) rfl (by rw [e54]; rfl) (by decide) rfl (fun ls hl => ?_)
        refine lv_goto (tgt := 3) hx hb d_Natural_against_57 (by decide) ?_
        exact ih (v54) (i - 1) H locs ls (by omega) ((t54).trans (by omega)) (by omega) (by intro j h1 h2; rcases Nat.lt_or_ge j i with h | h; rw [show j = i - 1 by omega, ← e12, ← e18]; exact b19; exact hs j h h2) (va_Psub hP [0, 1, 2, 3] rfl) (hD.sub [0, 1, 2, 3] (by decide) rfl) hS (lv_sub hl [0, 1, 2] rfl)
      · skip
        refine lv_aload_n hx hb d_Natural_against_22 rfl (lv_at hl 2 rfl) ?_
        refine va_get (D := (dC, dI)) (ci := 1) (v := .ref a0) (C := R_Natural) (T := F_Natural) (N := 1) hx hb hts u_Natural hown hK hP 0 rfl rfl 0 (by decide) (hts _ m_105) (fun _ h9 => h9) rfl d_Natural_against_23 ?_
        refine lv_iload_n hx hb d_Natural_against_26 rfl (lv_at hl 0 rfl) ?_
        refine va_iald hx hb hK hP 1 0 rfl rfl (q_in t_x2 (by omega)) d_Natural_against_27 ?_
        refine lv_topi (fun v27 e27 => ?_)
        rw [q_cl (k := i - 1) (t_x2.trans (by omega))] at e27
        refine lv_i2l hx hb d_Natural_against_28 rfl ?_
        refine lv_topl (fun v28 e28 => ?_)
        refine lv_ldc2 (v := 4294967295) hx hb hown (hts _ m_273) d_Natural_against_29 ?_
        refine lv_land hx hb d_Natural_against_32 ?_
        refine lv_topl (fun v32 e32 => ?_)
        have t32 : v32.toInt = (uw v27 : Int) := by rw [e32, e28]; exact q_lo v27
        refine lv_aload_n hx hb d_Natural_against_33 rfl (lv_at hl 1 rfl) ?_
        refine va_get (D := (dC, dI)) (ci := 1) (v := .ref a1) (C := R_Natural) (T := F_Natural) (N := 1) hx hb hts u_Natural hown hK hP 2 rfl rfl 0 (by decide) (hts _ m_105) (fun _ h9 => h9) rfl d_Natural_against_34 ?_
        refine lv_iload_n hx hb d_Natural_against_37 rfl (lv_at hl 0 rfl) ?_
        refine va_iald hx hb hK hP 3 0 rfl rfl (q_in t_x2 (by omega)) d_Natural_against_38 ?_
        refine lv_topi (fun v38 e38 => ?_)
        rw [q_cl (k := i - 1) (t_x2.trans (by omega))] at e38
        refine lv_i2l hx hb d_Natural_against_39 rfl ?_
        refine lv_topl (fun v39 e39 => ?_)
        refine lv_ldc2 (v := 4294967295) hx hb hown (hts _ m_273) d_Natural_against_40 ?_
        refine lv_land hx hb d_Natural_against_43 ?_
        refine lv_topl (fun v43 e43 => ?_)
        have t43 : v43.toInt = (uw v38 : Int) := by rw [e43, e39]; exact q_lo v38
        refine W.lcmp hx hb d_Natural_against_44 ?_
        refine lv_if_ge (tgt := 52) hx hb d_Natural_against_45 (by decide) (fun b45 => ?_) (fun b45 => ?_)
        · skip
          rw [q_cmp_ge t32 t43] at b45
          refine lv_iconst (v := 1) hx hb d_Natural_against_52 (by decide) ?_
          have hne : uw v27 ≠ uw v38 := fun h => b19 (by rw [e12, e18, ← e27, ← e38]; exact uw_inj h)
          have hlt := nv_less (f := g) (h := f) (n := 12) (i := i - 1) (by omega) (fun j h1 h2 => (hs j (by omega) h2).symm) (by rw [← e27, ← e38]; omega)
          exact Ci.ret C0 (v := 1) (u := ()) (Nat.le_of_ble_eq_true rfl) (Nat.le_of_ble_eq_true rfl) (by show (nv f 12 < nv g 12 ∧ (1 : Int32) = -1) ∨ (nv f 12 = nv g 12 ∧ (1 : Int32) = 0) ∨ (nv g 12 < nv f 12 ∧ (1 : Int32) = 1); exact Or.inr (Or.inr ⟨hlt, rfl⟩)) hP hD hS [0, 1, 2, 3] (by decide) rfl d_Natural_against_53
        · skip
          rw [q_cmp_ge t32 t43] at b45
          refine lv_iconst (v := (-1)) hx hb d_Natural_against_48 (by decide) ?_
          refine lv_goto (tgt := 53) hx hb d_Natural_against_49 (by decide) ?_
          have hlt := nv_less (f := f) (h := g) (n := 12) (i := i - 1) (by omega) (fun j h1 h2 => hs j (by omega) h2) (by rw [← e27, ← e38]; omega)
          exact Ci.ret C0 (v := (-1)) (u := ()) (Nat.le_of_ble_eq_true rfl) (Nat.le_of_ble_eq_true rfl) (by show (nv f 12 < nv g 12 ∧ (((-1) : Int32)) = -1) ∨ (nv f 12 = nv g 12 ∧ (((-1) : Int32)) = 0) ∨ (nv g 12 < nv f 12 ∧ (((-1) : Int32)) = 1); exact Or.inl ⟨hlt, rfl⟩) hP hD hS [0, 1, 2, 3] (by decide) rfl d_Natural_against_53
set_option maxHeartbeats 4000000 in
set_option maxRecDepth 100000 in
theorem c_Natural_against (l : Launch) (dC : Nat → ClassId) (dI : Nat → Nat → Nat) (cI cB cJ : ClassId) (h0 : Nat) (a0 : Nat) (f : Nat → Int32) (h1 : Nat) (a1 : Nat) (g : Nat → Int32)  : Ci l dC dI cI cB cJ y_Natural_against w_Natural_against ({ frames := 0, cells := 0, slots := 0, locals := 0 } : Room) [.ref h0, .ref h1] [(h0, .inr (1, [.ref a0])), (a0, .inl (cI, 12, .inl f)), (h1, .inr (1, [.ref a1])), (a1, .inl (cI, 12, .inl g))] (fun (r : Int32) (u : Unit) => (nv f 12 < nv g 12 ∧ r = -1) ∨ (nv f 12 = nv g 12 ∧ r = 0) ∨ (nv g 12 < nv f 12 ∧ r = 1)) (fun u : Unit => [(h0, .inr (1, [.ref a0])), (a0, .inl (cI, 12, .inl f)), (h1, .inr (1, [.ref a1])), (a1, .inl (cI, 12, .inl g))]) := by
  refine Ci.intro (cc := b_Natural_against) (maxL := 3) (plainFor_of_name (by decide)) rfl (Nat.le_of_ble_eq_true rfl) ?_
  intro p e s m below meth c A ls C0 hin hA hP hD hS hl
  obtain ⟨hx, hb, hml, hown, hts, hr, hlocks, hK, hN⟩ := id C0
  obtain ⟨H, hH⟩ : ∃ H, H = s.heap := ⟨_, rfl⟩
  have hP : va_P (dC, dI) vwCl [(h0, .inr (1, [.ref a0])), (a0, .inl (cI, 12, .inl f)), (h1, .inr (1, [.ref a1])), (a1, .inl (cI, 12, .inl g))] s.heap := hP
  have hl : lv_has ls 3 [(0, .ref h0), (1, .ref h1)] := hl
  suffices h : ∀ (H : Heap) (locs : List Loc), va_P (dC, dI) vwCl [(h0, .inr (1, [.ref a0])), (a0, .inl (cI, 12, .inl f)), (h1, .inr (1, [.ref a1])), (a1, .inl (cI, 12, .inl g))] H → va_D A [(h0, .inr (1, [.ref a0])), (a0, .inl (cI, 12, .inl f)), (h1, .inr (1, [.ref a1])), (a1, .inl (cI, 12, .inl g))] → va_S A s.heap H locs → W p l e ({ frames := 0, cells := 0, slots := 0, locals := 0 } : Room) s m ([.ref h0, .ref h1] : List Value).toArray below meth c H locs 0 0 (MQ below (va_Qi (fun (r : Int32) (u : Unit) => (nv f 12 < nv g 12 ∧ r = -1) ∨ (nv f 12 = nv g 12 ∧ r = 0) ∨ (nv g 12 < nv f 12 ∧ r = 1)) (poG dC dI A (fun u : Unit => [(h0, .inr (1, [.ref a0])), (a0, .inl (cI, 12, .inl f)), (h1, .inr (1, [.ref a1])), (a1, .inl (cI, 12, .inl g))])) A) ([.ref h0, .ref h1] : List Value).toArray s 0 0 A) (F0 m 0 ls []) from h _ _ hP hD hS
  clear hP hD hS hH H
  intro H locs hP hD hS
  refine lv_bipush (v := 11) hx hb d_Natural_against_0 (by decide) ?_
  refine lv_istore_n (lv' := [(2, .int 11), (0, .ref h0), (1, .ref h1)]) hx hb d_Natural_against_2 rfl hl (by decide) rfl (fun ls hl => ?_)
  exact L_Natural_against_3 (h0) (a0) (f) (h1) (a1) (g) C0 hA  _ (11) (12) H locs ls (Nat.lt_succ_self _) (((show (11 : Int32).toInt = 11 by decide)).trans (by omega)) (by omega) (by intro j h1 h2; omega) (va_Psub hP [0, 1, 2, 3] rfl) (hD.sub [0, 1, 2, 3] (by decide) rfl) hS (lv_sub hl [0, 2, 1] rfl)
set_option maxHeartbeats 4000000 in
set_option maxRecDepth 100000 in
theorem L_Natural_copy_2 {p : Program} {l : Launch} {e : Env} {s : State} {m : MethodId} {below : List Frame} {meth : Method} {c : Code} {dC : Nat → ClassId} {dI : Nat → Nat → Nat} {cI cB cJ : ClassId} {A : Nat → Prop} (h0 : Nat) (a0 : Nat) (f : Nat → Int32) (h1 : Nat) (a1 : Nat) (g : Nat → Int32) (C0 : cx dC dI cI cB cJ R_Natural b_Natural_copy 3 none p s m ([.ref h0, .ref h1] : List Value).toArray meth c) (hA : ∀ q : Nat, s.heap.size ≤ q → A q)  : ∀ n : Nat, (∀ (x2 : Int32) (i : Nat) (k : Nat → Int32) (H : Heap) (locs : List Loc) (ls : Array Slot), 12 - i < n → x2.toInt = (i : Int) → (i ≤ 12) → (∀ j, j < i → k j = g j) → va_P (dC, dI) vwCl [(h0, .inr (1, [.ref a0])), (a0, .inl (cI, 12, .inl k)), (h1, .inr (1, [.ref a1])), (a1, .inl (cI, 12, .inl g))] H → va_D A [(h0, .inr (1, [.ref a0])), (a0, .inl (cI, 12, .inl k)), (h1, .inr (1, [.ref a1])), (a1, .inl (cI, 12, .inl g))] → va_S A s.heap H locs → lv_has ls 3 [(2, .int x2), (1, .ref h1), (0, .ref h0)] → W p l e ({ frames := 0, cells := 0, slots := 0, locals := 0 } : Room) s m ([.ref h0, .ref h1] : List Value).toArray below meth c H locs 0 0 (MQ below (va_Qv (fun (u : (Nat → Int32)) => nv u 12 = nv g 12) (poG dC dI A (fun u : (Nat → Int32) => [(h0, .inr (1, [.ref a0])), (a0, .inl (cI, 12, .inl u)), (h1, .inr (1, [.ref a1])), (a1, .inl (cI, 12, .inl g))])) A) ([.ref h0, .ref h1] : List Value).toArray s 0 0 A) (F0 m 2 ls [])) := by
  obtain ⟨hx, hb, hml, hown, hts, hr, hlocks, hK, hN⟩ := id C0
  intro n
  induction n with
  | zero => exact fun _ _ _ _ _ _ h0 _ _ _ _ _ _ _ => absurd h0 (Nat.not_lt_zero _)
  | succ n ih =>
    intro x2 i k H locs ls hn9 t_x2 hi hs hP hD hS hl
    have r_x2 := q_r32 x2
    refine lv_iload_n hx hb d_Natural_copy_2 rfl (lv_at hl 0 rfl) ?_
    refine lv_bipush (v := 12) hx hb d_Natural_copy_3 (by decide) ?_
    refine lv_icmp_ge (tgt := 26) hx hb d_Natural_copy_5 (by decide) (fun b5 => ?_) (fun b5 => ?_)
    · skip
      rw [q_ile (show (12 : Int32).toInt = 12 by decide) t_x2] at b5
      exact Cv.ret C0 (u := (k)) (Nat.le_of_ble_eq_true rfl) (Nat.le_of_ble_eq_true rfl) (by show nv k 12 = nv g 12; exact nv_congr (fun j hj => hs j (by omega))) hP hD hS [0, 1, 2, 3] (by decide) rfl d_Natural_copy_26
    · skip
      rw [q_ile (show (12 : Int32).toInt = 12 by decide) t_x2] at b5
      refine lv_aload_n hx hb d_Natural_copy_8 rfl (lv_at hl 2 rfl) ?_
      refine va_get (D := (dC, dI)) (ci := 1) (v := .ref a0) (C := R_Natural) (T := F_Natural) (N := 1) hx hb hts u_Natural hown hK hP 0 rfl rfl 0 (by decide) (hts _ m_105) (fun _ h9 => h9) rfl d_Natural_copy_9 ?_
      refine lv_iload_n hx hb d_Natural_copy_12 rfl (lv_at hl 0 rfl) ?_
      refine lv_aload_n hx hb d_Natural_copy_13 rfl (lv_at hl 1 rfl) ?_
      refine va_get (D := (dC, dI)) (ci := 1) (v := .ref a1) (C := R_Natural) (T := F_Natural) (N := 1) hx hb hts u_Natural hown hK hP 2 rfl rfl 0 (by decide) (hts _ m_105) (fun _ h9 => h9) rfl d_Natural_copy_14 ?_
      refine lv_iload_n hx hb d_Natural_copy_17 rfl (lv_at hl 0 rfl) ?_
      refine va_iald hx hb hK hP 3 0 rfl rfl (q_in t_x2 (by omega)) d_Natural_copy_18 ?_
      refine lv_topi (fun v18 e18 => ?_)
      rw [q_cl (k := i) (t_x2)] at e18
      refine va_iast hx hb hK hP hD hS 1 0 rfl rfl (q_in t_x2 (by omega)) d_Natural_copy_19 (fun H locs hP hD hS => ?_)
      rw [q_cl (k := i) (t_x2)] at hP hD
      have hP : va_P (dC, dI) vwCl [(h0, .inr (1, [.ref a0])), (a0, .inl (cI, 12, .inl (upd k i v18))), (h1, .inr (1, [.ref a1])), (a1, .inl (cI, 12, .inl g))] H := hP
      have hD : va_D A [(h0, .inr (1, [.ref a0])), (a0, .inl (cI, 12, .inl (upd k i v18))), (h1, .inr (1, [.ref a1])), (a1, .inl (cI, 12, .inl g))] := hD
      obtain ⟨v20, e20⟩ : ∃ y : Int32, y = x2 + 1 := ⟨_, rfl⟩
      have t20 : v20.toInt = (i : Int) + 1 := by rw [e20]; exact q_iadd t_x2 (show (1 : Int32).toInt = 1 by decide) (by omega)
      refine lv_iinc (v := v20) (lv' := [(2, .int v20), (1, .ref h1), (0, .ref h0)]) hx hb d_Natural_copy_20 hl (k := 0) rfl (by rw [e20]; rfl) (by decide) rfl (fun ls hl => ?_)
      refine lv_goto (tgt := 2) hx hb d_Natural_copy_23 (by decide) ?_
      exact ih (v20) (i + 1) (upd k i v18) H locs ls (by omega) ((t20).trans (by omega)) (by omega) (by intro j h; rcases Nat.lt_or_ge j i with h1 | h1; rw [pk_un (by omega)]; exact hs j h1; rw [show j = i by omega, pk_us, e18]) (va_Psub hP [0, 1, 2, 3] rfl) (hD.sub [0, 1, 2, 3] (by decide) rfl) hS (lv_sub hl [0, 1, 2] rfl)
set_option maxHeartbeats 4000000 in
set_option maxRecDepth 100000 in
theorem c_Natural_copy (l : Launch) (dC : Nat → ClassId) (dI : Nat → Nat → Nat) (cI cB cJ : ClassId) (h0 : Nat) (a0 : Nat) (f : Nat → Int32) (h1 : Nat) (a1 : Nat) (g : Nat → Int32)  : Cv l dC dI cI cB cJ y_Natural_copy w_Natural_copy ({ frames := 0, cells := 0, slots := 0, locals := 0 } : Room) [.ref h0, .ref h1] [(h0, .inr (1, [.ref a0])), (a0, .inl (cI, 12, .inl f)), (h1, .inr (1, [.ref a1])), (a1, .inl (cI, 12, .inl g))] (fun (u : (Nat → Int32)) => nv u 12 = nv g 12) (fun u : (Nat → Int32) => [(h0, .inr (1, [.ref a0])), (a0, .inl (cI, 12, .inl u)), (h1, .inr (1, [.ref a1])), (a1, .inl (cI, 12, .inl g))]) := by
  refine Cv.intro (cc := b_Natural_copy) (maxL := 3) (plainFor_of_name (by decide)) rfl (Nat.le_of_ble_eq_true rfl) ?_
  intro p e s m below meth c A ls C0 hin hA hP hD hS hl
  obtain ⟨hx, hb, hml, hown, hts, hr, hlocks, hK, hN⟩ := id C0
  obtain ⟨H, hH⟩ : ∃ H, H = s.heap := ⟨_, rfl⟩
  have hP : va_P (dC, dI) vwCl [(h0, .inr (1, [.ref a0])), (a0, .inl (cI, 12, .inl f)), (h1, .inr (1, [.ref a1])), (a1, .inl (cI, 12, .inl g))] s.heap := hP
  have hl : lv_has ls 3 [(0, .ref h0), (1, .ref h1)] := hl
  suffices h : ∀ (H : Heap) (locs : List Loc), va_P (dC, dI) vwCl [(h0, .inr (1, [.ref a0])), (a0, .inl (cI, 12, .inl f)), (h1, .inr (1, [.ref a1])), (a1, .inl (cI, 12, .inl g))] H → va_D A [(h0, .inr (1, [.ref a0])), (a0, .inl (cI, 12, .inl f)), (h1, .inr (1, [.ref a1])), (a1, .inl (cI, 12, .inl g))] → va_S A s.heap H locs → W p l e ({ frames := 0, cells := 0, slots := 0, locals := 0 } : Room) s m ([.ref h0, .ref h1] : List Value).toArray below meth c H locs 0 0 (MQ below (va_Qv (fun (u : (Nat → Int32)) => nv u 12 = nv g 12) (poG dC dI A (fun u : (Nat → Int32) => [(h0, .inr (1, [.ref a0])), (a0, .inl (cI, 12, .inl u)), (h1, .inr (1, [.ref a1])), (a1, .inl (cI, 12, .inl g))])) A) ([.ref h0, .ref h1] : List Value).toArray s 0 0 A) (F0 m 0 ls []) from h _ _ hP hD hS
  clear hP hD hS hH H
  intro H locs hP hD hS
  refine lv_iconst (v := 0) hx hb d_Natural_copy_0 (by decide) ?_
  refine lv_istore_n (lv' := [(2, .int 0), (0, .ref h0), (1, .ref h1)]) hx hb d_Natural_copy_1 rfl hl (by decide) rfl (fun ls hl => ?_)
  exact L_Natural_copy_2 (h0) (a0) (f) (h1) (a1) (g) C0 hA  _ (0) (0) (f) H locs ls (Nat.lt_succ_self _) (((show (0 : Int32).toInt = 0 by decide)).trans (by omega)) (by omega) (by intro j h; omega) (va_Psub hP [0, 1, 2, 3] rfl) (hD.sub [0, 1, 2, 3] (by decide) rfl) hS (lv_sub hl [0, 2, 1] rfl)
set_option maxHeartbeats 4000000 in
set_option maxRecDepth 100000 in
theorem L_Natural_set_2 {p : Program} {l : Launch} {e : Env} {s : State} {m : MethodId} {below : List Frame} {meth : Method} {c : Code} {dC : Nat → ClassId} {dI : Nat → Nat → Nat} {cI cB cJ : ClassId} {A : Nat → Prop} (h0 : Nat) (a0 : Nat) (f : Nat → Int32) (x : Int64) (C0 : cx dC dI cI cB cJ R_Natural b_Natural_set 4 none p s m ([.ref h0, .long x] : List Value).toArray meth c) (hA : ∀ q : Nat, s.heap.size ≤ q → A q)  : ∀ n : Nat, (∀ (x3 : Int32) (i : Nat) (k : Nat → Int32) (H : Heap) (locs : List Loc) (ls : Array Slot), 12 - i < n → x3.toInt = (i : Int) → (i ≤ 12) → (∀ j, 2 ≤ j → j < i → k j = 0) → va_P (dC, dI) vwCl [(h0, .inr (1, [.ref a0])), (a0, .inl (cI, 12, .inl k))] H → va_D A [(h0, .inr (1, [.ref a0])), (a0, .inl (cI, 12, .inl k))] → va_S A s.heap H locs → lv_has ls 4 [(3, .int x3), (1, .long x), (0, .ref h0)] → W p l e ({ frames := 0, cells := 0, slots := 0, locals := 0 } : Room) s m ([.ref h0, .long x] : List Value).toArray below meth c H locs 0 0 (MQ below (va_Qv (fun (u : (Nat → Int32)) => nv u 12 = ul x) (poG dC dI A (fun u : (Nat → Int32) => [(h0, .inr (1, [.ref a0])), (a0, .inl (cI, 12, .inl u))])) A) ([.ref h0, .long x] : List Value).toArray s 0 0 A) (F0 m 2 ls [])) := by
  obtain ⟨hx, hb, hml, hown, hts, hr, hlocks, hK, hN⟩ := id C0
  intro n
  induction n with
  | zero => exact fun _ _ _ _ _ _ h0 _ _ _ _ _ _ _ => absurd h0 (Nat.not_lt_zero _)
  | succ n ih =>
    intro x3 i k H locs ls hn9 t_x3 hi hs hP hD hS hl
    have r_x3 := q_r32 x3
    refine lv_iload_n hx hb d_Natural_set_2 rfl (lv_at hl 0 rfl) ?_
    refine lv_bipush (v := 12) hx hb d_Natural_set_3 (by decide) ?_
    refine lv_icmp_ge (tgt := 21) hx hb d_Natural_set_5 (by decide) (fun b5 => ?_) (fun b5 => ?_)
    · skip
      rw [q_ile (show (12 : Int32).toInt = 12 by decide) t_x3] at b5
      refine lv_aload_n hx hb d_Natural_set_21 rfl (lv_at hl 2 rfl) ?_
      refine va_get (D := (dC, dI)) (ci := 1) (v := .ref a0) (C := R_Natural) (T := F_Natural) (N := 1) hx hb hts u_Natural hown hK hP 0 rfl rfl 0 (by decide) (hts _ m_105) (fun _ h9 => h9) rfl d_Natural_set_22 ?_
      refine lv_iconst (v := 0) hx hb d_Natural_set_25 (by decide) ?_
      refine lv_lload_n hx hb d_Natural_set_26 rfl (lv_at hl 1 rfl) ?_
      refine lv_l2i hx hb d_Natural_set_27 rfl ?_
      refine lv_topi (fun v27 e27 => ?_)
      refine va_iast hx hb hK hP hD hS 1 0 rfl rfl (q_in (show (0 : Int32).toInt = 0 by decide) (by omega)) d_Natural_set_28 (fun H locs hP hD hS => ?_)
      rw [q_cl (k := 0) ((show (0 : Int32).toInt = 0 by decide))] at hP hD
      have hP : va_P (dC, dI) vwCl [(h0, .inr (1, [.ref a0])), (a0, .inl (cI, 12, .inl (upd k 0 v27)))] H := hP
      have hD : va_D A [(h0, .inr (1, [.ref a0])), (a0, .inl (cI, 12, .inl (upd k 0 v27)))] := hD
      refine lv_aload_n hx hb d_Natural_set_29 rfl (lv_at hl 2 rfl) ?_
      refine va_get (D := (dC, dI)) (ci := 1) (v := .ref a0) (C := R_Natural) (T := F_Natural) (N := 1) hx hb hts u_Natural hown hK hP 0 rfl rfl 0 (by decide) (hts _ m_105) (fun _ h9 => h9) rfl d_Natural_set_30 ?_
      refine lv_iconst (v := 1) hx hb d_Natural_set_33 (by decide) ?_
      refine lv_lload_n hx hb d_Natural_set_34 rfl (lv_at hl 1 rfl) ?_
      refine lv_bipush (v := 32) hx hb d_Natural_set_35 (by decide) ?_
      refine lv_lushr hx hb d_Natural_set_37 rfl ?_
      refine lv_topl (fun v37 e37 => ?_)
      refine lv_l2i hx hb d_Natural_set_38 rfl ?_
      refine lv_topi (fun v38 e38 => ?_)
      refine va_iast hx hb hK hP hD hS 1 0 rfl rfl (q_in (show (1 : Int32).toInt = 1 by decide) (by omega)) d_Natural_set_39 (fun H locs hP hD hS => ?_)
      rw [q_cl (k := 1) ((show (1 : Int32).toInt = 1 by decide))] at hP hD
      have hP : va_P (dC, dI) vwCl [(h0, .inr (1, [.ref a0])), (a0, .inl (cI, 12, .inl (upd (upd k 0 v27) 1 v38)))] H := hP
      have hD : va_D A [(h0, .inr (1, [.ref a0])), (a0, .inl (cI, 12, .inl (upd (upd k 0 v27) 1 v38)))] := hD
      have hz : ∀ j, 2 ≤ j → j < 12 → upd (upd k 0 v27) 1 v38 j = 0 := fun j h1 h2 => by rw [pk_un (by omega), pk_un (by omega)]; exact hs j h1 (by omega)
      have h1 := nv_split (f := upd (upd k 0 v27) 1 v38) (h := fun j => if j < 2 then upd (upd k 0 v27) 1 v38 j else 0) (n := 12) (i := 2) (by omega) (fun j h1 h2 => by rw [hz j h1 h2, if_neg (by omega)])
      have h2 := nv_top0 (f := fun j => if j < 2 then upd (upd k 0 v27) 1 v38 j else 0) (i := 2) (n := 12) (by omega) (fun j h1 h2 => by rw [if_neg (by omega)])
      have h3 : nv (upd (upd k 0 v27) 1 v38) 2 = ul x := by
        rw [nv_upd_s, show (1 : Nat) = 0 + 1 from rfl, nv_upd_s, e38, e27, e37, uw_l2i, uw_l2i, ul_s32]
        have := ul_lt x
        show 0 + ul x % 4294967296 * 1 + ul x / 4294967296 % 4294967296 * 4294967296 = ul x
        omega
      exact Cv.ret C0 (u := (upd (upd k 0 v27) 1 v38)) (Nat.le_of_ble_eq_true rfl) (Nat.le_of_ble_eq_true rfl) (by show nv (upd (upd k 0 v27) 1 v38) 12 = ul x; show nv (upd (upd k 0 v27) 1 v38) 12 = ul x; omega) hP hD hS [0, 1] (by decide) rfl d_Natural_set_40
    · skip
      rw [q_ile (show (12 : Int32).toInt = 12 by decide) t_x3] at b5
      refine lv_aload_n hx hb d_Natural_set_8 rfl (lv_at hl 2 rfl) ?_
      refine va_get (D := (dC, dI)) (ci := 1) (v := .ref a0) (C := R_Natural) (T := F_Natural) (N := 1) hx hb hts u_Natural hown hK hP 0 rfl rfl 0 (by decide) (hts _ m_105) (fun _ h9 => h9) rfl d_Natural_set_9 ?_
      refine lv_iload_n hx hb d_Natural_set_12 rfl (lv_at hl 0 rfl) ?_
      refine lv_iconst (v := 0) hx hb d_Natural_set_13 (by decide) ?_
      refine va_iast hx hb hK hP hD hS 1 0 rfl rfl (q_in t_x3 (by omega)) d_Natural_set_14 (fun H locs hP hD hS => ?_)
      rw [q_cl (k := i) (t_x3)] at hP hD
      have hP : va_P (dC, dI) vwCl [(h0, .inr (1, [.ref a0])), (a0, .inl (cI, 12, .inl (upd k i 0)))] H := hP
      have hD : va_D A [(h0, .inr (1, [.ref a0])), (a0, .inl (cI, 12, .inl (upd k i 0)))] := hD
      obtain ⟨v15, e15⟩ : ∃ y : Int32, y = x3 + 1 := ⟨_, rfl⟩
      have t15 : v15.toInt = (i : Int) + 1 := by rw [e15]; exact q_iadd t_x3 (show (1 : Int32).toInt = 1 by decide) (by omega)
      refine lv_iinc (v := v15) (lv' := [(3, .int v15), (1, .long x), (0, .ref h0)]) hx hb d_Natural_set_15 hl (k := 0) rfl (by rw [e15]; rfl) (by decide) rfl (fun ls hl => ?_)
      refine lv_goto (tgt := 2) hx hb d_Natural_set_18 (by decide) ?_
      exact ih (v15) (i + 1) (upd k i 0) H locs ls (by omega) ((t15).trans (by omega)) (by omega) (by intro j h0 h; rcases Nat.lt_or_ge j i with h1 | h1; rw [pk_un (by omega)]; exact hs j h0 h1; rw [show j = i by omega, pk_us]) (va_Psub hP [0, 1] rfl) (hD.sub [0, 1] (by decide) rfl) hS (lv_sub hl [0, 1, 2] rfl)
set_option maxHeartbeats 4000000 in
set_option maxRecDepth 100000 in
theorem c_Natural_set (l : Launch) (dC : Nat → ClassId) (dI : Nat → Nat → Nat) (cI cB cJ : ClassId) (h0 : Nat) (a0 : Nat) (f : Nat → Int32) (x : Int64)  : Cv l dC dI cI cB cJ y_Natural_set w_Natural_set ({ frames := 0, cells := 0, slots := 0, locals := 0 } : Room) [.ref h0, .long x] [(h0, .inr (1, [.ref a0])), (a0, .inl (cI, 12, .inl f))] (fun (u : (Nat → Int32)) => nv u 12 = ul x) (fun u : (Nat → Int32) => [(h0, .inr (1, [.ref a0])), (a0, .inl (cI, 12, .inl u))]) := by
  refine Cv.intro (cc := b_Natural_set) (maxL := 4) (plainFor_of_name (by decide)) rfl (Nat.le_of_ble_eq_true rfl) ?_
  intro p e s m below meth c A ls C0 hin hA hP hD hS hl
  obtain ⟨hx, hb, hml, hown, hts, hr, hlocks, hK, hN⟩ := id C0
  obtain ⟨H, hH⟩ : ∃ H, H = s.heap := ⟨_, rfl⟩
  have hP : va_P (dC, dI) vwCl [(h0, .inr (1, [.ref a0])), (a0, .inl (cI, 12, .inl f))] s.heap := hP
  have hl : lv_has ls 4 [(0, .ref h0), (1, .long x)] := hl
  suffices h : ∀ (H : Heap) (locs : List Loc), va_P (dC, dI) vwCl [(h0, .inr (1, [.ref a0])), (a0, .inl (cI, 12, .inl f))] H → va_D A [(h0, .inr (1, [.ref a0])), (a0, .inl (cI, 12, .inl f))] → va_S A s.heap H locs → W p l e ({ frames := 0, cells := 0, slots := 0, locals := 0 } : Room) s m ([.ref h0, .long x] : List Value).toArray below meth c H locs 0 0 (MQ below (va_Qv (fun (u : (Nat → Int32)) => nv u 12 = ul x) (poG dC dI A (fun u : (Nat → Int32) => [(h0, .inr (1, [.ref a0])), (a0, .inl (cI, 12, .inl u))])) A) ([.ref h0, .long x] : List Value).toArray s 0 0 A) (F0 m 0 ls []) from h _ _ hP hD hS
  clear hP hD hS hH H
  intro H locs hP hD hS
  refine lv_iconst (v := 2) hx hb d_Natural_set_0 (by decide) ?_
  refine lv_istore_n (lv' := [(3, .int 2), (0, .ref h0), (1, .long x)]) hx hb d_Natural_set_1 rfl hl (by decide) rfl (fun ls hl => ?_)
  exact L_Natural_set_2 (h0) (a0) (f) (x) C0 hA  _ (2) (2) (f) H locs ls (Nat.lt_succ_self _) (((show (2 : Int32).toInt = 2 by decide)).trans (by omega)) (by omega) (by intro j h h2; omega) (va_Psub hP [0, 1] rfl) (hD.sub [0, 1] (by decide) rfl) hS (lv_sub hl [0, 2, 1] rfl)
set_option maxHeartbeats 4000000 in
set_option maxRecDepth 100000 in
theorem L_Natural_timesPlus_6 {p : Program} {l : Launch} {e : Env} {s : State} {m : MethodId} {below : List Frame} {meth : Method} {c : Code} {dC : Nat → ClassId} {dI : Nat → Nat → Nat} {cI cB cJ : ClassId} {A : Nat → Prop} (h0 : Nat) (a0 : Nat) (f : Nat → Int32) (pf : Int32) (qa : Int32) (C0 : cx dC dI cI cB cJ R_Natural b_Natural_timesPlus 6 none p s m ([.ref h0, .int pf, .int qa] : List Value).toArray meth c) (hA : ∀ q : Nat, s.heap.size ≤ q → A q) (hp : 0 ≤ pf.toInt) (hq : 0 ≤ qa.toInt) : ∀ n : Nat, (∀ (x5 : Int32) (i : Nat) (c3 : Int64) (k : Nat → Int32) (H : Heap) (locs : List Loc) (ls : Array Slot), 12 - i < n → x5.toInt = (i : Int) → (i ≤ 12) → (∀ j, i ≤ j → k j = f j) → (nv k i + ul c3 * 2 ^ (32 * i) = nv f i * uw pf + uw qa) → (ul c3 < 4294967296) → va_P (dC, dI) vwCl [(h0, .inr (1, [.ref a0])), (a0, .inl (cI, 12, .inl k))] H → va_D A [(h0, .inr (1, [.ref a0])), (a0, .inl (cI, 12, .inl k))] → va_S A s.heap H locs → lv_has ls 6 [(5, .int x5), (3, .long c3), (2, .int qa), (1, .int pf), (0, .ref h0)] → W p l e ({ frames := 0, cells := 0, slots := 0, locals := 0 } : Room) s m ([.ref h0, .int pf, .int qa] : List Value).toArray below meth c H locs 0 0 (MQ below (va_Qv (fun (u : (Nat → Int32)) => nv u 12 = (nv f 12 * uw pf + uw qa) % 2 ^ (32 * 12)) (poG dC dI A (fun u : (Nat → Int32) => [(h0, .inr (1, [.ref a0])), (a0, .inl (cI, 12, .inl u))])) A) ([.ref h0, .int pf, .int qa] : List Value).toArray s 0 0 A) (F0 m 6 ls [])) := by
  obtain ⟨hx, hb, hml, hown, hts, hr, hlocks, hK, hN⟩ := id C0
  intro n
  induction n with
  | zero => exact fun _ _ _ _ _ _ _ h0 _ _ _ _ _ _ _ _ _ => absurd h0 (Nat.not_lt_zero _)
  | succ n ih =>
    intro x5 i c3 k H locs ls hn9 t_x5 hi hk hv hc hP hD hS hl
    have r_x5 := q_r32 x5
    refine lv_iload hx hb d_Natural_timesPlus_6 (lv_at hl 0 rfl) ?_
    refine lv_bipush (v := 12) hx hb d_Natural_timesPlus_8 (by decide) ?_
    refine lv_icmp_ge (tgt := 51) hx hb d_Natural_timesPlus_10 (by decide) (fun b10 => ?_) (fun b10 => ?_)
    · skip
      rw [q_ile (show (12 : Int32).toInt = 12 by decide) t_x5] at b10
      have hi2 : i = 12 := by omega
      subst hi2
      exact Cv.ret C0 (u := (k)) (Nat.le_of_ble_eq_true rfl) (Nat.le_of_ble_eq_true rfl) (by show nv k 12 = (nv f 12 * uw pf + uw qa) % 2 ^ (32 * 12); exact nv_mod_end hv) hP hD hS [0, 1] (by decide) rfl d_Natural_timesPlus_51
    · skip
      rw [q_ile (show (12 : Int32).toInt = 12 by decide) t_x5] at b10
      refine lv_lload_n hx hb d_Natural_timesPlus_13 rfl (lv_at hl 1 rfl) ?_
      refine lv_aload_n hx hb d_Natural_timesPlus_14 rfl (lv_at hl 4 rfl) ?_
      refine va_get (D := (dC, dI)) (ci := 1) (v := .ref a0) (C := R_Natural) (T := F_Natural) (N := 1) hx hb hts u_Natural hown hK hP 0 rfl rfl 0 (by decide) (hts _ m_105) (fun _ h9 => h9) rfl d_Natural_timesPlus_15 ?_
      refine lv_iload hx hb d_Natural_timesPlus_18 (lv_at hl 0 rfl) ?_
      refine va_iald hx hb hK hP 1 0 rfl rfl (q_in t_x5 (by omega)) d_Natural_timesPlus_20 ?_
      refine lv_topi (fun v20 e20 => ?_)
      rw [q_cl (k := i) (t_x5)] at e20
      refine lv_i2l hx hb d_Natural_timesPlus_21 rfl ?_
      refine lv_topl (fun v21 e21 => ?_)
      refine lv_ldc2 (v := 4294967295) hx hb hown (hts _ m_273) d_Natural_timesPlus_22 ?_
      refine lv_land hx hb d_Natural_timesPlus_25 ?_
      refine lv_topl (fun v25 e25 => ?_)
      refine lv_iload_n hx hb d_Natural_timesPlus_26 rfl (lv_at hl 3 rfl) ?_
      refine lv_i2l hx hb d_Natural_timesPlus_27 rfl ?_
      refine lv_topl (fun v27 e27 => ?_)
      refine lv_lmul hx hb d_Natural_timesPlus_28 ?_
      refine lv_topl (fun v28 e28 => ?_)
      refine lv_ladd hx hb d_Natural_timesPlus_29 ?_
      refine lv_topl (fun v29 e29 => ?_)
      refine lv_lstore_n (lv' := [(3, .long v29), (5, .int x5), (2, .int qa), (1, .int pf), (0, .ref h0)]) hx hb d_Natural_timesPlus_30 rfl hl (by decide) rfl (fun ls hl => ?_)
      refine lv_aload_n hx hb d_Natural_timesPlus_31 rfl (lv_at hl 4 rfl) ?_
      refine va_get (D := (dC, dI)) (ci := 1) (v := .ref a0) (C := R_Natural) (T := F_Natural) (N := 1) hx hb hts u_Natural hown hK hP 0 rfl rfl 0 (by decide) (hts _ m_105) (fun _ h9 => h9) rfl d_Natural_timesPlus_32 ?_
      refine lv_iload hx hb d_Natural_timesPlus_35 (lv_at hl 1 rfl) ?_
      refine lv_lload_n hx hb d_Natural_timesPlus_37 rfl (lv_at hl 0 rfl) ?_
      refine lv_l2i hx hb d_Natural_timesPlus_38 rfl ?_
      refine lv_topi (fun v38 e38 => ?_)
      refine va_iast hx hb hK hP hD hS 1 0 rfl rfl (q_in t_x5 (by omega)) d_Natural_timesPlus_39 (fun H locs hP hD hS => ?_)
      rw [q_cl (k := i) (t_x5)] at hP hD
      have hP : va_P (dC, dI) vwCl [(h0, .inr (1, [.ref a0])), (a0, .inl (cI, 12, .inl (upd k i v38)))] H := hP
      have hD : va_D A [(h0, .inr (1, [.ref a0])), (a0, .inl (cI, 12, .inl (upd k i v38)))] := hD
      refine lv_lload_n hx hb d_Natural_timesPlus_40 rfl (lv_at hl 0 rfl) ?_
      refine lv_bipush (v := 32) hx hb d_Natural_timesPlus_41 (by decide) ?_
      refine lv_lushr hx hb d_Natural_timesPlus_43 rfl ?_
      refine lv_topl (fun v43 e43 => ?_)
      refine lv_lstore_n (lv' := [(3, .long v43), (5, .int x5), (2, .int qa), (1, .int pf), (0, .ref h0)]) hx hb d_Natural_timesPlus_44 rfl hl (by decide) rfl (fun ls hl => ?_)
      obtain ⟨v45, e45⟩ : ∃ y : Int32, y = x5 + 1 := ⟨_, rfl⟩
      have t45 : v45.toInt = (i : Int) + 1 := by rw [e45]; exact q_iadd t_x5 (show (1 : Int32).toInt = 1 by decide) (by omega)
      refine lv_iinc (v := v45) (lv' := [(5, .int v45), (3, .long v43), (2, .int qa), (1, .int pf), (0, .ref h0)]) hx hb d_Natural_timesPlus_45 hl (k := 1) rfl (by rw [e45]; rfl) (by decide) rfl (fun ls hl => ?_)
      refine lv_goto (tgt := 6) hx hb d_Natural_timesPlus_48 (by decide) ?_
      have hp2 := uw_lt pf
      have hp3 := uw_half hp
      have hlf := uw_lt (f i)
      have k25 : ul v25 = uw (f i) := by rw [e25, e21, ul_i2l_lo, e20, hk i (Nat.le_refl i)]
      have k27 : ul v27 = uw pf := by rw [e27]; exact ul_i2l hp
      have hm : uw (f i) * uw pf ≤ 4294967295 * 2147483647 := Nat.mul_le_mul (by omega) (by omega)
      have k28 : ul v28 = uw (f i) * uw pf := by rw [e28, ul_mul, k25, k27, Nat.mod_eq_of_lt (by omega)]
      have k29 : ul v29 = ul c3 + uw (f i) * uw pf := by rw [e29, ul_add, k28, Nat.mod_eq_of_lt (by omega)]
      have k38 : uw v38 = (ul c3 + uw (f i) * uw pf) % 4294967296 := by rw [e38, uw_l2i, k29]
      have k43 : ul v43 = (ul c3 + uw (f i) * uw pf) / 4294967296 := by rw [e43, ul_s32, k29]
      have hstep := nv_mul_step hv k38
      exact ih (v45) (i + 1) (v43) (upd k i v38) H locs ls (by omega) ((t45).trans (by omega)) (by omega) (by intro j h; rw [pk_un (by omega)]; exact hk j (by omega)) (by rw [k43]; exact hstep) (by rw [k43]; omega) (va_Psub hP [0, 1] rfl) (hD.sub [0, 1] (by decide) rfl) hS (lv_sub hl [0, 1, 2, 3, 4] rfl)
set_option maxHeartbeats 4000000 in
set_option maxRecDepth 100000 in
theorem c_Natural_timesPlus (l : Launch) (dC : Nat → ClassId) (dI : Nat → Nat → Nat) (cI cB cJ : ClassId) (h0 : Nat) (a0 : Nat) (f : Nat → Int32) (pf : Int32) (qa : Int32) (hp : 0 ≤ pf.toInt) (hq : 0 ≤ qa.toInt) : Cv l dC dI cI cB cJ y_Natural_timesPlus w_Natural_timesPlus ({ frames := 0, cells := 0, slots := 0, locals := 0 } : Room) [.ref h0, .int pf, .int qa] [(h0, .inr (1, [.ref a0])), (a0, .inl (cI, 12, .inl f))] (fun (u : (Nat → Int32)) => nv u 12 = (nv f 12 * uw pf + uw qa) % 2 ^ (32 * 12)) (fun u : (Nat → Int32) => [(h0, .inr (1, [.ref a0])), (a0, .inl (cI, 12, .inl u))]) := by
  refine Cv.intro (cc := b_Natural_timesPlus) (maxL := 6) (plainFor_of_name (by decide)) rfl (Nat.le_of_ble_eq_true rfl) ?_
  intro p e s m below meth c A ls C0 hin hA hP hD hS hl
  obtain ⟨hx, hb, hml, hown, hts, hr, hlocks, hK, hN⟩ := id C0
  obtain ⟨H, hH⟩ : ∃ H, H = s.heap := ⟨_, rfl⟩
  have hP : va_P (dC, dI) vwCl [(h0, .inr (1, [.ref a0])), (a0, .inl (cI, 12, .inl f))] s.heap := hP
  have hl : lv_has ls 6 [(0, .ref h0), (1, .int pf), (2, .int qa)] := hl
  suffices h : ∀ (H : Heap) (locs : List Loc), va_P (dC, dI) vwCl [(h0, .inr (1, [.ref a0])), (a0, .inl (cI, 12, .inl f))] H → va_D A [(h0, .inr (1, [.ref a0])), (a0, .inl (cI, 12, .inl f))] → va_S A s.heap H locs → W p l e ({ frames := 0, cells := 0, slots := 0, locals := 0 } : Room) s m ([.ref h0, .int pf, .int qa] : List Value).toArray below meth c H locs 0 0 (MQ below (va_Qv (fun (u : (Nat → Int32)) => nv u 12 = (nv f 12 * uw pf + uw qa) % 2 ^ (32 * 12)) (poG dC dI A (fun u : (Nat → Int32) => [(h0, .inr (1, [.ref a0])), (a0, .inl (cI, 12, .inl u))])) A) ([.ref h0, .int pf, .int qa] : List Value).toArray s 0 0 A) (F0 m 0 ls []) from h _ _ hP hD hS
  clear hP hD hS hH H
  intro H locs hP hD hS
  refine lv_iload_n hx hb d_Natural_timesPlus_0 rfl (lv_at hl 2 rfl) ?_
  refine lv_i2l hx hb d_Natural_timesPlus_1 rfl ?_
  refine lv_topl (fun v1 e1 => ?_)
  refine lv_lstore_n (lv' := [(3, .long v1), (0, .ref h0), (1, .int pf), (2, .int qa)]) hx hb d_Natural_timesPlus_2 rfl hl (by decide) rfl (fun ls hl => ?_)
  refine lv_iconst (v := 0) hx hb d_Natural_timesPlus_3 (by decide) ?_
  refine lv_istore (lv' := [(5, .int 0), (3, .long v1), (0, .ref h0), (1, .int pf), (2, .int qa)]) hx hb d_Natural_timesPlus_4 hl (by decide) rfl (fun ls hl => ?_)
  exact L_Natural_timesPlus_6 (h0) (a0) (f) (pf) (qa) C0 hA (hp) (hq) _ (0) (0) (v1) (f) H locs ls (Nat.lt_succ_self _) (((show (0 : Int32).toInt = 0 by decide)).trans (by omega)) (by omega) (by intro j h; rfl) (by rw [e1]; have h := ul_i2l hq; show 0 + ul qa.toInt64 * 1 = 0 * uw pf + uw qa; omega) (by rw [e1, ul_i2l hq]; exact uw_lt qa) (va_Psub hP [0, 1] rfl) (hD.sub [0, 1] (by decide) rfl) hS (lv_sub hl [0, 1, 4, 3, 2] rfl)
