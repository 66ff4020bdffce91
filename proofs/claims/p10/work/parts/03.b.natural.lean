set_option maxHeartbeats 4000000 in
set_option maxRecDepth 100000 in
theorem c_Natural_init (l : Launch) (dC : Nat → ClassId) (dI : Nat → Nat → Nat) (cI cB cJ : ClassId) (h0 : Nat)  : Cv l dC dI cI cB cJ y_Natural_init w_Natural_init ({ frames := 1, cells := 1, slots := 12, locals := 12 } : Room) [.ref h0] [(h0, .inr (1, [.null]))] (fun (u : (Nat) × (Nat → Int32)) => nv u.2 12 = 0) (fun u : (Nat) × (Nat → Int32) => [(h0, .inr (1, [.ref u.1])), (u.1, .inl (cI, 12, .inl u.2))]) := by
  refine Cv.intro (cc := b_Natural_init) (maxL := 1) (plainFor_of_name (by decide)) rfl (Nat.le_of_ble_eq_true rfl) ?_
  intro p e s m below meth c A ls C0 hin hA hP hD hS hl
  obtain ⟨hx, hb, hml, hown, hts, hr, hlocks, hK, hN⟩ := id C0
  obtain ⟨H, hH⟩ : ∃ H, H = s.heap := ⟨_, rfl⟩
  have hP : va_P (dC, dI) vwCl [(h0, .inr (1, [.null]))] s.heap := hP
  have hl : lv_has ls 1 [(0, .ref h0)] := hl
  suffices h : ∀ (H : Heap) (locs : List Loc), va_P (dC, dI) vwCl [(h0, .inr (1, [.null]))] H → va_D A [(h0, .inr (1, [.null]))] → va_S A s.heap H locs → W p l e ({ frames := 1, cells := 1, slots := 12, locals := 12 } : Room) s m ([.ref h0] : List Value).toArray below meth c H locs 0 0 (MQ below (va_Qv (fun (u : (Nat) × (Nat → Int32)) => nv u.2 12 = 0) (poG dC dI A (fun u : (Nat) × (Nat → Int32) => [(h0, .inr (1, [.ref u.1])), (u.1, .inl (cI, 12, .inl u.2))])) A) ([.ref h0] : List Value).toArray s 1 12 A) (F0 m 0 ls []) from h _ _ hP hD hS
  clear hP hD hS hH H
  intro H locs hP hD hS
  refine lv_aload_n hx hb d_Natural_init_0 rfl (lv_at hl 0 rfl) ?_
  refine W.objInit hx hb hown (hts _ m_104) (hts _ m_70) (hts _ m_71) rfl (by rw [hml]; exact hl.1) rfl d_Natural_init_1 (Nat.le_of_ble_eq_true rfl) (Nat.le_of_ble_eq_true rfl) ?_
  refine W.eq (g2 := F0 m 4 ls []) rfl ?_
  refine lv_aload_n hx hb d_Natural_init_4 rfl (lv_at hl 0 rfl) ?_
  refine lv_bipush (v := 12) hx hb d_Natural_init_5 (by decide) ?_
  refine newI C0 hP hD hS hA (n := 12) (N := 12) (by decide) (by decide) (by decide) (Nat.le_of_ble_eq_true rfl) (Nat.le_of_ble_eq_true rfl) d_Natural_init_7 (fun qa H hP hD hS => ?_)
  have hP : va_P (dC, dI) vwCl [(h0, .inr (1, [.null])), (qa, .inl (cI, 12, .inl (fun _ => 0)))] H := hP
  have hD : va_D A [(h0, .inr (1, [.null])), (qa, .inl (cI, 12, .inl (fun _ => 0)))] := hD
  refine va_putF (D := (dC, dI)) (ci := 1) (v := .ref qa) (ty := .array .int) (C := R_Natural) (T := F_Natural) (N := 1) hx hb hts u_Natural t_Natural t_Natural_ok n_Natural hown hK hP hD hS 0 rfl rfl 0 (by decide) (hts _ m_105) (fun _ h9 => h9) rfl hin rfl (by decide +kernel) rfl rfl (Nat.le_of_ble_eq_true rfl) d_Natural_init_9 (fun H locs hP hD hS => ?_)
  have hP : va_P (dC, dI) vwCl [(h0, .inr (1, [.ref qa])), (qa, .inl (cI, 12, .inl (fun _ => 0)))] H := hP
  have hD : va_D A [(h0, .inr (1, [.ref qa])), (qa, .inl (cI, 12, .inl (fun _ => 0)))] := hD
  exact Cv.ret C0 (u := (qa, (fun _ => 0))) (Nat.le_of_ble_eq_true rfl) (Nat.le_of_ble_eq_true rfl) (by show nv (fun _ => 0) 12 = 0; exact nv_zero (fun _ _ => rfl)) hP hD hS [0, 1] (by decide) rfl d_Natural_init_12
set_option maxHeartbeats 4000000 in
set_option maxRecDepth 100000 in
theorem L_Natural_add_5 {p : Program} {l : Launch} {e : Env} {s : State} {m : MethodId} {below : List Frame} {meth : Method} {c : Code} {dC : Nat → ClassId} {dI : Nat → Nat → Nat} {cI cB cJ : ClassId} {A : Nat → Prop} (h0 : Nat) (a0 : Nat) (f : Nat → Int32) (h1 : Nat) (a1 : Nat) (g : Nat → Int32) (C0 : cx dC dI cI cB cJ R_Natural b_Natural_add 5 none p s m ([.ref h0, .ref h1] : List Value).toArray meth c) (hA : ∀ q : Nat, s.heap.size ≤ q → A q)  : ∀ n : Nat, (∀ (x4 : Int32) (i : Nat) (c2 : Int64) (k : Nat → Int32) (H : Heap) (locs : List Loc) (ls : Array Slot), 12 - i < n → x4.toInt = (i : Int) → (i ≤ 12) → (∀ j, i ≤ j → k j = f j) → (nv k i + ul c2 * 2 ^ (32 * i) = nv f i + nv g i) → (ul c2 < 2) → va_P (dC, dI) vwCl [(h0, .inr (1, [.ref a0])), (a0, .inl (cI, 12, .inl k)), (h1, .inr (1, [.ref a1])), (a1, .inl (cI, 12, .inl g))] H → va_D A [(h0, .inr (1, [.ref a0])), (a0, .inl (cI, 12, .inl k)), (h1, .inr (1, [.ref a1])), (a1, .inl (cI, 12, .inl g))] → va_S A s.heap H locs → lv_has ls 5 [(4, .int x4), (2, .long c2), (1, .ref h1), (0, .ref h0)] → W p l e ({ frames := 0, cells := 0, slots := 0, locals := 0 } : Room) s m ([.ref h0, .ref h1] : List Value).toArray below meth c H locs 0 0 (MQ below (va_Qv (fun (u : (Nat → Int32)) => nv u 12 = (nv f 12 + nv g 12) % 2 ^ (32 * 12)) (poG dC dI A (fun u : (Nat → Int32) => [(h0, .inr (1, [.ref a0])), (a0, .inl (cI, 12, .inl u)), (h1, .inr (1, [.ref a1])), (a1, .inl (cI, 12, .inl g))])) A) ([.ref h0, .ref h1] : List Value).toArray s 0 0 A) (F0 m 5 ls [])) := by
  obtain ⟨hx, hb, hml, hown, hts, hr, hlocks, hK, hN⟩ := id C0
  intro n
  induction n with
  | zero => exact fun _ _ _ _ _ _ _ h0 _ _ _ _ _ _ _ _ _ => absurd h0 (Nat.not_lt_zero _)
  | succ n ih =>
    intro x4 i c2 k H locs ls hn9 t_x4 hi hk hv hc hP hD hS hl
    have r_x4 := q_r32 x4
    refine lv_iload hx hb d_Natural_add_5 (lv_at hl 0 rfl) ?_
    refine lv_bipush (v := 12) hx hb d_Natural_add_7 (by decide) ?_
    refine lv_icmp_ge (tgt := 60) hx hb d_Natural_add_9 (by decide) (fun b9 => ?_) (fun b9 => ?_)
    · skip
      rw [q_ile (show (12 : Int32).toInt = 12 by decide) t_x4] at b9
      have hi2 : i = 12 := by omega
      subst hi2
      exact Cv.ret C0 (u := (k)) (Nat.le_of_ble_eq_true rfl) (Nat.le_of_ble_eq_true rfl) (by show nv k 12 = (nv f 12 + nv g 12) % 2 ^ (32 * 12); exact nv_mod_end hv) hP hD hS [0, 1, 2, 3] (by decide) rfl d_Natural_add_60
    · skip
      rw [q_ile (show (12 : Int32).toInt = 12 by decide) t_x4] at b9
      refine lv_lload_n hx hb d_Natural_add_12 rfl (lv_at hl 1 rfl) ?_
      refine lv_aload_n hx hb d_Natural_add_13 rfl (lv_at hl 3 rfl) ?_
      refine va_get (D := (dC, dI)) (ci := 1) (v := .ref a0) (C := R_Natural) (T := F_Natural) (N := 1) hx hb hts u_Natural hown hK hP 0 rfl rfl 0 (by decide) (hts _ m_105) (fun _ h9 => h9) rfl d_Natural_add_14 ?_
      refine lv_iload hx hb d_Natural_add_17 (lv_at hl 0 rfl) ?_
      refine va_iald hx hb hK hP 1 0 rfl rfl (q_in t_x4 (by omega)) d_Natural_add_19 ?_
      refine lv_topi (fun v19 e19 => ?_)
      rw [q_cl (k := i) (t_x4)] at e19
      refine lv_i2l hx hb d_Natural_add_20 rfl ?_
      refine lv_topl (fun v20 e20 => ?_)
      refine lv_ldc2 (v := 4294967295) hx hb hown (hts _ m_273) d_Natural_add_21 ?_
      refine lv_land hx hb d_Natural_add_24 ?_
      refine lv_topl (fun v24 e24 => ?_)
      refine lv_ladd hx hb d_Natural_add_25 ?_
      refine lv_topl (fun v25 e25 => ?_)
      refine lv_aload_n hx hb d_Natural_add_26 rfl (lv_at hl 2 rfl) ?_
      refine va_get (D := (dC, dI)) (ci := 1) (v := .ref a1) (C := R_Natural) (T := F_Natural) (N := 1) hx hb hts u_Natural hown hK hP 2 rfl rfl 0 (by decide) (hts _ m_105) (fun _ h9 => h9) rfl d_Natural_add_27 ?_
      refine lv_iload hx hb d_Natural_add_30 (lv_at hl 0 rfl) ?_
      refine va_iald hx hb hK hP 3 0 rfl rfl (q_in t_x4 (by omega)) d_Natural_add_32 ?_
      refine lv_topi (fun v32 e32 => ?_)
      rw [q_cl (k := i) (t_x4)] at e32
      refine lv_i2l hx hb d_Natural_add_33 rfl ?_
      refine lv_topl (fun v33 e33 => ?_)
      refine lv_ldc2 (v := 4294967295) hx hb hown (hts _ m_273) d_Natural_add_34 ?_
      refine lv_land hx hb d_Natural_add_37 ?_
      refine lv_topl (fun v37 e37 => ?_)
      refine lv_ladd hx hb d_Natural_add_38 ?_
      refine lv_topl (fun v38 e38 => ?_)
      refine lv_lstore_n (lv' := [(2, .long v38), (4, .int x4), (1, .ref h1), (0, .ref h0)]) hx hb d_Natural_add_39 rfl hl (by decide) rfl (fun ls hl => ?_)
      refine lv_aload_n hx hb d_Natural_add_40 rfl (lv_at hl 3 rfl) ?_
      refine va_get (D := (dC, dI)) (ci := 1) (v := .ref a0) (C := R_Natural) (T := F_Natural) (N := 1) hx hb hts u_Natural hown hK hP 0 rfl rfl 0 (by decide) (hts _ m_105) (fun _ h9 => h9) rfl d_Natural_add_41 ?_
      refine lv_iload hx hb d_Natural_add_44 (lv_at hl 1 rfl) ?_
      refine lv_lload_n hx hb d_Natural_add_46 rfl (lv_at hl 0 rfl) ?_
      refine lv_l2i hx hb d_Natural_add_47 rfl ?_
      refine lv_topi (fun v47 e47 => ?_)
      refine va_iast hx hb hK hP hD hS 1 0 rfl rfl (q_in t_x4 (by omega)) d_Natural_add_48 (fun H locs hP hD hS => ?_)
      rw [q_cl (k := i) (t_x4)] at hP hD
      have hP : va_P (dC, dI) vwCl [(h0, .inr (1, [.ref a0])), (a0, .inl (cI, 12, .inl (upd k i v47))), (h1, .inr (1, [.ref a1])), (a1, .inl (cI, 12, .inl g))] H := hP
      have hD : va_D A [(h0, .inr (1, [.ref a0])), (a0, .inl (cI, 12, .inl (upd k i v47))), (h1, .inr (1, [.ref a1])), (a1, .inl (cI, 12, .inl g))] := hD
      refine lv_lload_n hx hb d_Natural_add_49 rfl (lv_at hl 0 rfl) ?_
      refine lv_bipush (v := 32) hx hb d_Natural_add_50 (by decide) ?_
      refine lv_lushr hx hb d_Natural_add_52 rfl ?_
      refine lv_topl (fun v52 e52 => ?_)
      refine lv_lstore_n (lv' := [(2, .long v52), (4, .int x4), (1, .ref h1), (0, .ref h0)]) hx hb d_Natural_add_53 rfl hl (by decide) rfl (fun ls hl => ?_)
      obtain ⟨v54, e54⟩ : ∃ y : Int32, y = x4 + 1 := ⟨_, rfl⟩
      have t54 : v54.toInt = (i : Int) + 1 := by rw [e54]; exact q_iadd t_x4 (show (1 : Int32).toInt = 1 by decide) (by omega)
      refine lv_iinc (v := v54) (lv' := [(4, .int v54), (2, .long v52), (1, .ref h1), (0, .ref h0)]) hx hb d_Natural_add_54 hl (k := 1) rfl (by rw [e54]; rfl) (by decide) rfl (fun ls hl => ?_)
      refine lv_goto (tgt := 5) hx hb d_Natural_add_57 (by decide) ?_
      have hlf := uw_lt (f i)
      have hlg := uw_lt (g i)
      have k24 : ul v24 = uw (f i) := by rw [e24, e20, ul_i2l_lo, e19, hk i (Nat.le_refl i)]
      have k37 : ul v37 = uw (g i) := by rw [e37, e33, ul_i2l_lo, e32]
      have k25 : ul v25 = ul c2 + uw (f i) := by rw [e25, ul_add, k24, Nat.mod_eq_of_lt (by omega)]
      have k38 : ul v38 = ul c2 + uw (f i) + uw (g i) := by rw [e38, ul_add, k25, k37, Nat.mod_eq_of_lt (by omega)]
      have k47 : uw v47 = (ul c2 + uw (f i) + uw (g i)) % 4294967296 := by rw [e47, uw_l2i, k38]
      have k52 : ul v52 = (ul c2 + uw (f i) + uw (g i)) / 4294967296 := by rw [e52, ul_s32, k38]
      have hstep := nv_add_step hv k47
      exact ih (v54) (i + 1) (v52) (upd k i v47) H locs ls (by omega) ((t54).trans (by omega)) (by omega) (by intro j h; rw [pk_un (by omega)]; exact hk j (by omega)) (by rw [k52]; exact hstep) (by rw [k52]; omega) (va_Psub hP [0, 1, 2, 3] rfl) (hD.sub [0, 1, 2, 3] (by decide) rfl) hS (lv_sub hl [0, 1, 2, 3] rfl)
set_option maxHeartbeats 4000000 in
set_option maxRecDepth 100000 in
theorem c_Natural_add (l : Launch) (dC : Nat → ClassId) (dI : Nat → Nat → Nat) (cI cB cJ : ClassId) (h0 : Nat) (a0 : Nat) (f : Nat → Int32) (h1 : Nat) (a1 : Nat) (g : Nat → Int32)  : Cv l dC dI cI cB cJ y_Natural_add w_Natural_add ({ frames := 0, cells := 0, slots := 0, locals := 0 } : Room) [.ref h0, .ref h1] [(h0, .inr (1, [.ref a0])), (a0, .inl (cI, 12, .inl f)), (h1, .inr (1, [.ref a1])), (a1, .inl (cI, 12, .inl g))] (fun (u : (Nat → Int32)) => nv u 12 = (nv f 12 + nv g 12) % 2 ^ (32 * 12)) (fun u : (Nat → Int32) => [(h0, .inr (1, [.ref a0])), (a0, .inl (cI, 12, .inl u)), (h1, .inr (1, [.ref a1])), (a1, .inl (cI, 12, .inl g))]) := by
  refine Cv.intro (cc := b_Natural_add) (maxL := 5) (plainFor_of_name (by decide)) rfl (Nat.le_of_ble_eq_true rfl) ?_
  intro p e s m below meth c A ls C0 hin hA hP hD hS hl
  obtain ⟨hx, hb, hml, hown, hts, hr, hlocks, hK, hN⟩ := id C0
  obtain ⟨H, hH⟩ : ∃ H, H = s.heap := ⟨_, rfl⟩
  have hP : va_P (dC, dI) vwCl [(h0, .inr (1, [.ref a0])), (a0, .inl (cI, 12, .inl f)), (h1, .inr (1, [.ref a1])), (a1, .inl (cI, 12, .inl g))] s.heap := hP
  have hl : lv_has ls 5 [(0, .ref h0), (1, .ref h1)] := hl
  suffices h : ∀ (H : Heap) (locs : List Loc), va_P (dC, dI) vwCl [(h0, .inr (1, [.ref a0])), (a0, .inl (cI, 12, .inl f)), (h1, .inr (1, [.ref a1])), (a1, .inl (cI, 12, .inl g))] H → va_D A [(h0, .inr (1, [.ref a0])), (a0, .inl (cI, 12, .inl f)), (h1, .inr (1, [.ref a1])), (a1, .inl (cI, 12, .inl g))] → va_S A s.heap H locs → W p l e ({ frames := 0, cells := 0, slots := 0, locals := 0 } : Room) s m ([.ref h0, .ref h1] : List Value).toArray below meth c H locs 0 0 (MQ below (va_Qv (fun (u : (Nat → Int32)) => nv u 12 = (nv f 12 + nv g 12) % 2 ^ (32 * 12)) (poG dC dI A (fun u : (Nat → Int32) => [(h0, .inr (1, [.ref a0])), (a0, .inl (cI, 12, .inl u)), (h1, .inr (1, [.ref a1])), (a1, .inl (cI, 12, .inl g))])) A) ([.ref h0, .ref h1] : List Value).toArray s 0 0 A) (F0 m 0 ls []) from h _ _ hP hD hS
  clear hP hD hS hH H
  intro H locs hP hD hS
  refine lv_lconst (v := 0) hx hb d_Natural_add_0 (by decide) ?_
  refine lv_lstore_n (lv' := [(2, .long 0), (0, .ref h0), (1, .ref h1)]) hx hb d_Natural_add_1 rfl hl (by decide) rfl (fun ls hl => ?_)
  refine lv_iconst (v := 0) hx hb d_Natural_add_2 (by decide) ?_
  refine lv_istore (lv' := [(4, .int 0), (2, .long 0), (0, .ref h0), (1, .ref h1)]) hx hb d_Natural_add_3 hl (by decide) rfl (fun ls hl => ?_)
  exact L_Natural_add_5 (h0) (a0) (f) (h1) (a1) (g) C0 hA  _ (0) (0) (0) (f) H locs ls (Nat.lt_succ_self _) (((show (0 : Int32).toInt = 0 by decide)).trans (by omega)) (by omega) (by intro j h; rfl) (by rfl) (by decide) (va_Psub hP [0, 1, 2, 3] rfl) (hD.sub [0, 1, 2, 3] (by decide) rfl) hS (lv_sub hl [0, 1, 3, 2] rfl)
set_option maxHeartbeats 4000000 in
set_option maxRecDepth 100000 in
theorem L_Natural_subtract_5 {p : Program} {l : Launch} {e : Env} {s : State} {m : MethodId} {below : List Frame} {meth : Method} {c : Code} {dC : Nat → ClassId} {dI : Nat → Nat → Nat} {cI cB cJ : ClassId} {A : Nat → Prop} (h0 : Nat) (a0 : Nat) (f : Nat → Int32) (h1 : Nat) (a1 : Nat) (g : Nat → Int32) (C0 : cx dC dI cI cB cJ R_Natural b_Natural_subtract 5 none p s m ([.ref h0, .ref h1] : List Value).toArray meth c) (hA : ∀ q : Nat, s.heap.size ≤ q → A q) (hle : nv g 12 ≤ nv f 12) : ∀ n : Nat, (∀ (x4 : Int32) (i : Nat) (c2 : Int64) (b : Int) (k : Nat → Int32) (H : Heap) (locs : List Loc) (ls : Array Slot), 12 - i < n → x4.toInt = (i : Int) → c2.toInt = b → (i ≤ 12) → (∀ j, i ≤ j → k j = f j) → ((nv k i : Int) + b * (2 ^ (32 * i) : Nat) = (nv f i : Int) - nv g i) → (b = 0 ∨ b = -1) → va_P (dC, dI) vwCl [(h0, .inr (1, [.ref a0])), (a0, .inl (cI, 12, .inl k)), (h1, .inr (1, [.ref a1])), (a1, .inl (cI, 12, .inl g))] H → va_D A [(h0, .inr (1, [.ref a0])), (a0, .inl (cI, 12, .inl k)), (h1, .inr (1, [.ref a1])), (a1, .inl (cI, 12, .inl g))] → va_S A s.heap H locs → lv_has ls 5 [(4, .int x4), (2, .long c2), (1, .ref h1), (0, .ref h0)] → W p l e ({ frames := 0, cells := 0, slots := 0, locals := 0 } : Room) s m ([.ref h0, .ref h1] : List Value).toArray below meth c H locs 0 0 (MQ below (va_Qv (fun (u : (Nat → Int32)) => nv u 12 = nv f 12 - nv g 12) (poG dC dI A (fun u : (Nat → Int32) => [(h0, .inr (1, [.ref a0])), (a0, .inl (cI, 12, .inl u)), (h1, .inr (1, [.ref a1])), (a1, .inl (cI, 12, .inl g))])) A) ([.ref h0, .ref h1] : List Value).toArray s 0 0 A) (F0 m 5 ls [])) := by
  obtain ⟨hx, hb, hml, hown, hts, hr, hlocks, hK, hN⟩ := id C0
  intro n
  induction n with
  | zero => exact fun _ _ _ _ _ _ _ _ h0 _ _ _ _ _ _ _ _ _ _ => absurd h0 (Nat.not_lt_zero _)
  | succ n ih =>
    intro x4 i c2 b k H locs ls hn9 t_x4 t_c2 hi hk hv hc hP hD hS hl
    have r_x4 := q_r32 x4
    have r_c2 := q_r64 c2
    refine lv_iload hx hb d_Natural_subtract_5 (lv_at hl 0 rfl) ?_
    refine lv_bipush (v := 12) hx hb d_Natural_subtract_7 (by decide) ?_
    refine lv_icmp_ge (tgt := 60) hx hb d_Natural_subtract_9 (by decide) (fun b9 => ?_) (fun b9 => ?_)
    · skip
      rw [q_ile (show (12 : Int32).toInt = 12 by decide) t_x4] at b9
      have hi2 : i = 12 := by omega
      subst hi2
      have hlt := nv_lt k 12
      have hlf := nv_lt f 12
      exact Cv.ret C0 (u := (k)) (Nat.le_of_ble_eq_true rfl) (Nat.le_of_ble_eq_true rfl) (by show nv k 12 = nv f 12 - nv g 12; exact sub_end hv hc hle) hP hD hS [0, 1, 2, 3] (by decide) rfl d_Natural_subtract_60
    · skip
      rw [q_ile (show (12 : Int32).toInt = 12 by decide) t_x4] at b9
      refine lv_lload_n hx hb d_Natural_subtract_12 rfl (lv_at hl 1 rfl) ?_
      refine lv_aload_n hx hb d_Natural_subtract_13 rfl (lv_at hl 3 rfl) ?_
      refine va_get (D := (dC, dI)) (ci := 1) (v := .ref a0) (C := R_Natural) (T := F_Natural) (N := 1) hx hb hts u_Natural hown hK hP 0 rfl rfl 0 (by decide) (hts _ m_105) (fun _ h9 => h9) rfl d_Natural_subtract_14 ?_
      refine lv_iload hx hb d_Natural_subtract_17 (lv_at hl 0 rfl) ?_
      refine va_iald hx hb hK hP 1 0 rfl rfl (q_in t_x4 (by omega)) d_Natural_subtract_19 ?_
      refine lv_topi (fun v19 e19 => ?_)
      rw [q_cl (k := i) (t_x4)] at e19
      refine lv_i2l hx hb d_Natural_subtract_20 rfl ?_
      refine lv_topl (fun v20 e20 => ?_)
      refine lv_ldc2 (v := 4294967295) hx hb hown (hts _ m_273) d_Natural_subtract_21 ?_
      refine lv_land hx hb d_Natural_subtract_24 ?_
      refine lv_topl (fun v24 e24 => ?_)
      have t24 : v24.toInt = (uw v19 : Int) := by rw [e24, e20]; exact q_lo v19
      have hl19 := uw_lt v19
      refine lv_ladd hx hb d_Natural_subtract_25 ?_
      refine lv_topl (fun v25 e25 => ?_)
      have t25 : v25.toInt = b + (uw v19 : Int) := by rw [e25]; exact q_ladd t_c2 t24 (by omega)
      refine lv_aload_n hx hb d_Natural_subtract_26 rfl (lv_at hl 2 rfl) ?_
      refine va_get (D := (dC, dI)) (ci := 1) (v := .ref a1) (C := R_Natural) (T := F_Natural) (N := 1) hx hb hts u_Natural hown hK hP 2 rfl rfl 0 (by decide) (hts _ m_105) (fun _ h9 => h9) rfl d_Natural_subtract_27 ?_
      refine lv_iload hx hb d_Natural_subtract_30 (lv_at hl 0 rfl) ?_
      refine va_iald hx hb hK hP 3 0 rfl rfl (q_in t_x4 (by omega)) d_Natural_subtract_32 ?_
      refine lv_topi (fun v32 e32 => ?_)
      rw [q_cl (k := i) (t_x4)] at e32
      refine lv_i2l hx hb d_Natural_subtract_33 rfl ?_
      refine lv_topl (fun v33 e33 => ?_)
      refine lv_ldc2 (v := 4294967295) hx hb hown (hts _ m_273) d_Natural_subtract_34 ?_
      refine lv_land hx hb d_Natural_subtract_37 ?_
      refine lv_topl (fun v37 e37 => ?_)
      have t37 : v37.toInt = (uw v32 : Int) := by rw [e37, e33]; exact q_lo v32
      have hl32 := uw_lt v32
      refine lv_lsub hx hb d_Natural_subtract_38 ?_
      refine lv_topl (fun v38 e38 => ?_)
      have t38 : v38.toInt = (b + (uw v19 : Int)) - (uw v32 : Int) := by rw [e38]; exact q_lsub t25 t37 (by omega)
      refine lv_lstore_n (lv' := [(2, .long v38), (4, .int x4), (1, .ref h1), (0, .ref h0)]) hx hb d_Natural_subtract_39 rfl hl (by decide) rfl (fun ls hl => ?_)
      refine lv_aload_n hx hb d_Natural_subtract_40 rfl (lv_at hl 3 rfl) ?_
      refine va_get (D := (dC, dI)) (ci := 1) (v := .ref a0) (C := R_Natural) (T := F_Natural) (N := 1) hx hb hts u_Natural hown hK hP 0 rfl rfl 0 (by decide) (hts _ m_105) (fun _ h9 => h9) rfl d_Natural_subtract_41 ?_
      refine lv_iload hx hb d_Natural_subtract_44 (lv_at hl 1 rfl) ?_
      refine lv_lload_n hx hb d_Natural_subtract_46 rfl (lv_at hl 0 rfl) ?_
      refine lv_l2i hx hb d_Natural_subtract_47 rfl ?_
      refine lv_topi (fun v47 e47 => ?_)
      refine va_iast hx hb hK hP hD hS 1 0 rfl rfl (q_in t_x4 (by omega)) d_Natural_subtract_48 (fun H locs hP hD hS => ?_)
      rw [q_cl (k := i) (t_x4)] at hP hD
      have hP : va_P (dC, dI) vwCl [(h0, .inr (1, [.ref a0])), (a0, .inl (cI, 12, .inl (upd k i v47))), (h1, .inr (1, [.ref a1])), (a1, .inl (cI, 12, .inl g))] H := hP
      have hD : va_D A [(h0, .inr (1, [.ref a0])), (a0, .inl (cI, 12, .inl (upd k i v47))), (h1, .inr (1, [.ref a1])), (a1, .inl (cI, 12, .inl g))] := hD
      refine lv_lload_n hx hb d_Natural_subtract_49 rfl (lv_at hl 0 rfl) ?_
      refine lv_bipush (v := 32) hx hb d_Natural_subtract_50 (by decide) ?_
      refine lv_lshr hx hb d_Natural_subtract_52 rfl ?_
      refine lv_topl (fun v52 e52 => ?_)
      have t52 : v52.toInt = (b + (uw v19 : Int) - (uw v32 : Int)) / 4294967296 := by rw [e52]; exact q_sar32 t38
      refine lv_lstore_n (lv' := [(2, .long v52), (4, .int x4), (1, .ref h1), (0, .ref h0)]) hx hb d_Natural_subtract_53 rfl hl (by decide) rfl (fun ls hl => ?_)
      obtain ⟨v54, e54⟩ : ∃ y : Int32, y = x4 + 1 := ⟨_, rfl⟩
      have t54 : v54.toInt = (i : Int) + 1 := by rw [e54]; exact q_iadd t_x4 (show (1 : Int32).toInt = 1 by decide) (by omega)
      refine lv_iinc (v := v54) (lv' := [(4, .int v54), (2, .long v52), (1, .ref h1), (0, .ref h0)]) hx hb d_Natural_subtract_54 hl (k := 1) rfl (by rw [e54]; rfl) (by decide) rfl (fun ls hl => ?_)
      refine lv_goto (tgt := 5) hx hb d_Natural_subtract_57 (by decide) ?_
      have k47 : (uw v47 : Int) = (b + (uw (f i) : Int) - (uw (g i) : Int)) % 4294967296 := by rw [e47, uw_l2i_int t38, e19, e32, hk i (Nat.le_refl i)]
      have hstep := nv_sub_step hv k47
      have z19 : v19 = f i := by rw [e19, hk i (Nat.le_refl i)]
      exact ih (v54) (i + 1) (v52) ((b + (uw v19 : Int) - (uw v32 : Int)) / 4294967296) (upd k i v47) H locs ls (by omega) ((t54).trans (by omega)) ((t52).trans (by omega)) (by omega) (by intro j h; rw [pk_un (by omega)]; exact hk j (by omega)) (by rw [z19, e32]; exact hstep) (by omega) (va_Psub hP [0, 1, 2, 3] rfl) (hD.sub [0, 1, 2, 3] (by decide) rfl) hS (lv_sub hl [0, 1, 2, 3] rfl)
set_option maxHeartbeats 4000000 in
set_option maxRecDepth 100000 in
theorem c_Natural_subtract (l : Launch) (dC : Nat → ClassId) (dI : Nat → Nat → Nat) (cI cB cJ : ClassId) (h0 : Nat) (a0 : Nat) (f : Nat → Int32) (h1 : Nat) (a1 : Nat) (g : Nat → Int32) (hle : nv g 12 ≤ nv f 12) : Cv l dC dI cI cB cJ y_Natural_subtract w_Natural_subtract ({ frames := 0, cells := 0, slots := 0, locals := 0 } : Room) [.ref h0, .ref h1] [(h0, .inr (1, [.ref a0])), (a0, .inl (cI, 12, .inl f)), (h1, .inr (1, [.ref a1])), (a1, .inl (cI, 12, .inl g))] (fun (u : (Nat → Int32)) => nv u 12 = nv f 12 - nv g 12) (fun u : (Nat → Int32) => [(h0, .inr (1, [.ref a0])), (a0, .inl (cI, 12, .inl u)), (h1, .inr (1, [.ref a1])), (a1, .inl (cI, 12, .inl g))]) := by
  refine Cv.intro (cc := b_Natural_subtract) (maxL := 5) (plainFor_of_name (by decide)) rfl (Nat.le_of_ble_eq_true rfl) ?_
  intro p e s m below meth c A ls C0 hin hA hP hD hS hl
  obtain ⟨hx, hb, hml, hown, hts, hr, hlocks, hK, hN⟩ := id C0
  obtain ⟨H, hH⟩ : ∃ H, H = s.heap := ⟨_, rfl⟩
  have hP : va_P (dC, dI) vwCl [(h0, .inr (1, [.ref a0])), (a0, .inl (cI, 12, .inl f)), (h1, .inr (1, [.ref a1])), (a1, .inl (cI, 12, .inl g))] s.heap := hP
  have hl : lv_has ls 5 [(0, .ref h0), (1, .ref h1)] := hl
  suffices h : ∀ (H : Heap) (locs : List Loc), va_P (dC, dI) vwCl [(h0, .inr (1, [.ref a0])), (a0, .inl (cI, 12, .inl f)), (h1, .inr (1, [.ref a1])), (a1, .inl (cI, 12, .inl g))] H → va_D A [(h0, .inr (1, [.ref a0])), (a0, .inl (cI, 12, .inl f)), (h1, .inr (1, [.ref a1])), (a1, .inl (cI, 12, .inl g))] → va_S A s.heap H locs → W p l e ({ frames := 0, cells := 0, slots := 0, locals := 0 } : Room) s m ([.ref h0, .ref h1] : List Value).toArray below meth c H locs 0 0 (MQ below (va_Qv (fun (u : (Nat → Int32)) => nv u 12 = nv f 12 - nv g 12) (poG dC dI A (fun u : (Nat → Int32) => [(h0, .inr (1, [.ref a0])), (a0, .inl (cI, 12, .inl u)), (h1, .inr (1, [.ref a1])), (a1, .inl (cI, 12, .inl g))])) A) ([.ref h0, .ref h1] : List Value).toArray s 0 0 A) (F0 m 0 ls []) from h _ _ hP hD hS
  clear hP hD hS hH H
  intro H locs hP hD hS
  refine lv_lconst (v := 0) hx hb d_Natural_subtract_0 (by decide) ?_
  refine lv_lstore_n (lv' := [(2, .long 0), (0, .ref h0), (1, .ref h1)]) hx hb d_Natural_subtract_1 rfl hl (by decide) rfl (fun ls hl => ?_)
  refine lv_iconst (v := 0) hx hb d_Natural_subtract_2 (by decide) ?_
  refine lv_istore (lv' := [(4, .int 0), (2, .long 0), (0, .ref h0), (1, .ref h1)]) hx hb d_Natural_subtract_3 hl (by decide) rfl (fun ls hl => ?_)
  exact L_Natural_subtract_5 (h0) (a0) (f) (h1) (a1) (g) C0 hA (hle) _ (0) (0) (0) (0) (f) H locs ls (Nat.lt_succ_self _) (((show (0 : Int32).toInt = 0 by decide)).trans (by omega)) (((show (0 : Int64).toInt = 0 by decide)).trans (by omega)) (by omega) (by intro j h; rfl) (by rfl) (by exact Or.inl rfl) (va_Psub hP [0, 1, 2, 3] rfl) (hD.sub [0, 1, 2, 3] (by decide) rfl) hS (lv_sub hl [0, 1, 3, 2] rfl)
set_option maxHeartbeats 4000000 in
set_option maxRecDepth 100000 in
theorem L_Natural_timesPowerOfFive_25 {p : Program} {l : Launch} {e : Env} {s : State} {m : MethodId} {below : List Frame} {meth : Method} {c : Code} {dC : Nat → ClassId} {dI : Nat → Nat → Nat} {cI cB cJ : ClassId} {A : Nat → Prop} (h0 : Nat) (a0 : Nat) (f : Nat → Int32) (pw : Int32) (n0 : Nat) (C0 : cx dC dI cI cB cJ R_Natural b_Natural_timesPowerOfFive 4 none p s m ([.ref h0, .int pw] : List Value).toArray meth c) (hA : ∀ q : Nat, s.heap.size ≤ q → A q) (hpw : pw.toInt = (n0 : Int)) : ∀ n : Nat, (∀ (x2 : Int32) (x3 : Int32) (d : Nat) (q : Nat) (k : Nat → Int32) (H : Heap) (locs : List Loc) (ls : Array Slot), d < n → x3.toInt = ((5 ^ q : Nat) : Int) → x2.toInt = (d : Int) → (d + q ≤ n0) → (d + q ≤ 12) → (nv k 12 = nv f 12 * 5 ^ (n0 - (d + q)) % 2 ^ (32 * 12)) → va_P (dC, dI) vwCl [(h0, .inr (1, [.ref a0])), (a0, .inl (cI, 12, .inl k))] H → va_D A [(h0, .inr (1, [.ref a0])), (a0, .inl (cI, 12, .inl k))] → va_S A s.heap H locs → lv_has ls 4 [(3, .int x3), (2, .int x2), (0, .ref h0)] → W p l e ({ frames := 1, cells := 0, slots := 0, locals := 25 } : Room) s m ([.ref h0, .int pw] : List Value).toArray below meth c H locs 0 0 (MQ below (va_Qv (fun (u : (Nat → Int32)) => nv u 12 = nv f 12 * 5 ^ n0 % 2 ^ (32 * 12)) (poG dC dI A (fun u : (Nat → Int32) => [(h0, .inr (1, [.ref a0])), (a0, .inl (cI, 12, .inl u))])) A) ([.ref h0, .int pw] : List Value).toArray s 0 0 A) (F0 m 25 ls [])) := by
  obtain ⟨hx, hb, hml, hown, hts, hr, hlocks, hK, hN⟩ := id C0
  intro n
  induction n with
  | zero => exact fun _ _ _ _ _ _ _ _ h0 _ _ _ _ _ _ _ _ _ => absurd h0 (Nat.not_lt_zero _)
  | succ n ih =>
    intro x2 x3 d q k H locs ls hn9 t_x3 t_x2 hd hq hv hP hD hS hl
    have r_x3 := q_r32 x3
    have r_x2 := q_r32 x2
    refine lv_iload_n hx hb d_Natural_timesPowerOfFive_25 rfl (lv_at hl 1 rfl) ?_
    refine lv_if_le (tgt := 39) hx hb d_Natural_timesPowerOfFive_26 (by decide) (fun b26 => ?_) (fun b26 => ?_)
    · skip
      rw [q_ile t_x2 (show (0 : Int32).toInt = 0 by decide)] at b26
      refine lv_aload_n hx hb d_Natural_timesPowerOfFive_39 rfl (lv_at hl 2 rfl) ?_
      refine lv_iload_n hx hb d_Natural_timesPowerOfFive_40 rfl (lv_at hl 0 rfl) ?_
      refine lv_iconst (v := 0) hx hb d_Natural_timesPowerOfFive_41 (by decide) ?_
      refine callV_v (wr := []) C0 (c_Natural_timesPlus l dC dI cI cB cJ (h0) (a0) (k) (x3) ((0 : Int32)) (by rw [t_x3]; exact Int.natCast_nonneg _) (by decide)) (cwV 2 hts (gV m_356 m_270 m_271 m_51 m_272) rfl rfl rfl (by decide +kernel) ⟨Nat.le_of_ble_eq_true rfl, Nat.le_of_ble_eq_true rfl⟩) 1 rfl rfl 0 rfl hP hD hS hA [0, 1] [] rfl rfl (by decide) (by decide) (by decide) rfl hl.1 rfl (Nat.le_of_ble_eq_true rfl) d_Natural_timesPowerOfFive_42 ⟨Nat.le_of_ble_eq_true rfl, Nat.le_of_ble_eq_true rfl⟩ (fun k42 H locs hw9 hP hD hS => ?_)
      have h42 : nv k42 12 = (nv k 12 * uw x3 + uw (0 : Int32)) % 2 ^ (32 * 12) := hw9
      have hP : va_P (dC, dI) vwCl [(h0, .inr (1, [.ref a0])), (a0, .inl (cI, 12, .inl k42))] H := hP
      have hD : va_D A [(h0, .inr (1, [.ref a0])), (a0, .inl (cI, 12, .inl k42))] := hD
      have hd0 : d = 0 := by omega
      subst hd0
      exact Cv.ret C0 (u := (k42)) (Nat.le_of_ble_eq_true rfl) (Nat.le_of_ble_eq_true rfl) (by show nv k42 12 = nv f 12 * 5 ^ n0 % 2 ^ (32 * 12); rw [h42, hv, uw_of t_x3, show uw 0 = 0 by decide, Nat.add_zero, mm, Nat.mul_assoc, ← Nat.pow_add, show n0 - (0 + q) + q = n0 by omega]) hP hD hS [0, 1] (by decide) rfl d_Natural_timesPowerOfFive_45
    · skip
      rw [q_ile t_x2 (show (0 : Int32).toInt = 0 by decide)] at b26
      refine lv_iload_n hx hb d_Natural_timesPowerOfFive_29 rfl (lv_at hl 0 rfl) ?_
      refine lv_iconst (v := 5) hx hb d_Natural_timesPowerOfFive_30 (by decide) ?_
      have hp5 : 5 ^ (q + 1) ≤ 5 ^ 12 := Nat.pow_le_pow_right (by decide) (by omega)
      rw [Nat.pow_succ] at hp5
      have hp6 : (5 : Nat) ^ 12 = 244140625 := by decide
      refine lv_imul hx hb d_Natural_timesPowerOfFive_31 ?_
      refine lv_topi (fun v31 e31 => ?_)
      have t31 : v31.toInt = (((5 ^ q : Nat) : Int)) * 5 := by rw [e31]; exact q_imul t_x3 (show (5 : Int32).toInt = 5 by decide) (by omega)
      refine lv_istore_n (lv' := [(3, .int v31), (2, .int x2), (0, .ref h0)]) hx hb d_Natural_timesPowerOfFive_32 rfl hl (by decide) rfl (fun ls hl => ?_)
      obtain ⟨v33, e33⟩ : ∃ y : Int32, y = x2 + (-1) := ⟨_, rfl⟩
      have t33 : v33.toInt = (d : Int) + (-1) := by rw [e33]; exact q_iadd t_x2 (show ((-1) : Int32).toInt = (-1) by decide) (by omega)
      refine lv_iinc (v := v33) (lv' := [(2, .int v33), (3, .int v31), (0, .ref h0)]) hx hb d_Natural_timesPowerOfFive_33 hl (k := 1) rfl (by rw [e33]; rfl) (by decide) rfl (fun ls hl => ?_)
      refine lv_goto (tgt := 25) hx hb d_Natural_timesPowerOfFive_36 (by decide) ?_
      exact ih (v33) (v31) (d - 1) (q + 1) (k) H locs ls (by omega) (t31.trans (by rw [Nat.pow_succ]; omega)) ((t33).trans (by omega)) (by omega) (by omega) (by rw [show d - 1 + (q + 1) = d + q by omega]; exact hv) (va_Psub hP [0, 1] rfl) (hD.sub [0, 1] (by decide) rfl) hS (lv_sub hl [1, 0, 2] rfl)
set_option maxHeartbeats 4000000 in
set_option maxRecDepth 100000 in
theorem L_Natural_timesPowerOfFive_2 {p : Program} {l : Launch} {e : Env} {s : State} {m : MethodId} {below : List Frame} {meth : Method} {c : Code} {dC : Nat → ClassId} {dI : Nat → Nat → Nat} {cI cB cJ : ClassId} {A : Nat → Prop} (h0 : Nat) (a0 : Nat) (f : Nat → Int32) (pw : Int32) (n0 : Nat) (C0 : cx dC dI cI cB cJ R_Natural b_Natural_timesPowerOfFive 4 none p s m ([.ref h0, .int pw] : List Value).toArray meth c) (hA : ∀ q : Nat, s.heap.size ≤ q → A q) (hpw : pw.toInt = (n0 : Int)) : ∀ n : Nat, (∀ (x2 : Int32) (d : Nat) (k : Nat → Int32) (H : Heap) (locs : List Loc) (ls : Array Slot), d < n → x2.toInt = (d : Int) → (d ≤ n0) → (nv k 12 = nv f 12 * 5 ^ (n0 - d) % 2 ^ (32 * 12)) → va_P (dC, dI) vwCl [(h0, .inr (1, [.ref a0])), (a0, .inl (cI, 12, .inl k))] H → va_D A [(h0, .inr (1, [.ref a0])), (a0, .inl (cI, 12, .inl k))] → va_S A s.heap H locs → lv_has ls 4 [(2, .int x2), (0, .ref h0)] → W p l e ({ frames := 1, cells := 0, slots := 0, locals := 25 } : Room) s m ([.ref h0, .int pw] : List Value).toArray below meth c H locs 0 0 (MQ below (va_Qv (fun (u : (Nat → Int32)) => nv u 12 = nv f 12 * 5 ^ n0 % 2 ^ (32 * 12)) (poG dC dI A (fun u : (Nat → Int32) => [(h0, .inr (1, [.ref a0])), (a0, .inl (cI, 12, .inl u))])) A) ([.ref h0, .int pw] : List Value).toArray s 0 0 A) (F0 m 2 ls [])) := by
  obtain ⟨hx, hb, hml, hown, hts, hr, hlocks, hK, hN⟩ := id C0
  intro n
  induction n with
  | zero => exact fun _ _ _ _ _ _ h0 _ _ _ _ _ _ _ => absurd h0 (Nat.not_lt_zero _)
  | succ n ih =>
    intro x2 d k H locs ls hn9 t_x2 hd hv hP hD hS hl
    have r_x2 := q_r32 x2
    refine lv_iload_n hx hb d_Natural_timesPowerOfFive_2 rfl (lv_at hl 0 rfl) ?_
    refine lv_bipush (v := 13) hx hb d_Natural_timesPowerOfFive_3 (by decide) ?_
    refine lv_icmp_lt (tgt := 23) hx hb d_Natural_timesPowerOfFive_5 (by decide) (fun b5 => ?_) (fun b5 => ?_)
    · skip
      rw [q_ilt t_x2 (show (13 : Int32).toInt = 13 by decide)] at b5
      refine lv_iconst (v := 1) hx hb d_Natural_timesPowerOfFive_23 (by decide) ?_
      refine lv_istore_n (lv' := [(3, .int 1), (2, .int x2), (0, .ref h0)]) hx hb d_Natural_timesPowerOfFive_24 rfl hl (by decide) rfl (fun ls hl => ?_)
      exact L_Natural_timesPowerOfFive_25 (h0) (a0) (f) (pw) (n0) C0 hA (hpw) _ (x2) (1) (d) (0) (k) H locs ls (Nat.lt_succ_self _) (show (1 : Int32).toInt = ((5 ^ 0 : Nat) : Int) by decide) ((t_x2).trans (by omega)) (by omega) (by omega) (by exact hv) (va_Psub hP [0, 1] rfl) (hD.sub [0, 1] (by decide) rfl) hS (lv_sub hl [0, 1, 2] rfl)
    · skip
      rw [q_ilt t_x2 (show (13 : Int32).toInt = 13 by decide)] at b5
      refine lv_aload_n hx hb d_Natural_timesPowerOfFive_8 rfl (lv_at hl 1 rfl) ?_
      refine lv_ldc (v := 1220703125) hx hb hown (hts _ m_355) d_Natural_timesPowerOfFive_9 ?_
      refine lv_iconst (v := 0) hx hb d_Natural_timesPowerOfFive_11 (by decide) ?_
      refine callV_v (wr := []) C0 (c_Natural_timesPlus l dC dI cI cB cJ (h0) (a0) (k) ((1220703125 : Int32)) ((0 : Int32)) (by decide) (by decide)) (cwV 2 hts (gV m_356 m_270 m_271 m_51 m_272) rfl rfl rfl (by decide +kernel) ⟨Nat.le_of_ble_eq_true rfl, Nat.le_of_ble_eq_true rfl⟩) 1 rfl rfl 0 rfl hP hD hS hA [0, 1] [] rfl rfl (by decide) (by decide) (by decide) rfl hl.1 rfl (Nat.le_of_ble_eq_true rfl) d_Natural_timesPowerOfFive_12 ⟨Nat.le_of_ble_eq_true rfl, Nat.le_of_ble_eq_true rfl⟩ (fun k12 H locs hw9 hP hD hS => ?_)
      have h12 : nv k12 12 = (nv k 12 * uw (1220703125 : Int32) + uw (0 : Int32)) % 2 ^ (32 * 12) := hw9
      have hP : va_P (dC, dI) vwCl [(h0, .inr (1, [.ref a0])), (a0, .inl (cI, 12, .inl k12))] H := hP
      have hD : va_D A [(h0, .inr (1, [.ref a0])), (a0, .inl (cI, 12, .inl k12))] := hD
      refine lv_iload_n hx hb d_Natural_timesPowerOfFive_15 rfl (lv_at hl 0 rfl) ?_
      refine lv_bipush (v := 13) hx hb d_Natural_timesPowerOfFive_16 (by decide) ?_
      refine lv_isub hx hb d_Natural_timesPowerOfFive_18 ?_
      refine lv_topi (fun v18 e18 => ?_)
      have t18 : v18.toInt = (d : Int) - 13 := by rw [e18]; exact q_isub t_x2 (show (13 : Int32).toInt = 13 by decide) (by omega)
      refine lv_istore_n (lv' := [(2, .int v18), (0, .ref h0)]) hx hb d_Natural_timesPowerOfFive_19 rfl hl (by decide) rfl (fun ls hl => ?_)
      refine lv_goto (tgt := 2) hx hb d_Natural_timesPowerOfFive_20 (by decide) ?_
      exact ih (v18) (d - 13) (k12) H locs ls (by omega) ((t18).trans (by omega)) (by omega) (by rw [h12, hv, show uw 1220703125 = 5 ^ 13 by decide, show uw 0 = 0 by decide, Nat.add_zero, mm, Nat.mul_assoc, ← Nat.pow_add, show n0 - d + 13 = n0 - (d - 13) by omega]) (va_Psub hP [0, 1] rfl) (hD.sub [0, 1] (by decide) rfl) hS (lv_sub hl [0, 1] rfl)
set_option maxHeartbeats 4000000 in
set_option maxRecDepth 100000 in
theorem c_Natural_timesPowerOfFive (l : Launch) (dC : Nat → ClassId) (dI : Nat → Nat → Nat) (cI cB cJ : ClassId) (h0 : Nat) (a0 : Nat) (f : Nat → Int32) (pw : Int32) (n0 : Nat) (hpw : pw.toInt = (n0 : Int)) : Cv l dC dI cI cB cJ y_Natural_timesPowerOfFive w_Natural_timesPowerOfFive ({ frames := 1, cells := 0, slots := 0, locals := 25 } : Room) [.ref h0, .int pw] [(h0, .inr (1, [.ref a0])), (a0, .inl (cI, 12, .inl f))] (fun (u : (Nat → Int32)) => nv u 12 = nv f 12 * 5 ^ n0 % 2 ^ (32 * 12)) (fun u : (Nat → Int32) => [(h0, .inr (1, [.ref a0])), (a0, .inl (cI, 12, .inl u))]) := by
  refine Cv.intro (cc := b_Natural_timesPowerOfFive) (maxL := 4) (plainFor_of_name (by decide)) rfl (Nat.le_of_ble_eq_true rfl) ?_
  intro p e s m below meth c A ls C0 hin hA hP hD hS hl
  obtain ⟨hx, hb, hml, hown, hts, hr, hlocks, hK, hN⟩ := id C0
  obtain ⟨H, hH⟩ : ∃ H, H = s.heap := ⟨_, rfl⟩
  have hP : va_P (dC, dI) vwCl [(h0, .inr (1, [.ref a0])), (a0, .inl (cI, 12, .inl f))] s.heap := hP
  have hl : lv_has ls 4 [(0, .ref h0), (1, .int pw)] := hl
  have r_pw := q_r32 pw
  suffices h : ∀ (H : Heap) (locs : List Loc), va_P (dC, dI) vwCl [(h0, .inr (1, [.ref a0])), (a0, .inl (cI, 12, .inl f))] H → va_D A [(h0, .inr (1, [.ref a0])), (a0, .inl (cI, 12, .inl f))] → va_S A s.heap H locs → W p l e ({ frames := 1, cells := 0, slots := 0, locals := 25 } : Room) s m ([.ref h0, .int pw] : List Value).toArray below meth c H locs 0 0 (MQ below (va_Qv (fun (u : (Nat → Int32)) => nv u 12 = nv f 12 * 5 ^ n0 % 2 ^ (32 * 12)) (poG dC dI A (fun u : (Nat → Int32) => [(h0, .inr (1, [.ref a0])), (a0, .inl (cI, 12, .inl u))])) A) ([.ref h0, .int pw] : List Value).toArray s 0 0 A) (F0 m 0 ls []) from h _ _ hP hD hS
  clear hP hD hS hH H
  intro H locs hP hD hS
  refine lv_iload_n hx hb d_Natural_timesPowerOfFive_0 rfl (lv_at hl 1 rfl) ?_
  refine lv_istore_n (lv' := [(2, .int pw), (0, .ref h0), (1, .int pw)]) hx hb d_Natural_timesPowerOfFive_1 rfl hl (by decide) rfl (fun ls hl => ?_)
  exact L_Natural_timesPowerOfFive_2 (h0) (a0) (f) (pw) (n0) C0 hA (hpw) _ (pw) (n0) (f) H locs ls (Nat.lt_succ_self _) ((hpw).trans (by omega)) (by omega) (by rw [Nat.sub_self, Nat.pow_zero, Nat.mul_one, Nat.mod_eq_of_lt (nv_lt f 12)]) (va_Psub hP [0, 1] rfl) (hD.sub [0, 1] (by decide) rfl) hS (lv_sub hl [0, 1] rfl)
set_option maxHeartbeats 4000000 in
set_option maxRecDepth 100000 in
theorem L_Natural_shiftLeft_18 {p : Program} {l : Launch} {e : Env} {s : State} {m : MethodId} {below : List Frame} {meth : Method} {c : Code} {dC : Nat → ClassId} {dI : Nat → Nat → Nat} {cI cB cJ : ClassId} {A : Nat → Prop} (h0 : Nat) (a0 : Nat) (f : Nat → Int32) (x : Int32) (n0 : Nat) (C0 : cx dC dI cI cB cJ R_Natural b_Natural_shiftLeft 9 none p s m ([.ref h0, .int x] : List Value).toArray meth c) (hA : ∀ q : Nat, s.heap.size ≤ q → A q) (hx0 : x.toInt = (n0 : Int)) : ∀ n : Nat, (∀ (x2 : Int32) (x3 : Int32) (x4 : Int32) (i : Nat) (k : Nat → Int32) (H : Heap) (locs : List Loc) (ls : Array Slot), i < n → x4.toInt = (i : Int) - 1 → x3.toInt = ((n0 % 32 : Nat) : Int) → x2.toInt = ((n0 / 32 : Nat) : Int) → (i ≤ 12) → (∀ j, j < i → k j = f j) → (∀ j, i ≤ j → j < 12 → uw (k j) = shw f (n0 / 32) (n0 % 32) j) → va_P (dC, dI) vwCl [(h0, .inr (1, [.ref a0])), (a0, .inl (cI, 12, .inl k))] H → va_D A [(h0, .inr (1, [.ref a0])), (a0, .inl (cI, 12, .inl k))] → va_S A s.heap H locs → lv_has ls 9 [(4, .int x4), (3, .int x3), (2, .int x2), (0, .ref h0)] → W p l e ({ frames := 1, cells := 0, slots := 0, locals := 21 } : Room) s m ([.ref h0, .int x] : List Value).toArray below meth c H locs 0 0 (MQ below (va_Qv (fun (u : (Nat → Int32)) => nv u 12 = nv f 12 * 2 ^ n0 % 2 ^ (32 * 12)) (poG dC dI A (fun u : (Nat → Int32) => [(h0, .inr (1, [.ref a0])), (a0, .inl (cI, 12, .inl u))])) A) ([.ref h0, .int x] : List Value).toArray s 0 0 A) (F0 m 18 ls [])) := by
  obtain ⟨hx, hb, hml, hown, hts, hr, hlocks, hK, hN⟩ := id C0
  intro n
  induction n with
  | zero => exact fun _ _ _ _ _ _ _ _ h0 _ _ _ _ _ _ _ _ _ _ => absurd h0 (Nat.not_lt_zero _)
  | succ n ih =>
    intro x2 x3 x4 i k H locs ls hn9 t_x4 t_x3 t_x2 hi hk hw hP hD hS hl
    have r_x4 := q_r32 x4
    have r_x3 := q_r32 x3
    have r_x2 := q_r32 x2
    refine lv_iload hx hb d_Natural_shiftLeft_18 (lv_at hl 0 rfl) ?_
    refine lv_if_lt (tgt := 71) hx hb d_Natural_shiftLeft_20 (by decide) (fun b20 => ?_) (fun b20 => ?_)
    · skip
      rw [q_ilt t_x4 (show (0 : Int32).toInt = 0 by decide)] at b20
      have hi0 : i = 0 := by omega
      subst hi0
      have hend := shw_end (f := f) (k := k) (w := n0 / 32) (q := n0 % 32) (Nat.mod_lt _ (by decide)) (fun j hj => hw j (by omega) hj)
      rw [show 32 * (n0 / 32) + n0 % 32 = n0 by omega] at hend
      exact Cv.ret C0 (u := (k)) (Nat.le_of_ble_eq_true rfl) (Nat.le_of_ble_eq_true rfl) (by show nv k 12 = nv f 12 * 2 ^ n0 % 2 ^ (32 * 12); exact hend) hP hD hS [0, 1] (by decide) rfl d_Natural_shiftLeft_71
    · skip
      rw [q_ilt t_x4 (show (0 : Int32).toInt = 0 by decide)] at b20
      refine lv_aload_n hx hb d_Natural_shiftLeft_23 rfl (lv_at hl 3 rfl) ?_
      refine lv_iload hx hb d_Natural_shiftLeft_24 (lv_at hl 0 rfl) ?_
      refine lv_iload_n hx hb d_Natural_shiftLeft_26 rfl (lv_at hl 2 rfl) ?_
      have hn2 := q_r32 x
      refine lv_isub hx hb d_Natural_shiftLeft_27 ?_
      refine lv_topi (fun v27 e27 => ?_)
      have t27 : v27.toInt = ((i : Int) - 1) - (((n0 / 32 : Nat) : Int)) := by rw [e27]; exact q_isub t_x4 t_x2 (by omega)
      refine callV_l (wr := []) C0 (c_Natural_limbAt l dC dI cI cB cJ (h0) (a0) (k) (v27)) (cwV 1 hts (gV m_361 m_362 m_4 m_51 m_363) rfl rfl rfl (by decide +kernel) ⟨Nat.le_of_ble_eq_true rfl, Nat.le_of_ble_eq_true rfl⟩) 1 rfl rfl 0 rfl hP hD hS hA [0, 1] [] rfl rfl (by decide) (by decide) (by decide) rfl hl.1 rfl (Nat.le_of_ble_eq_true rfl) d_Natural_shiftLeft_28 ⟨Nat.le_of_ble_eq_true rfl, Nat.le_of_ble_eq_true rfl⟩ (fun r28 u28 H locs hw9 hP hD hS => ?_)
      have h28 : ul r28 = lz k v27.toInt := hw9
      have hP : va_P (dC, dI) vwCl [(h0, .inr (1, [.ref a0])), (a0, .inl (cI, 12, .inl k))] H := hP
      have hD : va_D A [(h0, .inr (1, [.ref a0])), (a0, .inl (cI, 12, .inl k))] := hD
      refine lv_iload_n hx hb d_Natural_shiftLeft_31 rfl (lv_at hl 1 rfl) ?_
      refine lv_lshl hx hb d_Natural_shiftLeft_32 rfl ?_
      refine lv_topl (fun v32 e32 => ?_)
      refine lv_lstore (lv' := [(5, .long v32), (4, .int x4), (3, .int x3), (2, .int x2), (0, .ref h0)]) hx hb d_Natural_shiftLeft_33 hl (by decide) rfl (fun ls hl => ?_)
      refine lv_aload_n hx hb d_Natural_shiftLeft_35 rfl (lv_at hl 4 rfl) ?_
      refine lv_iload hx hb d_Natural_shiftLeft_36 (lv_at hl 1 rfl) ?_
      refine lv_iload_n hx hb d_Natural_shiftLeft_38 rfl (lv_at hl 3 rfl) ?_
      refine lv_isub hx hb d_Natural_shiftLeft_39 ?_
      refine lv_topi (fun v39 e39 => ?_)
      have t39 : v39.toInt = ((i : Int) - 1) - (((n0 / 32 : Nat) : Int)) := by rw [e39]; exact q_isub t_x4 t_x2 (by omega)
      refine lv_iconst (v := 1) hx hb d_Natural_shiftLeft_40 (by decide) ?_
      refine lv_isub hx hb d_Natural_shiftLeft_41 ?_
      refine lv_topi (fun v41 e41 => ?_)
      have t41 : v41.toInt = (((i : Int) - 1) - (((n0 / 32 : Nat) : Int))) - 1 := by rw [e41]; exact q_isub t39 (show (1 : Int32).toInt = 1 by decide) (by omega)
      refine callV_l (wr := []) C0 (c_Natural_limbAt l dC dI cI cB cJ (h0) (a0) (k) (v41)) (cwV 1 hts (gV m_361 m_362 m_4 m_51 m_363) rfl rfl rfl (by decide +kernel) ⟨Nat.le_of_ble_eq_true rfl, Nat.le_of_ble_eq_true rfl⟩) 1 rfl rfl 0 rfl hP hD hS hA [0, 1] [] rfl rfl (by decide) (by decide) (by decide) rfl hl.1 rfl (Nat.le_of_ble_eq_true rfl) d_Natural_shiftLeft_42 ⟨Nat.le_of_ble_eq_true rfl, Nat.le_of_ble_eq_true rfl⟩ (fun r42 u42 H locs hw9 hP hD hS => ?_)
      have h42 : ul r42 = lz k v41.toInt := hw9
      have hP : va_P (dC, dI) vwCl [(h0, .inr (1, [.ref a0])), (a0, .inl (cI, 12, .inl k))] H := hP
      have hD : va_D A [(h0, .inr (1, [.ref a0])), (a0, .inl (cI, 12, .inl k))] := hD
      refine lv_bipush (v := 32) hx hb d_Natural_shiftLeft_45 (by decide) ?_
      refine lv_iload_n hx hb d_Natural_shiftLeft_47 rfl (lv_at hl 2 rfl) ?_
      refine lv_isub hx hb d_Natural_shiftLeft_48 ?_
      refine lv_topi (fun v48 e48 => ?_)
      have t48 : v48.toInt = 32 - (((n0 % 32 : Nat) : Int)) := by rw [e48]; exact q_isub (show (32 : Int32).toInt = 32 by decide) t_x3 (by omega)
      refine lv_lushr hx hb d_Natural_shiftLeft_49 rfl ?_
      refine lv_topl (fun v49 e49 => ?_)
      refine lv_lstore (lv' := [(7, .long v49), (5, .long v32), (4, .int x4), (3, .int x3), (2, .int x2), (0, .ref h0)]) hx hb d_Natural_shiftLeft_50 hl (by decide) rfl (fun ls hl => ?_)
      refine lv_aload_n hx hb d_Natural_shiftLeft_52 rfl (lv_at hl 5 rfl) ?_
      refine va_get (D := (dC, dI)) (ci := 1) (v := .ref a0) (C := R_Natural) (T := F_Natural) (N := 1) hx hb hts u_Natural hown hK hP 0 rfl rfl 0 (by decide) (hts _ m_105) (fun _ h9 => h9) rfl d_Natural_shiftLeft_53 ?_
      refine lv_iload hx hb d_Natural_shiftLeft_56 (lv_at hl 2 rfl) ?_
      refine lv_lload hx hb d_Natural_shiftLeft_58 (lv_at hl 1 rfl) ?_
      refine lv_lload hx hb d_Natural_shiftLeft_60 (lv_at hl 0 rfl) ?_
      refine lv_lor hx hb d_Natural_shiftLeft_62 ?_
      refine lv_topl (fun v62 e62 => ?_)
      refine lv_l2i hx hb d_Natural_shiftLeft_63 rfl ?_
      refine lv_topi (fun v63 e63 => ?_)
      refine va_iast hx hb hK hP hD hS 1 0 rfl rfl (q_in t_x4 (by omega)) d_Natural_shiftLeft_64 (fun H locs hP hD hS => ?_)
      rw [q_cl (k := i - 1) (t_x4.trans (by omega))] at hP hD
      have hP : va_P (dC, dI) vwCl [(h0, .inr (1, [.ref a0])), (a0, .inl (cI, 12, .inl (upd k (i - 1) v63)))] H := hP
      have hD : va_D A [(h0, .inr (1, [.ref a0])), (a0, .inl (cI, 12, .inl (upd k (i - 1) v63)))] := hD
      obtain ⟨v65, e65⟩ : ∃ y : Int32, y = x4 + (-1) := ⟨_, rfl⟩
      have t65 : v65.toInt = (i : Int) - 1 + (-1) := by rw [e65]; exact q_iadd t_x4 (show ((-1) : Int32).toInt = (-1) by decide) (by omega)
      refine lv_iinc (v := v65) (lv' := [(4, .int v65), (7, .long v49), (5, .long v32), (3, .int x3), (2, .int x2), (0, .ref h0)]) hx hb d_Natural_shiftLeft_65 hl (k := 2) rfl (by rw [e65]; rfl) (by decide) rfl (fun ls hl => ?_)
      refine lv_goto (tgt := 18) hx hb d_Natural_shiftLeft_68 (by decide) ?_
      have hlz : ∀ z : Int, z ≤ (i : Int) - 1 → lz k z = lz f z := fun z hz => by
        unfold lz
        split
        · rw [hk z.toNat (by omega)]
        · rfl
      have k28 : ul r28 = lz f (((i - 1 : Nat) : Int) - (n0 / 32 : Nat)) := by rw [h28, t27, hlz _ (by omega)]; congr 1; omega
      have k42 : ul r42 = lz f (((i - 1 : Nat) : Int) - (n0 / 32 : Nat) - 1) := by rw [h42, t41, hlz _ (by omega)]; congr 1; omega
      have hq : n0 % 32 < 32 := Nat.mod_lt _ (by decide)
      have hp2 : 2 ^ (n0 % 32) ≤ 2 ^ 31 := Nat.pow_le_pow_right (by decide) (by omega)
      have hl1 := lz_lt f (((i - 1 : Nat) : Int) - (n0 / 32 : Nat))
      have hl2 := lz_lt f (((i - 1 : Nat) : Int) - (n0 / 32 : Nat) - 1)
      have hsh : shw f (n0 / 32) (n0 % 32) (i - 1) = lz f (((i - 1 : Nat) : Int) - (n0 / 32 : Nat)) * 2 ^ (n0 % 32) % 4294967296 + lz f (((i - 1 : Nat) : Int) - (n0 / 32 : Nat) - 1) / 2 ^ (32 - n0 % 32) := rfl
      generalize lz f (((i - 1 : Nat) : Int) - (n0 / 32 : Nat)) = A1 at *
      generalize lz f (((i - 1 : Nat) : Int) - (n0 / 32 : Nat) - 1) = A2 at *
      have hm : A1 * 2 ^ (n0 % 32) ≤ 4294967295 * 2 ^ 31 := Nat.mul_le_mul (by omega) hp2
      have k32 : ul v32 = A1 * 2 ^ (n0 % 32) := by rw [e32, ul_shl t_x3 (by omega), k28, Nat.mod_eq_of_lt (by omega)]
      have t48' : v48.toInt = ((32 - n0 % 32 : Nat) : Int) := t48.trans (by omega)
      have k49 : ul v49 = A2 / 2 ^ (32 - n0 % 32) := by rw [e49, ul_ushr t48' (by omega), k42]
      have hb : A2 / 2 ^ (32 - n0 % 32) < 2 ^ (n0 % 32) := by
        rw [Nat.div_lt_iff_lt_mul (pw_p _), ← Nat.pow_add, show n0 % 32 + (32 - n0 % 32) = 32 by omega]
        exact hl2
      have k62 : ul v62 = A1 * 2 ^ (n0 % 32) + A2 / 2 ^ (32 - n0 % 32) := by rw [e62]; exact ul_or k32 k49 hb
      have k63 : uw v63 = A1 * 2 ^ (n0 % 32) % 4294967296 + A2 / 2 ^ (32 - n0 % 32) := by
        rw [e63, uw_l2i, k62]
        exact or_mod (by omega) hb
      exact ih (x2) (x3) (v65) (i - 1) (upd k (i - 1) v63) H locs ls (by omega) ((t65).trans (by omega)) ((t_x3).trans (by omega)) ((t_x2).trans (by omega)) (by omega) (by intro j h; rw [pk_un (by omega)]; exact hk j (by omega)) (by intro j h1 h2; rcases Nat.lt_or_ge j i with h | h; skip; rw [show j = i - 1 by omega, pk_us, k63, hsh]; rw [pk_un (by omega)]; exact hw j h h2) (va_Psub hP [0, 1] rfl) (hD.sub [0, 1] (by decide) rfl) hS (lv_sub hl [0, 3, 4, 5] rfl)
set_option maxHeartbeats 4000000 in
set_option maxRecDepth 100000 in
theorem c_Natural_shiftLeft (l : Launch) (dC : Nat → ClassId) (dI : Nat → Nat → Nat) (cI cB cJ : ClassId) (h0 : Nat) (a0 : Nat) (f : Nat → Int32) (x : Int32) (n0 : Nat) (hx0 : x.toInt = (n0 : Int)) : Cv l dC dI cI cB cJ y_Natural_shiftLeft w_Natural_shiftLeft ({ frames := 1, cells := 0, slots := 0, locals := 21 } : Room) [.ref h0, .int x] [(h0, .inr (1, [.ref a0])), (a0, .inl (cI, 12, .inl f))] (fun (u : (Nat → Int32)) => nv u 12 = nv f 12 * 2 ^ n0 % 2 ^ (32 * 12)) (fun u : (Nat → Int32) => [(h0, .inr (1, [.ref a0])), (a0, .inl (cI, 12, .inl u))]) := by
  refine Cv.intro (cc := b_Natural_shiftLeft) (maxL := 9) (plainFor_of_name (by decide)) rfl (Nat.le_of_ble_eq_true rfl) ?_
  intro p e s m below meth c A ls C0 hin hA hP hD hS hl
  obtain ⟨hx, hb, hml, hown, hts, hr, hlocks, hK, hN⟩ := id C0
  obtain ⟨H, hH⟩ : ∃ H, H = s.heap := ⟨_, rfl⟩
  have hP : va_P (dC, dI) vwCl [(h0, .inr (1, [.ref a0])), (a0, .inl (cI, 12, .inl f))] s.heap := hP
  have hl : lv_has ls 9 [(0, .ref h0), (1, .int x)] := hl
  have r_x := q_r32 x
  suffices h : ∀ (H : Heap) (locs : List Loc), va_P (dC, dI) vwCl [(h0, .inr (1, [.ref a0])), (a0, .inl (cI, 12, .inl f))] H → va_D A [(h0, .inr (1, [.ref a0])), (a0, .inl (cI, 12, .inl f))] → va_S A s.heap H locs → W p l e ({ frames := 1, cells := 0, slots := 0, locals := 21 } : Room) s m ([.ref h0, .int x] : List Value).toArray below meth c H locs 0 0 (MQ below (va_Qv (fun (u : (Nat → Int32)) => nv u 12 = nv f 12 * 2 ^ n0 % 2 ^ (32 * 12)) (poG dC dI A (fun u : (Nat → Int32) => [(h0, .inr (1, [.ref a0])), (a0, .inl (cI, 12, .inl u))])) A) ([.ref h0, .int x] : List Value).toArray s 0 0 A) (F0 m 0 ls []) from h _ _ hP hD hS
  clear hP hD hS hH H
  intro H locs hP hD hS
  refine lv_iload_n hx hb d_Natural_shiftLeft_0 rfl (lv_at hl 1 rfl) ?_
  refine lv_if_gt (tgt := 5) hx hb d_Natural_shiftLeft_1 (by decide) (fun b1 => ?_) (fun b1 => ?_)
  · skip
    rw [q_ilt (show (0 : Int32).toInt = 0 by decide) hx0] at b1
    refine lv_iload_n hx hb d_Natural_shiftLeft_5 rfl (lv_at hl 1 rfl) ?_
    refine lv_iconst (v := 5) hx hb d_Natural_shiftLeft_6 (by decide) ?_
    have hr0 := q_r32 x
    refine lv_ishr hx hb d_Natural_shiftLeft_7 ?_
    refine lv_topi (fun v7 e7 => ?_)
    have t7 : v7.toInt = (n0 : Int) / 32 := by rw [e7]; exact q_ishr5 hx0
    refine lv_istore_n (lv' := [(2, .int v7), (0, .ref h0), (1, .int x)]) hx hb d_Natural_shiftLeft_8 rfl hl (by decide) rfl (fun ls hl => ?_)
    refine lv_iload_n hx hb d_Natural_shiftLeft_9 rfl (lv_at hl 2 rfl) ?_
    refine lv_bipush (v := 31) hx hb d_Natural_shiftLeft_10 (by decide) ?_
    refine lv_iand hx hb d_Natural_shiftLeft_12 ?_
    refine lv_topi (fun v12 e12 => ?_)
    have t12 : v12.toInt = ((n0 % 32 : Nat) : Int) := by rw [e12]; exact q_iand31 hx0
    refine lv_istore_n (lv' := [(3, .int v12), (2, .int v7), (0, .ref h0), (1, .int x)]) hx hb d_Natural_shiftLeft_13 rfl hl (by decide) rfl (fun ls hl => ?_)
    refine lv_bipush (v := 11) hx hb d_Natural_shiftLeft_14 (by decide) ?_
    refine lv_istore (lv' := [(4, .int 11), (3, .int v12), (2, .int v7), (0, .ref h0), (1, .int x)]) hx hb d_Natural_shiftLeft_16 hl (by decide) rfl (fun ls hl => ?_)
    exact L_Natural_shiftLeft_18 (h0) (a0) (f) (x) (n0) C0 hA (hx0) _ (v7) (v12) (11) (12) (f) H locs ls (Nat.lt_succ_self _) (((show (11 : Int32).toInt = 11 by decide)).trans (by omega)) ((t12).trans (by omega)) ((t7).trans (by omega)) (by omega) (by intro j h; rfl) (by intro j h h2; omega) (va_Psub hP [0, 1] rfl) (hD.sub [0, 1] (by decide) rfl) hS (lv_sub hl [0, 1, 2, 3] rfl)
  · skip
    rw [q_ilt (show (0 : Int32).toInt = 0 by decide) hx0] at b1
    exact Cv.ret C0 (u := (f)) (Nat.le_of_ble_eq_true rfl) (Nat.le_of_ble_eq_true rfl) (by show nv f 12 = nv f 12 * 2 ^ n0 % 2 ^ (32 * 12); have hz : n0 = 0 := (by omega); subst hz; rw [Nat.pow_zero, Nat.mul_one, Nat.mod_eq_of_lt (nv_lt f 12)]) hP hD hS [0, 1] (by decide) rfl d_Natural_shiftLeft_4
set_option maxHeartbeats 4000000 in
set_option maxRecDepth 100000 in
theorem c_Natural_timesPowerOfTen (l : Launch) (dC : Nat → ClassId) (dI : Nat → Nat → Nat) (cI cB cJ : ClassId) (h0 : Nat) (a0 : Nat) (f : Nat → Int32) (pw : Int32) (n0 : Nat) (hpw : pw.toInt = (n0 : Int)) : Cv l dC dI cI cB cJ y_Natural_timesPowerOfTen w_Natural_timesPowerOfTen ({ frames := 2, cells := 0, slots := 0, locals := 49 } : Room) [.ref h0, .int pw] [(h0, .inr (1, [.ref a0])), (a0, .inl (cI, 12, .inl f))] (fun (u : (Nat → Int32)) => nv u 12 = nv f 12 * 10 ^ n0 % 2 ^ (32 * 12)) (fun u : (Nat → Int32) => [(h0, .inr (1, [.ref a0])), (a0, .inl (cI, 12, .inl u))]) := by
  refine Cv.intro (cc := b_Natural_timesPowerOfTen) (maxL := 2) (plainFor_of_name (by decide)) rfl (Nat.le_of_ble_eq_true rfl) ?_
  intro p e s m below meth c A ls C0 hin hA hP hD hS hl
  obtain ⟨hx, hb, hml, hown, hts, hr, hlocks, hK, hN⟩ := id C0
  obtain ⟨H, hH⟩ : ∃ H, H = s.heap := ⟨_, rfl⟩
  have hP : va_P (dC, dI) vwCl [(h0, .inr (1, [.ref a0])), (a0, .inl (cI, 12, .inl f))] s.heap := hP
  have hl : lv_has ls 2 [(0, .ref h0), (1, .int pw)] := hl
  have r_pw := q_r32 pw
  suffices h : ∀ (H : Heap) (locs : List Loc), va_P (dC, dI) vwCl [(h0, .inr (1, [.ref a0])), (a0, .inl (cI, 12, .inl f))] H → va_D A [(h0, .inr (1, [.ref a0])), (a0, .inl (cI, 12, .inl f))] → va_S A s.heap H locs → W p l e ({ frames := 2, cells := 0, slots := 0, locals := 49 } : Room) s m ([.ref h0, .int pw] : List Value).toArray below meth c H locs 0 0 (MQ below (va_Qv (fun (u : (Nat → Int32)) => nv u 12 = nv f 12 * 10 ^ n0 % 2 ^ (32 * 12)) (poG dC dI A (fun u : (Nat → Int32) => [(h0, .inr (1, [.ref a0])), (a0, .inl (cI, 12, .inl u))])) A) ([.ref h0, .int pw] : List Value).toArray s 0 0 A) (F0 m 0 ls []) from h _ _ hP hD hS
  clear hP hD hS hH H
  intro H locs hP hD hS
  refine lv_aload_n hx hb d_Natural_timesPowerOfTen_0 rfl (lv_at hl 0 rfl) ?_
  refine lv_iload_n hx hb d_Natural_timesPowerOfTen_1 rfl (lv_at hl 1 rfl) ?_
  refine callV_v (wr := []) C0 (c_Natural_timesPowerOfFive l dC dI cI cB cJ (h0) (a0) (f) (pw) (n0) (by exact hpw)) (cwV 1 hts (gV m_351 m_352 m_353 m_51 m_354) rfl rfl rfl (by decide +kernel) ⟨Nat.le_of_ble_eq_true rfl, Nat.le_of_ble_eq_true rfl⟩) 1 rfl rfl 0 rfl hP hD hS hA [0, 1] [] rfl rfl (by decide) (by decide) (by decide) rfl hl.1 rfl (Nat.le_of_ble_eq_true rfl) d_Natural_timesPowerOfTen_2 ⟨Nat.le_of_ble_eq_true rfl, Nat.le_of_ble_eq_true rfl⟩ (fun k2 H locs hw9 hP hD hS => ?_)
  have h2 : nv k2 12 = nv f 12 * 5 ^ n0 % 2 ^ (32 * 12) := hw9
  have hP : va_P (dC, dI) vwCl [(h0, .inr (1, [.ref a0])), (a0, .inl (cI, 12, .inl k2))] H := hP
  have hD : va_D A [(h0, .inr (1, [.ref a0])), (a0, .inl (cI, 12, .inl k2))] := hD
  refine lv_aload_n hx hb d_Natural_timesPowerOfTen_5 rfl (lv_at hl 0 rfl) ?_
  refine lv_iload_n hx hb d_Natural_timesPowerOfTen_6 rfl (lv_at hl 1 rfl) ?_
  refine callV_v (wr := []) C0 (c_Natural_shiftLeft l dC dI cI cB cJ (h0) (a0) (k2) (pw) (n0) (by exact hpw)) (cwV 1 hts (gV m_357 m_358 m_359 m_51 m_360) rfl rfl rfl (by decide +kernel) ⟨Nat.le_of_ble_eq_true rfl, Nat.le_of_ble_eq_true rfl⟩) 1 rfl rfl 0 rfl hP hD hS hA [0, 1] [] rfl rfl (by decide) (by decide) (by decide) rfl hl.1 rfl (Nat.le_of_ble_eq_true rfl) d_Natural_timesPowerOfTen_7 ⟨Nat.le_of_ble_eq_true rfl, Nat.le_of_ble_eq_true rfl⟩ (fun k7 H locs hw9 hP hD hS => ?_)
  have h7 : nv k7 12 = nv k2 12 * 2 ^ n0 % 2 ^ (32 * 12) := hw9
  have hP : va_P (dC, dI) vwCl [(h0, .inr (1, [.ref a0])), (a0, .inl (cI, 12, .inl k7))] H := hP
  have hD : va_D A [(h0, .inr (1, [.ref a0])), (a0, .inl (cI, 12, .inl k7))] := hD
  exact Cv.ret C0 (u := (k7)) (Nat.le_of_ble_eq_true rfl) (Nat.le_of_ble_eq_true rfl) (by show nv k7 12 = nv f 12 * 10 ^ n0 % 2 ^ (32 * 12); rw [h7, h2, mm, Nat.mul_assoc, ← Nat.mul_pow]) hP hD hS [0, 1] (by decide) rfl d_Natural_timesPowerOfTen_10
set_option maxHeartbeats 4000000 in
set_option maxRecDepth 100000 in
theorem L_Natural_divide_12 {p : Program} {l : Launch} {e : Env} {s : State} {m : MethodId} {below : List Frame} {meth : Method} {c : Code} {dC : Nat → ClassId} {dI : Nat → Nat → Nat} {cI cB cJ : ClassId} {A : Nat → Prop} (h0 : Nat) (a0 : Nat) (f : Nat → Int32) (x : Int32) (dv : Nat) (C0 : cx dC dI cI cB cJ R_Natural b_Natural_divide 5 (some .int) p s m ([.ref h0, .int x] : List Value).toArray meth c) (hA : ∀ q : Nat, s.heap.size ≤ q → A q) (hx0 : x.toInt = (dv : Int)) (hd0 : 0 < dv) : ∀ n : Nat, (∀ (x4 : Int32) (i : Nat) (c2 : Int64) (t : Nat) (k : Nat → Int32) (H : Heap) (locs : List Loc) (ls : Array Slot), i < n → x4.toInt = (i : Int) - 1 → c2.toInt = (t : Int) → x.toInt = (dv : Int) → (i ≤ 12) → (∀ j, j < i → k j = f j) → (t < dv) → (hv f i (12 - i) = hv k i (12 - i) * dv + t) → va_P (dC, dI) vwCl [(h0, .inr (1, [.ref a0])), (a0, .inl (cI, 12, .inl k))] H → va_D A [(h0, .inr (1, [.ref a0])), (a0, .inl (cI, 12, .inl k))] → va_S A s.heap H locs → lv_has ls 5 [(4, .int x4), (2, .long c2), (1, .int x), (0, .ref h0)] → W p l e ({ frames := 0, cells := 0, slots := 0, locals := 0 } : Room) s m ([.ref h0, .int x] : List Value).toArray below meth c H locs 0 0 (MQ below (va_Qi (fun (r : Int32) (u : (Nat → Int32)) => nv u 12 = nv f 12 / dv ∧ r.toInt = ((nv f 12 % dv : Nat) : Int)) (poG dC dI A (fun u : (Nat → Int32) => [(h0, .inr (1, [.ref a0])), (a0, .inl (cI, 12, .inl u))])) A) ([.ref h0, .int x] : List Value).toArray s 0 0 A) (F0 m 12 ls [])) := by
  obtain ⟨hx, hb, hml, hown, hts, hr, hlocks, hK, hN⟩ := id C0
  intro n
  induction n with
  | zero => exact fun _ _ _ _ _ _ _ _ h0 _ _ _ _ _ _ _ _ _ _ _ => absurd h0 (Nat.not_lt_zero _)
  | succ n ih =>
    intro x4 i c2 t k H locs ls hn9 t_x4 t_c2 t_x hi hk ht hv0 hP hD hS hl
    have r_x4 := q_r32 x4
    have r_c2 := q_r64 c2
    have r_x := q_r32 x
    refine lv_iload hx hb d_Natural_divide_12 (lv_at hl 0 rfl) ?_
    refine lv_if_lt (tgt := 58) hx hb d_Natural_divide_14 (by decide) (fun b14 => ?_) (fun b14 => ?_)
    · skip
      rw [q_ilt t_x4 (show (0 : Int32).toInt = 0 by decide)] at b14
      refine lv_lload_n hx hb d_Natural_divide_58 rfl (lv_at hl 1 rfl) ?_
      refine lv_l2i hx hb d_Natural_divide_59 rfl ?_
      refine lv_topi (fun v59 e59 => ?_)
      have t59 : v59.toInt = (t : Int) := by rw [e59]; exact q_l2i t_c2 (by omega)
      have hi0 : i = 0 := by omega
      subst hi0
      have hend := hv_div_end ht hv0
      have hrx := q_r32 x
      exact Ci.ret C0 (v := v59) (u := (k)) (Nat.le_of_ble_eq_true rfl) (Nat.le_of_ble_eq_true rfl) (by show nv k 12 = nv f 12 / dv ∧ v59.toInt = ((nv f 12 % dv : Nat) : Int); exact ⟨hend.1, by rw [t59, hend.2]⟩) hP hD hS [0, 1] (by decide) rfl d_Natural_divide_60
    · skip
      rw [q_ilt t_x4 (show (0 : Int32).toInt = 0 by decide)] at b14
      refine lv_lload_n hx hb d_Natural_divide_17 rfl (lv_at hl 1 rfl) ?_
      refine lv_bipush (v := 32) hx hb d_Natural_divide_18 (by decide) ?_
      have hrx := q_r32 x
      refine lv_lshl hx hb d_Natural_divide_20 rfl ?_
      refine lv_topl (fun v20 e20 => ?_)
      have t20 : v20.toInt = ((t * 4294967296 : Nat) : Int) := by rw [e20]; exact q_shl32 t_c2 (by omega)
      refine lv_aload_n hx hb d_Natural_divide_21 rfl (lv_at hl 3 rfl) ?_
      refine va_get (D := (dC, dI)) (ci := 1) (v := .ref a0) (C := R_Natural) (T := F_Natural) (N := 1) hx hb hts u_Natural hown hK hP 0 rfl rfl 0 (by decide) (hts _ m_105) (fun _ h9 => h9) rfl d_Natural_divide_22 ?_
      refine lv_iload hx hb d_Natural_divide_25 (lv_at hl 0 rfl) ?_
      refine va_iald hx hb hK hP 1 0 rfl rfl (q_in t_x4 (by omega)) d_Natural_divide_27 ?_
      refine lv_topi (fun v27 e27 => ?_)
      rw [q_cl (k := i - 1) (t_x4.trans (by omega))] at e27
      refine lv_i2l hx hb d_Natural_divide_28 rfl ?_
      refine lv_topl (fun v28 e28 => ?_)
      refine lv_ldc2 (v := 4294967295) hx hb hown (hts _ m_273) d_Natural_divide_29 ?_
      refine lv_land hx hb d_Natural_divide_32 ?_
      refine lv_topl (fun v32 e32 => ?_)
      have t32 : v32.toInt = (uw v27 : Int) := by rw [e32, e28]; exact q_lo v27
      have hl27 := uw_lt v27
      refine lv_ladd hx hb d_Natural_divide_33 ?_
      refine lv_topl (fun v33 e33 => ?_)
      have t33 : v33.toInt = (((t * 4294967296 : Nat) : Int)) + (uw v27 : Int) := by rw [e33]; exact q_ladd t20 t32 (by omega)
      refine lv_lstore_n (lv' := [(2, .long v33), (4, .int x4), (1, .int x), (0, .ref h0)]) hx hb d_Natural_divide_34 rfl hl (by decide) rfl (fun ls hl => ?_)
      refine lv_aload_n hx hb d_Natural_divide_35 rfl (lv_at hl 3 rfl) ?_
      refine va_get (D := (dC, dI)) (ci := 1) (v := .ref a0) (C := R_Natural) (T := F_Natural) (N := 1) hx hb hts u_Natural hown hK hP 0 rfl rfl 0 (by decide) (hts _ m_105) (fun _ h9 => h9) rfl d_Natural_divide_36 ?_
      refine lv_iload hx hb d_Natural_divide_39 (lv_at hl 1 rfl) ?_
      refine lv_lload_n hx hb d_Natural_divide_41 rfl (lv_at hl 0 rfl) ?_
      refine lv_iload_n hx hb d_Natural_divide_42 rfl (lv_at hl 2 rfl) ?_
      refine lv_i2l hx hb d_Natural_divide_43 rfl ?_
      refine lv_topl (fun v43 e43 => ?_)
      have t43 : v43.toInt = (dv : Int) := by rw [e43]; exact q_i2l t_x
      refine lv_ldiv hx hb d_Natural_divide_44 (fun h0 => by have h1 := (q_leq t43 (show (0 : Int64).toInt = 0 by decide)).mp h0; omega) ?_
      refine lv_topl (fun v44 e44 => ?_)
      have t44 : v44.toInt = ((((t * 4294967296 : Nat) : Int)) + (uw v27 : Int)) / (dv : Int) := by rw [e44]; exact q_ldiv t33 t43 (by omega)
      refine lv_l2i hx hb d_Natural_divide_45 rfl ?_
      refine lv_topi (fun v45 e45 => ?_)
      refine va_iast hx hb hK hP hD hS 1 0 rfl rfl (q_in t_x4 (by omega)) d_Natural_divide_46 (fun H locs hP hD hS => ?_)
      rw [q_cl (k := i - 1) (t_x4.trans (by omega))] at hP hD
      have hP : va_P (dC, dI) vwCl [(h0, .inr (1, [.ref a0])), (a0, .inl (cI, 12, .inl (upd k (i - 1) v45)))] H := hP
      have hD : va_D A [(h0, .inr (1, [.ref a0])), (a0, .inl (cI, 12, .inl (upd k (i - 1) v45)))] := hD
      refine lv_lload_n hx hb d_Natural_divide_47 rfl (lv_at hl 0 rfl) ?_
      refine lv_iload_n hx hb d_Natural_divide_48 rfl (lv_at hl 2 rfl) ?_
      refine lv_i2l hx hb d_Natural_divide_49 rfl ?_
      refine lv_topl (fun v49 e49 => ?_)
      have t49 : v49.toInt = (dv : Int) := by rw [e49]; exact q_i2l t_x
      refine lv_lrem hx hb d_Natural_divide_50 (fun h0 => by have h1 := (q_leq t49 (show (0 : Int64).toInt = 0 by decide)).mp h0; omega) ?_
      refine lv_topl (fun v50 e50 => ?_)
      have t50 : v50.toInt = ((((t * 4294967296 : Nat) : Int)) + (uw v27 : Int)) % (dv : Int) := by rw [e50]; exact q_lrem t33 t49 (by omega)
      refine lv_lstore_n (lv' := [(2, .long v50), (4, .int x4), (1, .int x), (0, .ref h0)]) hx hb d_Natural_divide_51 rfl hl (by decide) rfl (fun ls hl => ?_)
      obtain ⟨v52, e52⟩ : ∃ y : Int32, y = x4 + (-1) := ⟨_, rfl⟩
      have t52 : v52.toInt = (i : Int) - 1 + (-1) := by rw [e52]; exact q_iadd t_x4 (show ((-1) : Int32).toInt = (-1) by decide) (by omega)
      refine lv_iinc (v := v52) (lv' := [(4, .int v52), (2, .long v50), (1, .int x), (0, .ref h0)]) hx hb d_Natural_divide_52 hl (k := 1) rfl (by rw [e52]; rfl) (by decide) rfl (fun ls hl => ?_)
      refine lv_goto (tgt := 12) hx hb d_Natural_divide_55 (by decide) ?_
      have z27 : v27 = f (i - 1) := by rw [e27]; exact hk (i - 1) (by omega)
      have hdm := Nat.div_add_mod (t * 4294967296 + uw (f (i - 1))) dv
      have hml2 := Nat.mod_lt (t * 4294967296 + uw (f (i - 1))) hd0
      have hql : (t * 4294967296 + uw (f (i - 1))) / dv < 4294967296 := by
        rw [Nat.div_lt_iff_lt_mul hd0, Nat.mul_comm]
        have := uw_lt (f (i - 1))
        have h1 : (t + 1) * 4294967296 ≤ dv * 4294967296 := Nat.mul_le_mul_right _ ht
        omega
      have k45 : uw v45 = (t * 4294967296 + uw (f (i - 1))) / dv := by
        have h1 := uw_l2i_int t44
        rw [← e45, z27, ← Int.natCast_add, ← Int.natCast_ediv] at h1
        generalize (t * 4294967296 + uw (f (i - 1))) / dv = Z at h1 hql ⊢
        omega
      have hstep := hv_div_step (f := f) (g := k) (i := i - 1) (n := 12 - i) (d := dv) (r := t) (x := v45) hd0 (by rw [show i - 1 + 1 = i by omega]; exact hv0) (fun j h1 h2 => (pk_un (by omega)).symm) k45
      exact ih (v52) (i - 1) (v50) ((t * 4294967296 + uw (f (i - 1))) % dv) (upd k (i - 1) v45) H locs ls (by omega) ((t52).trans (by omega)) (t50.trans (by rw [z27, ← Int.natCast_add, ← Int.natCast_emod])) ((t_x).trans (by omega)) (by omega) (by intro j h; rw [pk_un (by omega)]; exact hk j (by omega)) (by exact hml2) (by rw [show 12 - (i - 1) = 12 - i + 1 by omega]; exact hstep) (va_Psub hP [0, 1] rfl) (hD.sub [0, 1] (by decide) rfl) hS (lv_sub hl [0, 1, 2, 3] rfl)
set_option maxHeartbeats 4000000 in
set_option maxRecDepth 100000 in
theorem c_Natural_divide (l : Launch) (dC : Nat → ClassId) (dI : Nat → Nat → Nat) (cI cB cJ : ClassId) (h0 : Nat) (a0 : Nat) (f : Nat → Int32) (x : Int32) (dv : Nat) (hx0 : x.toInt = (dv : Int)) (hd0 : 0 < dv) : Ci l dC dI cI cB cJ y_Natural_divide w_Natural_divide ({ frames := 0, cells := 0, slots := 0, locals := 0 } : Room) [.ref h0, .int x] [(h0, .inr (1, [.ref a0])), (a0, .inl (cI, 12, .inl f))] (fun (r : Int32) (u : (Nat → Int32)) => nv u 12 = nv f 12 / dv ∧ r.toInt = ((nv f 12 % dv : Nat) : Int)) (fun u : (Nat → Int32) => [(h0, .inr (1, [.ref a0])), (a0, .inl (cI, 12, .inl u))]) := by
  refine Ci.intro (cc := b_Natural_divide) (maxL := 5) (plainFor_of_name (by decide)) rfl (Nat.le_of_ble_eq_true rfl) ?_
  intro p e s m below meth c A ls C0 hin hA hP hD hS hl
  obtain ⟨hx, hb, hml, hown, hts, hr, hlocks, hK, hN⟩ := id C0
  obtain ⟨H, hH⟩ : ∃ H, H = s.heap := ⟨_, rfl⟩
  have hP : va_P (dC, dI) vwCl [(h0, .inr (1, [.ref a0])), (a0, .inl (cI, 12, .inl f))] s.heap := hP
  have hl : lv_has ls 5 [(0, .ref h0), (1, .int x)] := hl
  have r_x := q_r32 x
  suffices h : ∀ (H : Heap) (locs : List Loc), va_P (dC, dI) vwCl [(h0, .inr (1, [.ref a0])), (a0, .inl (cI, 12, .inl f))] H → va_D A [(h0, .inr (1, [.ref a0])), (a0, .inl (cI, 12, .inl f))] → va_S A s.heap H locs → W p l e ({ frames := 0, cells := 0, slots := 0, locals := 0 } : Room) s m ([.ref h0, .int x] : List Value).toArray below meth c H locs 0 0 (MQ below (va_Qi (fun (r : Int32) (u : (Nat → Int32)) => nv u 12 = nv f 12 / dv ∧ r.toInt = ((nv f 12 % dv : Nat) : Int)) (poG dC dI A (fun u : (Nat → Int32) => [(h0, .inr (1, [.ref a0])), (a0, .inl (cI, 12, .inl u))])) A) ([.ref h0, .int x] : List Value).toArray s 0 0 A) (F0 m 0 ls []) from h _ _ hP hD hS
  clear hP hD hS hH H
  intro H locs hP hD hS
  refine lv_iload_n hx hb d_Natural_divide_0 rfl (lv_at hl 1 rfl) ?_
  refine lv_if_gt (tgt := 6) hx hb d_Natural_divide_1 (by decide) (fun b1 => ?_) (fun b1 => ?_)
  · skip
    rw [q_ilt (show (0 : Int32).toInt = 0 by decide) hx0] at b1
    refine lv_lconst (v := 0) hx hb d_Natural_divide_6 (by decide) ?_
    refine lv_lstore_n (lv' := [(2, .long 0), (0, .ref h0), (1, .int x)]) hx hb d_Natural_divide_7 rfl hl (by decide) rfl (fun ls hl => ?_)
    refine lv_bipush (v := 11) hx hb d_Natural_divide_8 (by decide) ?_
    refine lv_istore (lv' := [(4, .int 11), (2, .long 0), (0, .ref h0), (1, .int x)]) hx hb d_Natural_divide_10 hl (by decide) rfl (fun ls hl => ?_)
    exact L_Natural_divide_12 (h0) (a0) (f) (x) (dv) C0 hA (hx0) (hd0) _ (11) (12) (0) (0) (f) H locs ls (Nat.lt_succ_self _) (((show (11 : Int32).toInt = 11 by decide)).trans (by omega)) (((show (0 : Int64).toInt = 0 by decide)).trans (by omega)) ((hx0).trans (by omega)) (by omega) (by intro j h; rfl) (by omega) (by show 0 = 0 * dv + 0; omega) (va_Psub hP [0, 1] rfl) (hD.sub [0, 1] (by decide) rfl) hS (lv_sub hl [0, 1, 3, 2] rfl)
  · skip
    rw [q_ilt (show (0 : Int32).toInt = 0 by decide) hx0] at b1
    exact absurd b1 (by omega)
set_option maxHeartbeats 4000000 in
set_option maxRecDepth 100000 in
theorem L_Integer_numberOfLeadingZeros_73 {p : Program} {l : Launch} {e : Env} {s : State} {m : MethodId} {below : List Frame} {meth : Method} {c : Code} {dC : Nat → ClassId} {dI : Nat → Nat → Nat} {cI cB cJ : ClassId} {A : Nat → Prop} (x : Int32) (C0 : cx dC dI cI cB cJ R_Integer b_Integer_numberOfLeadingZeros 2 (some .int) p s m ([.int x] : List Value).toArray meth c) (hA : ∀ q : Nat, s.heap.size ≤ q → A q)  : (∀ (x0 : Int32) (x1 : Int32) (w : Nat) (z : Nat) (H : Heap) (locs : List Loc) (ls : Array Slot), x1.toInt = 31 - (z : Int) → x0.toInt = (w : Int) → (w = uw x / 2 ^ z) → (0 < w) → (w < 4) → (z ≤ 30) → va_P (dC, dI) vwCl [] H → va_D A [] → va_S A s.heap H locs → lv_has ls 2 [(1, .int x1), (0, .int x0)] → W p l e ({ frames := 0, cells := 0, slots := 0, locals := 0 } : Room) s m ([.int x] : List Value).toArray below meth c H locs 0 0 (MQ below (va_Qi (fun (r : Int32) (u : Unit) => ∃ z : Nat, r.toInt = (z : Int) ∧ ((x.toInt = 0 ∧ z = 32) ∨ (z < 32 ∧ 2 ^ (31 - z) ≤ uw x ∧ uw x < 2 ^ (32 - z)))) (poG dC dI A (fun u : Unit => [])) A) ([.int x] : List Value).toArray s 0 0 A) (F0 m 73 ls [])) := by
  obtain ⟨hx, hb, hml, hown, hts, hr, hlocks, hK, hN⟩ := id C0
  intro x0 x1 w z H locs ls t_x1 t_x0 hw hw0 hw1 hz hP hD hS hl
  have r_x1 := q_r32 x1
  have r_x0 := q_r32 x0
  refine lv_iload_n hx hb d_Integer_numberOfLeadingZeros_73 rfl (lv_at hl 0 rfl) ?_
  refine lv_iload_n hx hb d_Integer_numberOfLeadingZeros_74 rfl (lv_at hl 1 rfl) ?_
  refine lv_iconst (v := 1) hx hb d_Integer_numberOfLeadingZeros_75 (by decide) ?_
  refine lv_iushr hx hb d_Integer_numberOfLeadingZeros_76 rfl ?_
  refine lv_topi (fun v76 e76 => ?_)
  have t76 : v76.toInt = ((w / 2 : Nat) : Int) := by rw [e76]; exact q_iushr (k := 1) t_x0 (by decide)
  refine lv_isub hx hb d_Integer_numberOfLeadingZeros_77 ?_
  refine lv_topi (fun v77 e77 => ?_)
  have t77 : v77.toInt = (31 - (z : Int)) - (((w / 2 : Nat) : Int)) := by rw [e77]; exact q_isub t_x1 t76 (by omega)
  exact Ci.ret C0 (v := v77) (u := ()) (Nat.le_of_ble_eq_true rfl) (Nat.le_of_ble_eq_true rfl) (by show ∃ z : Nat, v77.toInt = (z : Int) ∧ ((x.toInt = 0 ∧ z = 32) ∨ (z < 32 ∧ 2 ^ (31 - z) ≤ uw x ∧ uw x < 2 ^ (32 - z))); exact ⟨31 - z - w / 2, by rw [t77]; omega, Or.inr (nlz_end hw hw0 hw1 hz)⟩) hP hD hS [] (by decide) rfl d_Integer_numberOfLeadingZeros_78
set_option maxHeartbeats 4000000 in
set_option maxRecDepth 100000 in
theorem L_Integer_numberOfLeadingZeros_61 {p : Program} {l : Launch} {e : Env} {s : State} {m : MethodId} {below : List Frame} {meth : Method} {c : Code} {dC : Nat → ClassId} {dI : Nat → Nat → Nat} {cI cB cJ : ClassId} {A : Nat → Prop} (x : Int32) (C0 : cx dC dI cI cB cJ R_Integer b_Integer_numberOfLeadingZeros 2 (some .int) p s m ([.int x] : List Value).toArray meth c) (hA : ∀ q : Nat, s.heap.size ≤ q → A q)  : (∀ (x0 : Int32) (x1 : Int32) (w : Nat) (z : Nat) (H : Heap) (locs : List Loc) (ls : Array Slot), x1.toInt = 31 - (z : Int) → x0.toInt = (w : Int) → (w = uw x / 2 ^ z) → (0 < w) → (w < 16) → (z ≤ 28) → va_P (dC, dI) vwCl [] H → va_D A [] → va_S A s.heap H locs → lv_has ls 2 [(1, .int x1), (0, .int x0)] → W p l e ({ frames := 0, cells := 0, slots := 0, locals := 0 } : Room) s m ([.int x] : List Value).toArray below meth c H locs 0 0 (MQ below (va_Qi (fun (r : Int32) (u : Unit) => ∃ z : Nat, r.toInt = (z : Int) ∧ ((x.toInt = 0 ∧ z = 32) ∨ (z < 32 ∧ 2 ^ (31 - z) ≤ uw x ∧ uw x < 2 ^ (32 - z)))) (poG dC dI A (fun u : Unit => [])) A) ([.int x] : List Value).toArray s 0 0 A) (F0 m 61 ls [])) := by
  obtain ⟨hx, hb, hml, hown, hts, hr, hlocks, hK, hN⟩ := id C0
  intro x0 x1 w z H locs ls t_x1 t_x0 hw hw0 hw1 hz hP hD hS hl
  have r_x1 := q_r32 x1
  have r_x0 := q_r32 x0
  refine lv_iload_n hx hb d_Integer_numberOfLeadingZeros_61 rfl (lv_at hl 1 rfl) ?_
  refine lv_iconst (v := 4) hx hb d_Integer_numberOfLeadingZeros_62 (by decide) ?_
  refine lv_icmp_lt (tgt := 73) hx hb d_Integer_numberOfLeadingZeros_63 (by decide) (fun b63 => ?_) (fun b63 => ?_)
  · skip
    rw [q_ilt t_x0 (show (4 : Int32).toInt = 4 by decide)] at b63
    exact L_Integer_numberOfLeadingZeros_73 (x) C0 hA  (x0) (x1) (w) (z) H locs ls ((t_x1).trans (by omega)) ((t_x0).trans (by omega)) (by exact hw) (by omega) (by omega) (by omega) (va_Psub hP [] rfl) (hD.sub [] (by decide) rfl) hS (lv_sub hl [0, 1] rfl)
  · skip
    rw [q_ilt t_x0 (show (4 : Int32).toInt = 4 by decide)] at b63
    obtain ⟨v66, e66⟩ : ∃ y : Int32, y = x1 + (-2) := ⟨_, rfl⟩
    have t66 : v66.toInt = 31 - (z : Int) + (-2) := by rw [e66]; exact q_iadd t_x1 (show ((-2) : Int32).toInt = (-2) by decide) (by omega)
    refine lv_iinc (v := v66) (lv' := [(1, .int v66), (0, .int x0)]) hx hb d_Integer_numberOfLeadingZeros_66 hl (k := 0) rfl (by rw [e66]; rfl) (by decide) rfl (fun ls hl => ?_)
    refine lv_iload_n hx hb d_Integer_numberOfLeadingZeros_69 rfl (lv_at hl 1 rfl) ?_
    refine lv_iconst (v := 2) hx hb d_Integer_numberOfLeadingZeros_70 (by decide) ?_
    refine lv_iushr hx hb d_Integer_numberOfLeadingZeros_71 rfl ?_
    refine lv_topi (fun v71 e71 => ?_)
    have t71 : v71.toInt = ((w / 4 : Nat) : Int) := by rw [e71]; exact q_iushr (k := 2) t_x0 (by decide)
    refine lv_istore_n (lv' := [(0, .int v71), (1, .int v66)]) hx hb d_Integer_numberOfLeadingZeros_72 rfl hl (by decide) rfl (fun ls hl => ?_)
    exact L_Integer_numberOfLeadingZeros_73 (x) C0 hA  (v71) (v66) (w / 4) (z + 2) H locs ls ((t66).trans (by omega)) ((t71).trans (by omega)) (by rw [hw, Nat.div_div_eq_div_mul, Nat.pow_add]) (by omega) (by omega) (by omega) (va_Psub hP [] rfl) (hD.sub [] (by decide) rfl) hS (lv_sub hl [1, 0] rfl)
set_option maxHeartbeats 4000000 in
set_option maxRecDepth 100000 in
theorem L_Integer_numberOfLeadingZeros_48 {p : Program} {l : Launch} {e : Env} {s : State} {m : MethodId} {below : List Frame} {meth : Method} {c : Code} {dC : Nat → ClassId} {dI : Nat → Nat → Nat} {cI cB cJ : ClassId} {A : Nat → Prop} (x : Int32) (C0 : cx dC dI cI cB cJ R_Integer b_Integer_numberOfLeadingZeros 2 (some .int) p s m ([.int x] : List Value).toArray meth c) (hA : ∀ q : Nat, s.heap.size ≤ q → A q)  : (∀ (x0 : Int32) (x1 : Int32) (w : Nat) (z : Nat) (H : Heap) (locs : List Loc) (ls : Array Slot), x1.toInt = 31 - (z : Int) → x0.toInt = (w : Int) → (w = uw x / 2 ^ z) → (0 < w) → (w < 256) → (z ≤ 24) → va_P (dC, dI) vwCl [] H → va_D A [] → va_S A s.heap H locs → lv_has ls 2 [(1, .int x1), (0, .int x0)] → W p l e ({ frames := 0, cells := 0, slots := 0, locals := 0 } : Room) s m ([.int x] : List Value).toArray below meth c H locs 0 0 (MQ below (va_Qi (fun (r : Int32) (u : Unit) => ∃ z : Nat, r.toInt = (z : Int) ∧ ((x.toInt = 0 ∧ z = 32) ∨ (z < 32 ∧ 2 ^ (31 - z) ≤ uw x ∧ uw x < 2 ^ (32 - z)))) (poG dC dI A (fun u : Unit => [])) A) ([.int x] : List Value).toArray s 0 0 A) (F0 m 48 ls [])) := by
  obtain ⟨hx, hb, hml, hown, hts, hr, hlocks, hK, hN⟩ := id C0
  intro x0 x1 w z H locs ls t_x1 t_x0 hw hw0 hw1 hz hP hD hS hl
  have r_x1 := q_r32 x1
  have r_x0 := q_r32 x0
  refine lv_iload_n hx hb d_Integer_numberOfLeadingZeros_48 rfl (lv_at hl 1 rfl) ?_
  refine lv_bipush (v := 16) hx hb d_Integer_numberOfLeadingZeros_49 (by decide) ?_
  refine lv_icmp_lt (tgt := 61) hx hb d_Integer_numberOfLeadingZeros_51 (by decide) (fun b51 => ?_) (fun b51 => ?_)
  · skip
    rw [q_ilt t_x0 (show (16 : Int32).toInt = 16 by decide)] at b51
    exact L_Integer_numberOfLeadingZeros_61 (x) C0 hA  (x0) (x1) (w) (z) H locs ls ((t_x1).trans (by omega)) ((t_x0).trans (by omega)) (by exact hw) (by omega) (by omega) (by omega) (va_Psub hP [] rfl) (hD.sub [] (by decide) rfl) hS (lv_sub hl [0, 1] rfl)
  · skip
    rw [q_ilt t_x0 (show (16 : Int32).toInt = 16 by decide)] at b51
    obtain ⟨v54, e54⟩ : ∃ y : Int32, y = x1 + (-4) := ⟨_, rfl⟩
    have t54 : v54.toInt = 31 - (z : Int) + (-4) := by rw [e54]; exact q_iadd t_x1 (show ((-4) : Int32).toInt = (-4) by decide) (by omega)
    refine lv_iinc (v := v54) (lv' := [(1, .int v54), (0, .int x0)]) hx hb d_Integer_numberOfLeadingZeros_54 hl (k := 0) rfl (by rw [e54]; rfl) (by decide) rfl (fun ls hl => ?_)
    refine lv_iload_n hx hb d_Integer_numberOfLeadingZeros_57 rfl (lv_at hl 1 rfl) ?_
    refine lv_iconst (v := 4) hx hb d_Integer_numberOfLeadingZeros_58 (by decide) ?_
    refine lv_iushr hx hb d_Integer_numberOfLeadingZeros_59 rfl ?_
    refine lv_topi (fun v59 e59 => ?_)
    have t59 : v59.toInt = ((w / 16 : Nat) : Int) := by rw [e59]; exact q_iushr (k := 4) t_x0 (by decide)
    refine lv_istore_n (lv' := [(0, .int v59), (1, .int v54)]) hx hb d_Integer_numberOfLeadingZeros_60 rfl hl (by decide) rfl (fun ls hl => ?_)
    exact L_Integer_numberOfLeadingZeros_61 (x) C0 hA  (v59) (v54) (w / 16) (z + 4) H locs ls ((t54).trans (by omega)) ((t59).trans (by omega)) (by rw [hw, Nat.div_div_eq_div_mul, Nat.pow_add]) (by omega) (by omega) (by omega) (va_Psub hP [] rfl) (hD.sub [] (by decide) rfl) hS (lv_sub hl [1, 0] rfl)
set_option maxHeartbeats 4000000 in
set_option maxRecDepth 100000 in
theorem L_Integer_numberOfLeadingZeros_33 {p : Program} {l : Launch} {e : Env} {s : State} {m : MethodId} {below : List Frame} {meth : Method} {c : Code} {dC : Nat → ClassId} {dI : Nat → Nat → Nat} {cI cB cJ : ClassId} {A : Nat → Prop} (x : Int32) (C0 : cx dC dI cI cB cJ R_Integer b_Integer_numberOfLeadingZeros 2 (some .int) p s m ([.int x] : List Value).toArray meth c) (hA : ∀ q : Nat, s.heap.size ≤ q → A q)  : (∀ (x0 : Int32) (x1 : Int32) (w : Nat) (z : Nat) (H : Heap) (locs : List Loc) (ls : Array Slot), x1.toInt = 31 - (z : Int) → x0.toInt = (w : Int) → (w = uw x / 2 ^ z) → (0 < w) → (w < 65536) → (z ≤ 16) → va_P (dC, dI) vwCl [] H → va_D A [] → va_S A s.heap H locs → lv_has ls 2 [(1, .int x1), (0, .int x0)] → W p l e ({ frames := 0, cells := 0, slots := 0, locals := 0 } : Room) s m ([.int x] : List Value).toArray below meth c H locs 0 0 (MQ below (va_Qi (fun (r : Int32) (u : Unit) => ∃ z : Nat, r.toInt = (z : Int) ∧ ((x.toInt = 0 ∧ z = 32) ∨ (z < 32 ∧ 2 ^ (31 - z) ≤ uw x ∧ uw x < 2 ^ (32 - z)))) (poG dC dI A (fun u : Unit => [])) A) ([.int x] : List Value).toArray s 0 0 A) (F0 m 33 ls [])) := by
  obtain ⟨hx, hb, hml, hown, hts, hr, hlocks, hK, hN⟩ := id C0
  intro x0 x1 w z H locs ls t_x1 t_x0 hw hw0 hw1 hz hP hD hS hl
  have r_x1 := q_r32 x1
  have r_x0 := q_r32 x0
  refine lv_iload_n hx hb d_Integer_numberOfLeadingZeros_33 rfl (lv_at hl 1 rfl) ?_
  refine lv_sipush (v := 256) hx hb d_Integer_numberOfLeadingZeros_34 (by decide) ?_
  refine lv_icmp_lt (tgt := 48) hx hb d_Integer_numberOfLeadingZeros_37 (by decide) (fun b37 => ?_) (fun b37 => ?_)
  · skip
    rw [q_ilt t_x0 (show (256 : Int32).toInt = 256 by decide)] at b37
    exact L_Integer_numberOfLeadingZeros_48 (x) C0 hA  (x0) (x1) (w) (z) H locs ls ((t_x1).trans (by omega)) ((t_x0).trans (by omega)) (by exact hw) (by omega) (by omega) (by omega) (va_Psub hP [] rfl) (hD.sub [] (by decide) rfl) hS (lv_sub hl [0, 1] rfl)
  · skip
    rw [q_ilt t_x0 (show (256 : Int32).toInt = 256 by decide)] at b37
    obtain ⟨v40, e40⟩ : ∃ y : Int32, y = x1 + (-8) := ⟨_, rfl⟩
    have t40 : v40.toInt = 31 - (z : Int) + (-8) := by rw [e40]; exact q_iadd t_x1 (show ((-8) : Int32).toInt = (-8) by decide) (by omega)
    refine lv_iinc (v := v40) (lv' := [(1, .int v40), (0, .int x0)]) hx hb d_Integer_numberOfLeadingZeros_40 hl (k := 0) rfl (by rw [e40]; rfl) (by decide) rfl (fun ls hl => ?_)
    refine lv_iload_n hx hb d_Integer_numberOfLeadingZeros_43 rfl (lv_at hl 1 rfl) ?_
    refine lv_bipush (v := 8) hx hb d_Integer_numberOfLeadingZeros_44 (by decide) ?_
    refine lv_iushr hx hb d_Integer_numberOfLeadingZeros_46 rfl ?_
    refine lv_topi (fun v46 e46 => ?_)
    have t46 : v46.toInt = ((w / 256 : Nat) : Int) := by rw [e46]; exact q_iushr (k := 8) t_x0 (by decide)
    refine lv_istore_n (lv' := [(0, .int v46), (1, .int v40)]) hx hb d_Integer_numberOfLeadingZeros_47 rfl hl (by decide) rfl (fun ls hl => ?_)
    exact L_Integer_numberOfLeadingZeros_48 (x) C0 hA  (v46) (v40) (w / 256) (z + 8) H locs ls ((t40).trans (by omega)) ((t46).trans (by omega)) (by rw [hw, Nat.div_div_eq_div_mul, Nat.pow_add]) (by omega) (by omega) (by omega) (va_Psub hP [] rfl) (hD.sub [] (by decide) rfl) hS (lv_sub hl [1, 0] rfl)
set_option maxHeartbeats 4000000 in
set_option maxRecDepth 100000 in
theorem c_Integer_numberOfLeadingZeros (l : Launch) (dC : Nat → ClassId) (dI : Nat → Nat → Nat) (cI cB cJ : ClassId) (x : Int32)  : Ci l dC dI cI cB cJ y_Integer_numberOfLeadingZeros w_Integer_numberOfLeadingZeros ({ frames := 0, cells := 0, slots := 0, locals := 0 } : Room) [.int x] [] (fun (r : Int32) (u : Unit) => ∃ z : Nat, r.toInt = (z : Int) ∧ ((x.toInt = 0 ∧ z = 32) ∨ (z < 32 ∧ 2 ^ (31 - z) ≤ uw x ∧ uw x < 2 ^ (32 - z)))) (fun u : Unit => []) := by
  refine Ci.intro (cc := b_Integer_numberOfLeadingZeros) (maxL := 2) (plainFor_of_name (by decide)) rfl (Nat.le_of_ble_eq_true rfl) ?_
  intro p e s m below meth c A ls C0 hin hA hP hD hS hl
  obtain ⟨hx, hb, hml, hown, hts, hr, hlocks, hK, hN⟩ := id C0
  obtain ⟨H, hH⟩ : ∃ H, H = s.heap := ⟨_, rfl⟩
  have hP : va_P (dC, dI) vwCl [] s.heap := hP
  have hl : lv_has ls 2 [(0, .int x)] := hl
  have r_x := q_r32 x
  suffices h : ∀ (H : Heap) (locs : List Loc), va_P (dC, dI) vwCl [] H → va_D A [] → va_S A s.heap H locs → W p l e ({ frames := 0, cells := 0, slots := 0, locals := 0 } : Room) s m ([.int x] : List Value).toArray below meth c H locs 0 0 (MQ below (va_Qi (fun (r : Int32) (u : Unit) => ∃ z : Nat, r.toInt = (z : Int) ∧ ((x.toInt = 0 ∧ z = 32) ∨ (z < 32 ∧ 2 ^ (31 - z) ≤ uw x ∧ uw x < 2 ^ (32 - z)))) (poG dC dI A (fun u : Unit => [])) A) ([.int x] : List Value).toArray s 0 0 A) (F0 m 0 ls []) from h _ _ hP hD hS
  clear hP hD hS hH H
  intro H locs hP hD hS
  refine lv_iload_n hx hb d_Integer_numberOfLeadingZeros_0 rfl (lv_at hl 0 rfl) ?_
  refine lv_if_gt (tgt := 15) hx hb d_Integer_numberOfLeadingZeros_1 (by decide) (fun b1 => ?_) (fun b1 => ?_)
  · skip
    rw [q_ilt (show (0 : Int32).toInt = 0 by decide) (rfl : x.toInt = x.toInt)] at b1
    obtain ⟨u0, hu0⟩ : ∃ u0, u0 = uw x := ⟨_, rfl⟩
    have tu : x.toInt = (u0 : Int) := by rw [hu0]; exact uw_pos_to (by omega)
    refine lv_bipush (v := 31) hx hb d_Integer_numberOfLeadingZeros_15 (by decide) ?_
    refine lv_istore_n (lv' := [(1, .int 31), (0, .int x)]) hx hb d_Integer_numberOfLeadingZeros_17 rfl hl (by decide) rfl (fun ls hl => ?_)
    refine lv_iload_n hx hb d_Integer_numberOfLeadingZeros_18 rfl (lv_at hl 1 rfl) ?_
    refine lv_ldcw (v := 65536) hx hb hown (hts _ m_374) d_Integer_numberOfLeadingZeros_19 ?_
    refine lv_icmp_lt (tgt := 33) hx hb d_Integer_numberOfLeadingZeros_22 (by decide) (fun b22 => ?_) (fun b22 => ?_)
    · skip
      rw [q_ilt (rfl : x.toInt = x.toInt) (show (65536 : Int32).toInt = 65536 by decide)] at b22
      exact L_Integer_numberOfLeadingZeros_33 (x) C0 hA  (x) (31) (u0) (0) H locs ls (((show (31 : Int32).toInt = 31 by decide)).trans (by omega)) (tu) (by rw [hu0, Nat.pow_zero, Nat.div_one]) (by omega) (by omega) (by omega) (va_Psub hP [] rfl) (hD.sub [] (by decide) rfl) hS (lv_sub hl [0, 1] rfl)
    · skip
      rw [q_ilt (rfl : x.toInt = x.toInt) (show (65536 : Int32).toInt = 65536 by decide)] at b22
      obtain ⟨v25, e25⟩ : ∃ y : Int32, y = 31 + (-16) := ⟨_, rfl⟩
      have t25 : v25.toInt = 31 + (-16) := by rw [e25]; exact q_iadd (show (31 : Int32).toInt = 31 by decide) (show ((-16) : Int32).toInt = (-16) by decide) (by omega)
      refine lv_iinc (v := v25) (lv' := [(1, .int v25), (0, .int x)]) hx hb d_Integer_numberOfLeadingZeros_25 hl (k := 0) rfl (by rw [e25]; rfl) (by decide) rfl (fun ls hl => ?_)
      refine lv_iload_n hx hb d_Integer_numberOfLeadingZeros_28 rfl (lv_at hl 1 rfl) ?_
      refine lv_bipush (v := 16) hx hb d_Integer_numberOfLeadingZeros_29 (by decide) ?_
      refine lv_iushr hx hb d_Integer_numberOfLeadingZeros_31 rfl ?_
      refine lv_topi (fun v31 e31 => ?_)
      have t31 : v31.toInt = ((u0 / 65536 : Nat) : Int) := by rw [e31]; exact q_iushr (k := 16) tu (by decide)
      refine lv_istore_n (lv' := [(0, .int v31), (1, .int v25)]) hx hb d_Integer_numberOfLeadingZeros_32 rfl hl (by decide) rfl (fun ls hl => ?_)
      exact L_Integer_numberOfLeadingZeros_33 (x) C0 hA  (v31) (v25) (u0 / 65536) (16) H locs ls ((t25).trans (by omega)) ((t31).trans (by omega)) (by rw [hu0]) (by omega) (by omega) (by omega) (va_Psub hP [] rfl) (hD.sub [] (by decide) rfl) hS (lv_sub hl [1, 0] rfl)
  · skip
    rw [q_ilt (show (0 : Int32).toInt = 0 by decide) (rfl : x.toInt = x.toInt)] at b1
    refine lv_iload_n hx hb d_Integer_numberOfLeadingZeros_4 rfl (lv_at hl 0 rfl) ?_
    refine lv_if_ne (tgt := 13) hx hb d_Integer_numberOfLeadingZeros_5 (by decide) (fun b5 => ?_) (fun b5 => ?_)
    · skip
      rw [q_ieq (rfl : x.toInt = x.toInt) (show (0 : Int32).toInt = 0 by decide)] at b5
      refine lv_iconst (v := 0) hx hb d_Integer_numberOfLeadingZeros_13 (by decide) ?_
      exact Ci.ret C0 (v := 0) (u := ()) (Nat.le_of_ble_eq_true rfl) (Nat.le_of_ble_eq_true rfl) (by show ∃ z : Nat, (0 : Int32).toInt = (z : Int) ∧ ((x.toInt = 0 ∧ z = 32) ∨ (z < 32 ∧ 2 ^ (31 - z) ≤ uw x ∧ uw x < 2 ^ (32 - z))); exact ⟨0, by decide, Or.inr ⟨by decide, nlz_neg (by omega)⟩⟩) hP hD hS [] (by decide) rfl d_Integer_numberOfLeadingZeros_14
    · skip
      rw [q_ieq (rfl : x.toInt = x.toInt) (show (0 : Int32).toInt = 0 by decide)] at b5
      refine lv_bipush (v := 32) hx hb d_Integer_numberOfLeadingZeros_8 (by decide) ?_
      refine lv_goto (tgt := 14) hx hb d_Integer_numberOfLeadingZeros_10 (by decide) ?_
      exact Ci.ret C0 (v := 32) (u := ()) (Nat.le_of_ble_eq_true rfl) (Nat.le_of_ble_eq_true rfl) (by show ∃ z : Nat, (32 : Int32).toInt = (z : Int) ∧ ((x.toInt = 0 ∧ z = 32) ∨ (z < 32 ∧ 2 ^ (31 - z) ≤ uw x ∧ uw x < 2 ^ (32 - z))); exact ⟨32, by decide, Or.inl ⟨b5, rfl⟩⟩) hP hD hS [] (by decide) rfl d_Integer_numberOfLeadingZeros_14
set_option maxHeartbeats 4000000 in
set_option maxRecDepth 100000 in
theorem L_Natural_bitLength_3 {p : Program} {l : Launch} {e : Env} {s : State} {m : MethodId} {below : List Frame} {meth : Method} {c : Code} {dC : Nat → ClassId} {dI : Nat → Nat → Nat} {cI cB cJ : ClassId} {A : Nat → Prop} (h0 : Nat) (a0 : Nat) (f : Nat → Int32) (C0 : cx dC dI cI cB cJ R_Natural b_Natural_bitLength 2 (some .int) p s m ([.ref h0] : List Value).toArray meth c) (hA : ∀ q : Nat, s.heap.size ≤ q → A q)  : ∀ n : Nat, (∀ (x1 : Int32) (i : Nat) (H : Heap) (locs : List Loc) (ls : Array Slot), i < n → x1.toInt = (i : Int) - 1 → (i ≤ 12) → (∀ j, i ≤ j → j < 12 → f j = 0) → va_P (dC, dI) vwCl [(h0, .inr (1, [.ref a0])), (a0, .inl (cI, 12, .inl f))] H → va_D A [(h0, .inr (1, [.ref a0])), (a0, .inl (cI, 12, .inl f))] → va_S A s.heap H locs → lv_has ls 2 [(1, .int x1), (0, .ref h0)] → W p l e ({ frames := 1, cells := 0, slots := 0, locals := 21 } : Room) s m ([.ref h0] : List Value).toArray below meth c H locs 0 0 (MQ below (va_Qi (fun (r : Int32) (u : Unit) => ∃ b : Nat, r.toInt = (b : Int) ∧ b ≤ 384 ∧ nv f 12 < 2 ^ b ∧ (0 < nv f 12 → 0 < b ∧ 2 ^ (b - 1) ≤ nv f 12)) (poG dC dI A (fun u : Unit => [(h0, .inr (1, [.ref a0])), (a0, .inl (cI, 12, .inl f))])) A) ([.ref h0] : List Value).toArray s 0 0 A) (F0 m 3 ls [])) := by
  obtain ⟨hx, hb, hml, hown, hts, hr, hlocks, hK, hN⟩ := id C0
  intro n
  induction n with
  | zero => exact fun _ _ _ _ _ h0 _ _ _ _ _ _ _ => absurd h0 (Nat.not_lt_zero _)
  | succ n ih =>
    intro x1 i H locs ls hn9 t_x1 hi hs hP hD hS hl
    have r_x1 := q_r32 x1
    refine lv_iload_n hx hb d_Natural_bitLength_3 rfl (lv_at hl 0 rfl) ?_
    refine lv_if_lt (tgt := 40) hx hb d_Natural_bitLength_4 (by decide) (fun b4 => ?_) (fun b4 => ?_)
    · skip
      rw [q_ilt t_x1 (show (0 : Int32).toInt = 0 by decide)] at b4
      refine lv_iconst (v := 0) hx hb d_Natural_bitLength_40 (by decide) ?_
      exact Ci.ret C0 (v := 0) (u := ()) (Nat.le_of_ble_eq_true rfl) (Nat.le_of_ble_eq_true rfl) (by show ∃ b : Nat, (0 : Int32).toInt = (b : Int) ∧ b ≤ 384 ∧ nv f 12 < 2 ^ b ∧ (0 < nv f 12 → 0 < b ∧ 2 ^ (b - 1) ≤ nv f 12); exact ⟨0, by decide, by omega, by rw [nv_zero (fun j hj => hs j (by omega) hj)]; decide, fun h => by rw [nv_zero (fun j hj => hs j (by omega) hj)] at h; omega⟩) hP hD hS [0, 1] (by decide) rfl d_Natural_bitLength_41
    · skip
      rw [q_ilt t_x1 (show (0 : Int32).toInt = 0 by decide)] at b4
      refine lv_aload_n hx hb d_Natural_bitLength_7 rfl (lv_at hl 1 rfl) ?_
      refine va_get (D := (dC, dI)) (ci := 1) (v := .ref a0) (C := R_Natural) (T := F_Natural) (N := 1) hx hb hts u_Natural hown hK hP 0 rfl rfl 0 (by decide) (hts _ m_105) (fun _ h9 => h9) rfl d_Natural_bitLength_8 ?_
      refine lv_iload_n hx hb d_Natural_bitLength_11 rfl (lv_at hl 0 rfl) ?_
      refine va_iald hx hb hK hP 1 0 rfl rfl (q_in t_x1 (by omega)) d_Natural_bitLength_12 ?_
      refine lv_topi (fun v12 e12 => ?_)
      rw [q_cl (k := i - 1) (t_x1.trans (by omega))] at e12
      refine lv_if_eq (tgt := 34) hx hb d_Natural_bitLength_13 (by decide) (fun b13 => ?_) (fun b13 => ?_)
      · skip
        obtain ⟨v34, e34⟩ : ∃ y : Int32, y = x1 + (-1) := ⟨_, rfl⟩
        have t34 : v34.toInt = (i : Int) - 1 + (-1) := by rw [e34]; exact q_iadd t_x1 (show ((-1) : Int32).toInt = (-1) by decide) (by omega)
        refine lv_iinc (v := v34) (lv' := [(1, .int v34), (0, .ref h0)]) hx hb d_Natural_bitLength_34 hl (k := 0) rfl (by rw [e34]; rfl) (by decide) rfl (fun ls hl => ?_)
        refine lv_goto (tgt := 3) hx hb d_Natural_bitLength_37 (by decide) ?_
        exact ih (v34) (i - 1) H locs ls (by omega) ((t34).trans (by omega)) (by omega) (by intro j h1 h2; rcases Nat.lt_or_ge j i with h | h; rw [show j = i - 1 by omega, ← e12]; exact b13; exact hs j h h2) (va_Psub hP [0, 1] rfl) (hD.sub [0, 1] (by decide) rfl) hS (lv_sub hl [0, 1] rfl)
      · skip
        refine lv_bipush (v := 32) hx hb d_Natural_bitLength_16 (by decide) ?_
        refine lv_iload_n hx hb d_Natural_bitLength_18 rfl (lv_at hl 0 rfl) ?_
        refine lv_imul hx hb d_Natural_bitLength_19 ?_
        refine lv_topi (fun v19 e19 => ?_)
        have t19 : v19.toInt = 32 * ((i : Int) - 1) := by rw [e19]; exact q_imul (show (32 : Int32).toInt = 32 by decide) t_x1 (by omega)
        refine lv_bipush (v := 32) hx hb d_Natural_bitLength_20 (by decide) ?_
        refine lv_iadd hx hb d_Natural_bitLength_22 ?_
        refine lv_topi (fun v22 e22 => ?_)
        have t22 : v22.toInt = (32 * ((i : Int) - 1)) + 32 := by rw [e22]; exact q_iadd t19 (show (32 : Int32).toInt = 32 by decide) (by omega)
        refine lv_aload_n hx hb d_Natural_bitLength_23 rfl (lv_at hl 1 rfl) ?_
        refine va_get (D := (dC, dI)) (ci := 1) (v := .ref a0) (C := R_Natural) (T := F_Natural) (N := 1) hx hb hts u_Natural hown hK hP 0 rfl rfl 0 (by decide) (hts _ m_105) (fun _ h9 => h9) rfl d_Natural_bitLength_24 ?_
        refine lv_iload_n hx hb d_Natural_bitLength_27 rfl (lv_at hl 0 rfl) ?_
        refine va_iald hx hb hK hP 1 0 rfl rfl (q_in t_x1 (by omega)) d_Natural_bitLength_28 ?_
        refine lv_topi (fun v28 e28 => ?_)
        rw [q_cl (k := i - 1) (t_x1.trans (by omega))] at e28
        refine callS_i (wr := [(h0, .inr (1, [.ref a0])), (a0, .inl (cI, 12, .inl f))]) C0 (c_Integer_numberOfLeadingZeros l dC dI cI cB cJ (v28)) (cwSx 1 hts m_371 m_372 m_61 m_373 (by decide +kernel) ⟨Nat.le_of_ble_eq_true rfl, Nat.le_of_ble_eq_true rfl⟩) hP hD hS hA [] [0, 1] rfl rfl (by decide) (by decide) (by decide) rfl hl.1 rfl (Nat.le_of_ble_eq_true rfl) d_Natural_bitLength_29 ⟨Nat.le_of_ble_eq_true rfl, Nat.le_of_ble_eq_true rfl⟩ (fun r29 u29 H locs hw9 hP hD hS => ?_)
        have h29 : ∃ z : Nat, r29.toInt = (z : Int) ∧ ((v28.toInt = 0 ∧ z = 32) ∨ (z < 32 ∧ 2 ^ (31 - z) ≤ uw v28 ∧ uw v28 < 2 ^ (32 - z))) := hw9
        have hP : va_P (dC, dI) vwCl [(h0, .inr (1, [.ref a0])), (a0, .inl (cI, 12, .inl f))] H := hP
        have hD : va_D A [(h0, .inr (1, [.ref a0])), (a0, .inl (cI, 12, .inl f))] := hD
        obtain ⟨z, tz, hz⟩ := h29
        have t29 : r29.toInt = (z : Int) := tz
        refine lv_isub hx hb d_Natural_bitLength_32 ?_
        refine lv_topi (fun v32 e32 => ?_)
        have t32 : v32.toInt = ((32 * ((i : Int) - 1)) + 32) - (z : Int) := by rw [e32]; exact q_isub t22 t29 (by omega)
        have hz2 : z < 32 ∧ 2 ^ (31 - z) ≤ uw v28 ∧ uw v28 < 2 ^ (32 - z) := by
          rcases hz with ⟨h1, -⟩ | h1
          · exact absurd (Int32.toInt_inj.mp (h1.trans (show (0 : Int) = (0 : Int32).toInt by decide))) (by rw [e28, ← e12]; exact b13)
          · exact h1
        obtain ⟨hz3, hz4, hz5⟩ := hz2
        rw [e28] at hz4 hz5
        exact Ci.ret C0 (v := v32) (u := ()) (Nat.le_of_ble_eq_true rfl) (Nat.le_of_ble_eq_true rfl) (by show ∃ b : Nat, v32.toInt = (b : Int) ∧ b ≤ 384 ∧ nv f 12 < 2 ^ b ∧ (0 < nv f 12 → 0 < b ∧ 2 ^ (b - 1) ≤ nv f 12); exact ⟨32 * (i - 1) + 32 - z, by rw [t32]; omega, by omega, nlz_nv (by omega) (by omega) hs hz3 hz4 hz5⟩) hP hD hS [0, 1] (by decide) rfl d_Natural_bitLength_33
set_option maxHeartbeats 4000000 in
set_option maxRecDepth 100000 in
theorem c_Natural_bitLength (l : Launch) (dC : Nat → ClassId) (dI : Nat → Nat → Nat) (cI cB cJ : ClassId) (h0 : Nat) (a0 : Nat) (f : Nat → Int32)  : Ci l dC dI cI cB cJ y_Natural_bitLength w_Natural_bitLength ({ frames := 1, cells := 0, slots := 0, locals := 21 } : Room) [.ref h0] [(h0, .inr (1, [.ref a0])), (a0, .inl (cI, 12, .inl f))] (fun (r : Int32) (u : Unit) => ∃ b : Nat, r.toInt = (b : Int) ∧ b ≤ 384 ∧ nv f 12 < 2 ^ b ∧ (0 < nv f 12 → 0 < b ∧ 2 ^ (b - 1) ≤ nv f 12)) (fun u : Unit => [(h0, .inr (1, [.ref a0])), (a0, .inl (cI, 12, .inl f))]) := by
  refine Ci.intro (cc := b_Natural_bitLength) (maxL := 2) (plainFor_of_name (by decide)) rfl (Nat.le_of_ble_eq_true rfl) ?_
  intro p e s m below meth c A ls C0 hin hA hP hD hS hl
  obtain ⟨hx, hb, hml, hown, hts, hr, hlocks, hK, hN⟩ := id C0
  obtain ⟨H, hH⟩ : ∃ H, H = s.heap := ⟨_, rfl⟩
  have hP : va_P (dC, dI) vwCl [(h0, .inr (1, [.ref a0])), (a0, .inl (cI, 12, .inl f))] s.heap := hP
  have hl : lv_has ls 2 [(0, .ref h0)] := hl
  suffices h : ∀ (H : Heap) (locs : List Loc), va_P (dC, dI) vwCl [(h0, .inr (1, [.ref a0])), (a0, .inl (cI, 12, .inl f))] H → va_D A [(h0, .inr (1, [.ref a0])), (a0, .inl (cI, 12, .inl f))] → va_S A s.heap H locs → W p l e ({ frames := 1, cells := 0, slots := 0, locals := 21 } : Room) s m ([.ref h0] : List Value).toArray below meth c H locs 0 0 (MQ below (va_Qi (fun (r : Int32) (u : Unit) => ∃ b : Nat, r.toInt = (b : Int) ∧ b ≤ 384 ∧ nv f 12 < 2 ^ b ∧ (0 < nv f 12 → 0 < b ∧ 2 ^ (b - 1) ≤ nv f 12)) (poG dC dI A (fun u : Unit => [(h0, .inr (1, [.ref a0])), (a0, .inl (cI, 12, .inl f))])) A) ([.ref h0] : List Value).toArray s 0 0 A) (F0 m 0 ls []) from h _ _ hP hD hS
  clear hP hD hS hH H
  intro H locs hP hD hS
  refine lv_bipush (v := 11) hx hb d_Natural_bitLength_0 (by decide) ?_
  refine lv_istore_n (lv' := [(1, .int 11), (0, .ref h0)]) hx hb d_Natural_bitLength_2 rfl hl (by decide) rfl (fun ls hl => ?_)
  exact L_Natural_bitLength_3 (h0) (a0) (f) C0 hA  _ (11) (12) H locs ls (Nat.lt_succ_self _) (((show (11 : Int32).toInt = 11 by decide)).trans (by omega)) (by omega) (by intro j h1 h2; omega) (va_Psub hP [0, 1] rfl) (hD.sub [0, 1] (by decide) rfl) hS (lv_sub hl [0, 1] rfl)
