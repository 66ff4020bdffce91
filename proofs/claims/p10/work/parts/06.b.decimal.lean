set_option maxHeartbeats 4000000 in
set_option maxRecDepth 100000 in
theorem c_Decimal_isDigit (l : Launch) (dC : Nat → ClassId) (dI : Nat → Nat → Nat) (cI cB cJ : ClassId) (x : Int32)  : Ci l dC dI cI cB cJ y_Decimal_isDigit w_Decimal_isDigit ({ frames := 0, cells := 0, slots := 0, locals := 0 } : Room) [.int x] [] (fun (r : Int32) (u : Unit) => r = if 48 ≤ x.toInt ∧ x.toInt ≤ 57 then 1 else 0) (fun u : Unit => []) := by
  refine Ci.intro (cc := b_Decimal_isDigit) (maxL := 1) (plainFor_of_name (by decide)) rfl (Nat.le_of_ble_eq_true rfl) ?_
  intro p e s m below meth c A ls C0 hin hA hP hD hS hl
  obtain ⟨hx, hb, hml, hown, hts, hr, hlocks, hK, hN⟩ := id C0
  obtain ⟨H, hH⟩ : ∃ H, H = s.heap := ⟨_, rfl⟩
  have hP : va_P (dC, dI) vwCl [] s.heap := hP
  have hl : lv_has ls 1 [(0, .int x)] := hl
  have r_x := q_r32 x
  suffices h : ∀ (H : Heap) (locs : List Loc), va_P (dC, dI) vwCl [] H → va_D A [] → va_S A s.heap H locs → W p l e ({ frames := 0, cells := 0, slots := 0, locals := 0 } : Room) s m ([.int x] : List Value).toArray below meth c H locs 0 0 (MQ below (va_Qi (fun (r : Int32) (u : Unit) => r = if 48 ≤ x.toInt ∧ x.toInt ≤ 57 then 1 else 0) (poG dC dI A (fun u : Unit => [])) A) ([.int x] : List Value).toArray s 0 0 A) (F0 m 0 ls []) from h _ _ hP hD hS
  clear hP hD hS hH H
  intro H locs hP hD hS
  refine lv_iload_n hx hb d_Decimal_isDigit_0 rfl (lv_at hl 0 rfl) ?_
  refine lv_bipush (v := 48) hx hb d_Decimal_isDigit_1 (by decide) ?_
  refine lv_icmp_lt (tgt := 16) hx hb d_Decimal_isDigit_3 (by decide) (fun b3 => ?_) (fun b3 => ?_)
  · skip
    rw [q_ilt (rfl : x.toInt = x.toInt) (show (48 : Int32).toInt = 48 by decide)] at b3
    refine lv_iconst (v := 0) hx hb d_Decimal_isDigit_16 (by decide) ?_
    exact Cz.ret C0 (v := 0) (u := ()) (by rfl) (Nat.le_of_ble_eq_true rfl) (Nat.le_of_ble_eq_true rfl) (by show (0 : Int32) = if 48 ≤ x.toInt ∧ x.toInt ≤ 57 then 1 else 0; rw [if_neg (by omega)]) hP hD hS [] (by decide) rfl d_Decimal_isDigit_17
  · skip
    rw [q_ilt (rfl : x.toInt = x.toInt) (show (48 : Int32).toInt = 48 by decide)] at b3
    refine lv_iload_n hx hb d_Decimal_isDigit_6 rfl (lv_at hl 0 rfl) ?_
    refine lv_bipush (v := 57) hx hb d_Decimal_isDigit_7 (by decide) ?_
    refine lv_icmp_gt (tgt := 16) hx hb d_Decimal_isDigit_9 (by decide) (fun b9 => ?_) (fun b9 => ?_)
    · skip
      rw [q_ilt (show (57 : Int32).toInt = 57 by decide) (rfl : x.toInt = x.toInt)] at b9
      refine lv_iconst (v := 0) hx hb d_Decimal_isDigit_16 (by decide) ?_
      exact Cz.ret C0 (v := 0) (u := ()) (by rfl) (Nat.le_of_ble_eq_true rfl) (Nat.le_of_ble_eq_true rfl) (by show (0 : Int32) = if 48 ≤ x.toInt ∧ x.toInt ≤ 57 then 1 else 0; rw [if_neg (by omega)]) hP hD hS [] (by decide) rfl d_Decimal_isDigit_17
    · skip
      rw [q_ilt (show (57 : Int32).toInt = 57 by decide) (rfl : x.toInt = x.toInt)] at b9
      refine lv_iconst (v := 1) hx hb d_Decimal_isDigit_12 (by decide) ?_
      refine lv_goto (tgt := 17) hx hb d_Decimal_isDigit_13 (by decide) ?_
      exact Cz.ret C0 (v := 1) (u := ()) (by rfl) (Nat.le_of_ble_eq_true rfl) (Nat.le_of_ble_eq_true rfl) (by show (1 : Int32) = if 48 ≤ x.toInt ∧ x.toInt ≤ 57 then 1 else 0; rw [if_pos (by omega)]) hP hD hS [] (by decide) rfl d_Decimal_isDigit_17
set_option maxHeartbeats 4000000 in
set_option maxRecDepth 100000 in
theorem c_Decimal_init (l : Launch) (dC : Nat → ClassId) (dI : Nat → Nat → Nat) (cI cB cJ : ClassId) (h0 : Nat) (z0 : Int32) (z1 : Int32)  : Cv l dC dI cI cB cJ y_Decimal_init w_Decimal_init ({ frames := 2, cells := 2, slots := 13, locals := 32 } : Room) [.ref h0] [(h0, .inr (3, [.null, .int z0, .int z1]))] (fun (u : (Nat) × (Nat) × (Nat → Int32)) => nv u.2.2 12 = 0) (fun u : (Nat) × (Nat) × (Nat → Int32) => [(h0, .inr (3, [.ref u.1, .int 0, .int 0])), (u.1, .inr (1, [.ref u.2.1])), (u.2.1, .inl (cI, 12, .inl u.2.2))]) := by
  refine Cv.intro (cc := b_Decimal_init) (maxL := 1) (plainFor_of_name (by decide)) rfl (Nat.le_of_ble_eq_true rfl) ?_
  intro p e s m below meth c A ls C0 hin hA hP hD hS hl
  obtain ⟨hx, hb, hml, hown, hts, hr, hlocks, hK, hN⟩ := id C0
  obtain ⟨H, hH⟩ : ∃ H, H = s.heap := ⟨_, rfl⟩
  have hP : va_P (dC, dI) vwCl [(h0, .inr (3, [.null, .int z0, .int z1]))] s.heap := hP
  have hl : lv_has ls 1 [(0, .ref h0)] := hl
  suffices h : ∀ (H : Heap) (locs : List Loc), va_P (dC, dI) vwCl [(h0, .inr (3, [.null, .int z0, .int z1]))] H → va_D A [(h0, .inr (3, [.null, .int z0, .int z1]))] → va_S A s.heap H locs → W p l e ({ frames := 2, cells := 2, slots := 13, locals := 32 } : Room) s m ([.ref h0] : List Value).toArray below meth c H locs 0 0 (MQ below (va_Qv (fun (u : (Nat) × (Nat) × (Nat → Int32)) => nv u.2.2 12 = 0) (poG dC dI A (fun u : (Nat) × (Nat) × (Nat → Int32) => [(h0, .inr (3, [.ref u.1, .int 0, .int 0])), (u.1, .inr (1, [.ref u.2.1])), (u.2.1, .inl (cI, 12, .inl u.2.2))])) A) ([.ref h0] : List Value).toArray s 2 13 A) (F0 m 0 ls []) from h _ _ hP hD hS
  clear hP hD hS hH H
  intro H locs hP hD hS
  refine lv_aload_n hx hb d_Decimal_init_0 rfl (lv_at hl 0 rfl) ?_
  refine W.objInit hx hb hown (hts _ m_98) (hts _ m_70) (hts _ m_71) rfl (by rw [hml]; exact hl.1) rfl d_Decimal_init_1 (Nat.le_of_ble_eq_true rfl) (Nat.le_of_ble_eq_true rfl) ?_
  refine W.eq (g2 := F0 m 4 ls []) rfl ?_
  refine lv_aload_n hx hb d_Decimal_init_4 rfl (lv_at hl 0 rfl) ?_
  refine va_new (ci := 1) (fs := [.null]) (C := R_Natural) (T := F_Natural) (N := 1) hx hb hts u_Natural t_Natural t_Natural_ok hown (hts _ m_99) (hts _ m_100) (hts _ m_51) hK hP hD hS hA rfl (fun j hj => by rcases (show j = 0 by omega) with rfl <;> rfl) (Nat.le_of_ble_eq_true rfl) (Nat.le_of_ble_eq_true rfl) d_Decimal_init_5 (fun hn H hP hD hS => ?_)
  have hP : va_P (dC, dI) vwCl [(h0, .inr (3, [.null, .int z0, .int z1])), (hn, .inr (1, [.null]))] H := hP
  have hD : va_D A [(h0, .inr (3, [.null, .int z0, .int z1])), (hn, .inr (1, [.null]))] := hD
  refine lv_dup hx hb d_Decimal_init_8 rfl ?_
  refine callI_v (wr := [(h0, .inr (3, [.null, .int z0, .int z1]))]) C0 (c_Natural_init l dC dI cI cB cJ (hn)) (cwI 0 hts (gI m_103) rfl rfl rfl (hts _ m_51) (hts _ m_101) (hts _ m_102) rfl (by decide +kernel) ⟨Nat.le_of_ble_eq_true rfl, Nat.le_of_ble_eq_true rfl⟩) hP hD hS hA [1] [0] rfl rfl (by decide) (by decide) (by decide) rfl hl.1 rfl (Nat.le_of_ble_eq_true rfl) d_Decimal_init_9 ⟨Nat.le_of_ble_eq_true rfl, Nat.le_of_ble_eq_true rfl⟩ (fun u9 H locs hw9 hP hD hS => ?_)
  obtain ⟨an, k⟩ := u9
  have h9 : nv k 12 = 0 := hw9
  have hP : va_P (dC, dI) vwCl [(h0, .inr (3, [.null, .int z0, .int z1])), (hn, .inr (1, [.ref an])), (an, .inl (cI, 12, .inl k))] H := hP
  have hD : va_D A [(h0, .inr (3, [.null, .int z0, .int z1])), (hn, .inr (1, [.ref an])), (an, .inl (cI, 12, .inl k))] := hD
  refine va_putF (D := (dC, dI)) (ci := 3) (v := .ref hn) (ty := .object "DecimalDesk$Natural") (C := R_Decimal) (T := F_Decimal) (N := 3) hx hb hts u_Decimal t_Decimal t_Decimal_ok n_Decimal hown hK hP hD hS 0 rfl rfl 0 (by decide) (hts _ m_108) (fun _ h9 => h9) rfl hin rfl (by decide +kernel) rfl rfl (Nat.le_of_ble_eq_true rfl) d_Decimal_init_12 (fun H locs hP hD hS => ?_)
  have hP : va_P (dC, dI) vwCl [(h0, .inr (3, [.ref hn, .int z0, .int z1])), (hn, .inr (1, [.ref an])), (an, .inl (cI, 12, .inl k))] H := hP
  have hD : va_D A [(h0, .inr (3, [.ref hn, .int z0, .int z1])), (hn, .inr (1, [.ref an])), (an, .inl (cI, 12, .inl k))] := hD
  refine lv_aload_n hx hb d_Decimal_init_15 rfl (lv_at hl 0 rfl) ?_
  refine lv_iconst (v := 0) hx hb d_Decimal_init_16 (by decide) ?_
  refine va_put (D := (dC, dI)) (ci := 3) (v := .int 0) (ty := .boolean) (C := R_Decimal) (T := F_Decimal) (N := 3) hx hb hts u_Decimal t_Decimal t_Decimal_ok n_Decimal hown hK hP hD hS 0 rfl rfl 1 (by decide) (hts _ m_109) (fun _ h9 => h9) rfl (by decide +kernel) rfl rfl (Nat.le_of_ble_eq_true rfl) d_Decimal_init_17 (fun H locs hP hD hS => ?_)
  have hP : va_P (dC, dI) vwCl [(h0, .inr (3, [.ref hn, .int 0, .int z1])), (hn, .inr (1, [.ref an])), (an, .inl (cI, 12, .inl k))] H := hP
  have hD : va_D A [(h0, .inr (3, [.ref hn, .int 0, .int z1])), (hn, .inr (1, [.ref an])), (an, .inl (cI, 12, .inl k))] := hD
  refine lv_aload_n hx hb d_Decimal_init_20 rfl (lv_at hl 0 rfl) ?_
  refine lv_iconst (v := 0) hx hb d_Decimal_init_21 (by decide) ?_
  refine va_put (D := (dC, dI)) (ci := 3) (v := .int 0) (ty := .int) (C := R_Decimal) (T := F_Decimal) (N := 3) hx hb hts u_Decimal t_Decimal t_Decimal_ok n_Decimal hown hK hP hD hS 0 rfl rfl 2 (by decide) (hts _ m_110) (fun _ h9 => h9) rfl (by decide +kernel) rfl rfl (Nat.le_of_ble_eq_true rfl) d_Decimal_init_22 (fun H locs hP hD hS => ?_)
  have hP : va_P (dC, dI) vwCl [(h0, .inr (3, [.ref hn, .int 0, .int 0])), (hn, .inr (1, [.ref an])), (an, .inl (cI, 12, .inl k))] H := hP
  have hD : va_D A [(h0, .inr (3, [.ref hn, .int 0, .int 0])), (hn, .inr (1, [.ref an])), (an, .inl (cI, 12, .inl k))] := hD
  exact Cv.ret C0 (u := (hn, an, k)) (Nat.le_of_ble_eq_true rfl) (Nat.le_of_ble_eq_true rfl) (by show nv k 12 = 0; exact h9) hP hD hS [0, 1, 2] (by decide) rfl d_Decimal_init_25
set_option maxHeartbeats 4000000 in
set_option maxRecDepth 100000 in
theorem L_Decimal_takeDigits_77 {p : Program} {l : Launch} {e : Env} {s : State} {m : MethodId} {below : List Frame} {meth : Method} {c : Code} {dC : Nat → ClassId} {dI : Nat → Nat → Nat} {cI cB cJ : ClassId} {A : Nat → Prop} (h0 : Nat) (hn : Nat) (an : Nat) (f : Nat → Int32) (neg : Int32) (ex0 : Int32) (h1 : Nat) (a1 : Nat) (g : Nat → Int32) (l1 : Int32) (T : Nat → Nat) (len : Nat) (x : Int32) (C0 : cx dC dI cI cB cJ R_Decimal b_Decimal_takeDigits 7 (some .int) p s m ([.ref h0, .ref h1, .int x] : List Value).toArray meth c) (hA : ∀ q : Nat, s.heap.size ≤ q → A q) (hT : TP g l1 T len) (hx0 : x.toInt = (pS T len : Int)) (hz : nv f 12 = 0) : (∀ (x3 : Int32) (x4 : Int32) (x5 : Int32) (cnt : Nat) (pos : Nat) (ah : Int) (k : Nat → Int32) (H : Heap) (locs : List Loc) (ls : Array Slot), x5.toInt = (pos : Int) → x4.toInt = ah → x3.toInt = (cnt : Int) → (pos ≤ 60) → (cnt ≤ pos) → ((ph1 T len cnt pos ah (nv k 12) ∧ (cnt = 0 ∨ ¬ (pos < len ∧ T pos = 46))) ∨ ph2 T len cnt pos ah (nv k 12)) → (¬ isD T len pos) → va_P (dC, dI) vwCl [(h0, .inr (3, [.ref hn, .int neg, .int ex0])), (hn, .inr (1, [.ref an])), (an, .inl (cI, 12, .inl k)), (h1, .inr (2, [.ref a1, .int l1])), (a1, .inl (cB, 60, .inl g))] H → va_D A [(h0, .inr (3, [.ref hn, .int neg, .int ex0])), (hn, .inr (1, [.ref an])), (an, .inl (cI, 12, .inl k)), (h1, .inr (2, [.ref a1, .int l1])), (a1, .inl (cB, 60, .inl g))] → va_S A s.heap H locs → lv_has ls 7 [(5, .int x5), (4, .int x4), (3, .int x3), (1, .ref h1), (0, .ref h0)] → W p l e ({ frames := 1, cells := 0, slots := 0, locals := 25 } : Room) s m ([.ref h0, .ref h1, .int x] : List Value).toArray below meth c H locs 0 0 (MQ below (va_Qi (fun (r : Int32) (u : (Nat → Int32) × (Int32)) => (r = -1 ∧ ¬ okD T len) ∨ (r.toInt = (pQ T len : Int) ∧ okD T len ∧ nv u.1 12 = pV T len ∧ u.2.toInt = -(pB T len : Int))) (poG dC dI A (fun u : (Nat → Int32) × (Int32) => [(h0, .inr (3, [.ref hn, .int neg, .int u.2])), (hn, .inr (1, [.ref an])), (an, .inl (cI, 12, .inl u.1)), (h1, .inr (2, [.ref a1, .int l1])), (a1, .inl (cB, 60, .inl g))])) A) ([.ref h0, .ref h1, .int x] : List Value).toArray s 0 0 A) (F0 m 77 ls [])) := by
  obtain ⟨hx, hb, hml, hown, hts, hr, hlocks, hK, hN⟩ := id C0
  intro x3 x4 x5 cnt pos ah k H locs ls t_x5 t_x4 t_x3 hp hcp hph hnd hP hD hS hl
  have r_x5 := q_r32 x5
  have r_x4 := q_r32 x4
  have r_x3 := q_r32 x3
  have hn60 := hT.2.1
  refine lv_iload_n hx hb d_Decimal_takeDigits_77 rfl (lv_at hl 2 rfl) ?_
  refine lv_if_eq (tgt := 93) hx hb d_Decimal_takeDigits_78 (by decide) (fun b78 => ?_) (fun b78 => ?_)
  · skip
    rw [q_ieq t_x3 (show (0 : Int32).toInt = 0 by decide)] at b78
    refine lv_iconst (v := (-1)) hx hb d_Decimal_takeDigits_93 (by decide) ?_
    exact Ci.ret C0 (v := (-1)) (u := (k, ex0)) (Nat.le_of_ble_eq_true rfl) (Nat.le_of_ble_eq_true rfl) (by show ((((-1) : Int32)) = -1 ∧ ¬ okD T len) ∨ ((((-1) : Int32)).toInt = (pQ T len : Int) ∧ okD T len ∧ nv k 12 = pV T len ∧ ex0.toInt = -(pB T len : Int)); exact Or.inl ⟨rfl, td_zero hn60 hph hnd (by omega)⟩) hP hD hS [0, 1, 2, 3, 4] (by decide) rfl d_Decimal_takeDigits_94
  · skip
    rw [q_ieq t_x3 (show (0 : Int32).toInt = 0 by decide)] at b78
    refine lv_iload_n hx hb d_Decimal_takeDigits_81 rfl (lv_at hl 2 rfl) ?_
    refine lv_bipush (v := 40) hx hb d_Decimal_takeDigits_82 (by decide) ?_
    refine lv_icmp_gt (tgt := 93) hx hb d_Decimal_takeDigits_84 (by decide) (fun b84 => ?_) (fun b84 => ?_)
    · skip
      rw [q_ilt (show (40 : Int32).toInt = 40 by decide) t_x3] at b84
      refine lv_iconst (v := (-1)) hx hb d_Decimal_takeDigits_93 (by decide) ?_
      exact Ci.ret C0 (v := (-1)) (u := (k, ex0)) (Nat.le_of_ble_eq_true rfl) (Nat.le_of_ble_eq_true rfl) (by show ((((-1) : Int32)) = -1 ∧ ¬ okD T len) ∨ ((((-1) : Int32)).toInt = (pQ T len : Int) ∧ okD T len ∧ nv k 12 = pV T len ∧ ex0.toInt = -(pB T len : Int)); exact Or.inl ⟨rfl, td_many hn60 hph hnd (by omega)⟩) hP hD hS [0, 1, 2, 3, 4] (by decide) rfl d_Decimal_takeDigits_94
    · skip
      rw [q_ilt (show (40 : Int32).toInt = 40 by decide) t_x3] at b84
      refine lv_iload hx hb d_Decimal_takeDigits_87 (lv_at hl 1 rfl) ?_
      refine lv_iload_n hx hb d_Decimal_takeDigits_89 rfl (lv_at hl 2 rfl) ?_
      refine lv_icmp_ne (tgt := 95) hx hb d_Decimal_takeDigits_90 (by decide) (fun b90 => ?_) (fun b90 => ?_)
      · skip
        rw [q_ieq t_x4 t_x3] at b90
        refine lv_aload_n hx hb d_Decimal_takeDigits_95 rfl (lv_at hl 4 rfl) ?_
        refine lv_iload hx hb d_Decimal_takeDigits_96 (lv_at hl 1 rfl) ?_
        refine lv_iconst (v := (-1)) hx hb d_Decimal_takeDigits_98 (by decide) ?_
        refine lv_icmp_ne (tgt := 106) hx hb d_Decimal_takeDigits_99 (by decide) (fun b99 => ?_) (fun b99 => ?_)
        · skip
          rw [q_ieq t_x4 (show ((-1) : Int32).toInt = (-1) by decide)] at b99
          refine lv_iload hx hb d_Decimal_takeDigits_106 (lv_at hl 1 rfl) ?_
          refine lv_iload_n hx hb d_Decimal_takeDigits_108 rfl (lv_at hl 2 rfl) ?_
          have hah : -1 ≤ ah := hph.elim (fun h => by have := h.1.1; omega) (fun ⟨a, h, _⟩ => by omega)
          refine lv_isub hx hb d_Decimal_takeDigits_109 ?_
          refine lv_topi (fun v109 e109 => ?_)
          have t109 : v109.toInt = ah - (cnt : Int) := by rw [e109]; exact q_isub t_x4 t_x3 (by omega)
          refine va_put (D := (dC, dI)) (ci := 3) (v := .int v109) (ty := .int) (C := R_Decimal) (T := F_Decimal) (N := 3) hx hb hts u_Decimal t_Decimal t_Decimal_ok n_Decimal hown hK hP hD hS 0 rfl rfl 2 (by decide) (hts _ m_110) (fun _ h9 => h9) rfl (by decide +kernel) rfl rfl (Nat.le_of_ble_eq_true rfl) d_Decimal_takeDigits_110 (fun H locs hP hD hS => ?_)
          have hP : va_P (dC, dI) vwCl [(h0, .inr (3, [.ref hn, .int neg, .int v109])), (hn, .inr (1, [.ref an])), (an, .inl (cI, 12, .inl k)), (h1, .inr (2, [.ref a1, .int l1])), (a1, .inl (cB, 60, .inl g))] H := hP
          have hD : va_D A [(h0, .inr (3, [.ref hn, .int neg, .int v109])), (hn, .inr (1, [.ref an])), (an, .inl (cI, 12, .inl k)), (h1, .inr (2, [.ref a1, .int l1])), (a1, .inl (cB, 60, .inl g))] := hD
          refine lv_iload hx hb d_Decimal_takeDigits_113 (lv_at hl 0 rfl) ?_
          have hgo := td_two hn60 hph hnd (by omega) (by omega) (by omega) (by omega)
          exact Ci.ret C0 (v := x5) (u := (k, v109)) (Nat.le_of_ble_eq_true rfl) (Nat.le_of_ble_eq_true rfl) (by show (x5 = -1 ∧ ¬ okD T len) ∨ (x5.toInt = (pQ T len : Int) ∧ okD T len ∧ nv k 12 = pV T len ∧ v109.toInt = -(pB T len : Int)); exact Or.inr ⟨t_x5.trans (by rw [hgo.1]), hgo.2.1, hgo.2.2.1, by rw [t109]; have := hgo.2.2.2; omega⟩) hP hD hS [0, 1, 2, 3, 4] (by decide) rfl d_Decimal_takeDigits_115
        · skip
          rw [q_ieq t_x4 (show ((-1) : Int32).toInt = (-1) by decide)] at b99
          refine lv_iconst (v := 0) hx hb d_Decimal_takeDigits_102 (by decide) ?_
          refine lv_goto (tgt := 110) hx hb d_Decimal_takeDigits_103 (by decide) ?_
          refine va_put (D := (dC, dI)) (ci := 3) (v := .int 0) (ty := .int) (C := R_Decimal) (T := F_Decimal) (N := 3) hx hb hts u_Decimal t_Decimal t_Decimal_ok n_Decimal hown hK hP hD hS 0 rfl rfl 2 (by decide) (hts _ m_110) (fun _ h9 => h9) rfl (by decide +kernel) rfl rfl (Nat.le_of_ble_eq_true rfl) d_Decimal_takeDigits_110 (fun H locs hP hD hS => ?_)
          have hP : va_P (dC, dI) vwCl [(h0, .inr (3, [.ref hn, .int neg, .int 0])), (hn, .inr (1, [.ref an])), (an, .inl (cI, 12, .inl k)), (h1, .inr (2, [.ref a1, .int l1])), (a1, .inl (cB, 60, .inl g))] H := hP
          have hD : va_D A [(h0, .inr (3, [.ref hn, .int neg, .int 0])), (hn, .inr (1, [.ref an])), (an, .inl (cI, 12, .inl k)), (h1, .inr (2, [.ref a1, .int l1])), (a1, .inl (cB, 60, .inl g))] := hD
          refine lv_iload hx hb d_Decimal_takeDigits_113 (lv_at hl 0 rfl) ?_
          have hgo := td_one hn60 hph hnd (by omega) (by omega) (by omega)
          exact Ci.ret C0 (v := x5) (u := (k, 0)) (Nat.le_of_ble_eq_true rfl) (Nat.le_of_ble_eq_true rfl) (by show (x5 = -1 ∧ ¬ okD T len) ∨ (x5.toInt = (pQ T len : Int) ∧ okD T len ∧ nv k 12 = pV T len ∧ (0 : Int32).toInt = -(pB T len : Int)); exact Or.inr ⟨t_x5.trans (by rw [hgo.1]), hgo.2.1, hgo.2.2.1, by rw [hgo.2.2.2]; decide⟩) hP hD hS [0, 1, 2, 3, 4] (by decide) rfl d_Decimal_takeDigits_115
      · skip
        rw [q_ieq t_x4 t_x3] at b90
        refine lv_iconst (v := (-1)) hx hb d_Decimal_takeDigits_93 (by decide) ?_
        exact Ci.ret C0 (v := (-1)) (u := (k, ex0)) (Nat.le_of_ble_eq_true rfl) (Nat.le_of_ble_eq_true rfl) (by show ((((-1) : Int32)) = -1 ∧ ¬ okD T len) ∨ ((((-1) : Int32)).toInt = (pQ T len : Int) ∧ okD T len ∧ nv k 12 = pV T len ∧ ex0.toInt = -(pB T len : Int)); exact Or.inl ⟨rfl, td_bare hn60 hph hnd (by omega)⟩) hP hD hS [0, 1, 2, 3, 4] (by decide) rfl d_Decimal_takeDigits_94
set_option maxHeartbeats 4000000 in
set_option maxRecDepth 100000 in
theorem L_Decimal_takeDigits_8 {p : Program} {l : Launch} {e : Env} {s : State} {m : MethodId} {below : List Frame} {meth : Method} {c : Code} {dC : Nat → ClassId} {dI : Nat → Nat → Nat} {cI cB cJ : ClassId} {A : Nat → Prop} (h0 : Nat) (hn : Nat) (an : Nat) (f : Nat → Int32) (neg : Int32) (ex0 : Int32) (h1 : Nat) (a1 : Nat) (g : Nat → Int32) (l1 : Int32) (T : Nat → Nat) (len : Nat) (x : Int32) (C0 : cx dC dI cI cB cJ R_Decimal b_Decimal_takeDigits 7 (some .int) p s m ([.ref h0, .ref h1, .int x] : List Value).toArray meth c) (hA : ∀ q : Nat, s.heap.size ≤ q → A q) (hT : TP g l1 T len) (hx0 : x.toInt = (pS T len : Int)) (hz : nv f 12 = 0) : ∀ n : Nat, (∀ (x3 : Int32) (x4 : Int32) (x5 : Int32) (cnt : Nat) (pos : Nat) (ah : Int) (k : Nat → Int32) (H : Heap) (locs : List Loc) (ls : Array Slot), 60 - pos < n → x5.toInt = (pos : Int) → x4.toInt = ah → x3.toInt = (cnt : Int) → (pos ≤ 60) → (cnt ≤ pos) → (ph1 T len cnt pos ah (nv k 12) ∨ ph2 T len cnt pos ah (nv k 12)) → va_P (dC, dI) vwCl [(h0, .inr (3, [.ref hn, .int neg, .int ex0])), (hn, .inr (1, [.ref an])), (an, .inl (cI, 12, .inl k)), (h1, .inr (2, [.ref a1, .int l1])), (a1, .inl (cB, 60, .inl g))] H → va_D A [(h0, .inr (3, [.ref hn, .int neg, .int ex0])), (hn, .inr (1, [.ref an])), (an, .inl (cI, 12, .inl k)), (h1, .inr (2, [.ref a1, .int l1])), (a1, .inl (cB, 60, .inl g))] → va_S A s.heap H locs → lv_has ls 7 [(5, .int x5), (4, .int x4), (3, .int x3), (1, .ref h1), (0, .ref h0)] → W p l e ({ frames := 1, cells := 0, slots := 0, locals := 25 } : Room) s m ([.ref h0, .ref h1, .int x] : List Value).toArray below meth c H locs 0 0 (MQ below (va_Qi (fun (r : Int32) (u : (Nat → Int32) × (Int32)) => (r = -1 ∧ ¬ okD T len) ∨ (r.toInt = (pQ T len : Int) ∧ okD T len ∧ nv u.1 12 = pV T len ∧ u.2.toInt = -(pB T len : Int))) (poG dC dI A (fun u : (Nat → Int32) × (Int32) => [(h0, .inr (3, [.ref hn, .int neg, .int u.2])), (hn, .inr (1, [.ref an])), (an, .inl (cI, 12, .inl u.1)), (h1, .inr (2, [.ref a1, .int l1])), (a1, .inl (cB, 60, .inl g))])) A) ([.ref h0, .ref h1, .int x] : List Value).toArray s 0 0 A) (F0 m 8 ls [])) := by
  obtain ⟨hx, hb, hml, hown, hts, hr, hlocks, hK, hN⟩ := id C0
  intro n
  induction n with
  | zero => exact fun _ _ _ _ _ _ _ _ _ _ h0 _ _ _ _ _ _ _ _ _ _ => absurd h0 (Nat.not_lt_zero _)
  | succ n ih =>
    intro x3 x4 x5 cnt pos ah k H locs ls hn9 t_x5 t_x4 t_x3 hp hcp hph hP hD hS hl
    have r_x5 := q_r32 x5
    have r_x4 := q_r32 x4
    have r_x3 := q_r32 x3
    have hn60 := hT.2.1
    refine lv_iload hx hb d_Decimal_takeDigits_8 (lv_at hl 0 rfl) ?_
    refine lv_bipush (v := 60) hx hb d_Decimal_takeDigits_10 (by decide) ?_
    refine lv_icmp_ge (tgt := 77) hx hb d_Decimal_takeDigits_12 (by decide) (fun b12 => ?_) (fun b12 => ?_)
    · skip
      rw [q_ile (show (60 : Int32).toInt = 60 by decide) t_x5] at b12
      exact L_Decimal_takeDigits_77 (h0) (hn) (an) (f) (neg) (ex0) (h1) (a1) (g) (l1) (T) (len) (x) C0 hA (hT) (hx0) (hz) (x3) (x4) (x5) (cnt) (pos) (ah) (k) H locs ls ((t_x5).trans (by omega)) ((t_x4).trans (by omega)) ((t_x3).trans (by omega)) (by omega) (by omega) (by exact hph.elim (fun h => Or.inl ⟨h, Or.inr (by omega)⟩) Or.inr) (by intro h; have := h.1; omega) (va_Psub hP [0, 1, 2, 3, 4] rfl) (hD.sub [0, 1, 2, 3, 4] (by decide) rfl) hS (lv_sub hl [0, 1, 2, 3, 4] rfl)
    · skip
      rw [q_ile (show (60 : Int32).toInt = 60 by decide) t_x5] at b12
      refine lv_aload_n hx hb d_Decimal_takeDigits_15 rfl (lv_at hl 3 rfl) ?_
      refine lv_iload hx hb d_Decimal_takeDigits_16 (lv_at hl 0 rfl) ?_
      refine callV_i (wr := [(h0, .inr (3, [.ref hn, .int neg, .int ex0])), (hn, .inr (1, [.ref an])), (an, .inl (cI, 12, .inl k))]) C0 (c_Tape_at l dC dI cI cB cJ (h1) (a1) (g) (l1) (T) (len) (x5) (by exact hT)) (cwV 1 hts (gV m_259 m_260 m_261 m_49 m_262) rfl rfl rfl (by decide +kernel) ⟨Nat.le_of_ble_eq_true rfl, Nat.le_of_ble_eq_true rfl⟩) 2 rfl rfl 0 rfl hP hD hS hA [3, 4] [0, 1, 2] rfl rfl (by decide) (by decide) (by decide) rfl hl.1 rfl (Nat.le_of_ble_eq_true rfl) d_Decimal_takeDigits_18 ⟨Nat.le_of_ble_eq_true rfl, Nat.le_of_ble_eq_true rfl⟩ (fun r18 u18 H locs hw9 hP hD hS => ?_)
      have h18 : r18.toInt = tAt T len x5.toInt := hw9
      have hP : va_P (dC, dI) vwCl [(h0, .inr (3, [.ref hn, .int neg, .int ex0])), (hn, .inr (1, [.ref an])), (an, .inl (cI, 12, .inl k)), (h1, .inr (2, [.ref a1, .int l1])), (a1, .inl (cB, 60, .inl g))] H := hP
      have hD : va_D A [(h0, .inr (3, [.ref hn, .int neg, .int ex0])), (hn, .inr (1, [.ref an])), (an, .inl (cI, 12, .inl k)), (h1, .inr (2, [.ref a1, .int l1])), (a1, .inl (cB, 60, .inl g))] := hD
      have t18 : r18.toInt = tAt T len (pos : Int) := by rw [h18, t_x5]
      refine lv_istore (lv' := [(6, .int r18), (5, .int x5), (4, .int x4), (3, .int x3), (1, .ref h1), (0, .ref h0)]) hx hb d_Decimal_takeDigits_21 hl (by decide) rfl (fun ls hl => ?_)
      have htr := tAt_r hT (pos : Int)
      refine lv_iload hx hb d_Decimal_takeDigits_23 (lv_at hl 0 rfl) ?_
      refine callS_i (wr := [(h0, .inr (3, [.ref hn, .int neg, .int ex0])), (hn, .inr (1, [.ref an])), (an, .inl (cI, 12, .inl k)), (h1, .inr (2, [.ref a1, .int l1])), (a1, .inl (cB, 60, .inl g))]) C0 (c_Decimal_isDigit l dC dI cI cB cJ (r18)) (cwS 1 hts (gS m_266 m_267 m_50 m_268) rfl rfl rfl (by decide +kernel) ⟨Nat.le_of_ble_eq_true rfl, Nat.le_of_ble_eq_true rfl⟩) hP hD hS hA [] [0, 1, 2, 3, 4] rfl rfl (by decide) (by decide) (by decide) rfl hl.1 rfl (Nat.le_of_ble_eq_true rfl) d_Decimal_takeDigits_25 ⟨Nat.le_of_ble_eq_true rfl, Nat.le_of_ble_eq_true rfl⟩ (fun r25 u25 H locs hw9 hP hD hS => ?_)
      have h25 : r25 = if 48 ≤ r18.toInt ∧ r18.toInt ≤ 57 then 1 else 0 := hw9
      have hP : va_P (dC, dI) vwCl [(h0, .inr (3, [.ref hn, .int neg, .int ex0])), (hn, .inr (1, [.ref an])), (an, .inl (cI, 12, .inl k)), (h1, .inr (2, [.ref a1, .int l1])), (a1, .inl (cB, 60, .inl g))] H := hP
      have hD : va_D A [(h0, .inr (3, [.ref hn, .int neg, .int ex0])), (hn, .inr (1, [.ref an])), (an, .inl (cI, 12, .inl k)), (h1, .inr (2, [.ref a1, .int l1])), (a1, .inl (cB, 60, .inl g))] := hD
      refine lv_if_eq (tgt := 51) hx hb d_Decimal_takeDigits_28 (by decide) (fun b28 => ?_) (fun b28 => ?_)
      · skip
        have hnd : ¬ isD T len pos := fun h => by have h2 := isD_tAt.mp h; rw [t18, if_pos h2] at h25; exact absurd (h25.symm.trans b28) (by decide)
        refine lv_iload hx hb d_Decimal_takeDigits_51 (lv_at hl 0 rfl) ?_
        refine lv_bipush (v := 46) hx hb d_Decimal_takeDigits_53 (by decide) ?_
        refine lv_icmp_ne (tgt := 77) hx hb d_Decimal_takeDigits_55 (by decide) (fun b55 => ?_) (fun b55 => ?_)
        · skip
          rw [q_ieq t18 (show (46 : Int32).toInt = 46 by decide)] at b55
          exact L_Decimal_takeDigits_77 (h0) (hn) (an) (f) (neg) (ex0) (h1) (a1) (g) (l1) (T) (len) (x) C0 hA (hT) (hx0) (hz) (x3) (x4) (x5) (cnt) (pos) (ah) (k) H locs ls ((t_x5).trans (by omega)) ((t_x4).trans (by omega)) ((t_x3).trans (by omega)) (by omega) (by omega) (by exact hph.elim (fun h => Or.inl ⟨h, Or.inr (fun h2 => b55 (by rw [tAt_ne h2.1]; omega))⟩) Or.inr) (by exact hnd) (va_Psub hP [0, 1, 2, 3, 4] rfl) (hD.sub [0, 1, 2, 3, 4] (by decide) rfl) hS (lv_sub hl [1, 2, 3, 4, 5] rfl)
        · skip
          rw [q_ieq t18 (show (46 : Int32).toInt = 46 by decide)] at b55
          refine lv_iload hx hb d_Decimal_takeDigits_58 (lv_at hl 2 rfl) ?_
          refine lv_iconst (v := (-1)) hx hb d_Decimal_takeDigits_60 (by decide) ?_
          refine lv_icmp_ne (tgt := 77) hx hb d_Decimal_takeDigits_61 (by decide) (fun b61 => ?_) (fun b61 => ?_)
          · skip
            rw [q_ieq t_x4 (show ((-1) : Int32).toInt = (-1) by decide)] at b61
            exact L_Decimal_takeDigits_77 (h0) (hn) (an) (f) (neg) (ex0) (h1) (a1) (g) (l1) (T) (len) (x) C0 hA (hT) (hx0) (hz) (x3) (x4) (x5) (cnt) (pos) (ah) (k) H locs ls ((t_x5).trans (by omega)) ((t_x4).trans (by omega)) ((t_x3).trans (by omega)) (by omega) (by omega) (by exact hph.elim (fun h => absurd h.1 b61) Or.inr) (by exact hnd) (va_Psub hP [0, 1, 2, 3, 4] rfl) (hD.sub [0, 1, 2, 3, 4] (by decide) rfl) hS (lv_sub hl [1, 2, 3, 4, 5] rfl)
          · skip
            rw [q_ieq t_x4 (show ((-1) : Int32).toInt = (-1) by decide)] at b61
            refine lv_iload_n hx hb d_Decimal_takeDigits_64 rfl (lv_at hl 3 rfl) ?_
            refine lv_if_le (tgt := 77) hx hb d_Decimal_takeDigits_65 (by decide) (fun b65 => ?_) (fun b65 => ?_)
            · skip
              rw [q_ile t_x3 (show (0 : Int32).toInt = 0 by decide)] at b65
              exact L_Decimal_takeDigits_77 (h0) (hn) (an) (f) (neg) (ex0) (h1) (a1) (g) (l1) (T) (len) (x) C0 hA (hT) (hx0) (hz) (x3) (x4) (x5) (cnt) (pos) (ah) (k) H locs ls ((t_x5).trans (by omega)) ((t_x4).trans (by omega)) ((t_x3).trans (by omega)) (by omega) (by omega) (by exact hph.elim (fun h => Or.inl ⟨h, Or.inl (by omega)⟩) Or.inr) (by exact hnd) (va_Psub hP [0, 1, 2, 3, 4] rfl) (hD.sub [0, 1, 2, 3, 4] (by decide) rfl) hS (lv_sub hl [1, 2, 3, 4, 5] rfl)
            · skip
              rw [q_ile t_x3 (show (0 : Int32).toInt = 0 by decide)] at b65
              refine lv_iload_n hx hb d_Decimal_takeDigits_68 rfl (lv_at hl 3 rfl) ?_
              refine lv_istore (lv' := [(4, .int x3), (6, .int r18), (5, .int x5), (3, .int x3), (1, .ref h1), (0, .ref h0)]) hx hb d_Decimal_takeDigits_69 hl (by decide) rfl (fun ls hl => ?_)
              obtain ⟨v71, e71⟩ : ∃ y : Int32, y = x5 + 1 := ⟨_, rfl⟩
              have t71 : v71.toInt = (pos : Int) + 1 := by rw [e71]; exact q_iadd t_x5 (show (1 : Int32).toInt = 1 by decide) (by omega)
              refine lv_iinc (v := v71) (lv' := [(5, .int v71), (4, .int x3), (6, .int r18), (3, .int x3), (1, .ref h1), (0, .ref h0)]) hx hb d_Decimal_takeDigits_71 hl (k := 2) rfl (by rw [e71]; rfl) (by decide) rfl (fun ls hl => ?_)
              refine lv_goto (tgt := 8) hx hb d_Decimal_takeDigits_74 (by decide) ?_
              have hpt := tAt_eq (T := T) b55 (by decide)
              exact ih (x3) (x3) (v71) (cnt) (pos + 1) ((cnt : Int)) (k) H locs ls (by omega) ((t71).trans (by omega)) ((t_x3).trans (by omega)) ((t_x3).trans (by omega)) (by omega) (by omega) (by exact Or.inr (hph.elim (fun h => ph1_dot h (by omega) hpt.1 (by omega)) (fun ⟨a, h, _⟩ => by omega))) (va_Psub hP [0, 1, 2, 3, 4] rfl) (hD.sub [0, 1, 2, 3, 4] (by decide) rfl) hS (lv_sub hl [0, 1, 3, 4, 5] rfl)
      · skip
        have hdg : isD T len pos := isD_tAt.mpr (Decidable.byContradiction fun h => b28 (by rw [h25, t18, if_neg h]))
        have htp := tAt_ne (T := T) hdg.1
        have hdg2 := hdg.2
        refine lv_aload_n hx hb d_Decimal_takeDigits_31 rfl (lv_at hl 5 rfl) ?_
        refine va_get (D := (dC, dI)) (ci := 3) (v := .ref hn) (C := R_Decimal) (T := F_Decimal) (N := 3) hx hb hts u_Decimal hown hK hP 0 rfl rfl 0 (by decide) (hts _ m_108) (fun _ h9 => h9) rfl d_Decimal_takeDigits_32 ?_
        refine lv_bipush (v := 10) hx hb d_Decimal_takeDigits_35 (by decide) ?_
        refine lv_iload hx hb d_Decimal_takeDigits_37 (lv_at hl 0 rfl) ?_
        refine lv_bipush (v := 48) hx hb d_Decimal_takeDigits_39 (by decide) ?_
        refine lv_isub hx hb d_Decimal_takeDigits_41 ?_
        refine lv_topi (fun v41 e41 => ?_)
        have t41 : v41.toInt = (tAt T len (pos : Int)) - 48 := by rw [e41]; exact q_isub t18 (show (48 : Int32).toInt = 48 by decide) (by omega)
        refine callV_v (wr := [(h0, .inr (3, [.ref hn, .int neg, .int ex0])), (h1, .inr (2, [.ref a1, .int l1])), (a1, .inl (cB, 60, .inl g))]) C0 (c_Natural_timesPlus l dC dI cI cB cJ (hn) (an) (k) ((10 : Int32)) (v41) (by decide) (by rw [t41]; omega)) (cwV 2 hts (gV m_269 m_270 m_271 m_51 m_272) rfl rfl rfl (by decide +kernel) ⟨Nat.le_of_ble_eq_true rfl, Nat.le_of_ble_eq_true rfl⟩) 1 rfl rfl 0 rfl hP hD hS hA [1, 2] [0, 3, 4] rfl rfl (by decide) (by decide) (by decide) rfl hl.1 rfl (Nat.le_of_ble_eq_true rfl) d_Decimal_takeDigits_42 ⟨Nat.le_of_ble_eq_true rfl, Nat.le_of_ble_eq_true rfl⟩ (fun k42 H locs hw9 hP hD hS => ?_)
        have h42 : nv k42 12 = (nv k 12 * uw (10 : Int32) + uw v41) % 2 ^ (32 * 12) := hw9
        have hP : va_P (dC, dI) vwCl [(h0, .inr (3, [.ref hn, .int neg, .int ex0])), (h1, .inr (2, [.ref a1, .int l1])), (a1, .inl (cB, 60, .inl g)), (hn, .inr (1, [.ref an])), (an, .inl (cI, 12, .inl k42))] H := hP
        have hD : va_D A [(h0, .inr (3, [.ref hn, .int neg, .int ex0])), (h1, .inr (2, [.ref a1, .int l1])), (a1, .inl (cB, 60, .inl g)), (hn, .inr (1, [.ref an])), (an, .inl (cI, 12, .inl k42))] := hD
        obtain ⟨v45, e45⟩ : ∃ y : Int32, y = x3 + 1 := ⟨_, rfl⟩
        have t45 : v45.toInt = (cnt : Int) + 1 := by rw [e45]; exact q_iadd t_x3 (show (1 : Int32).toInt = 1 by decide) (by omega)
        refine lv_iinc (v := v45) (lv' := [(3, .int v45), (6, .int r18), (5, .int x5), (4, .int x4), (1, .ref h1), (0, .ref h0)]) hx hb d_Decimal_takeDigits_45 hl (k := 3) rfl (by rw [e45]; rfl) (by decide) rfl (fun ls hl => ?_)
        refine lv_goto (tgt := 71) hx hb d_Decimal_takeDigits_48 (by decide) ?_
        obtain ⟨v71, e71⟩ : ∃ y : Int32, y = x5 + 1 := ⟨_, rfl⟩
        have t71 : v71.toInt = (pos : Int) + 1 := by rw [e71]; exact q_iadd t_x5 (show (1 : Int32).toInt = 1 by decide) (by omega)
        refine lv_iinc (v := v71) (lv' := [(5, .int v71), (3, .int v45), (6, .int r18), (4, .int x4), (1, .ref h1), (0, .ref h0)]) hx hb d_Decimal_takeDigits_71 hl (k := 2) rfl (by rw [e71]; rfl) (by decide) rfl (fun ls hl => ?_)
        refine lv_goto (tgt := 8) hx hb d_Decimal_takeDigits_74 (by decide) ?_
        have hvl : nv k 12 < 10 ^ 61 := hph.elim (fun h => ph1_lt h hp) (fun h => ph2_lt h hp)
        have k41 : uw v41 = T pos - 48 := uw_of (t41.trans (by rw [htp]; omega))
        have hkv : nv k42 12 = nv k 12 * 10 + (T pos - 48) := by
          rw [h42, k41, show uw 10 = 10 by decide, Nat.mod_eq_of_lt]
          have h8 : (10 : Nat) ^ 61 * 10 + 10 < 2 ^ (32 * 12) := by decide
          omega
        exact ih (v45) (x4) (v71) (cnt + 1) (pos + 1) (ah) (k42) H locs ls (by omega) ((t71).trans (by omega)) ((t_x4).trans (by omega)) ((t45).trans (by omega)) (by omega) (by omega) (by rw [hkv]; exact hph.elim (fun h => Or.inl (ph1_dig h hdg)) (fun h => Or.inr (ph2_dig h hdg))) (va_Psub hP [0, 3, 4, 1, 2] rfl) (hD.sub [0, 3, 4, 1, 2] (by decide) rfl) hS (lv_sub hl [0, 3, 1, 4, 5] rfl)
set_option maxHeartbeats 4000000 in
set_option maxRecDepth 100000 in
theorem c_Decimal_takeDigits (l : Launch) (dC : Nat → ClassId) (dI : Nat → Nat → Nat) (cI cB cJ : ClassId) (h0 : Nat) (hn : Nat) (an : Nat) (f : Nat → Int32) (neg : Int32) (ex0 : Int32) (h1 : Nat) (a1 : Nat) (g : Nat → Int32) (l1 : Int32) (T : Nat → Nat) (len : Nat) (x : Int32) (hT : TP g l1 T len) (hx0 : x.toInt = (pS T len : Int)) (hz : nv f 12 = 0) : Ci l dC dI cI cB cJ y_Decimal_takeDigits w_Decimal_takeDigits ({ frames := 1, cells := 0, slots := 0, locals := 25 } : Room) [.ref h0, .ref h1, .int x] [(h0, .inr (3, [.ref hn, .int neg, .int ex0])), (hn, .inr (1, [.ref an])), (an, .inl (cI, 12, .inl f)), (h1, .inr (2, [.ref a1, .int l1])), (a1, .inl (cB, 60, .inl g))] (fun (r : Int32) (u : (Nat → Int32) × (Int32)) => (r = -1 ∧ ¬ okD T len) ∨ (r.toInt = (pQ T len : Int) ∧ okD T len ∧ nv u.1 12 = pV T len ∧ u.2.toInt = -(pB T len : Int))) (fun u : (Nat → Int32) × (Int32) => [(h0, .inr (3, [.ref hn, .int neg, .int u.2])), (hn, .inr (1, [.ref an])), (an, .inl (cI, 12, .inl u.1)), (h1, .inr (2, [.ref a1, .int l1])), (a1, .inl (cB, 60, .inl g))]) := by
  refine Ci.intro (cc := b_Decimal_takeDigits) (maxL := 7) (plainFor_of_name (by decide)) rfl (Nat.le_of_ble_eq_true rfl) ?_
  intro p e s m below meth c A ls C0 hin hA hP hD hS hl
  obtain ⟨hx, hb, hml, hown, hts, hr, hlocks, hK, hN⟩ := id C0
  obtain ⟨H, hH⟩ : ∃ H, H = s.heap := ⟨_, rfl⟩
  have hP : va_P (dC, dI) vwCl [(h0, .inr (3, [.ref hn, .int neg, .int ex0])), (hn, .inr (1, [.ref an])), (an, .inl (cI, 12, .inl f)), (h1, .inr (2, [.ref a1, .int l1])), (a1, .inl (cB, 60, .inl g))] s.heap := hP
  have hl : lv_has ls 7 [(0, .ref h0), (1, .ref h1), (2, .int x)] := hl
  have r_x := q_r32 x
  suffices h : ∀ (H : Heap) (locs : List Loc), va_P (dC, dI) vwCl [(h0, .inr (3, [.ref hn, .int neg, .int ex0])), (hn, .inr (1, [.ref an])), (an, .inl (cI, 12, .inl f)), (h1, .inr (2, [.ref a1, .int l1])), (a1, .inl (cB, 60, .inl g))] H → va_D A [(h0, .inr (3, [.ref hn, .int neg, .int ex0])), (hn, .inr (1, [.ref an])), (an, .inl (cI, 12, .inl f)), (h1, .inr (2, [.ref a1, .int l1])), (a1, .inl (cB, 60, .inl g))] → va_S A s.heap H locs → W p l e ({ frames := 1, cells := 0, slots := 0, locals := 25 } : Room) s m ([.ref h0, .ref h1, .int x] : List Value).toArray below meth c H locs 0 0 (MQ below (va_Qi (fun (r : Int32) (u : (Nat → Int32) × (Int32)) => (r = -1 ∧ ¬ okD T len) ∨ (r.toInt = (pQ T len : Int) ∧ okD T len ∧ nv u.1 12 = pV T len ∧ u.2.toInt = -(pB T len : Int))) (poG dC dI A (fun u : (Nat → Int32) × (Int32) => [(h0, .inr (3, [.ref hn, .int neg, .int u.2])), (hn, .inr (1, [.ref an])), (an, .inl (cI, 12, .inl u.1)), (h1, .inr (2, [.ref a1, .int l1])), (a1, .inl (cB, 60, .inl g))])) A) ([.ref h0, .ref h1, .int x] : List Value).toArray s 0 0 A) (F0 m 0 ls []) from h _ _ hP hD hS
  clear hP hD hS hH H
  intro H locs hP hD hS
  have hn60 := hT.2.1
  refine lv_iconst (v := 0) hx hb d_Decimal_takeDigits_0 (by decide) ?_
  refine lv_istore_n (lv' := [(3, .int 0), (0, .ref h0), (1, .ref h1), (2, .int x)]) hx hb d_Decimal_takeDigits_1 rfl hl (by decide) rfl (fun ls hl => ?_)
  refine lv_iconst (v := (-1)) hx hb d_Decimal_takeDigits_2 (by decide) ?_
  refine lv_istore (lv' := [(4, .int (-1)), (3, .int 0), (0, .ref h0), (1, .ref h1), (2, .int x)]) hx hb d_Decimal_takeDigits_3 hl (by decide) rfl (fun ls hl => ?_)
  refine lv_iload_n hx hb d_Decimal_takeDigits_5 rfl (lv_at hl 4 rfl) ?_
  refine lv_istore (lv' := [(5, .int x), (4, .int (-1)), (3, .int 0), (0, .ref h0), (1, .ref h1), (2, .int x)]) hx hb d_Decimal_takeDigits_6 hl (by decide) rfl (fun ls hl => ?_)
  exact L_Decimal_takeDigits_8 (h0) (hn) (an) (f) (neg) (ex0) (h1) (a1) (g) (l1) (T) (len) (x) C0 hA (hT) (hx0) (hz) _ (0) ((-1)) (x) (0) (pS T len) (-1) (f) H locs ls (Nat.lt_succ_self _) ((hx0).trans (by omega)) (((show ((-1) : Int32).toInt = (-1) by decide)).trans (by omega)) (((show (0 : Int32).toInt = 0 by decide)).trans (by omega)) (by unfold pS; split <;> omega) (by omega) (by exact Or.inl ⟨rfl, rfl, fun j hj => by omega, hz⟩) (va_Psub hP [0, 1, 2, 3, 4] rfl) (hD.sub [0, 1, 2, 3, 4] (by decide) rfl) hS (lv_sub hl [0, 1, 2, 4, 3] rfl)
set_option maxHeartbeats 4000000 in
set_option maxRecDepth 100000 in
theorem L_Decimal_takePower_110 {p : Program} {l : Launch} {e : Env} {s : State} {m : MethodId} {below : List Frame} {meth : Method} {c : Code} {dC : Nat → ClassId} {dI : Nat → Nat → Nat} {cI cB cJ : ClassId} {A : Nat → Prop} (h0 : Nat) (hn : Nat) (an : Nat) (f : Nat → Int32) (neg : Int32) (ex0 : Int32) (h1 : Nat) (a1 : Nat) (g : Nat → Int32) (l1 : Int32) (T : Nat → Nat) (len : Nat) (x : Int32) (q : Nat) (C0 : cx dC dI cI cB cJ R_Decimal b_Decimal_takePower 7 (some .boolean) p s m ([.ref h0, .ref h1, .int x] : List Value).toArray meth c) (hA : ∀ q : Nat, s.heap.size ≤ q → A q) (hT : TP g l1 T len) (hx0 : x.toInt = (q : Int)) (hq : q ≤ 1000) (hex : -1000 ≤ ex0.toInt ∧ ex0.toInt ≤ 1000) : (∀ (x3 : Int32) (x4 : Int32) (x5 : Int32) (x6 : Int32) (H : Heap) (locs : List Loc) (ls : Array Slot), x6.toInt = (eD T len q : Int) → x5.toInt = (eX T len q : Int) → x3.toInt = ((q + 1 + eS T len q + eD T len q : Nat) : Int) → (q < len) → (T q = 101) → (x4 = if eN T len q then 1 else 0) → (eX T len q < 1000) → (eD T len q ≤ 3) → va_P (dC, dI) vwCl [(h0, .inr (3, [.ref hn, .int neg, .int ex0])), (hn, .inr (1, [.ref an])), (an, .inl (cI, 12, .inl f)), (h1, .inr (2, [.ref a1, .int l1])), (a1, .inl (cB, 60, .inl g))] H → va_D A [(h0, .inr (3, [.ref hn, .int neg, .int ex0])), (hn, .inr (1, [.ref an])), (an, .inl (cI, 12, .inl f)), (h1, .inr (2, [.ref a1, .int l1])), (a1, .inl (cB, 60, .inl g))] → va_S A s.heap H locs → lv_has ls 7 [(6, .int x6), (5, .int x5), (4, .int x4), (3, .int x3), (1, .ref h1), (0, .ref h0)] → W p l e ({ frames := 1, cells := 0, slots := 0, locals := 21 } : Room) s m ([.ref h0, .ref h1, .int x] : List Value).toArray below meth c H locs 0 0 (MQ below (va_Qi (fun (r : Int32) (u : (Int32)) => (r = 0 ∧ ¬ okE T len q) ∨ (r = 1 ∧ okE T len q ∧ u.toInt = ex0.toInt + xE T len q)) (poG dC dI A (fun u : (Int32) => [(h0, .inr (3, [.ref hn, .int neg, .int u])), (hn, .inr (1, [.ref an])), (an, .inl (cI, 12, .inl f)), (h1, .inr (2, [.ref a1, .int l1])), (a1, .inl (cB, 60, .inl g))])) A) ([.ref h0, .ref h1, .int x] : List Value).toArray s 0 0 A) (F0 m 110 ls [])) := by
  obtain ⟨hx, hb, hml, hown, hts, hr, hlocks, hK, hN⟩ := id C0
  intro x3 x4 x5 x6 H locs ls t_x6 t_x5 t_x3 hql hqe hx4 hxl hdl hP hD hS hl
  have r_x6 := q_r32 x6
  have r_x5 := q_r32 x5
  have r_x3 := q_r32 x3
  have hn60 := hT.2.1
  refine lv_aload_n hx hb d_Decimal_takePower_110 rfl (lv_at hl 5 rfl) ?_
  refine lv_iload hx hb d_Decimal_takePower_111 (lv_at hl 2 rfl) ?_
  refine lv_if_eq (tgt := 126) hx hb d_Decimal_takePower_113 (by decide) (fun b113 => ?_) (fun b113 => ?_)
  · skip
    refine lv_aload_n hx hb d_Decimal_takePower_126 rfl (lv_at hl 5 rfl) ?_
    refine va_get (D := (dC, dI)) (ci := 3) (v := .int ex0) (C := R_Decimal) (T := F_Decimal) (N := 3) hx hb hts u_Decimal hown hK hP 0 rfl rfl 2 (by decide) (hts _ m_110) (fun _ h9 => h9) rfl d_Decimal_takePower_127 ?_
    refine lv_iload hx hb d_Decimal_takePower_130 (lv_at hl 1 rfl) ?_
    refine lv_iadd hx hb d_Decimal_takePower_132 ?_
    refine lv_topi (fun v132 e132 => ?_)
    have t132 : v132.toInt = ex0.toInt + (eX T len q : Int) := by rw [e132]; exact q_iadd (rfl : ex0.toInt = ex0.toInt) t_x5 (by omega)
    refine va_put (D := (dC, dI)) (ci := 3) (v := .int v132) (ty := .int) (C := R_Decimal) (T := F_Decimal) (N := 3) hx hb hts u_Decimal t_Decimal t_Decimal_ok n_Decimal hown hK hP hD hS 0 rfl rfl 2 (by decide) (hts _ m_110) (fun _ h9 => h9) rfl (by decide +kernel) rfl rfl (Nat.le_of_ble_eq_true rfl) d_Decimal_takePower_133 (fun H locs hP hD hS => ?_)
    have hP : va_P (dC, dI) vwCl [(h0, .inr (3, [.ref hn, .int neg, .int v132])), (hn, .inr (1, [.ref an])), (an, .inl (cI, 12, .inl f)), (h1, .inr (2, [.ref a1, .int l1])), (a1, .inl (cB, 60, .inl g))] H := hP
    have hD : va_D A [(h0, .inr (3, [.ref hn, .int neg, .int v132])), (hn, .inr (1, [.ref an])), (an, .inl (cI, 12, .inl f)), (h1, .inr (2, [.ref a1, .int l1])), (a1, .inl (cB, 60, .inl g))] := hD
    refine lv_iload hx hb d_Decimal_takePower_136 (lv_at hl 0 rfl) ?_
    refine lv_if_le (tgt := 154) hx hb d_Decimal_takePower_138 (by decide) (fun b138 => ?_) (fun b138 => ?_)
    · skip
      rw [q_ile t_x6 (show (0 : Int32).toInt = 0 by decide)] at b138
      refine lv_iconst (v := 0) hx hb d_Decimal_takePower_154 (by decide) ?_
      exact Cz.ret C0 (v := 0) (u := (v132)) (by rfl) (Nat.le_of_ble_eq_true rfl) (Nat.le_of_ble_eq_true rfl) (by show ((0 : Int32) = 0 ∧ ¬ okE T len q) ∨ ((0 : Int32) = 1 ∧ okE T len q ∧ v132.toInt = ex0.toInt + xE T len q); exact Or.inl ⟨rfl, fun h => h.elim (fun h => by omega) (fun h => h.2.2.1 (by omega))⟩) hP hD hS [0, 1, 2, 3, 4] (by decide) rfl d_Decimal_takePower_155
    · skip
      rw [q_ile t_x6 (show (0 : Int32).toInt = 0 by decide)] at b138
      refine lv_aload_n hx hb d_Decimal_takePower_141 rfl (lv_at hl 4 rfl) ?_
      refine lv_iload_n hx hb d_Decimal_takePower_142 rfl (lv_at hl 3 rfl) ?_
      refine callV_i (wr := [(h0, .inr (3, [.ref hn, .int neg, .int v132])), (hn, .inr (1, [.ref an])), (an, .inl (cI, 12, .inl f))]) C0 (c_Tape_at l dC dI cI cB cJ (h1) (a1) (g) (l1) (T) (len) (x3) (by exact hT)) (cwV 1 hts (gV m_259 m_260 m_261 m_49 m_262) rfl rfl rfl (by decide +kernel) ⟨Nat.le_of_ble_eq_true rfl, Nat.le_of_ble_eq_true rfl⟩) 2 rfl rfl 0 rfl hP hD hS hA [3, 4] [0, 1, 2] rfl rfl (by decide) (by decide) (by decide) rfl hl.1 rfl (Nat.le_of_ble_eq_true rfl) d_Decimal_takePower_143 ⟨Nat.le_of_ble_eq_true rfl, Nat.le_of_ble_eq_true rfl⟩ (fun r143 u143 H locs hw9 hP hD hS => ?_)
      have h143 : r143.toInt = tAt T len x3.toInt := hw9
      have hP : va_P (dC, dI) vwCl [(h0, .inr (3, [.ref hn, .int neg, .int v132])), (hn, .inr (1, [.ref an])), (an, .inl (cI, 12, .inl f)), (h1, .inr (2, [.ref a1, .int l1])), (a1, .inl (cB, 60, .inl g))] H := hP
      have hD : va_D A [(h0, .inr (3, [.ref hn, .int neg, .int v132])), (hn, .inr (1, [.ref an])), (an, .inl (cI, 12, .inl f)), (h1, .inr (2, [.ref a1, .int l1])), (a1, .inl (cB, 60, .inl g))] := hD
      have t143 : r143.toInt = tAt T len ((q + 1 + eS T len q + eD T len q : Nat) : Int) := by rw [h143, t_x3]
      refine lv_iconst (v := (-1)) hx hb d_Decimal_takePower_146 (by decide) ?_
      refine lv_icmp_ne (tgt := 154) hx hb d_Decimal_takePower_147 (by decide) (fun b147 => ?_) (fun b147 => ?_)
      · skip
        rw [q_ieq t143 (show ((-1) : Int32).toInt = (-1) by decide)] at b147
        refine lv_iconst (v := 0) hx hb d_Decimal_takePower_154 (by decide) ?_
        exact Cz.ret C0 (v := 0) (u := (v132)) (by rfl) (Nat.le_of_ble_eq_true rfl) (Nat.le_of_ble_eq_true rfl) (by show ((0 : Int32) = 0 ∧ ¬ okE T len q) ∨ ((0 : Int32) = 1 ∧ okE T len q ∧ v132.toInt = ex0.toInt + xE T len q); exact Or.inl ⟨rfl, fun h => h.elim (fun h => by omega) (fun h => b147 (tAt_end.mpr h.2.2.2))⟩) hP hD hS [0, 1, 2, 3, 4] (by decide) rfl d_Decimal_takePower_155
      · skip
        rw [q_ieq t143 (show ((-1) : Int32).toInt = (-1) by decide)] at b147
        refine lv_iconst (v := 1) hx hb d_Decimal_takePower_150 (by decide) ?_
        refine lv_goto (tgt := 155) hx hb d_Decimal_takePower_151 (by decide) ?_
        have hN : ¬ eN T len q := fun h => absurd (b113.symm.trans (hx4.trans (if_pos h))) (by decide)
        exact Cz.ret C0 (v := 1) (u := (v132)) (by rfl) (Nat.le_of_ble_eq_true rfl) (Nat.le_of_ble_eq_true rfl) (by show ((1 : Int32) = 0 ∧ ¬ okE T len q) ∨ ((1 : Int32) = 1 ∧ okE T len q ∧ v132.toInt = ex0.toInt + xE T len q); exact Or.inr ⟨rfl, Or.inr ⟨hql, hqe, by omega, tAt_end.mp b147⟩, by rw [t132, xE, if_neg (by omega), if_neg hN]⟩) hP hD hS [0, 1, 2, 3, 4] (by decide) rfl d_Decimal_takePower_155
  · skip
    refine lv_aload_n hx hb d_Decimal_takePower_116 rfl (lv_at hl 5 rfl) ?_
    refine va_get (D := (dC, dI)) (ci := 3) (v := .int ex0) (C := R_Decimal) (T := F_Decimal) (N := 3) hx hb hts u_Decimal hown hK hP 0 rfl rfl 2 (by decide) (hts _ m_110) (fun _ h9 => h9) rfl d_Decimal_takePower_117 ?_
    refine lv_iload hx hb d_Decimal_takePower_120 (lv_at hl 1 rfl) ?_
    refine lv_isub hx hb d_Decimal_takePower_122 ?_
    refine lv_topi (fun v122 e122 => ?_)
    have t122 : v122.toInt = ex0.toInt - (eX T len q : Int) := by rw [e122]; exact q_isub (rfl : ex0.toInt = ex0.toInt) t_x5 (by omega)
    refine lv_goto (tgt := 133) hx hb d_Decimal_takePower_123 (by decide) ?_
    refine va_put (D := (dC, dI)) (ci := 3) (v := .int v122) (ty := .int) (C := R_Decimal) (T := F_Decimal) (N := 3) hx hb hts u_Decimal t_Decimal t_Decimal_ok n_Decimal hown hK hP hD hS 0 rfl rfl 2 (by decide) (hts _ m_110) (fun _ h9 => h9) rfl (by decide +kernel) rfl rfl (Nat.le_of_ble_eq_true rfl) d_Decimal_takePower_133 (fun H locs hP hD hS => ?_)
    have hP : va_P (dC, dI) vwCl [(h0, .inr (3, [.ref hn, .int neg, .int v122])), (hn, .inr (1, [.ref an])), (an, .inl (cI, 12, .inl f)), (h1, .inr (2, [.ref a1, .int l1])), (a1, .inl (cB, 60, .inl g))] H := hP
    have hD : va_D A [(h0, .inr (3, [.ref hn, .int neg, .int v122])), (hn, .inr (1, [.ref an])), (an, .inl (cI, 12, .inl f)), (h1, .inr (2, [.ref a1, .int l1])), (a1, .inl (cB, 60, .inl g))] := hD
    refine lv_iload hx hb d_Decimal_takePower_136 (lv_at hl 0 rfl) ?_
    refine lv_if_le (tgt := 154) hx hb d_Decimal_takePower_138 (by decide) (fun b138 => ?_) (fun b138 => ?_)
    · skip
      rw [q_ile t_x6 (show (0 : Int32).toInt = 0 by decide)] at b138
      refine lv_iconst (v := 0) hx hb d_Decimal_takePower_154 (by decide) ?_
      exact Cz.ret C0 (v := 0) (u := (v122)) (by rfl) (Nat.le_of_ble_eq_true rfl) (Nat.le_of_ble_eq_true rfl) (by show ((0 : Int32) = 0 ∧ ¬ okE T len q) ∨ ((0 : Int32) = 1 ∧ okE T len q ∧ v122.toInt = ex0.toInt + xE T len q); exact Or.inl ⟨rfl, fun h => h.elim (fun h => by omega) (fun h => h.2.2.1 (by omega))⟩) hP hD hS [0, 1, 2, 3, 4] (by decide) rfl d_Decimal_takePower_155
    · skip
      rw [q_ile t_x6 (show (0 : Int32).toInt = 0 by decide)] at b138
      refine lv_aload_n hx hb d_Decimal_takePower_141 rfl (lv_at hl 4 rfl) ?_
      refine lv_iload_n hx hb d_Decimal_takePower_142 rfl (lv_at hl 3 rfl) ?_
      refine callV_i (wr := [(h0, .inr (3, [.ref hn, .int neg, .int v122])), (hn, .inr (1, [.ref an])), (an, .inl (cI, 12, .inl f))]) C0 (c_Tape_at l dC dI cI cB cJ (h1) (a1) (g) (l1) (T) (len) (x3) (by exact hT)) (cwV 1 hts (gV m_259 m_260 m_261 m_49 m_262) rfl rfl rfl (by decide +kernel) ⟨Nat.le_of_ble_eq_true rfl, Nat.le_of_ble_eq_true rfl⟩) 2 rfl rfl 0 rfl hP hD hS hA [3, 4] [0, 1, 2] rfl rfl (by decide) (by decide) (by decide) rfl hl.1 rfl (Nat.le_of_ble_eq_true rfl) d_Decimal_takePower_143 ⟨Nat.le_of_ble_eq_true rfl, Nat.le_of_ble_eq_true rfl⟩ (fun r143 u143 H locs hw9 hP hD hS => ?_)
      have h143 : r143.toInt = tAt T len x3.toInt := hw9
      have hP : va_P (dC, dI) vwCl [(h0, .inr (3, [.ref hn, .int neg, .int v122])), (hn, .inr (1, [.ref an])), (an, .inl (cI, 12, .inl f)), (h1, .inr (2, [.ref a1, .int l1])), (a1, .inl (cB, 60, .inl g))] H := hP
      have hD : va_D A [(h0, .inr (3, [.ref hn, .int neg, .int v122])), (hn, .inr (1, [.ref an])), (an, .inl (cI, 12, .inl f)), (h1, .inr (2, [.ref a1, .int l1])), (a1, .inl (cB, 60, .inl g))] := hD
      have t143 : r143.toInt = tAt T len ((q + 1 + eS T len q + eD T len q : Nat) : Int) := by rw [h143, t_x3]
      refine lv_iconst (v := (-1)) hx hb d_Decimal_takePower_146 (by decide) ?_
      refine lv_icmp_ne (tgt := 154) hx hb d_Decimal_takePower_147 (by decide) (fun b147 => ?_) (fun b147 => ?_)
      · skip
        rw [q_ieq t143 (show ((-1) : Int32).toInt = (-1) by decide)] at b147
        refine lv_iconst (v := 0) hx hb d_Decimal_takePower_154 (by decide) ?_
        exact Cz.ret C0 (v := 0) (u := (v122)) (by rfl) (Nat.le_of_ble_eq_true rfl) (Nat.le_of_ble_eq_true rfl) (by show ((0 : Int32) = 0 ∧ ¬ okE T len q) ∨ ((0 : Int32) = 1 ∧ okE T len q ∧ v122.toInt = ex0.toInt + xE T len q); exact Or.inl ⟨rfl, fun h => h.elim (fun h => by omega) (fun h => b147 (tAt_end.mpr h.2.2.2))⟩) hP hD hS [0, 1, 2, 3, 4] (by decide) rfl d_Decimal_takePower_155
      · skip
        rw [q_ieq t143 (show ((-1) : Int32).toInt = (-1) by decide)] at b147
        refine lv_iconst (v := 1) hx hb d_Decimal_takePower_150 (by decide) ?_
        refine lv_goto (tgt := 155) hx hb d_Decimal_takePower_151 (by decide) ?_
        have hN : eN T len q := Decidable.byContradiction fun h => b113 (by rw [hx4, if_neg h])
        exact Cz.ret C0 (v := 1) (u := (v122)) (by rfl) (Nat.le_of_ble_eq_true rfl) (Nat.le_of_ble_eq_true rfl) (by show ((1 : Int32) = 0 ∧ ¬ okE T len q) ∨ ((1 : Int32) = 1 ∧ okE T len q ∧ v122.toInt = ex0.toInt + xE T len q); exact Or.inr ⟨rfl, Or.inr ⟨hql, hqe, by omega, tAt_end.mp b147⟩, by rw [t122, xE, if_neg (by omega), if_pos hN]; omega⟩) hP hD hS [0, 1, 2, 3, 4] (by decide) rfl d_Decimal_takePower_155
set_option maxHeartbeats 4000000 in
set_option maxRecDepth 100000 in
theorem L_Decimal_takePower_68 {p : Program} {l : Launch} {e : Env} {s : State} {m : MethodId} {below : List Frame} {meth : Method} {c : Code} {dC : Nat → ClassId} {dI : Nat → Nat → Nat} {cI cB cJ : ClassId} {A : Nat → Prop} (h0 : Nat) (hn : Nat) (an : Nat) (f : Nat → Int32) (neg : Int32) (ex0 : Int32) (h1 : Nat) (a1 : Nat) (g : Nat → Int32) (l1 : Int32) (T : Nat → Nat) (len : Nat) (x : Int32) (q : Nat) (C0 : cx dC dI cI cB cJ R_Decimal b_Decimal_takePower 7 (some .boolean) p s m ([.ref h0, .ref h1, .int x] : List Value).toArray meth c) (hA : ∀ q : Nat, s.heap.size ≤ q → A q) (hT : TP g l1 T len) (hx0 : x.toInt = (q : Int)) (hq : q ≤ 1000) (hex : -1000 ≤ ex0.toInt ∧ ex0.toInt ≤ 1000) : ∀ n : Nat, (∀ (x3 : Int32) (x4 : Int32) (x5 : Int32) (x6 : Int32) (d : Nat) (H : Heap) (locs : List Loc) (ls : Array Slot), 3 - d < n → x6.toInt = (d : Int) → x5.toInt = (dvl T (q + 1 + eS T len q) d : Int) → x3.toInt = ((q + 1 + eS T len q + d : Nat) : Int) → (q < len) → (T q = 101) → (x4 = if eN T len q then 1 else 0) → (d ≤ 3) → (∀ j, j < d → isD T len (q + 1 + eS T len q + j)) → va_P (dC, dI) vwCl [(h0, .inr (3, [.ref hn, .int neg, .int ex0])), (hn, .inr (1, [.ref an])), (an, .inl (cI, 12, .inl f)), (h1, .inr (2, [.ref a1, .int l1])), (a1, .inl (cB, 60, .inl g))] H → va_D A [(h0, .inr (3, [.ref hn, .int neg, .int ex0])), (hn, .inr (1, [.ref an])), (an, .inl (cI, 12, .inl f)), (h1, .inr (2, [.ref a1, .int l1])), (a1, .inl (cB, 60, .inl g))] → va_S A s.heap H locs → lv_has ls 7 [(6, .int x6), (5, .int x5), (4, .int x4), (3, .int x3), (1, .ref h1), (0, .ref h0)] → W p l e ({ frames := 1, cells := 0, slots := 0, locals := 21 } : Room) s m ([.ref h0, .ref h1, .int x] : List Value).toArray below meth c H locs 0 0 (MQ below (va_Qi (fun (r : Int32) (u : (Int32)) => (r = 0 ∧ ¬ okE T len q) ∨ (r = 1 ∧ okE T len q ∧ u.toInt = ex0.toInt + xE T len q)) (poG dC dI A (fun u : (Int32) => [(h0, .inr (3, [.ref hn, .int neg, .int u])), (hn, .inr (1, [.ref an])), (an, .inl (cI, 12, .inl f)), (h1, .inr (2, [.ref a1, .int l1])), (a1, .inl (cB, 60, .inl g))])) A) ([.ref h0, .ref h1, .int x] : List Value).toArray s 0 0 A) (F0 m 68 ls [])) := by
  obtain ⟨hx, hb, hml, hown, hts, hr, hlocks, hK, hN⟩ := id C0
  intro n
  induction n with
  | zero => exact fun _ _ _ _ _ _ _ _ h0 _ _ _ _ _ _ _ _ _ _ _ _ => absurd h0 (Nat.not_lt_zero _)
  | succ n ih =>
    intro x3 x4 x5 x6 d H locs ls hn9 t_x6 t_x5 t_x3 hql hqe hx4 hd3 hds hP hD hS hl
    have r_x6 := q_r32 x6
    have r_x5 := q_r32 x5
    have r_x3 := q_r32 x3
    have hn60 := hT.2.1
    refine lv_iload hx hb d_Decimal_takePower_68 (lv_at hl 0 rfl) ?_
    refine lv_iconst (v := 3) hx hb d_Decimal_takePower_70 (by decide) ?_
    refine lv_icmp_ge (tgt := 110) hx hb d_Decimal_takePower_71 (by decide) (fun b71 => ?_) (fun b71 => ?_)
    · skip
      rw [q_ile (show (3 : Int32).toInt = 3 by decide) t_x6] at b71
      have hnd : d = 3 := by omega
      have hDe : eD T len q = d := rl_eq (by omega) hds (Or.inl hnd)
      have hXe : eX T len q = dvl T (q + 1 + eS T len q) d := by rw [eX, hDe]
      have hdl := dvl_lt hds
      have hp3 : 10 ^ d ≤ 10 ^ 3 := Nat.pow_le_pow_right (by decide) hd3
      exact L_Decimal_takePower_110 (h0) (hn) (an) (f) (neg) (ex0) (h1) (a1) (g) (l1) (T) (len) (x) (q) C0 hA (hT) (hx0) (hq) (hex) (x3) (x4) (x5) (x6) H locs ls (t_x6.trans (by omega)) (t_x5.trans (by rw [hXe])) (t_x3.trans (by omega)) (by exact hql) (by exact hqe) (by exact hx4) (by rw [hXe]; omega) (by omega) (va_Psub hP [0, 1, 2, 3, 4] rfl) (hD.sub [0, 1, 2, 3, 4] (by decide) rfl) hS (lv_sub hl [0, 1, 2, 3, 4, 5] rfl)
    · skip
      rw [q_ile (show (3 : Int32).toInt = 3 by decide) t_x6] at b71
      refine lv_aload_n hx hb d_Decimal_takePower_74 rfl (lv_at hl 4 rfl) ?_
      refine lv_iload_n hx hb d_Decimal_takePower_75 rfl (lv_at hl 3 rfl) ?_
      refine callV_i (wr := [(h0, .inr (3, [.ref hn, .int neg, .int ex0])), (hn, .inr (1, [.ref an])), (an, .inl (cI, 12, .inl f))]) C0 (c_Tape_at l dC dI cI cB cJ (h1) (a1) (g) (l1) (T) (len) (x3) (by exact hT)) (cwV 1 hts (gV m_259 m_260 m_261 m_49 m_262) rfl rfl rfl (by decide +kernel) ⟨Nat.le_of_ble_eq_true rfl, Nat.le_of_ble_eq_true rfl⟩) 2 rfl rfl 0 rfl hP hD hS hA [3, 4] [0, 1, 2] rfl rfl (by decide) (by decide) (by decide) rfl hl.1 rfl (Nat.le_of_ble_eq_true rfl) d_Decimal_takePower_76 ⟨Nat.le_of_ble_eq_true rfl, Nat.le_of_ble_eq_true rfl⟩ (fun r76 u76 H locs hw9 hP hD hS => ?_)
      have h76 : r76.toInt = tAt T len x3.toInt := hw9
      have hP : va_P (dC, dI) vwCl [(h0, .inr (3, [.ref hn, .int neg, .int ex0])), (hn, .inr (1, [.ref an])), (an, .inl (cI, 12, .inl f)), (h1, .inr (2, [.ref a1, .int l1])), (a1, .inl (cB, 60, .inl g))] H := hP
      have hD : va_D A [(h0, .inr (3, [.ref hn, .int neg, .int ex0])), (hn, .inr (1, [.ref an])), (an, .inl (cI, 12, .inl f)), (h1, .inr (2, [.ref a1, .int l1])), (a1, .inl (cB, 60, .inl g))] := hD
      have t76 : r76.toInt = tAt T len ((q + 1 + eS T len q + d : Nat) : Int) := by rw [h76, t_x3]
      refine callS_i (wr := [(h0, .inr (3, [.ref hn, .int neg, .int ex0])), (hn, .inr (1, [.ref an])), (an, .inl (cI, 12, .inl f)), (h1, .inr (2, [.ref a1, .int l1])), (a1, .inl (cB, 60, .inl g))]) C0 (c_Decimal_isDigit l dC dI cI cB cJ (r76)) (cwS 1 hts (gS m_266 m_267 m_50 m_268) rfl rfl rfl (by decide +kernel) ⟨Nat.le_of_ble_eq_true rfl, Nat.le_of_ble_eq_true rfl⟩) hP hD hS hA [] [0, 1, 2, 3, 4] rfl rfl (by decide) (by decide) (by decide) rfl hl.1 rfl (Nat.le_of_ble_eq_true rfl) d_Decimal_takePower_79 ⟨Nat.le_of_ble_eq_true rfl, Nat.le_of_ble_eq_true rfl⟩ (fun r79 u79 H locs hw9 hP hD hS => ?_)
      have h79 : r79 = if 48 ≤ r76.toInt ∧ r76.toInt ≤ 57 then 1 else 0 := hw9
      have hP : va_P (dC, dI) vwCl [(h0, .inr (3, [.ref hn, .int neg, .int ex0])), (hn, .inr (1, [.ref an])), (an, .inl (cI, 12, .inl f)), (h1, .inr (2, [.ref a1, .int l1])), (a1, .inl (cB, 60, .inl g))] H := hP
      have hD : va_D A [(h0, .inr (3, [.ref hn, .int neg, .int ex0])), (hn, .inr (1, [.ref an])), (an, .inl (cI, 12, .inl f)), (h1, .inr (2, [.ref a1, .int l1])), (a1, .inl (cB, 60, .inl g))] := hD
      refine lv_if_eq (tgt := 110) hx hb d_Decimal_takePower_82 (by decide) (fun b82 => ?_) (fun b82 => ?_)
      · skip
        have hnd : ¬ isD T len (q + 1 + eS T len q + d) := fun h => by have h2 := isD_tAt.mp h; rw [t76, if_pos h2] at h79; exact absurd (h79.symm.trans b82) (by decide)
        have hDe : eD T len q = d := rl_eq (by omega) hds (Or.inr hnd)
        have hXe : eX T len q = dvl T (q + 1 + eS T len q) d := by rw [eX, hDe]
        have hdl := dvl_lt hds
        have hp3 : 10 ^ d ≤ 10 ^ 3 := Nat.pow_le_pow_right (by decide) hd3
        exact L_Decimal_takePower_110 (h0) (hn) (an) (f) (neg) (ex0) (h1) (a1) (g) (l1) (T) (len) (x) (q) C0 hA (hT) (hx0) (hq) (hex) (x3) (x4) (x5) (x6) H locs ls (t_x6.trans (by omega)) (t_x5.trans (by rw [hXe])) (t_x3.trans (by omega)) (by exact hql) (by exact hqe) (by exact hx4) (by rw [hXe]; omega) (by omega) (va_Psub hP [0, 1, 2, 3, 4] rfl) (hD.sub [0, 1, 2, 3, 4] (by decide) rfl) hS (lv_sub hl [0, 1, 2, 3, 4, 5] rfl)
      · skip
        have hdg : isD T len (q + 1 + eS T len q + d) := isD_tAt.mpr (Decidable.byContradiction fun h => b82 (by rw [h79, t76, if_neg h]))
        have htp := tAt_ne (T := T) hdg.1
        have hdg2 := hdg.2
        have hdl := dvl_lt hds
        have hp3 : 10 ^ d ≤ 10 ^ 3 := Nat.pow_le_pow_right (by decide) hd3
        refine lv_iload hx hb d_Decimal_takePower_85 (lv_at hl 1 rfl) ?_
        refine lv_bipush (v := 10) hx hb d_Decimal_takePower_87 (by decide) ?_
        refine lv_imul hx hb d_Decimal_takePower_89 ?_
        refine lv_topi (fun v89 e89 => ?_)
        have t89 : v89.toInt = ((dvl T (q + 1 + eS T len q) d : Int)) * 10 := by rw [e89]; exact q_imul t_x5 (show (10 : Int32).toInt = 10 by decide) (by omega)
        refine lv_aload_n hx hb d_Decimal_takePower_90 rfl (lv_at hl 4 rfl) ?_
        refine lv_iload_n hx hb d_Decimal_takePower_91 rfl (lv_at hl 3 rfl) ?_
        refine callV_i (wr := [(h0, .inr (3, [.ref hn, .int neg, .int ex0])), (hn, .inr (1, [.ref an])), (an, .inl (cI, 12, .inl f))]) C0 (c_Tape_at l dC dI cI cB cJ (h1) (a1) (g) (l1) (T) (len) (x3) (by exact hT)) (cwV 1 hts (gV m_259 m_260 m_261 m_49 m_262) rfl rfl rfl (by decide +kernel) ⟨Nat.le_of_ble_eq_true rfl, Nat.le_of_ble_eq_true rfl⟩) 2 rfl rfl 0 rfl hP hD hS hA [3, 4] [0, 1, 2] rfl rfl (by decide) (by decide) (by decide) rfl hl.1 rfl (Nat.le_of_ble_eq_true rfl) d_Decimal_takePower_92 ⟨Nat.le_of_ble_eq_true rfl, Nat.le_of_ble_eq_true rfl⟩ (fun r92 u92 H locs hw9 hP hD hS => ?_)
        have h92 : r92.toInt = tAt T len x3.toInt := hw9
        have hP : va_P (dC, dI) vwCl [(h0, .inr (3, [.ref hn, .int neg, .int ex0])), (hn, .inr (1, [.ref an])), (an, .inl (cI, 12, .inl f)), (h1, .inr (2, [.ref a1, .int l1])), (a1, .inl (cB, 60, .inl g))] H := hP
        have hD : va_D A [(h0, .inr (3, [.ref hn, .int neg, .int ex0])), (hn, .inr (1, [.ref an])), (an, .inl (cI, 12, .inl f)), (h1, .inr (2, [.ref a1, .int l1])), (a1, .inl (cB, 60, .inl g))] := hD
        have t92 : r92.toInt = tAt T len ((q + 1 + eS T len q + d : Nat) : Int) := by rw [h92, t_x3]
        refine lv_iadd hx hb d_Decimal_takePower_95 ?_
        refine lv_topi (fun v95 e95 => ?_)
        have t95 : v95.toInt = (((dvl T (q + 1 + eS T len q) d : Int)) * 10) + (tAt T len ((q + 1 + eS T len q + d : Nat) : Int)) := by rw [e95]; exact q_iadd t89 t92 (by omega)
        refine lv_bipush (v := 48) hx hb d_Decimal_takePower_96 (by decide) ?_
        refine lv_isub hx hb d_Decimal_takePower_98 ?_
        refine lv_topi (fun v98 e98 => ?_)
        have t98 : v98.toInt = ((((dvl T (q + 1 + eS T len q) d : Int)) * 10) + (tAt T len ((q + 1 + eS T len q + d : Nat) : Int))) - 48 := by rw [e98]; exact q_isub t95 (show (48 : Int32).toInt = 48 by decide) (by omega)
        refine lv_istore (lv' := [(5, .int v98), (6, .int x6), (4, .int x4), (3, .int x3), (1, .ref h1), (0, .ref h0)]) hx hb d_Decimal_takePower_99 hl (by decide) rfl (fun ls hl => ?_)
        obtain ⟨v101, e101⟩ : ∃ y : Int32, y = x3 + 1 := ⟨_, rfl⟩
        have t101 : v101.toInt = ((q + 1 + eS T len q + d : Nat) : Int) + 1 := by rw [e101]; exact q_iadd t_x3 (show (1 : Int32).toInt = 1 by decide) (by omega)
        refine lv_iinc (v := v101) (lv' := [(3, .int v101), (5, .int v98), (6, .int x6), (4, .int x4), (1, .ref h1), (0, .ref h0)]) hx hb d_Decimal_takePower_101 hl (k := 3) rfl (by rw [e101]; rfl) (by decide) rfl (fun ls hl => ?_)
        obtain ⟨v104, e104⟩ : ∃ y : Int32, y = x6 + 1 := ⟨_, rfl⟩
        have t104 : v104.toInt = (d : Int) + 1 := by rw [e104]; exact q_iadd t_x6 (show (1 : Int32).toInt = 1 by decide) (by omega)
        refine lv_iinc (v := v104) (lv' := [(6, .int v104), (3, .int v101), (5, .int v98), (4, .int x4), (1, .ref h1), (0, .ref h0)]) hx hb d_Decimal_takePower_104 hl (k := 2) rfl (by rw [e104]; rfl) (by decide) rfl (fun ls hl => ?_)
        refine lv_goto (tgt := 68) hx hb d_Decimal_takePower_107 (by decide) ?_
        exact ih (v101) (x4) (v98) (v104) (d + 1) H locs ls (by omega) ((t104).trans (by omega)) (t98.trans (by rw [htp]; show _ = ((dvl T (q + 1 + eS T len q) d * 10 + (T (q + 1 + eS T len q + d) - 48) : Nat) : Int); omega)) ((t101).trans (by omega)) (by exact hql) (by exact hqe) (by exact hx4) (by omega) (by intro j hj; rcases Nat.lt_or_ge j d with h | h; exact hds j h; rw [show j = d by omega]; exact hdg) (va_Psub hP [0, 1, 2, 3, 4] rfl) (hD.sub [0, 1, 2, 3, 4] (by decide) rfl) hS (lv_sub hl [0, 2, 3, 1, 4, 5] rfl)
set_option maxHeartbeats 4000000 in
set_option maxRecDepth 100000 in
theorem L_Decimal_takePower_62 {p : Program} {l : Launch} {e : Env} {s : State} {m : MethodId} {below : List Frame} {meth : Method} {c : Code} {dC : Nat → ClassId} {dI : Nat → Nat → Nat} {cI cB cJ : ClassId} {A : Nat → Prop} (h0 : Nat) (hn : Nat) (an : Nat) (f : Nat → Int32) (neg : Int32) (ex0 : Int32) (h1 : Nat) (a1 : Nat) (g : Nat → Int32) (l1 : Int32) (T : Nat → Nat) (len : Nat) (x : Int32) (q : Nat) (C0 : cx dC dI cI cB cJ R_Decimal b_Decimal_takePower 7 (some .boolean) p s m ([.ref h0, .ref h1, .int x] : List Value).toArray meth c) (hA : ∀ q : Nat, s.heap.size ≤ q → A q) (hT : TP g l1 T len) (hx0 : x.toInt = (q : Int)) (hq : q ≤ 1000) (hex : -1000 ≤ ex0.toInt ∧ ex0.toInt ≤ 1000) : (∀ (x3 : Int32) (x4 : Int32) (H : Heap) (locs : List Loc) (ls : Array Slot), x3.toInt = ((q + 1 + eS T len q : Nat) : Int) → (q < len) → (T q = 101) → (x4 = if eN T len q then 1 else 0) → va_P (dC, dI) vwCl [(h0, .inr (3, [.ref hn, .int neg, .int ex0])), (hn, .inr (1, [.ref an])), (an, .inl (cI, 12, .inl f)), (h1, .inr (2, [.ref a1, .int l1])), (a1, .inl (cB, 60, .inl g))] H → va_D A [(h0, .inr (3, [.ref hn, .int neg, .int ex0])), (hn, .inr (1, [.ref an])), (an, .inl (cI, 12, .inl f)), (h1, .inr (2, [.ref a1, .int l1])), (a1, .inl (cB, 60, .inl g))] → va_S A s.heap H locs → lv_has ls 7 [(4, .int x4), (3, .int x3), (1, .ref h1), (0, .ref h0)] → W p l e ({ frames := 1, cells := 0, slots := 0, locals := 21 } : Room) s m ([.ref h0, .ref h1, .int x] : List Value).toArray below meth c H locs 0 0 (MQ below (va_Qi (fun (r : Int32) (u : (Int32)) => (r = 0 ∧ ¬ okE T len q) ∨ (r = 1 ∧ okE T len q ∧ u.toInt = ex0.toInt + xE T len q)) (poG dC dI A (fun u : (Int32) => [(h0, .inr (3, [.ref hn, .int neg, .int u])), (hn, .inr (1, [.ref an])), (an, .inl (cI, 12, .inl f)), (h1, .inr (2, [.ref a1, .int l1])), (a1, .inl (cB, 60, .inl g))])) A) ([.ref h0, .ref h1, .int x] : List Value).toArray s 0 0 A) (F0 m 62 ls [])) := by
  obtain ⟨hx, hb, hml, hown, hts, hr, hlocks, hK, hN⟩ := id C0
  intro x3 x4 H locs ls t_x3 hql hqe hx4 hP hD hS hl
  have r_x3 := q_r32 x3
  have hn60 := hT.2.1
  refine lv_iconst (v := 0) hx hb d_Decimal_takePower_62 (by decide) ?_
  refine lv_istore (lv' := [(5, .int 0), (4, .int x4), (3, .int x3), (1, .ref h1), (0, .ref h0)]) hx hb d_Decimal_takePower_63 hl (by decide) rfl (fun ls hl => ?_)
  refine lv_iconst (v := 0) hx hb d_Decimal_takePower_65 (by decide) ?_
  refine lv_istore (lv' := [(6, .int 0), (5, .int 0), (4, .int x4), (3, .int x3), (1, .ref h1), (0, .ref h0)]) hx hb d_Decimal_takePower_66 hl (by decide) rfl (fun ls hl => ?_)
  exact L_Decimal_takePower_68 (h0) (hn) (an) (f) (neg) (ex0) (h1) (a1) (g) (l1) (T) (len) (x) (q) C0 hA (hT) (hx0) (hq) (hex) _ (x3) (x4) (0) (0) (0) H locs ls (Nat.lt_succ_self _) (((show (0 : Int32).toInt = 0 by decide)).trans (by omega)) (show (0 : Int32).toInt = ((dvl T (q + 1 + eS T len q) 0 : Nat) : Int) from rfl) ((t_x3).trans (by omega)) (by exact hql) (by exact hqe) (by exact hx4) (by omega) (by intro j hj; omega) (va_Psub hP [0, 1, 2, 3, 4] rfl) (hD.sub [0, 1, 2, 3, 4] (by decide) rfl) hS (lv_sub hl [0, 1, 2, 3, 4, 5] rfl)
set_option maxHeartbeats 4000000 in
set_option maxRecDepth 100000 in
theorem c_Decimal_takePower (l : Launch) (dC : Nat → ClassId) (dI : Nat → Nat → Nat) (cI cB cJ : ClassId) (h0 : Nat) (hn : Nat) (an : Nat) (f : Nat → Int32) (neg : Int32) (ex0 : Int32) (h1 : Nat) (a1 : Nat) (g : Nat → Int32) (l1 : Int32) (T : Nat → Nat) (len : Nat) (x : Int32) (q : Nat) (hT : TP g l1 T len) (hx0 : x.toInt = (q : Int)) (hq : q ≤ 1000) (hex : -1000 ≤ ex0.toInt ∧ ex0.toInt ≤ 1000) : Ci l dC dI cI cB cJ y_Decimal_takePower w_Decimal_takePower ({ frames := 1, cells := 0, slots := 0, locals := 21 } : Room) [.ref h0, .ref h1, .int x] [(h0, .inr (3, [.ref hn, .int neg, .int ex0])), (hn, .inr (1, [.ref an])), (an, .inl (cI, 12, .inl f)), (h1, .inr (2, [.ref a1, .int l1])), (a1, .inl (cB, 60, .inl g))] (fun (r : Int32) (u : (Int32)) => (r = 0 ∧ ¬ okE T len q) ∨ (r = 1 ∧ okE T len q ∧ u.toInt = ex0.toInt + xE T len q)) (fun u : (Int32) => [(h0, .inr (3, [.ref hn, .int neg, .int u])), (hn, .inr (1, [.ref an])), (an, .inl (cI, 12, .inl f)), (h1, .inr (2, [.ref a1, .int l1])), (a1, .inl (cB, 60, .inl g))]) := by
  refine Ci.intro (cc := b_Decimal_takePower) (maxL := 7) (plainFor_of_name (by decide)) rfl (Nat.le_of_ble_eq_true rfl) ?_
  intro p e s m below meth c A ls C0 hin hA hP hD hS hl
  obtain ⟨hx, hb, hml, hown, hts, hr, hlocks, hK, hN⟩ := id C0
  obtain ⟨H, hH⟩ : ∃ H, H = s.heap := ⟨_, rfl⟩
  have hP : va_P (dC, dI) vwCl [(h0, .inr (3, [.ref hn, .int neg, .int ex0])), (hn, .inr (1, [.ref an])), (an, .inl (cI, 12, .inl f)), (h1, .inr (2, [.ref a1, .int l1])), (a1, .inl (cB, 60, .inl g))] s.heap := hP
  have hl : lv_has ls 7 [(0, .ref h0), (1, .ref h1), (2, .int x)] := hl
  have r_x := q_r32 x
  suffices h : ∀ (H : Heap) (locs : List Loc), va_P (dC, dI) vwCl [(h0, .inr (3, [.ref hn, .int neg, .int ex0])), (hn, .inr (1, [.ref an])), (an, .inl (cI, 12, .inl f)), (h1, .inr (2, [.ref a1, .int l1])), (a1, .inl (cB, 60, .inl g))] H → va_D A [(h0, .inr (3, [.ref hn, .int neg, .int ex0])), (hn, .inr (1, [.ref an])), (an, .inl (cI, 12, .inl f)), (h1, .inr (2, [.ref a1, .int l1])), (a1, .inl (cB, 60, .inl g))] → va_S A s.heap H locs → W p l e ({ frames := 1, cells := 0, slots := 0, locals := 21 } : Room) s m ([.ref h0, .ref h1, .int x] : List Value).toArray below meth c H locs 0 0 (MQ below (va_Qi (fun (r : Int32) (u : (Int32)) => (r = 0 ∧ ¬ okE T len q) ∨ (r = 1 ∧ okE T len q ∧ u.toInt = ex0.toInt + xE T len q)) (poG dC dI A (fun u : (Int32) => [(h0, .inr (3, [.ref hn, .int neg, .int u])), (hn, .inr (1, [.ref an])), (an, .inl (cI, 12, .inl f)), (h1, .inr (2, [.ref a1, .int l1])), (a1, .inl (cB, 60, .inl g))])) A) ([.ref h0, .ref h1, .int x] : List Value).toArray s 0 0 A) (F0 m 0 ls []) from h _ _ hP hD hS
  clear hP hD hS hH H
  intro H locs hP hD hS
  have hn60 := hT.2.1
  refine lv_aload_n hx hb d_Decimal_takePower_0 rfl (lv_at hl 1 rfl) ?_
  refine lv_iload_n hx hb d_Decimal_takePower_1 rfl (lv_at hl 2 rfl) ?_
  refine callV_i (wr := [(h0, .inr (3, [.ref hn, .int neg, .int ex0])), (hn, .inr (1, [.ref an])), (an, .inl (cI, 12, .inl f))]) C0 (c_Tape_at l dC dI cI cB cJ (h1) (a1) (g) (l1) (T) (len) (x) (by exact hT)) (cwV 1 hts (gV m_259 m_260 m_261 m_49 m_262) rfl rfl rfl (by decide +kernel) ⟨Nat.le_of_ble_eq_true rfl, Nat.le_of_ble_eq_true rfl⟩) 2 rfl rfl 0 rfl hP hD hS hA [3, 4] [0, 1, 2] rfl rfl (by decide) (by decide) (by decide) rfl hl.1 rfl (Nat.le_of_ble_eq_true rfl) d_Decimal_takePower_2 ⟨Nat.le_of_ble_eq_true rfl, Nat.le_of_ble_eq_true rfl⟩ (fun r2 u2 H locs hw9 hP hD hS => ?_)
  have h2 : r2.toInt = tAt T len x.toInt := hw9
  have hP : va_P (dC, dI) vwCl [(h0, .inr (3, [.ref hn, .int neg, .int ex0])), (hn, .inr (1, [.ref an])), (an, .inl (cI, 12, .inl f)), (h1, .inr (2, [.ref a1, .int l1])), (a1, .inl (cB, 60, .inl g))] H := hP
  have hD : va_D A [(h0, .inr (3, [.ref hn, .int neg, .int ex0])), (hn, .inr (1, [.ref an])), (an, .inl (cI, 12, .inl f)), (h1, .inr (2, [.ref a1, .int l1])), (a1, .inl (cB, 60, .inl g))] := hD
  have t2 : r2.toInt = tAt T len (q : Int) := by rw [h2, hx0]
  refine lv_iconst (v := (-1)) hx hb d_Decimal_takePower_5 (by decide) ?_
  refine lv_icmp_ne (tgt := 11) hx hb d_Decimal_takePower_6 (by decide) (fun b6 => ?_) (fun b6 => ?_)
  · skip
    rw [q_ieq t2 (show ((-1) : Int32).toInt = (-1) by decide)] at b6
    refine lv_aload_n hx hb d_Decimal_takePower_11 rfl (lv_at hl 1 rfl) ?_
    refine lv_iload_n hx hb d_Decimal_takePower_12 rfl (lv_at hl 2 rfl) ?_
    refine callV_i (wr := [(h0, .inr (3, [.ref hn, .int neg, .int ex0])), (hn, .inr (1, [.ref an])), (an, .inl (cI, 12, .inl f))]) C0 (c_Tape_at l dC dI cI cB cJ (h1) (a1) (g) (l1) (T) (len) (x) (by exact hT)) (cwV 1 hts (gV m_259 m_260 m_261 m_49 m_262) rfl rfl rfl (by decide +kernel) ⟨Nat.le_of_ble_eq_true rfl, Nat.le_of_ble_eq_true rfl⟩) 2 rfl rfl 0 rfl hP hD hS hA [3, 4] [0, 1, 2] rfl rfl (by decide) (by decide) (by decide) rfl hl.1 rfl (Nat.le_of_ble_eq_true rfl) d_Decimal_takePower_13 ⟨Nat.le_of_ble_eq_true rfl, Nat.le_of_ble_eq_true rfl⟩ (fun r13 u13 H locs hw9 hP hD hS => ?_)
    have h13 : r13.toInt = tAt T len x.toInt := hw9
    have hP : va_P (dC, dI) vwCl [(h0, .inr (3, [.ref hn, .int neg, .int ex0])), (hn, .inr (1, [.ref an])), (an, .inl (cI, 12, .inl f)), (h1, .inr (2, [.ref a1, .int l1])), (a1, .inl (cB, 60, .inl g))] H := hP
    have hD : va_D A [(h0, .inr (3, [.ref hn, .int neg, .int ex0])), (hn, .inr (1, [.ref an])), (an, .inl (cI, 12, .inl f)), (h1, .inr (2, [.ref a1, .int l1])), (a1, .inl (cB, 60, .inl g))] := hD
    have t13 : r13.toInt = tAt T len (q : Int) := by rw [h13, hx0]
    refine lv_bipush (v := 101) hx hb d_Decimal_takePower_16 (by decide) ?_
    refine lv_icmp_eq (tgt := 23) hx hb d_Decimal_takePower_18 (by decide) (fun b18 => ?_) (fun b18 => ?_)
    · skip
      rw [q_ieq t13 (show (101 : Int32).toInt = 101 by decide)] at b18
      refine lv_iload_n hx hb d_Decimal_takePower_23 rfl (lv_at hl 2 rfl) ?_
      refine lv_iconst (v := 1) hx hb d_Decimal_takePower_24 (by decide) ?_
      refine lv_iadd hx hb d_Decimal_takePower_25 ?_
      refine lv_topi (fun v25 e25 => ?_)
      have t25 : v25.toInt = (q : Int) + 1 := by rw [e25]; exact q_iadd hx0 (show (1 : Int32).toInt = 1 by decide) (by omega)
      refine lv_istore_n (lv' := [(3, .int v25), (0, .ref h0), (1, .ref h1), (2, .int x)]) hx hb d_Decimal_takePower_26 rfl hl (by decide) rfl (fun ls hl => ?_)
      refine lv_aload_n hx hb d_Decimal_takePower_27 rfl (lv_at hl 2 rfl) ?_
      refine lv_iload_n hx hb d_Decimal_takePower_28 rfl (lv_at hl 0 rfl) ?_
      refine callV_i (wr := [(h0, .inr (3, [.ref hn, .int neg, .int ex0])), (hn, .inr (1, [.ref an])), (an, .inl (cI, 12, .inl f))]) C0 (c_Tape_at l dC dI cI cB cJ (h1) (a1) (g) (l1) (T) (len) (v25) (by exact hT)) (cwV 1 hts (gV m_259 m_260 m_261 m_49 m_262) rfl rfl rfl (by decide +kernel) ⟨Nat.le_of_ble_eq_true rfl, Nat.le_of_ble_eq_true rfl⟩) 2 rfl rfl 0 rfl hP hD hS hA [3, 4] [0, 1, 2] rfl rfl (by decide) (by decide) (by decide) rfl hl.1 rfl (Nat.le_of_ble_eq_true rfl) d_Decimal_takePower_29 ⟨Nat.le_of_ble_eq_true rfl, Nat.le_of_ble_eq_true rfl⟩ (fun r29 u29 H locs hw9 hP hD hS => ?_)
      have h29 : r29.toInt = tAt T len v25.toInt := hw9
      have hP : va_P (dC, dI) vwCl [(h0, .inr (3, [.ref hn, .int neg, .int ex0])), (hn, .inr (1, [.ref an])), (an, .inl (cI, 12, .inl f)), (h1, .inr (2, [.ref a1, .int l1])), (a1, .inl (cB, 60, .inl g))] H := hP
      have hD : va_D A [(h0, .inr (3, [.ref hn, .int neg, .int ex0])), (hn, .inr (1, [.ref an])), (an, .inl (cI, 12, .inl f)), (h1, .inr (2, [.ref a1, .int l1])), (a1, .inl (cB, 60, .inl g))] := hD
      have t29 : r29.toInt = tAt T len ((q + 1 : Nat) : Int) := by rw [h29, t25]; congr 1
      refine lv_bipush (v := 45) hx hb d_Decimal_takePower_32 (by decide) ?_
      refine lv_icmp_ne (tgt := 41) hx hb d_Decimal_takePower_34 (by decide) (fun b34 => ?_) (fun b34 => ?_)
      · skip
        rw [q_ieq t29 (show (45 : Int32).toInt = 45 by decide)] at b34
        refine lv_iconst (v := 0) hx hb d_Decimal_takePower_41 (by decide) ?_
        refine lv_istore (lv' := [(4, .int 0), (3, .int v25), (0, .ref h0), (1, .ref h1), (2, .int x)]) hx hb d_Decimal_takePower_42 hl (by decide) rfl (fun ls hl => ?_)
        refine lv_iload hx hb d_Decimal_takePower_44 (lv_at hl 0 rfl) ?_
        refine lv_if_ne (tgt := 59) hx hb d_Decimal_takePower_46 (by decide) (fun b46 => ?_) (fun b46 => ?_)
        · skip
          rw [q_ieq (show (0 : Int32).toInt = 0 by decide) (show (0 : Int32).toInt = 0 by decide)] at b46
          exact absurd b46 (by omega)
        · skip
          rw [q_ieq (show (0 : Int32).toInt = 0 by decide) (show (0 : Int32).toInt = 0 by decide)] at b46
          refine lv_aload_n hx hb d_Decimal_takePower_49 rfl (lv_at hl 3 rfl) ?_
          refine lv_iload_n hx hb d_Decimal_takePower_50 rfl (lv_at hl 1 rfl) ?_
          refine callV_i (wr := [(h0, .inr (3, [.ref hn, .int neg, .int ex0])), (hn, .inr (1, [.ref an])), (an, .inl (cI, 12, .inl f))]) C0 (c_Tape_at l dC dI cI cB cJ (h1) (a1) (g) (l1) (T) (len) (v25) (by exact hT)) (cwV 1 hts (gV m_259 m_260 m_261 m_49 m_262) rfl rfl rfl (by decide +kernel) ⟨Nat.le_of_ble_eq_true rfl, Nat.le_of_ble_eq_true rfl⟩) 2 rfl rfl 0 rfl hP hD hS hA [3, 4] [0, 1, 2] rfl rfl (by decide) (by decide) (by decide) rfl hl.1 rfl (Nat.le_of_ble_eq_true rfl) d_Decimal_takePower_51 ⟨Nat.le_of_ble_eq_true rfl, Nat.le_of_ble_eq_true rfl⟩ (fun r51 u51 H locs hw9 hP hD hS => ?_)
          have h51 : r51.toInt = tAt T len v25.toInt := hw9
          have hP : va_P (dC, dI) vwCl [(h0, .inr (3, [.ref hn, .int neg, .int ex0])), (hn, .inr (1, [.ref an])), (an, .inl (cI, 12, .inl f)), (h1, .inr (2, [.ref a1, .int l1])), (a1, .inl (cB, 60, .inl g))] H := hP
          have hD : va_D A [(h0, .inr (3, [.ref hn, .int neg, .int ex0])), (hn, .inr (1, [.ref an])), (an, .inl (cI, 12, .inl f)), (h1, .inr (2, [.ref a1, .int l1])), (a1, .inl (cB, 60, .inl g))] := hD
          have t51 : r51.toInt = tAt T len ((q + 1 : Nat) : Int) := by rw [h51, t25]; congr 1
          refine lv_bipush (v := 43) hx hb d_Decimal_takePower_54 (by decide) ?_
          refine lv_icmp_ne (tgt := 62) hx hb d_Decimal_takePower_56 (by decide) (fun b56 => ?_) (fun b56 => ?_)
          · skip
            rw [q_ieq t51 (show (43 : Int32).toInt = 43 by decide)] at b56
            have hpt := tAt_eq (T := T) b18 (by decide)
            have hS1 : eS T len q = 0 := by rw [eS, if_neg]; rintro ⟨h1, h2⟩; rw [tAt_ne h1] at b34 b56; omega
            exact L_Decimal_takePower_62 (h0) (hn) (an) (f) (neg) (ex0) (h1) (a1) (g) (l1) (T) (len) (x) (q) C0 hA (hT) (hx0) (hq) (hex) (v25) (0) H locs ls ((t25).trans (by omega)) (by exact hpt.1) (by omega) (by rw [if_neg]; rintro ⟨h1, h2⟩; rw [tAt_ne h1] at b34; omega) (va_Psub hP [0, 1, 2, 3, 4] rfl) (hD.sub [0, 1, 2, 3, 4] (by decide) rfl) hS (lv_sub hl [0, 1, 3, 2] rfl)
          · skip
            rw [q_ieq t51 (show (43 : Int32).toInt = 43 by decide)] at b56
            obtain ⟨v59, e59⟩ : ∃ y : Int32, y = v25 + 1 := ⟨_, rfl⟩
            have t59 : v59.toInt = (q : Int) + 1 + 1 := by rw [e59]; exact q_iadd t25 (show (1 : Int32).toInt = 1 by decide) (by omega)
            refine lv_iinc (v := v59) (lv' := [(3, .int v59), (4, .int 0), (0, .ref h0), (1, .ref h1), (2, .int x)]) hx hb d_Decimal_takePower_59 hl (k := 1) rfl (by rw [e59]; rfl) (by decide) rfl (fun ls hl => ?_)
            have hpt := tAt_eq (T := T) b18 (by decide)
            have hpm := tAt_eq (T := T) b56 (by decide)
            have hS1 : eS T len q = 1 := by rw [eS, if_pos ⟨hpm.1, Or.inr (by omega)⟩]
            exact L_Decimal_takePower_62 (h0) (hn) (an) (f) (neg) (ex0) (h1) (a1) (g) (l1) (T) (len) (x) (q) C0 hA (hT) (hx0) (hq) (hex) (v59) (0) H locs ls ((t59).trans (by omega)) (by exact hpt.1) (by omega) (by rw [if_neg (fun h => by have := h.2; omega)]) (va_Psub hP [0, 1, 2, 3, 4] rfl) (hD.sub [0, 1, 2, 3, 4] (by decide) rfl) hS (lv_sub hl [1, 0, 3, 2] rfl)
      · skip
        rw [q_ieq t29 (show (45 : Int32).toInt = 45 by decide)] at b34
        refine lv_iconst (v := 1) hx hb d_Decimal_takePower_37 (by decide) ?_
        refine lv_goto (tgt := 42) hx hb d_Decimal_takePower_38 (by decide) ?_
        refine lv_istore (lv' := [(4, .int 1), (3, .int v25), (0, .ref h0), (1, .ref h1), (2, .int x)]) hx hb d_Decimal_takePower_42 hl (by decide) rfl (fun ls hl => ?_)
        refine lv_iload hx hb d_Decimal_takePower_44 (lv_at hl 0 rfl) ?_
        refine lv_if_ne (tgt := 59) hx hb d_Decimal_takePower_46 (by decide) (fun b46 => ?_) (fun b46 => ?_)
        · skip
          rw [q_ieq (show (1 : Int32).toInt = 1 by decide) (show (0 : Int32).toInt = 0 by decide)] at b46
          obtain ⟨v59, e59⟩ : ∃ y : Int32, y = v25 + 1 := ⟨_, rfl⟩
          have t59 : v59.toInt = (q : Int) + 1 + 1 := by rw [e59]; exact q_iadd t25 (show (1 : Int32).toInt = 1 by decide) (by omega)
          refine lv_iinc (v := v59) (lv' := [(3, .int v59), (4, .int 1), (0, .ref h0), (1, .ref h1), (2, .int x)]) hx hb d_Decimal_takePower_59 hl (k := 1) rfl (by rw [e59]; rfl) (by decide) rfl (fun ls hl => ?_)
          have hpt := tAt_eq (T := T) b18 (by decide)
          have hpm := tAt_eq (T := T) b34 (by decide)
          have hS1 : eS T len q = 1 := by rw [eS, if_pos ⟨hpm.1, Or.inl (by omega)⟩]
          exact L_Decimal_takePower_62 (h0) (hn) (an) (f) (neg) (ex0) (h1) (a1) (g) (l1) (T) (len) (x) (q) C0 hA (hT) (hx0) (hq) (hex) (v59) (1) H locs ls ((t59).trans (by omega)) (by exact hpt.1) (by omega) (by rw [if_pos ⟨hpm.1, by omega⟩]) (va_Psub hP [0, 1, 2, 3, 4] rfl) (hD.sub [0, 1, 2, 3, 4] (by decide) rfl) hS (lv_sub hl [1, 0, 3, 2] rfl)
        · skip
          rw [q_ieq (show (1 : Int32).toInt = 1 by decide) (show (0 : Int32).toInt = 0 by decide)] at b46
          exact absurd b46 (by omega)
    · skip
      rw [q_ieq t13 (show (101 : Int32).toInt = 101 by decide)] at b18
      refine lv_iconst (v := 0) hx hb d_Decimal_takePower_21 (by decide) ?_
      exact Cz.ret C0 (v := 0) (u := (ex0)) (by rfl) (Nat.le_of_ble_eq_true rfl) (Nat.le_of_ble_eq_true rfl) (by show ((0 : Int32) = 0 ∧ ¬ okE T len q) ∨ ((0 : Int32) = 1 ∧ okE T len q ∧ ex0.toInt = ex0.toInt + xE T len q); exact Or.inl ⟨rfl, fun h => h.elim (fun h => b6 (tAt_end.mpr h)) (fun h => b18 (by rw [tAt_ne h.1]; omega))⟩) hP hD hS [0, 1, 2, 3, 4] (by decide) rfl d_Decimal_takePower_22
  · skip
    rw [q_ieq t2 (show ((-1) : Int32).toInt = (-1) by decide)] at b6
    refine lv_iconst (v := 1) hx hb d_Decimal_takePower_9 (by decide) ?_
    have hqe := tAt_end.mp b6
    exact Cz.ret C0 (v := 1) (u := (ex0)) (by rfl) (Nat.le_of_ble_eq_true rfl) (Nat.le_of_ble_eq_true rfl) (by show ((1 : Int32) = 0 ∧ ¬ okE T len q) ∨ ((1 : Int32) = 1 ∧ okE T len q ∧ ex0.toInt = ex0.toInt + xE T len q); exact Or.inr ⟨rfl, Or.inl hqe, by rw [xE, if_pos hqe]; omega⟩) hP hD hS [0, 1, 2, 3, 4] (by decide) rfl d_Decimal_takePower_10
