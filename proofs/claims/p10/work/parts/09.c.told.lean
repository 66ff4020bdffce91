set_option maxHeartbeats 4000000 in
set_option maxRecDepth 100000 in
theorem L_Told_addDigits_6 {p : Program} {l : Launch} {e : Env} {s : State} {m : MethodId} {below : List Frame} {meth : Method} {c : Code} {dC : Nat → ClassId} {dI : Nat → Nat → Nat} {cI cB cJ : ClassId} {A : Nat → Prop} (h0 : Nat) (a0 : Nat) (b0 : Nat) (f : Nat → Int32) (g : Nat → Int32) (lx : Int32) (w : List Nat) (x : Int64) (V : Nat) (y : Int32) (n0 : Nat) (z : Int32) (C0 : cx dC dI cI cB cJ R_Told b_Told_addDigits 8 none p s m ([.ref h0, .long x, .int y, .int z] : List Value).toArray meth c) (hA : ∀ q : Nat, s.heap.size ≤ q → A q) (hT : TL f lx w) (hx0 : x.toInt = (V : Int)) (hy0 : y.toInt = (n0 : Int)) (hn0 : n0 ≤ 160) (hz0 : 0 ≤ z.toInt) : ∀ n : Nat, (∀ (x7 : Int32) (c5 : Int64) (i : Nat) (kg : Nat → Int32) (H : Heap) (locs : List Loc) (ls : Array Slot), n0 - i < n → x7.toInt = (i : Int) → c5.toInt = ((V / 10 ^ i : Nat) : Int) → z.toInt = z.toInt → y.toInt = (n0 : Int) → (i ≤ n0) → (∀ j, j < i → (kg j).toInt = (dgt V j : Int)) → va_P (dC, dI) vwCl [(h0, .inr (6, [.ref a0, .ref b0, .int lx])), (a0, .inl (cB, 160, .inl f)), (b0, .inl (cB, 160, .inl kg))] H → va_D A [(h0, .inr (6, [.ref a0, .ref b0, .int lx])), (a0, .inl (cB, 160, .inl f)), (b0, .inl (cB, 160, .inl kg))] → va_S A s.heap H locs → lv_has ls 8 [(7, .int x7), (5, .long c5), (4, .int z), (3, .int y), (0, .ref h0)] → W p l e ({ frames := 2, cells := 0, slots := 0, locals := 44 } : Room) s m ([.ref h0, .long x, .int y, .int z] : List Value).toArray below meth c H locs 0 0 (MQ below (va_Qv (fun (u : (Nat → Int32) × (Nat → Int32) × (Int32)) => TL u.1 u.2.2 (tk (w ++ revS (dgt V) ((n0 : Int) - z.toInt) n0))) (poG dC dI A (fun u : (Nat → Int32) × (Nat → Int32) × (Int32) => [(h0, .inr (6, [.ref a0, .ref b0, .int u.2.2])), (a0, .inl (cB, 160, .inl u.1)), (b0, .inl (cB, 160, .inl u.2.1))])) A) ([.ref h0, .long x, .int y, .int z] : List Value).toArray s 0 0 A) (F0 m 6 ls [])) := by
  obtain ⟨hx, hb, hml, hown, hts, hr, hlocks, hK, hN⟩ := id C0
  intro n
  induction n with
  | zero => exact fun _ _ _ _ _ _ _ h0 _ _ _ _ _ _ _ _ _ _ => absurd h0 (Nat.not_lt_zero _)
  | succ n ih =>
    intro x7 c5 i kg H locs ls hn9 t_x7 t_c5 t_z t_y hi hk hP hD hS hl
    have r_x7 := q_r32 x7
    have r_c5 := q_r64 c5
    have r_z := q_r32 z
    have r_y := q_r32 y
    refine lv_iload hx hb d_Told_addDigits_6 (lv_at hl 0 rfl) ?_
    refine lv_iload_n hx hb d_Told_addDigits_8 rfl (lv_at hl 3 rfl) ?_
    refine lv_icmp_ge (tgt := 53) hx hb d_Told_addDigits_9 (by decide) (fun b9 => ?_) (fun b9 => ?_)
    · skip
      rw [q_ile t_y t_x7] at b9
      refine lv_aload_n hx hb d_Told_addDigits_53 rfl (lv_at hl 4 rfl) ?_
      refine lv_iload_n hx hb d_Told_addDigits_54 rfl (lv_at hl 3 rfl) ?_
      refine lv_iload_n hx hb d_Told_addDigits_55 rfl (lv_at hl 3 rfl) ?_
      refine lv_iload hx hb d_Told_addDigits_56 (lv_at hl 2 rfl) ?_
      refine lv_isub hx hb d_Told_addDigits_58 ?_
      refine lv_topi (fun v58 e58 => ?_)
      have t58 : v58.toInt = (n0 : Int) - z.toInt := by rw [e58]; exact q_isub t_y t_z (by omega)
      refine callV_v (wr := []) C0 (c_Told_addReversed l dC dI cI cB cJ (h0) (a0) (b0) (f) (kg) (lx) (w) (dgt V) (y) (v58) (n0) (by exact hT) (by exact hy0) (by exact hn0) (by intro j hj; exact ⟨hk j (by omega), by have := dgt_lt V j; omega⟩)) (cwV 2 hts (gV m_440 m_441 m_11 m_54 m_442) rfl rfl rfl (by decide +kernel) ⟨Nat.le_of_ble_eq_true rfl, Nat.le_of_ble_eq_true rfl⟩) 6 rfl rfl 0 rfl hP hD hS hA [0, 1, 2] [] rfl rfl (by decide) (by decide) (by decide) rfl hl.1 rfl (Nat.le_of_ble_eq_true rfl) d_Told_addDigits_59 ⟨Nat.le_of_ble_eq_true rfl, Nat.le_of_ble_eq_true rfl⟩ (fun u59 H locs hw9 hP hD hS => ?_)
      obtain ⟨k59, lx159⟩ := u59
      have h59 : TL k59 lx159 (tk (w ++ revS (dgt V) v58.toInt n0)) := hw9
      have hP : va_P (dC, dI) vwCl [(h0, .inr (6, [.ref a0, .ref b0, .int lx159])), (a0, .inl (cB, 160, .inl k59)), (b0, .inl (cB, 160, .inl kg))] H := hP
      have hD : va_D A [(h0, .inr (6, [.ref a0, .ref b0, .int lx159])), (a0, .inl (cB, 160, .inl k59)), (b0, .inl (cB, 160, .inl kg))] := hD
      exact Cv.ret C0 (u := (k59, kg, lx159)) (Nat.le_of_ble_eq_true rfl) (Nat.le_of_ble_eq_true rfl) (by show TL k59 lx159 (tk (w ++ revS (dgt V) ((n0 : Int) - z.toInt) n0)); rw [t58] at h59; exact h59) hP hD hS [0, 1, 2] (by decide) rfl d_Told_addDigits_62
    · skip
      rw [q_ile t_y t_x7] at b9
      refine lv_iload hx hb d_Told_addDigits_12 (lv_at hl 0 rfl) ?_
      refine lv_sipush (v := 160) hx hb d_Told_addDigits_14 (by decide) ?_
      refine lv_icmp_ge (tgt := 53) hx hb d_Told_addDigits_17 (by decide) (fun b17 => ?_) (fun b17 => ?_)
      · skip
        rw [q_ile (show (160 : Int32).toInt = 160 by decide) t_x7] at b17
        exact absurd b17 (by omega)
      · skip
        rw [q_ile (show (160 : Int32).toInt = 160 by decide) t_x7] at b17
        refine lv_aload_n hx hb d_Told_addDigits_20 rfl (lv_at hl 4 rfl) ?_
        refine va_get (D := (dC, dI)) (ci := 6) (v := .ref b0) (C := R_Told) (T := F_Told) (N := 3) hx hb hts u_Told hown hK hP 0 rfl rfl 1 (by decide) (hts _ m_167) (fun _ h9 => h9) rfl d_Told_addDigits_21 ?_
        refine lv_iload hx hb d_Told_addDigits_24 (lv_at hl 0 rfl) ?_
        refine lv_ldc2 (v := 48) hx hb hown (hts _ m_438) d_Told_addDigits_26 ?_
        refine lv_lload hx hb d_Told_addDigits_29 (lv_at hl 1 rfl) ?_
        refine lv_ldc2 (v := 10) hx hb hown (hts _ m_439) d_Told_addDigits_31 ?_
        have hdl := dgt_lt V i
        refine lv_lrem hx hb d_Told_addDigits_34 (by decide) ?_
        refine lv_topl (fun v34 e34 => ?_)
        have t34 : v34.toInt = ((V / 10 ^ i % 10 : Nat) : Int) := by rw [e34]; exact (q_lrem t_c5 (show (10 : Int64).toInt = 10 by decide) ⟨Int.natCast_nonneg _, by decide⟩).trans (by rw [Int.natCast_emod]; rfl)
        refine lv_ladd hx hb d_Told_addDigits_35 ?_
        refine lv_topl (fun v35 e35 => ?_)
        have t35 : v35.toInt = 48 + (((V / 10 ^ i % 10 : Nat) : Int)) := by rw [e35]; exact q_ladd (show (48 : Int64).toInt = 48 by decide) t34 (by omega)
        refine lv_l2i hx hb d_Told_addDigits_36 rfl ?_
        refine lv_topi (fun v36 e36 => ?_)
        have t36 : v36.toInt = 48 + (((V / 10 ^ i % 10 : Nat) : Int)) := by rw [e36]; exact q_l2i t35 (by omega)
        refine lv_i2b hx hb d_Told_addDigits_37 rfl ?_
        refine lv_topi (fun v37 e37 => ?_)
        have t37 : v37.toInt = (dgt V i : Int) := by rw [e37]; exact q_i2b (t36.trans (by unfold dgt; omega)) (by omega)
        refine va_bast hx hb hK hP hD hS 2 1 rfl rfl (q_in t_x7 (by omega)) d_Told_addDigits_38 (fun H locs hP hD hS => ?_)
        rw [q_cl (k := i) (t_x7)] at hP hD
        have hP : va_P (dC, dI) vwCl [(h0, .inr (6, [.ref a0, .ref b0, .int lx])), (a0, .inl (cB, 160, .inl f)), (b0, .inl (cB, 160, .inl (upd kg i (vp_nar .byte v37))))] H := hP
        have hD : va_D A [(h0, .inr (6, [.ref a0, .ref b0, .int lx])), (a0, .inl (cB, 160, .inl f)), (b0, .inl (cB, 160, .inl (upd kg i (vp_nar .byte v37))))] := hD
        refine lv_lload hx hb d_Told_addDigits_39 (lv_at hl 1 rfl) ?_
        refine lv_ldc2 (v := 10) hx hb hown (hts _ m_439) d_Told_addDigits_41 ?_
        refine lv_ldiv hx hb d_Told_addDigits_44 (by decide) ?_
        refine lv_topl (fun v44 e44 => ?_)
        have t44 : v44.toInt = ((V / 10 ^ (i + 1) : Nat) : Int) := by rw [e44]; exact (q_ldiv t_c5 (show (10 : Int64).toInt = 10 by decide) ⟨Int.natCast_nonneg _, by decide⟩).trans (by rw [Nat.pow_succ, ← Nat.div_div_eq_div_mul, Int.natCast_ediv (V / 10 ^ i)]; rfl)
        refine lv_lstore (lv' := [(5, .long v44), (7, .int x7), (4, .int z), (3, .int y), (0, .ref h0)]) hx hb d_Told_addDigits_45 hl (by decide) rfl (fun ls hl => ?_)
        obtain ⟨v47, e47⟩ : ∃ y : Int32, y = x7 + 1 := ⟨_, rfl⟩
        have t47 : v47.toInt = (i : Int) + 1 := by rw [e47]; exact q_iadd t_x7 (show (1 : Int32).toInt = 1 by decide) (by omega)
        refine lv_iinc (v := v47) (lv' := [(7, .int v47), (5, .long v44), (4, .int z), (3, .int y), (0, .ref h0)]) hx hb d_Told_addDigits_47 hl (k := 1) rfl (by rw [e47]; rfl) (by decide) rfl (fun ls hl => ?_)
        refine lv_goto (tgt := 6) hx hb d_Told_addDigits_50 (by decide) ?_
        exact ih (v47) (v44) (i + 1) (upd kg i (vp_nar .byte v37)) H locs ls (by omega) ((t47).trans (by omega)) ((t44).trans (by omega)) ((t_z).trans (by omega)) ((t_y).trans (by omega)) (by omega) (by intro j hj; rcases Nat.lt_or_ge j i with h | h; rw [pk_un (by omega)]; exact hk j h; rw [show j = i by omega, pk_us, nar_b t37 (by omega)]; exact t37) (va_Psub hP [0, 1, 2] rfl) (hD.sub [0, 1, 2] (by decide) rfl) hS (lv_sub hl [0, 1, 2, 3, 4] rfl)
set_option maxHeartbeats 4000000 in
set_option maxRecDepth 100000 in
theorem c_Told_addDigits (l : Launch) (dC : Nat → ClassId) (dI : Nat → Nat → Nat) (cI cB cJ : ClassId) (h0 : Nat) (a0 : Nat) (b0 : Nat) (f : Nat → Int32) (g : Nat → Int32) (lx : Int32) (w : List Nat) (x : Int64) (V : Nat) (y : Int32) (n0 : Nat) (z : Int32) (hT : TL f lx w) (hx0 : x.toInt = (V : Int)) (hy0 : y.toInt = (n0 : Int)) (hn0 : n0 ≤ 160) (hz0 : 0 ≤ z.toInt) : Cv l dC dI cI cB cJ y_Told_addDigits w_Told_addDigits ({ frames := 2, cells := 0, slots := 0, locals := 44 } : Room) [.ref h0, .long x, .int y, .int z] [(h0, .inr (6, [.ref a0, .ref b0, .int lx])), (a0, .inl (cB, 160, .inl f)), (b0, .inl (cB, 160, .inl g))] (fun (u : (Nat → Int32) × (Nat → Int32) × (Int32)) => TL u.1 u.2.2 (tk (w ++ revS (dgt V) ((n0 : Int) - z.toInt) n0))) (fun u : (Nat → Int32) × (Nat → Int32) × (Int32) => [(h0, .inr (6, [.ref a0, .ref b0, .int u.2.2])), (a0, .inl (cB, 160, .inl u.1)), (b0, .inl (cB, 160, .inl u.2.1))]) := by
  refine Cv.intro (cc := b_Told_addDigits) (maxL := 8) (plainFor_of_name (by decide)) rfl (Nat.le_of_ble_eq_true rfl) ?_
  intro p e s m below meth c A ls C0 hin hA hP hD hS hl
  obtain ⟨hx, hb, hml, hown, hts, hr, hlocks, hK, hN⟩ := id C0
  obtain ⟨H, hH⟩ : ∃ H, H = s.heap := ⟨_, rfl⟩
  have hP : va_P (dC, dI) vwCl [(h0, .inr (6, [.ref a0, .ref b0, .int lx])), (a0, .inl (cB, 160, .inl f)), (b0, .inl (cB, 160, .inl g))] s.heap := hP
  have hl : lv_has ls 8 [(0, .ref h0), (1, .long x), (3, .int y), (4, .int z)] := hl
  have r_x := q_r64 x
  have r_y := q_r32 y
  have r_z := q_r32 z
  suffices h : ∀ (H : Heap) (locs : List Loc), va_P (dC, dI) vwCl [(h0, .inr (6, [.ref a0, .ref b0, .int lx])), (a0, .inl (cB, 160, .inl f)), (b0, .inl (cB, 160, .inl g))] H → va_D A [(h0, .inr (6, [.ref a0, .ref b0, .int lx])), (a0, .inl (cB, 160, .inl f)), (b0, .inl (cB, 160, .inl g))] → va_S A s.heap H locs → W p l e ({ frames := 2, cells := 0, slots := 0, locals := 44 } : Room) s m ([.ref h0, .long x, .int y, .int z] : List Value).toArray below meth c H locs 0 0 (MQ below (va_Qv (fun (u : (Nat → Int32) × (Nat → Int32) × (Int32)) => TL u.1 u.2.2 (tk (w ++ revS (dgt V) ((n0 : Int) - z.toInt) n0))) (poG dC dI A (fun u : (Nat → Int32) × (Nat → Int32) × (Int32) => [(h0, .inr (6, [.ref a0, .ref b0, .int u.2.2])), (a0, .inl (cB, 160, .inl u.1)), (b0, .inl (cB, 160, .inl u.2.1))])) A) ([.ref h0, .long x, .int y, .int z] : List Value).toArray s 0 0 A) (F0 m 0 ls []) from h _ _ hP hD hS
  clear hP hD hS hH H
  intro H locs hP hD hS
  refine lv_lload_n hx hb d_Told_addDigits_0 rfl (lv_at hl 1 rfl) ?_
  refine lv_lstore (lv' := [(5, .long x), (0, .ref h0), (1, .long x), (3, .int y), (4, .int z)]) hx hb d_Told_addDigits_1 hl (by decide) rfl (fun ls hl => ?_)
  refine lv_iconst (v := 0) hx hb d_Told_addDigits_3 (by decide) ?_
  refine lv_istore (lv' := [(7, .int 0), (5, .long x), (0, .ref h0), (1, .long x), (3, .int y), (4, .int z)]) hx hb d_Told_addDigits_4 hl (by decide) rfl (fun ls hl => ?_)
  exact L_Told_addDigits_6 (h0) (a0) (b0) (f) (g) (lx) (w) (x) (V) (y) (n0) (z) C0 hA (hT) (hx0) (hy0) (hn0) (hz0) _ (0) (x) (0) (g) H locs ls (Nat.lt_succ_self _) (((show (0 : Int32).toInt = 0 by decide)).trans (by omega)) (hx0.trans (by rw [Nat.pow_zero, Nat.div_one])) (((rfl : z.toInt = z.toInt)).trans (by omega)) ((hy0).trans (by omega)) (by omega) (by intro j hj; omega) (va_Psub hP [0, 1, 2] rfl) (hD.sub [0, 1, 2] (by decide) rfl) hS (lv_sub hl [0, 1, 5, 4, 2] rfl)
set_option maxHeartbeats 4000000 in
set_option maxRecDepth 100000 in
theorem c_Told_addPower (l : Launch) (dC : Nat → ClassId) (dI : Nat → Nat → Nat) (cI cB cJ : ClassId) (h0 : Nat) (a0 : Nat) (b0 : Nat) (f : Nat → Int32) (g : Nat → Int32) (lx : Int32) (w : List Nat) (x : Int32) (hT : TL f lx w) (hx9 : -100 < x.toInt ∧ x.toInt < 100) : Cv l dC dI cI cB cJ y_Told_addPower w_Told_addPower ({ frames := 3, cells := 0, slots := 0, locals := 71 } : Room) [.ref h0, .int x] [(h0, .inr (6, [.ref a0, .ref b0, .int lx])), (a0, .inl (cB, 160, .inl f)), (b0, .inl (cB, 160, .inl g))] (fun (u : (Nat → Int32) × (Nat → Int32) × (Int32)) => TL u.1 u.2.2 (tk (w ++ expS x.toInt))) (fun u : (Nat → Int32) × (Nat → Int32) × (Int32) => [(h0, .inr (6, [.ref a0, .ref b0, .int u.2.2])), (a0, .inl (cB, 160, .inl u.1)), (b0, .inl (cB, 160, .inl u.2.1))]) := by
  refine Cv.intro (cc := b_Told_addPower) (maxL := 4) (plainFor_of_name (by decide)) rfl (Nat.le_of_ble_eq_true rfl) ?_
  intro p e s m below meth c A ls C0 hin hA hP hD hS hl
  obtain ⟨hx, hb, hml, hown, hts, hr, hlocks, hK, hN⟩ := id C0
  obtain ⟨H, hH⟩ : ∃ H, H = s.heap := ⟨_, rfl⟩
  have hP : va_P (dC, dI) vwCl [(h0, .inr (6, [.ref a0, .ref b0, .int lx])), (a0, .inl (cB, 160, .inl f)), (b0, .inl (cB, 160, .inl g))] s.heap := hP
  have hl : lv_has ls 4 [(0, .ref h0), (1, .int x)] := hl
  have r_x := q_r32 x
  suffices h : ∀ (H : Heap) (locs : List Loc), va_P (dC, dI) vwCl [(h0, .inr (6, [.ref a0, .ref b0, .int lx])), (a0, .inl (cB, 160, .inl f)), (b0, .inl (cB, 160, .inl g))] H → va_D A [(h0, .inr (6, [.ref a0, .ref b0, .int lx])), (a0, .inl (cB, 160, .inl f)), (b0, .inl (cB, 160, .inl g))] → va_S A s.heap H locs → W p l e ({ frames := 3, cells := 0, slots := 0, locals := 71 } : Room) s m ([.ref h0, .int x] : List Value).toArray below meth c H locs 0 0 (MQ below (va_Qv (fun (u : (Nat → Int32) × (Nat → Int32) × (Int32)) => TL u.1 u.2.2 (tk (w ++ expS x.toInt))) (poG dC dI A (fun u : (Nat → Int32) × (Nat → Int32) × (Int32) => [(h0, .inr (6, [.ref a0, .ref b0, .int u.2.2])), (a0, .inl (cB, 160, .inl u.1)), (b0, .inl (cB, 160, .inl u.2.1))])) A) ([.ref h0, .int x] : List Value).toArray s 0 0 A) (F0 m 0 ls []) from h _ _ hP hD hS
  clear hP hD hS hH H
  intro H locs hP hD hS
  refine lv_aload_n hx hb d_Told_addPower_0 rfl (lv_at hl 0 rfl) ?_
  refine lv_bipush (v := 101) hx hb d_Told_addPower_1 (by decide) ?_
  refine callV_v (wr := []) C0 (c_Told_add l dC dI cI cB cJ (h0) (a0) (b0) (f) (g) (lx) (w) ((101 : Int32)) ((101 : Nat)) (by exact hT) (by decide) (by decide)) (cwV 1 hts (gV m_419 m_420 m_421 m_54 m_422) rfl rfl rfl (by decide +kernel) ⟨Nat.le_of_ble_eq_true rfl, Nat.le_of_ble_eq_true rfl⟩) 6 rfl rfl 0 rfl hP hD hS hA [0, 1, 2] [] rfl rfl (by decide) (by decide) (by decide) rfl hl.1 rfl (Nat.le_of_ble_eq_true rfl) d_Told_addPower_3 ⟨Nat.le_of_ble_eq_true rfl, Nat.le_of_ble_eq_true rfl⟩ (fun u3 H locs hw9 hP hD hS => ?_)
  obtain ⟨k3, lx13⟩ := u3
  have h3 : TL k3 lx13 (tk (w ++ [(101 : Nat)])) := hw9
  have hP : va_P (dC, dI) vwCl [(h0, .inr (6, [.ref a0, .ref b0, .int lx13])), (a0, .inl (cB, 160, .inl k3)), (b0, .inl (cB, 160, .inl g))] H := hP
  have hD : va_D A [(h0, .inr (6, [.ref a0, .ref b0, .int lx13])), (a0, .inl (cB, 160, .inl k3)), (b0, .inl (cB, 160, .inl g))] := hD
  refine lv_iload_n hx hb d_Told_addPower_6 rfl (lv_at hl 1 rfl) ?_
  refine lv_if_ge (tgt := 16) hx hb d_Told_addPower_7 (by decide) (fun b7 => ?_) (fun b7 => ?_)
  · skip
    rw [q_ile (show (0 : Int32).toInt = 0 by decide) (rfl : x.toInt = x.toInt)] at b7
    refine lv_iload_n hx hb d_Told_addPower_16 rfl (lv_at hl 1 rfl) ?_
    refine callS_i (wr := [(h0, .inr (6, [.ref a0, .ref b0, .int lx13])), (a0, .inl (cB, 160, .inl k3)), (b0, .inl (cB, 160, .inl g))]) C0 (c_Math_abs l dC dI cI cB cJ (x) (by omega)) (cwSx 1 hts m_431 m_432 m_60 m_433 (by decide +kernel) ⟨Nat.le_of_ble_eq_true rfl, Nat.le_of_ble_eq_true rfl⟩) hP hD hS hA [] [0, 1, 2] rfl rfl (by decide) (by decide) (by decide) rfl hl.1 rfl (Nat.le_of_ble_eq_true rfl) d_Told_addPower_17 ⟨Nat.le_of_ble_eq_true rfl, Nat.le_of_ble_eq_true rfl⟩ (fun r17 u17 H locs hw9 hP hD hS => ?_)
    have h17 : r17.toInt = (x.toInt.natAbs : Int) := hw9
    have hP : va_P (dC, dI) vwCl [(h0, .inr (6, [.ref a0, .ref b0, .int lx13])), (a0, .inl (cB, 160, .inl k3)), (b0, .inl (cB, 160, .inl g))] H := hP
    have hD : va_D A [(h0, .inr (6, [.ref a0, .ref b0, .int lx13])), (a0, .inl (cB, 160, .inl k3)), (b0, .inl (cB, 160, .inl g))] := hD
    have t17 : r17.toInt = (x.toInt.natAbs : Int) := h17
    refine lv_istore_n (lv' := [(2, .int r17), (0, .ref h0), (1, .int x)]) hx hb d_Told_addPower_20 rfl hl (by decide) rfl (fun ls hl => ?_)
    refine lv_iload_n hx hb d_Told_addPower_21 rfl (lv_at hl 0 rfl) ?_
    refine lv_bipush (v := 10) hx hb d_Told_addPower_22 (by decide) ?_
    refine lv_icmp_lt (tgt := 31) hx hb d_Told_addPower_24 (by decide) (fun b24 => ?_) (fun b24 => ?_)
    · skip
      rw [q_ilt t17 (show (10 : Int32).toInt = 10 by decide)] at b24
      refine lv_iconst (v := 1) hx hb d_Told_addPower_31 (by decide) ?_
      refine lv_istore_n (lv' := [(3, .int 1), (2, .int r17), (0, .ref h0), (1, .int x)]) hx hb d_Told_addPower_32 rfl hl (by decide) rfl (fun ls hl => ?_)
      refine lv_aload_n hx hb d_Told_addPower_33 rfl (lv_at hl 2 rfl) ?_
      refine lv_iload_n hx hb d_Told_addPower_34 rfl (lv_at hl 1 rfl) ?_
      refine lv_i2l hx hb d_Told_addPower_35 rfl ?_
      refine lv_topl (fun v35 e35 => ?_)
      have t35 : v35.toInt = (x.toInt.natAbs : Int) := by rw [e35]; exact q_i2l t17
      refine lv_iload_n hx hb d_Told_addPower_36 rfl (lv_at hl 0 rfl) ?_
      refine lv_iload_n hx hb d_Told_addPower_37 rfl (lv_at hl 0 rfl) ?_
      refine callV_v (wr := []) C0 (c_Told_addDigits l dC dI cI cB cJ (h0) (a0) (b0) (k3) (g) (lx13) (tk (w ++ [101])) (v35) (x.toInt.natAbs) ((1 : Int32)) ((1 : Nat)) ((1 : Int32)) (by exact h3) (by exact t35) (by decide) (by decide) (by decide)) (cwV 3 hts (gV m_434 m_435 m_436 m_54 m_437) rfl rfl rfl (by decide +kernel) ⟨Nat.le_of_ble_eq_true rfl, Nat.le_of_ble_eq_true rfl⟩) 6 rfl rfl 0 rfl hP hD hS hA [0, 1, 2] [] rfl rfl (by decide) (by decide) (by decide) rfl hl.1 rfl (Nat.le_of_ble_eq_true rfl) d_Told_addPower_38 ⟨Nat.le_of_ble_eq_true rfl, Nat.le_of_ble_eq_true rfl⟩ (fun u38 H locs hw9 hP hD hS => ?_)
      obtain ⟨k38, kg38, lx138⟩ := u38
      have h38 : TL k38 lx138 (tk ((tk (w ++ [101])) ++ revS (dgt x.toInt.natAbs) (((1 : Nat) : Int) - (1 : Int32).toInt) (1 : Nat))) := hw9
      have hP : va_P (dC, dI) vwCl [(h0, .inr (6, [.ref a0, .ref b0, .int lx138])), (a0, .inl (cB, 160, .inl k38)), (b0, .inl (cB, 160, .inl kg38))] H := hP
      have hD : va_D A [(h0, .inr (6, [.ref a0, .ref b0, .int lx138])), (a0, .inl (cB, 160, .inl k38)), (b0, .inl (cB, 160, .inl kg38))] := hD
      exact Cv.ret C0 (u := (k38, kg38, lx138)) (Nat.le_of_ble_eq_true rfl) (Nat.le_of_ble_eq_true rfl) (by show TL k38 lx138 (tk (w ++ expS x.toInt)); rw [tk_tk, List.append_assoc, show [101] ++ revS (dgt x.toInt.natAbs) (((1 : Nat) : Int) - (1 : Int32).toInt) 1 = expS x.toInt from expS_1 (by omega) (by omega)] at h38; exact h38) hP hD hS [0, 1, 2] (by decide) rfl d_Told_addPower_41
    · skip
      rw [q_ilt t17 (show (10 : Int32).toInt = 10 by decide)] at b24
      refine lv_iconst (v := 2) hx hb d_Told_addPower_27 (by decide) ?_
      refine lv_goto (tgt := 32) hx hb d_Told_addPower_28 (by decide) ?_
      refine lv_istore_n (lv' := [(3, .int 2), (2, .int r17), (0, .ref h0), (1, .int x)]) hx hb d_Told_addPower_32 rfl hl (by decide) rfl (fun ls hl => ?_)
      refine lv_aload_n hx hb d_Told_addPower_33 rfl (lv_at hl 2 rfl) ?_
      refine lv_iload_n hx hb d_Told_addPower_34 rfl (lv_at hl 1 rfl) ?_
      refine lv_i2l hx hb d_Told_addPower_35 rfl ?_
      refine lv_topl (fun v35 e35 => ?_)
      have t35 : v35.toInt = (x.toInt.natAbs : Int) := by rw [e35]; exact q_i2l t17
      refine lv_iload_n hx hb d_Told_addPower_36 rfl (lv_at hl 0 rfl) ?_
      refine lv_iload_n hx hb d_Told_addPower_37 rfl (lv_at hl 0 rfl) ?_
      refine callV_v (wr := []) C0 (c_Told_addDigits l dC dI cI cB cJ (h0) (a0) (b0) (k3) (g) (lx13) (tk (w ++ [101])) (v35) (x.toInt.natAbs) ((2 : Int32)) ((2 : Nat)) ((2 : Int32)) (by exact h3) (by exact t35) (by decide) (by decide) (by decide)) (cwV 3 hts (gV m_434 m_435 m_436 m_54 m_437) rfl rfl rfl (by decide +kernel) ⟨Nat.le_of_ble_eq_true rfl, Nat.le_of_ble_eq_true rfl⟩) 6 rfl rfl 0 rfl hP hD hS hA [0, 1, 2] [] rfl rfl (by decide) (by decide) (by decide) rfl hl.1 rfl (Nat.le_of_ble_eq_true rfl) d_Told_addPower_38 ⟨Nat.le_of_ble_eq_true rfl, Nat.le_of_ble_eq_true rfl⟩ (fun u38 H locs hw9 hP hD hS => ?_)
      obtain ⟨k38, kg38, lx138⟩ := u38
      have h38 : TL k38 lx138 (tk ((tk (w ++ [101])) ++ revS (dgt x.toInt.natAbs) (((2 : Nat) : Int) - (2 : Int32).toInt) (2 : Nat))) := hw9
      have hP : va_P (dC, dI) vwCl [(h0, .inr (6, [.ref a0, .ref b0, .int lx138])), (a0, .inl (cB, 160, .inl k38)), (b0, .inl (cB, 160, .inl kg38))] H := hP
      have hD : va_D A [(h0, .inr (6, [.ref a0, .ref b0, .int lx138])), (a0, .inl (cB, 160, .inl k38)), (b0, .inl (cB, 160, .inl kg38))] := hD
      exact Cv.ret C0 (u := (k38, kg38, lx138)) (Nat.le_of_ble_eq_true rfl) (Nat.le_of_ble_eq_true rfl) (by show TL k38 lx138 (tk (w ++ expS x.toInt)); rw [tk_tk, List.append_assoc, show [101] ++ revS (dgt x.toInt.natAbs) (((2 : Nat) : Int) - (2 : Int32).toInt) 2 = expS x.toInt from expS_2 (by omega) (by omega)] at h38; exact h38) hP hD hS [0, 1, 2] (by decide) rfl d_Told_addPower_41
  · skip
    rw [q_ile (show (0 : Int32).toInt = 0 by decide) (rfl : x.toInt = x.toInt)] at b7
    refine lv_aload_n hx hb d_Told_addPower_10 rfl (lv_at hl 0 rfl) ?_
    refine lv_bipush (v := 45) hx hb d_Told_addPower_11 (by decide) ?_
    refine callV_v (wr := []) C0 (c_Told_add l dC dI cI cB cJ (h0) (a0) (b0) (k3) (g) (lx13) (tk (w ++ [101])) ((45 : Int32)) ((45 : Nat)) (by exact h3) (by decide) (by decide)) (cwV 1 hts (gV m_419 m_420 m_421 m_54 m_422) rfl rfl rfl (by decide +kernel) ⟨Nat.le_of_ble_eq_true rfl, Nat.le_of_ble_eq_true rfl⟩) 6 rfl rfl 0 rfl hP hD hS hA [0, 1, 2] [] rfl rfl (by decide) (by decide) (by decide) rfl hl.1 rfl (Nat.le_of_ble_eq_true rfl) d_Told_addPower_13 ⟨Nat.le_of_ble_eq_true rfl, Nat.le_of_ble_eq_true rfl⟩ (fun u13 H locs hw9 hP hD hS => ?_)
    obtain ⟨k13, lx113⟩ := u13
    have h13 : TL k13 lx113 (tk ((tk (w ++ [101])) ++ [(45 : Nat)])) := hw9
    have hP : va_P (dC, dI) vwCl [(h0, .inr (6, [.ref a0, .ref b0, .int lx113])), (a0, .inl (cB, 160, .inl k13)), (b0, .inl (cB, 160, .inl g))] H := hP
    have hD : va_D A [(h0, .inr (6, [.ref a0, .ref b0, .int lx113])), (a0, .inl (cB, 160, .inl k13)), (b0, .inl (cB, 160, .inl g))] := hD
    refine lv_iload_n hx hb d_Told_addPower_16 rfl (lv_at hl 1 rfl) ?_
    refine callS_i (wr := [(h0, .inr (6, [.ref a0, .ref b0, .int lx113])), (a0, .inl (cB, 160, .inl k13)), (b0, .inl (cB, 160, .inl g))]) C0 (c_Math_abs l dC dI cI cB cJ (x) (by omega)) (cwSx 1 hts m_431 m_432 m_60 m_433 (by decide +kernel) ⟨Nat.le_of_ble_eq_true rfl, Nat.le_of_ble_eq_true rfl⟩) hP hD hS hA [] [0, 1, 2] rfl rfl (by decide) (by decide) (by decide) rfl hl.1 rfl (Nat.le_of_ble_eq_true rfl) d_Told_addPower_17 ⟨Nat.le_of_ble_eq_true rfl, Nat.le_of_ble_eq_true rfl⟩ (fun r17 u17 H locs hw9 hP hD hS => ?_)
    have h17 : r17.toInt = (x.toInt.natAbs : Int) := hw9
    have hP : va_P (dC, dI) vwCl [(h0, .inr (6, [.ref a0, .ref b0, .int lx113])), (a0, .inl (cB, 160, .inl k13)), (b0, .inl (cB, 160, .inl g))] H := hP
    have hD : va_D A [(h0, .inr (6, [.ref a0, .ref b0, .int lx113])), (a0, .inl (cB, 160, .inl k13)), (b0, .inl (cB, 160, .inl g))] := hD
    have t17 : r17.toInt = (x.toInt.natAbs : Int) := h17
    refine lv_istore_n (lv' := [(2, .int r17), (0, .ref h0), (1, .int x)]) hx hb d_Told_addPower_20 rfl hl (by decide) rfl (fun ls hl => ?_)
    refine lv_iload_n hx hb d_Told_addPower_21 rfl (lv_at hl 0 rfl) ?_
    refine lv_bipush (v := 10) hx hb d_Told_addPower_22 (by decide) ?_
    refine lv_icmp_lt (tgt := 31) hx hb d_Told_addPower_24 (by decide) (fun b24 => ?_) (fun b24 => ?_)
    · skip
      rw [q_ilt t17 (show (10 : Int32).toInt = 10 by decide)] at b24
      refine lv_iconst (v := 1) hx hb d_Told_addPower_31 (by decide) ?_
      refine lv_istore_n (lv' := [(3, .int 1), (2, .int r17), (0, .ref h0), (1, .int x)]) hx hb d_Told_addPower_32 rfl hl (by decide) rfl (fun ls hl => ?_)
      refine lv_aload_n hx hb d_Told_addPower_33 rfl (lv_at hl 2 rfl) ?_
      refine lv_iload_n hx hb d_Told_addPower_34 rfl (lv_at hl 1 rfl) ?_
      refine lv_i2l hx hb d_Told_addPower_35 rfl ?_
      refine lv_topl (fun v35 e35 => ?_)
      have t35 : v35.toInt = (x.toInt.natAbs : Int) := by rw [e35]; exact q_i2l t17
      refine lv_iload_n hx hb d_Told_addPower_36 rfl (lv_at hl 0 rfl) ?_
      refine lv_iload_n hx hb d_Told_addPower_37 rfl (lv_at hl 0 rfl) ?_
      refine callV_v (wr := []) C0 (c_Told_addDigits l dC dI cI cB cJ (h0) (a0) (b0) (k13) (g) (lx113) (tk (tk (w ++ [101]) ++ [45])) (v35) (x.toInt.natAbs) ((1 : Int32)) ((1 : Nat)) ((1 : Int32)) (by exact h13) (by exact t35) (by decide) (by decide) (by decide)) (cwV 3 hts (gV m_434 m_435 m_436 m_54 m_437) rfl rfl rfl (by decide +kernel) ⟨Nat.le_of_ble_eq_true rfl, Nat.le_of_ble_eq_true rfl⟩) 6 rfl rfl 0 rfl hP hD hS hA [0, 1, 2] [] rfl rfl (by decide) (by decide) (by decide) rfl hl.1 rfl (Nat.le_of_ble_eq_true rfl) d_Told_addPower_38 ⟨Nat.le_of_ble_eq_true rfl, Nat.le_of_ble_eq_true rfl⟩ (fun u38 H locs hw9 hP hD hS => ?_)
      obtain ⟨k38, kg38, lx138⟩ := u38
      have h38 : TL k38 lx138 (tk ((tk (tk (w ++ [101]) ++ [45])) ++ revS (dgt x.toInt.natAbs) (((1 : Nat) : Int) - (1 : Int32).toInt) (1 : Nat))) := hw9
      have hP : va_P (dC, dI) vwCl [(h0, .inr (6, [.ref a0, .ref b0, .int lx138])), (a0, .inl (cB, 160, .inl k38)), (b0, .inl (cB, 160, .inl kg38))] H := hP
      have hD : va_D A [(h0, .inr (6, [.ref a0, .ref b0, .int lx138])), (a0, .inl (cB, 160, .inl k38)), (b0, .inl (cB, 160, .inl kg38))] := hD
      exact Cv.ret C0 (u := (k38, kg38, lx138)) (Nat.le_of_ble_eq_true rfl) (Nat.le_of_ble_eq_true rfl) (by show TL k38 lx138 (tk (w ++ expS x.toInt)); rw [tk_tk, List.append_assoc, tk_tk, List.append_assoc, show [101] ++ ([45] ++ revS (dgt x.toInt.natAbs) (((1 : Nat) : Int) - (1 : Int32).toInt) 1) = expS x.toInt from expS_3 (by omega) (by omega)] at h38; exact h38) hP hD hS [0, 1, 2] (by decide) rfl d_Told_addPower_41
    · skip
      rw [q_ilt t17 (show (10 : Int32).toInt = 10 by decide)] at b24
      refine lv_iconst (v := 2) hx hb d_Told_addPower_27 (by decide) ?_
      refine lv_goto (tgt := 32) hx hb d_Told_addPower_28 (by decide) ?_
      refine lv_istore_n (lv' := [(3, .int 2), (2, .int r17), (0, .ref h0), (1, .int x)]) hx hb d_Told_addPower_32 rfl hl (by decide) rfl (fun ls hl => ?_)
      refine lv_aload_n hx hb d_Told_addPower_33 rfl (lv_at hl 2 rfl) ?_
      refine lv_iload_n hx hb d_Told_addPower_34 rfl (lv_at hl 1 rfl) ?_
      refine lv_i2l hx hb d_Told_addPower_35 rfl ?_
      refine lv_topl (fun v35 e35 => ?_)
      have t35 : v35.toInt = (x.toInt.natAbs : Int) := by rw [e35]; exact q_i2l t17
      refine lv_iload_n hx hb d_Told_addPower_36 rfl (lv_at hl 0 rfl) ?_
      refine lv_iload_n hx hb d_Told_addPower_37 rfl (lv_at hl 0 rfl) ?_
      refine callV_v (wr := []) C0 (c_Told_addDigits l dC dI cI cB cJ (h0) (a0) (b0) (k13) (g) (lx113) (tk (tk (w ++ [101]) ++ [45])) (v35) (x.toInt.natAbs) ((2 : Int32)) ((2 : Nat)) ((2 : Int32)) (by exact h13) (by exact t35) (by decide) (by decide) (by decide)) (cwV 3 hts (gV m_434 m_435 m_436 m_54 m_437) rfl rfl rfl (by decide +kernel) ⟨Nat.le_of_ble_eq_true rfl, Nat.le_of_ble_eq_true rfl⟩) 6 rfl rfl 0 rfl hP hD hS hA [0, 1, 2] [] rfl rfl (by decide) (by decide) (by decide) rfl hl.1 rfl (Nat.le_of_ble_eq_true rfl) d_Told_addPower_38 ⟨Nat.le_of_ble_eq_true rfl, Nat.le_of_ble_eq_true rfl⟩ (fun u38 H locs hw9 hP hD hS => ?_)
      obtain ⟨k38, kg38, lx138⟩ := u38
      have h38 : TL k38 lx138 (tk ((tk (tk (w ++ [101]) ++ [45])) ++ revS (dgt x.toInt.natAbs) (((2 : Nat) : Int) - (2 : Int32).toInt) (2 : Nat))) := hw9
      have hP : va_P (dC, dI) vwCl [(h0, .inr (6, [.ref a0, .ref b0, .int lx138])), (a0, .inl (cB, 160, .inl k38)), (b0, .inl (cB, 160, .inl kg38))] H := hP
      have hD : va_D A [(h0, .inr (6, [.ref a0, .ref b0, .int lx138])), (a0, .inl (cB, 160, .inl k38)), (b0, .inl (cB, 160, .inl kg38))] := hD
      exact Cv.ret C0 (u := (k38, kg38, lx138)) (Nat.le_of_ble_eq_true rfl) (Nat.le_of_ble_eq_true rfl) (by show TL k38 lx138 (tk (w ++ expS x.toInt)); rw [tk_tk, List.append_assoc, tk_tk, List.append_assoc, show [101] ++ ([45] ++ revS (dgt x.toInt.natAbs) (((2 : Nat) : Int) - (2 : Int32).toInt) 2) = expS x.toInt from expS_4 (by omega) (by omega)] at h38; exact h38) hP hD hS [0, 1, 2] (by decide) rfl d_Told_addPower_41
set_option maxHeartbeats 4000000 in
set_option maxRecDepth 100000 in
theorem L_Told_addNatural_139 {p : Program} {l : Launch} {e : Env} {s : State} {m : MethodId} {below : List Frame} {meth : Method} {c : Code} {dC : Nat → ClassId} {dI : Nat → Nat → Nat} {cI cB cJ : ClassId} {A : Nat → Prop} (h0 : Nat) (a0 : Nat) (b0 : Nat) (f : Nat → Int32) (g : Nat → Int32) (lx : Int32) (w : List Nat) (d0 : Nat) (hn : Nat) (fd : Nat → Int32) (y : Int32) (bh : Nat) (C0 : cx dC dI cI cB cJ R_Told b_Told_addNatural 6 none p s m ([.ref h0, .ref d0, .int y] : List Value).toArray meth c) (hA : ∀ q : Nat, s.heap.size ≤ q → A q) (hT : TL f lx w) (hy0 : y.toInt = (bh : Int)) (hb0 : bh ≤ 155) : (∀ (x3 : Int32) (cnt : Nat) (kg : Nat → Int32) (kd : Nat → Int32) (H : Heap) (locs : List Loc) (ls : Array Slot), x3.toInt = (cnt : Int) → y.toInt = (bh : Int) → (cnt ≤ 157) → (bh + 1 ≤ cnt) → (nv fd 12 < 10 ^ cnt) → (∀ j, j < cnt → (kg j).toInt = (dgt (nv fd 12) j : Int)) → (cnt = bh + 1 ∨ 10 ^ (cnt - 1) ≤ nv fd 12) → va_P (dC, dI) vwCl [(h0, .inr (6, [.ref a0, .ref b0, .int lx])), (a0, .inl (cB, 160, .inl f)), (b0, .inl (cB, 160, .inl kg)), (d0, .inr (1, [.ref hn])), (hn, .inl (cI, 12, .inl kd))] H → va_D A [(h0, .inr (6, [.ref a0, .ref b0, .int lx])), (a0, .inl (cB, 160, .inl f)), (b0, .inl (cB, 160, .inl kg)), (d0, .inr (1, [.ref hn])), (hn, .inl (cI, 12, .inl kd))] → va_S A s.heap H locs → lv_has ls 6 [(3, .int x3), (2, .int y), (0, .ref h0)] → W p l e ({ frames := 2, cells := 0, slots := 0, locals := 44 } : Room) s m ([.ref h0, .ref d0, .int y] : List Value).toArray below meth c H locs 0 0 (MQ below (va_Qv (fun (u : (Nat → Int32) × (Nat → Int32) × (Int32) × (Nat → Int32)) => ∃ cnt : Nat, TL u.1 u.2.2.1 (tk (w ++ revS (dgt (nv fd 12)) (bh : Int) cnt)) ∧ bh + 1 ≤ cnt ∧ cnt ≤ 160 ∧ nv fd 12 < 10 ^ cnt ∧ (cnt = bh + 1 ∨ 10 ^ (cnt - 1) ≤ nv fd 12)) (poG dC dI A (fun u : (Nat → Int32) × (Nat → Int32) × (Int32) × (Nat → Int32) => [(h0, .inr (6, [.ref a0, .ref b0, .int u.2.2.1])), (a0, .inl (cB, 160, .inl u.1)), (b0, .inl (cB, 160, .inl u.2.1)), (d0, .inr (1, [.ref hn])), (hn, .inl (cI, 12, .inl u.2.2.2))])) A) ([.ref h0, .ref d0, .int y] : List Value).toArray s 0 0 A) (F0 m 139 ls [])) := by
  obtain ⟨hx, hb, hml, hown, hts, hr, hlocks, hK, hN⟩ := id C0
  intro x3 cnt kg kd H locs ls t_x3 t_y hc hbc hlt hk hmin hP hD hS hl
  have r_x3 := q_r32 x3
  have r_y := q_r32 y
  have hVl := nv_lt fd 12
  have h116 : (2 : Nat) ^ (32 * 12) < 10 ^ 116 := by decide
  refine lv_aload_n hx hb d_Told_addNatural_139 rfl (lv_at hl 2 rfl) ?_
  refine lv_iload_n hx hb d_Told_addNatural_140 rfl (lv_at hl 0 rfl) ?_
  refine lv_iload_n hx hb d_Told_addNatural_141 rfl (lv_at hl 1 rfl) ?_
  refine callV_v (wr := [(d0, .inr (1, [.ref hn])), (hn, .inl (cI, 12, .inl kd))]) C0 (c_Told_addReversed l dC dI cI cB cJ (h0) (a0) (b0) (f) (kg) (lx) (w) (dgt (nv fd 12)) (x3) (y) (cnt) (by exact hT) (by exact t_x3) (by omega) (by intro j hj; exact ⟨hk j hj, by have := dgt_lt (nv fd 12) j; omega⟩)) (cwV 2 hts (gV m_440 m_441 m_11 m_54 m_442) rfl rfl rfl (by decide +kernel) ⟨Nat.le_of_ble_eq_true rfl, Nat.le_of_ble_eq_true rfl⟩) 6 rfl rfl 0 rfl hP hD hS hA [0, 1, 2] [3, 4] rfl rfl (by decide) (by decide) (by decide) rfl hl.1 rfl (Nat.le_of_ble_eq_true rfl) d_Told_addNatural_142 ⟨Nat.le_of_ble_eq_true rfl, Nat.le_of_ble_eq_true rfl⟩ (fun u142 H locs hw9 hP hD hS => ?_)
  obtain ⟨k142, lx1142⟩ := u142
  have h142 : TL k142 lx1142 (tk (w ++ revS (dgt (nv fd 12)) y.toInt cnt)) := hw9
  have hP : va_P (dC, dI) vwCl [(d0, .inr (1, [.ref hn])), (hn, .inl (cI, 12, .inl kd)), (h0, .inr (6, [.ref a0, .ref b0, .int lx1142])), (a0, .inl (cB, 160, .inl k142)), (b0, .inl (cB, 160, .inl kg))] H := hP
  have hD : va_D A [(d0, .inr (1, [.ref hn])), (hn, .inl (cI, 12, .inl kd)), (h0, .inr (6, [.ref a0, .ref b0, .int lx1142])), (a0, .inl (cB, 160, .inl k142)), (b0, .inl (cB, 160, .inl kg))] := hD
  exact Cv.ret C0 (u := (k142, kg, lx1142, kd)) (Nat.le_of_ble_eq_true rfl) (Nat.le_of_ble_eq_true rfl) (by show ∃ cnt : Nat, TL k142 lx1142 (tk (w ++ revS (dgt (nv fd 12)) (bh : Int) cnt)) ∧ bh + 1 ≤ cnt ∧ cnt ≤ 160 ∧ nv fd 12 < 10 ^ cnt ∧ (cnt = bh + 1 ∨ 10 ^ (cnt - 1) ≤ nv fd 12); exact ⟨cnt, by rw [hy0] at h142; exact h142, hbc, by omega, hlt, hmin⟩) hP hD hS [2, 3, 4, 0, 1] (by decide) rfl d_Told_addNatural_145
set_option maxHeartbeats 4000000 in
set_option maxRecDepth 100000 in
theorem L_Told_addNatural_101 {p : Program} {l : Launch} {e : Env} {s : State} {m : MethodId} {below : List Frame} {meth : Method} {c : Code} {dC : Nat → ClassId} {dI : Nat → Nat → Nat} {cI cB cJ : ClassId} {A : Nat → Prop} (h0 : Nat) (a0 : Nat) (b0 : Nat) (f : Nat → Int32) (g : Nat → Int32) (lx : Int32) (w : List Nat) (d0 : Nat) (hn : Nat) (fd : Nat → Int32) (y : Int32) (bh : Nat) (C0 : cx dC dI cI cB cJ R_Told b_Told_addNatural 6 none p s m ([.ref h0, .ref d0, .int y] : List Value).toArray meth c) (hA : ∀ q : Nat, s.heap.size ≤ q → A q) (hT : TL f lx w) (hy0 : y.toInt = (bh : Int)) (hb0 : bh ≤ 155) : ∀ n : Nat, (∀ (x3 : Int32) (cnt : Nat) (kg : Nat → Int32) (kd : Nat → Int32) (H : Heap) (locs : List Loc) (ls : Array Slot), cnt < n → x3.toInt = (cnt : Int) → y.toInt = (bh : Int) → (cnt ≤ 157) → (bh + 1 ≤ cnt) → (nv fd 12 < 10 ^ cnt) → (∀ j, j < cnt → (kg j).toInt = (dgt (nv fd 12) j : Int)) → va_P (dC, dI) vwCl [(h0, .inr (6, [.ref a0, .ref b0, .int lx])), (a0, .inl (cB, 160, .inl f)), (b0, .inl (cB, 160, .inl kg)), (d0, .inr (1, [.ref hn])), (hn, .inl (cI, 12, .inl kd))] H → va_D A [(h0, .inr (6, [.ref a0, .ref b0, .int lx])), (a0, .inl (cB, 160, .inl f)), (b0, .inl (cB, 160, .inl kg)), (d0, .inr (1, [.ref hn])), (hn, .inl (cI, 12, .inl kd))] → va_S A s.heap H locs → lv_has ls 6 [(3, .int x3), (2, .int y), (0, .ref h0)] → W p l e ({ frames := 2, cells := 0, slots := 0, locals := 44 } : Room) s m ([.ref h0, .ref d0, .int y] : List Value).toArray below meth c H locs 0 0 (MQ below (va_Qv (fun (u : (Nat → Int32) × (Nat → Int32) × (Int32) × (Nat → Int32)) => ∃ cnt : Nat, TL u.1 u.2.2.1 (tk (w ++ revS (dgt (nv fd 12)) (bh : Int) cnt)) ∧ bh + 1 ≤ cnt ∧ cnt ≤ 160 ∧ nv fd 12 < 10 ^ cnt ∧ (cnt = bh + 1 ∨ 10 ^ (cnt - 1) ≤ nv fd 12)) (poG dC dI A (fun u : (Nat → Int32) × (Nat → Int32) × (Int32) × (Nat → Int32) => [(h0, .inr (6, [.ref a0, .ref b0, .int u.2.2.1])), (a0, .inl (cB, 160, .inl u.1)), (b0, .inl (cB, 160, .inl u.2.1)), (d0, .inr (1, [.ref hn])), (hn, .inl (cI, 12, .inl u.2.2.2))])) A) ([.ref h0, .ref d0, .int y] : List Value).toArray s 0 0 A) (F0 m 101 ls [])) := by
  obtain ⟨hx, hb, hml, hown, hts, hr, hlocks, hK, hN⟩ := id C0
  intro n
  induction n with
  | zero => exact fun _ _ _ _ _ _ _ h0 _ _ _ _ _ _ _ _ _ _ => absurd h0 (Nat.not_lt_zero _)
  | succ n ih =>
    intro x3 cnt kg kd H locs ls hn9 t_x3 t_y hc hbc hlt hk hP hD hS hl
    have r_x3 := q_r32 x3
    have r_y := q_r32 y
    have hVl := nv_lt fd 12
    have h116 : (2 : Nat) ^ (32 * 12) < 10 ^ 116 := by decide
    refine lv_iload_n hx hb d_Told_addNatural_101 rfl (lv_at hl 0 rfl) ?_
    refine lv_iconst (v := 1) hx hb d_Told_addNatural_102 (by decide) ?_
    refine lv_icmp_le (tgt := 139) hx hb d_Told_addNatural_103 (by decide) (fun b103 => ?_) (fun b103 => ?_)
    · skip
      rw [q_ile t_x3 (show (1 : Int32).toInt = 1 by decide)] at b103
      exact L_Told_addNatural_139 (h0) (a0) (b0) (f) (g) (lx) (w) (d0) (hn) (fd) (y) (bh) C0 hA (hT) (hy0) (hb0) (x3) (cnt) (kg) (kd) H locs ls ((t_x3).trans (by omega)) ((t_y).trans (by omega)) (by omega) (by omega) (by exact hlt) (by exact hk) (by exact Or.inl (by omega)) (va_Psub hP [0, 1, 2, 3, 4] rfl) (hD.sub [0, 1, 2, 3, 4] (by decide) rfl) hS (lv_sub hl [0, 1, 2] rfl)
    · skip
      rw [q_ile t_x3 (show (1 : Int32).toInt = 1 by decide)] at b103
      refine lv_iload_n hx hb d_Told_addNatural_106 rfl (lv_at hl 0 rfl) ?_
      refine lv_iload_n hx hb d_Told_addNatural_107 rfl (lv_at hl 1 rfl) ?_
      refine lv_iconst (v := 1) hx hb d_Told_addNatural_108 (by decide) ?_
      refine lv_iadd hx hb d_Told_addNatural_109 ?_
      refine lv_topi (fun v109 e109 => ?_)
      have t109 : v109.toInt = (bh : Int) + 1 := by rw [e109]; exact q_iadd t_y (show (1 : Int32).toInt = 1 by decide) (by omega)
      refine lv_icmp_le (tgt := 139) hx hb d_Told_addNatural_110 (by decide) (fun b110 => ?_) (fun b110 => ?_)
      · skip
        rw [q_ile t_x3 t109] at b110
        exact L_Told_addNatural_139 (h0) (a0) (b0) (f) (g) (lx) (w) (d0) (hn) (fd) (y) (bh) C0 hA (hT) (hy0) (hb0) (x3) (cnt) (kg) (kd) H locs ls ((t_x3).trans (by omega)) ((t_y).trans (by omega)) (by omega) (by omega) (by exact hlt) (by exact hk) (by exact Or.inl (by omega)) (va_Psub hP [0, 1, 2, 3, 4] rfl) (hD.sub [0, 1, 2, 3, 4] (by decide) rfl) hS (lv_sub hl [0, 1, 2] rfl)
      · skip
        rw [q_ile t_x3 t109] at b110
        refine lv_iload_n hx hb d_Told_addNatural_113 rfl (lv_at hl 0 rfl) ?_
        refine lv_sipush (v := 160) hx hb d_Told_addNatural_114 (by decide) ?_
        refine lv_icmp_gt (tgt := 139) hx hb d_Told_addNatural_117 (by decide) (fun b117 => ?_) (fun b117 => ?_)
        · skip
          rw [q_ilt (show (160 : Int32).toInt = 160 by decide) t_x3] at b117
          exact L_Told_addNatural_139 (h0) (a0) (b0) (f) (g) (lx) (w) (d0) (hn) (fd) (y) (bh) C0 hA (hT) (hy0) (hb0) (x3) (cnt) (kg) (kd) H locs ls ((t_x3).trans (by omega)) ((t_y).trans (by omega)) (by omega) (by omega) (by exact hlt) (by exact hk) (by omega) (va_Psub hP [0, 1, 2, 3, 4] rfl) (hD.sub [0, 1, 2, 3, 4] (by decide) rfl) hS (lv_sub hl [0, 1, 2] rfl)
        · skip
          rw [q_ilt (show (160 : Int32).toInt = 160 by decide) t_x3] at b117
          refine lv_aload_n hx hb d_Told_addNatural_120 rfl (lv_at hl 2 rfl) ?_
          refine va_get (D := (dC, dI)) (ci := 6) (v := .ref b0) (C := R_Told) (T := F_Told) (N := 3) hx hb hts u_Told hown hK hP 0 rfl rfl 1 (by decide) (hts _ m_167) (fun _ h9 => h9) rfl d_Told_addNatural_121 ?_
          refine lv_iload_n hx hb d_Told_addNatural_124 rfl (lv_at hl 0 rfl) ?_
          refine lv_iconst (v := 1) hx hb d_Told_addNatural_125 (by decide) ?_
          refine lv_isub hx hb d_Told_addNatural_126 ?_
          refine lv_topi (fun v126 e126 => ?_)
          have t126 : v126.toInt = (cnt : Int) - 1 := by rw [e126]; exact q_isub t_x3 (show (1 : Int32).toInt = 1 by decide) (by omega)
          refine va_bald hx hb hK hP 2 1 rfl rfl (q_in t126 (by omega)) d_Told_addNatural_127 ?_
          refine lv_topi (fun v127 e127 => ?_)
          rw [q_cl (k := cnt - 1) (t126.trans (by omega))] at e127
          have t127 : v127.toInt = (dgt (nv fd 12) (cnt - 1) : Int) := by rw [e127]; exact hk (cnt - 1) (by omega)
          refine lv_bipush (v := 48) hx hb d_Told_addNatural_128 (by decide) ?_
          refine lv_icmp_ne (tgt := 139) hx hb d_Told_addNatural_130 (by decide) (fun b130 => ?_) (fun b130 => ?_)
          · skip
            rw [q_ieq t127 (show (48 : Int32).toInt = 48 by decide)] at b130
            exact L_Told_addNatural_139 (h0) (a0) (b0) (f) (g) (lx) (w) (d0) (hn) (fd) (y) (bh) C0 hA (hT) (hy0) (hb0) (x3) (cnt) (kg) (kd) H locs ls ((t_x3).trans (by omega)) ((t_y).trans (by omega)) (by omega) (by omega) (by exact hlt) (by exact hk) (by exact Or.inr (top_nz (by omega))) (va_Psub hP [0, 1, 2, 3, 4] rfl) (hD.sub [0, 1, 2, 3, 4] (by decide) rfl) hS (lv_sub hl [0, 1, 2] rfl)
          · skip
            rw [q_ieq t127 (show (48 : Int32).toInt = 48 by decide)] at b130
            obtain ⟨v133, e133⟩ : ∃ y : Int32, y = x3 + (-1) := ⟨_, rfl⟩
            have t133 : v133.toInt = (cnt : Int) + (-1) := by rw [e133]; exact q_iadd t_x3 (show ((-1) : Int32).toInt = (-1) by decide) (by omega)
            refine lv_iinc (v := v133) (lv' := [(3, .int v133), (2, .int y), (0, .ref h0)]) hx hb d_Told_addNatural_133 hl (k := 0) rfl (by rw [e133]; rfl) (by decide) rfl (fun ls hl => ?_)
            refine lv_goto (tgt := 101) hx hb d_Told_addNatural_136 (by decide) ?_
            exact ih (v133) (cnt - 1) (kg) (kd) H locs ls (by omega) ((t133).trans (by omega)) ((t_y).trans (by omega)) (by omega) (by omega) (by exact top_zero (by omega) hlt (by omega)) (by intro j hj; exact hk j (by omega)) (va_Psub hP [0, 1, 2, 3, 4] rfl) (hD.sub [0, 1, 2, 3, 4] (by decide) rfl) hS (lv_sub hl [0, 1, 2] rfl)
set_option maxHeartbeats 4000000 in
set_option maxRecDepth 100000 in
theorem L_Told_addNatural_75 {p : Program} {l : Launch} {e : Env} {s : State} {m : MethodId} {below : List Frame} {meth : Method} {c : Code} {dC : Nat → ClassId} {dI : Nat → Nat → Nat} {cI cB cJ : ClassId} {A : Nat → Prop} (h0 : Nat) (a0 : Nat) (b0 : Nat) (f : Nat → Int32) (g : Nat → Int32) (lx : Int32) (w : List Nat) (d0 : Nat) (hn : Nat) (fd : Nat → Int32) (y : Int32) (bh : Nat) (C0 : cx dC dI cI cB cJ R_Told b_Told_addNatural 6 none p s m ([.ref h0, .ref d0, .int y] : List Value).toArray meth c) (hA : ∀ q : Nat, s.heap.size ≤ q → A q) (hT : TL f lx w) (hy0 : y.toInt = (bh : Int)) (hb0 : bh ≤ 155) : ∀ n : Nat, (∀ (x3 : Int32) (cnt : Nat) (kg : Nat → Int32) (kd : Nat → Int32) (H : Heap) (locs : List Loc) (ls : Array Slot), 200 - cnt < n → x3.toInt = (cnt : Int) → y.toInt = (bh : Int) → (cnt ≤ 156) → (nv fd 12 < 10 ^ cnt) → (∀ j, j < cnt → (kg j).toInt = (dgt (nv fd 12) j : Int)) → va_P (dC, dI) vwCl [(h0, .inr (6, [.ref a0, .ref b0, .int lx])), (a0, .inl (cB, 160, .inl f)), (b0, .inl (cB, 160, .inl kg)), (d0, .inr (1, [.ref hn])), (hn, .inl (cI, 12, .inl kd))] H → va_D A [(h0, .inr (6, [.ref a0, .ref b0, .int lx])), (a0, .inl (cB, 160, .inl f)), (b0, .inl (cB, 160, .inl kg)), (d0, .inr (1, [.ref hn])), (hn, .inl (cI, 12, .inl kd))] → va_S A s.heap H locs → lv_has ls 6 [(3, .int x3), (2, .int y), (0, .ref h0)] → W p l e ({ frames := 2, cells := 0, slots := 0, locals := 44 } : Room) s m ([.ref h0, .ref d0, .int y] : List Value).toArray below meth c H locs 0 0 (MQ below (va_Qv (fun (u : (Nat → Int32) × (Nat → Int32) × (Int32) × (Nat → Int32)) => ∃ cnt : Nat, TL u.1 u.2.2.1 (tk (w ++ revS (dgt (nv fd 12)) (bh : Int) cnt)) ∧ bh + 1 ≤ cnt ∧ cnt ≤ 160 ∧ nv fd 12 < 10 ^ cnt ∧ (cnt = bh + 1 ∨ 10 ^ (cnt - 1) ≤ nv fd 12)) (poG dC dI A (fun u : (Nat → Int32) × (Nat → Int32) × (Int32) × (Nat → Int32) => [(h0, .inr (6, [.ref a0, .ref b0, .int u.2.2.1])), (a0, .inl (cB, 160, .inl u.1)), (b0, .inl (cB, 160, .inl u.2.1)), (d0, .inr (1, [.ref hn])), (hn, .inl (cI, 12, .inl u.2.2.2))])) A) ([.ref h0, .ref d0, .int y] : List Value).toArray s 0 0 A) (F0 m 75 ls [])) := by
  obtain ⟨hx, hb, hml, hown, hts, hr, hlocks, hK, hN⟩ := id C0
  intro n
  induction n with
  | zero => exact fun _ _ _ _ _ _ _ h0 _ _ _ _ _ _ _ _ _ => absurd h0 (Nat.not_lt_zero _)
  | succ n ih =>
    intro x3 cnt kg kd H locs ls hn9 t_x3 t_y hc hlt hk hP hD hS hl
    have r_x3 := q_r32 x3
    have r_y := q_r32 y
    have hVl := nv_lt fd 12
    have h116 : (2 : Nat) ^ (32 * 12) < 10 ^ 116 := by decide
    refine lv_iload_n hx hb d_Told_addNatural_75 rfl (lv_at hl 0 rfl) ?_
    refine lv_sipush (v := 160) hx hb d_Told_addNatural_76 (by decide) ?_
    refine lv_icmp_ge (tgt := 101) hx hb d_Told_addNatural_79 (by decide) (fun b79 => ?_) (fun b79 => ?_)
    · skip
      rw [q_ile (show (160 : Int32).toInt = 160 by decide) t_x3] at b79
      exact L_Told_addNatural_101 (h0) (a0) (b0) (f) (g) (lx) (w) (d0) (hn) (fd) (y) (bh) C0 hA (hT) (hy0) (hb0) _ (x3) (cnt) (kg) (kd) H locs ls (Nat.lt_succ_self _) ((t_x3).trans (by omega)) ((t_y).trans (by omega)) (by omega) (by omega) (by exact hlt) (by exact hk) (va_Psub hP [0, 1, 2, 3, 4] rfl) (hD.sub [0, 1, 2, 3, 4] (by decide) rfl) hS (lv_sub hl [0, 1, 2] rfl)
    · skip
      rw [q_ile (show (160 : Int32).toInt = 160 by decide) t_x3] at b79
      refine lv_iload_n hx hb d_Told_addNatural_82 rfl (lv_at hl 0 rfl) ?_
      refine lv_iload_n hx hb d_Told_addNatural_83 rfl (lv_at hl 1 rfl) ?_
      refine lv_icmp_gt (tgt := 101) hx hb d_Told_addNatural_84 (by decide) (fun b84 => ?_) (fun b84 => ?_)
      · skip
        rw [q_ilt t_y t_x3] at b84
        exact L_Told_addNatural_101 (h0) (a0) (b0) (f) (g) (lx) (w) (d0) (hn) (fd) (y) (bh) C0 hA (hT) (hy0) (hb0) _ (x3) (cnt) (kg) (kd) H locs ls (Nat.lt_succ_self _) ((t_x3).trans (by omega)) ((t_y).trans (by omega)) (by omega) (by omega) (by exact hlt) (by exact hk) (va_Psub hP [0, 1, 2, 3, 4] rfl) (hD.sub [0, 1, 2, 3, 4] (by decide) rfl) hS (lv_sub hl [0, 1, 2] rfl)
      · skip
        rw [q_ilt t_y t_x3] at b84
        refine lv_aload_n hx hb d_Told_addNatural_87 rfl (lv_at hl 2 rfl) ?_
        refine va_get (D := (dC, dI)) (ci := 6) (v := .ref b0) (C := R_Told) (T := F_Told) (N := 3) hx hb hts u_Told hown hK hP 0 rfl rfl 1 (by decide) (hts _ m_167) (fun _ h9 => h9) rfl d_Told_addNatural_88 ?_
        refine lv_iload_n hx hb d_Told_addNatural_91 rfl (lv_at hl 0 rfl) ?_
        have hdz : dgt (nv fd 12) cnt = 48 := by rw [dgt, Nat.div_eq_of_lt hlt]
        refine lv_bipush (v := 48) hx hb d_Told_addNatural_92 (by decide) ?_
        refine va_bast hx hb hK hP hD hS 2 1 rfl rfl (q_in t_x3 (by omega)) d_Told_addNatural_94 (fun H locs hP hD hS => ?_)
        rw [q_cl (k := cnt) (t_x3)] at hP hD
        have hP : va_P (dC, dI) vwCl [(h0, .inr (6, [.ref a0, .ref b0, .int lx])), (a0, .inl (cB, 160, .inl f)), (b0, .inl (cB, 160, .inl (upd kg cnt (vp_nar .byte 48)))), (d0, .inr (1, [.ref hn])), (hn, .inl (cI, 12, .inl kd))] H := hP
        have hD : va_D A [(h0, .inr (6, [.ref a0, .ref b0, .int lx])), (a0, .inl (cB, 160, .inl f)), (b0, .inl (cB, 160, .inl (upd kg cnt (vp_nar .byte 48)))), (d0, .inr (1, [.ref hn])), (hn, .inl (cI, 12, .inl kd))] := hD
        obtain ⟨v95, e95⟩ : ∃ y : Int32, y = x3 + 1 := ⟨_, rfl⟩
        have t95 : v95.toInt = (cnt : Int) + 1 := by rw [e95]; exact q_iadd t_x3 (show (1 : Int32).toInt = 1 by decide) (by omega)
        refine lv_iinc (v := v95) (lv' := [(3, .int v95), (2, .int y), (0, .ref h0)]) hx hb d_Told_addNatural_95 hl (k := 0) rfl (by rw [e95]; rfl) (by decide) rfl (fun ls hl => ?_)
        refine lv_goto (tgt := 75) hx hb d_Told_addNatural_98 (by decide) ?_
        exact ih (v95) (cnt + 1) (upd kg cnt (vp_nar .byte 48)) (kd) H locs ls (by omega) ((t95).trans (by omega)) ((t_y).trans (by omega)) (by omega) (by exact Nat.lt_of_lt_of_le hlt (Nat.pow_le_pow_right (by decide) (by omega))) (by intro j hj; rcases Nat.lt_or_ge j cnt with h | h; rw [pk_un (by omega)]; exact hk j h; rw [show j = cnt by omega, pk_us, hdz]; decide) (va_Psub hP [0, 1, 2, 3, 4] rfl) (hD.sub [0, 1, 2, 3, 4] (by decide) rfl) hS (lv_sub hl [0, 1, 2] rfl)
set_option maxHeartbeats 4000000 in
set_option maxRecDepth 100000 in
theorem L_Told_addNatural_2 {p : Program} {l : Launch} {e : Env} {s : State} {m : MethodId} {below : List Frame} {meth : Method} {c : Code} {dC : Nat → ClassId} {dI : Nat → Nat → Nat} {cI cB cJ : ClassId} {A : Nat → Prop} (h0 : Nat) (a0 : Nat) (b0 : Nat) (f : Nat → Int32) (g : Nat → Int32) (lx : Int32) (w : List Nat) (d0 : Nat) (hn : Nat) (fd : Nat → Int32) (y : Int32) (bh : Nat) (C0 : cx dC dI cI cB cJ R_Told b_Told_addNatural 6 none p s m ([.ref h0, .ref d0, .int y] : List Value).toArray meth c) (hA : ∀ q : Nat, s.heap.size ≤ q → A q) (hT : TL f lx w) (hy0 : y.toInt = (bh : Int)) (hb0 : bh ≤ 155) : ∀ n : Nat, (∀ (x3 : Int32) (cnt : Nat) (kg : Nat → Int32) (kd : Nat → Int32) (H : Heap) (locs : List Loc) (ls : Array Slot), 20 * (200 - cnt) + 19 < n → x3.toInt = (cnt : Int) → y.toInt = (bh : Int) → (cnt ≤ 130) → (nv kd 12 = nv fd 12 / 10 ^ cnt) → (∀ j, j < cnt → (kg j).toInt = (dgt (nv fd 12) j : Int)) → (cnt = 0 ∨ 10 ^ (cnt - 9) ≤ nv fd 12) → va_P (dC, dI) vwCl [(h0, .inr (6, [.ref a0, .ref b0, .int lx])), (a0, .inl (cB, 160, .inl f)), (b0, .inl (cB, 160, .inl kg)), (d0, .inr (1, [.ref hn])), (hn, .inl (cI, 12, .inl kd))] H → va_D A [(h0, .inr (6, [.ref a0, .ref b0, .int lx])), (a0, .inl (cB, 160, .inl f)), (b0, .inl (cB, 160, .inl kg)), (d0, .inr (1, [.ref hn])), (hn, .inl (cI, 12, .inl kd))] → va_S A s.heap H locs → lv_has ls 6 [(3, .int x3), (2, .int y), (1, .ref d0), (0, .ref h0)] → W p l e ({ frames := 2, cells := 0, slots := 0, locals := 44 } : Room) s m ([.ref h0, .ref d0, .int y] : List Value).toArray below meth c H locs 0 0 (MQ below (va_Qv (fun (u : (Nat → Int32) × (Nat → Int32) × (Int32) × (Nat → Int32)) => ∃ cnt : Nat, TL u.1 u.2.2.1 (tk (w ++ revS (dgt (nv fd 12)) (bh : Int) cnt)) ∧ bh + 1 ≤ cnt ∧ cnt ≤ 160 ∧ nv fd 12 < 10 ^ cnt ∧ (cnt = bh + 1 ∨ 10 ^ (cnt - 1) ≤ nv fd 12)) (poG dC dI A (fun u : (Nat → Int32) × (Nat → Int32) × (Int32) × (Nat → Int32) => [(h0, .inr (6, [.ref a0, .ref b0, .int u.2.2.1])), (a0, .inl (cB, 160, .inl u.1)), (b0, .inl (cB, 160, .inl u.2.1)), (d0, .inr (1, [.ref hn])), (hn, .inl (cI, 12, .inl u.2.2.2))])) A) ([.ref h0, .ref d0, .int y] : List Value).toArray s 0 0 A) (F0 m 2 ls [])) ∧ (∀ (x3 : Int32) (x4 : Int32) (x5 : Int32) (cnt : Nat) (i : Nat) (kg : Nat → Int32) (kd : Nat → Int32) (H : Heap) (locs : List Loc) (ls : Array Slot), 20 * (200 - cnt) + 18 - i < n → x5.toInt = (i : Int) → x4.toInt = ((nv fd 12 / 10 ^ cnt % 1000000000 / 10 ^ i : Nat) : Int) → x3.toInt = ((cnt + i : Nat) : Int) → y.toInt = (bh : Int) → (cnt ≤ 115) → (i ≤ 9) → (nv kd 12 = nv fd 12 / 10 ^ (cnt + 9)) → (∀ j, j < cnt + i → (kg j).toInt = (dgt (nv fd 12) j : Int)) → (10 ^ cnt ≤ nv fd 12) → va_P (dC, dI) vwCl [(h0, .inr (6, [.ref a0, .ref b0, .int lx])), (a0, .inl (cB, 160, .inl f)), (b0, .inl (cB, 160, .inl kg)), (d0, .inr (1, [.ref hn])), (hn, .inl (cI, 12, .inl kd))] H → va_D A [(h0, .inr (6, [.ref a0, .ref b0, .int lx])), (a0, .inl (cB, 160, .inl f)), (b0, .inl (cB, 160, .inl kg)), (d0, .inr (1, [.ref hn])), (hn, .inl (cI, 12, .inl kd))] → va_S A s.heap H locs → lv_has ls 6 [(5, .int x5), (4, .int x4), (3, .int x3), (2, .int y), (1, .ref d0), (0, .ref h0)] → W p l e ({ frames := 2, cells := 0, slots := 0, locals := 44 } : Room) s m ([.ref h0, .ref d0, .int y] : List Value).toArray below meth c H locs 0 0 (MQ below (va_Qv (fun (u : (Nat → Int32) × (Nat → Int32) × (Int32) × (Nat → Int32)) => ∃ cnt : Nat, TL u.1 u.2.2.1 (tk (w ++ revS (dgt (nv fd 12)) (bh : Int) cnt)) ∧ bh + 1 ≤ cnt ∧ cnt ≤ 160 ∧ nv fd 12 < 10 ^ cnt ∧ (cnt = bh + 1 ∨ 10 ^ (cnt - 1) ≤ nv fd 12)) (poG dC dI A (fun u : (Nat → Int32) × (Nat → Int32) × (Int32) × (Nat → Int32) => [(h0, .inr (6, [.ref a0, .ref b0, .int u.2.2.1])), (a0, .inl (cB, 160, .inl u.1)), (b0, .inl (cB, 160, .inl u.2.1)), (d0, .inr (1, [.ref hn])), (hn, .inl (cI, 12, .inl u.2.2.2))])) A) ([.ref h0, .ref d0, .int y] : List Value).toArray s 0 0 A) (F0 m 27 ls [])) := by
  obtain ⟨hx, hb, hml, hown, hts, hr, hlocks, hK, hN⟩ := id C0
  intro n
  induction n with
  | zero => exact ⟨fun _ _ _ _ _ _ _ h0 _ _ _ _ _ _ _ _ _ _ => absurd h0 (Nat.not_lt_zero _), fun _ _ _ _ _ _ _ _ _ _ h0 _ _ _ _ _ _ _ _ _ _ _ _ _ => absurd h0 (Nat.not_lt_zero _)⟩
  | succ n ih =>
    refine ⟨?_, ?_⟩
    · skip
      intro x3 cnt kg kd H locs ls hn9 t_x3 t_y hc hkd hk hmin hP hD hS hl
      have r_x3 := q_r32 x3
      have r_y := q_r32 y
      have hVl := nv_lt fd 12
      have h116 : (2 : Nat) ^ (32 * 12) < 10 ^ 116 := by decide
      refine lv_iload_n hx hb d_Told_addNatural_2 rfl (lv_at hl 0 rfl) ?_
      refine lv_sipush (v := 160) hx hb d_Told_addNatural_3 (by decide) ?_
      refine lv_icmp_ge (tgt := 75) hx hb d_Told_addNatural_6 (by decide) (fun b6 => ?_) (fun b6 => ?_)
      · skip
        rw [q_ile (show (160 : Int32).toInt = 160 by decide) t_x3] at b6
        exact absurd b6 (by omega)
      · skip
        rw [q_ile (show (160 : Int32).toInt = 160 by decide) t_x3] at b6
        refine lv_aload_n hx hb d_Told_addNatural_9 rfl (lv_at hl 2 rfl) ?_
        refine callV_i (wr := [(h0, .inr (6, [.ref a0, .ref b0, .int lx])), (a0, .inl (cB, 160, .inl f)), (b0, .inl (cB, 160, .inl kg))]) C0 (c_Natural_isZero l dC dI cI cB cJ (d0) (hn) (kd)) (cwV 0 hts (gV m_526 m_330 m_331 m_51 m_332) rfl rfl rfl (by decide +kernel) ⟨Nat.le_of_ble_eq_true rfl, Nat.le_of_ble_eq_true rfl⟩) 1 rfl rfl 0 rfl hP hD hS hA [3, 4] [0, 1, 2] rfl rfl (by decide) (by decide) (by decide) rfl hl.1 rfl (Nat.le_of_ble_eq_true rfl) d_Told_addNatural_10 ⟨Nat.le_of_ble_eq_true rfl, Nat.le_of_ble_eq_true rfl⟩ (fun r10 u10 H locs hw9 hP hD hS => ?_)
        have h10 : r10 = if nv kd 12 = 0 then 1 else 0 := hw9
        have hP : va_P (dC, dI) vwCl [(h0, .inr (6, [.ref a0, .ref b0, .int lx])), (a0, .inl (cB, 160, .inl f)), (b0, .inl (cB, 160, .inl kg)), (d0, .inr (1, [.ref hn])), (hn, .inl (cI, 12, .inl kd))] H := hP
        have hD : va_D A [(h0, .inr (6, [.ref a0, .ref b0, .int lx])), (a0, .inl (cB, 160, .inl f)), (b0, .inl (cB, 160, .inl kg)), (d0, .inr (1, [.ref hn])), (hn, .inl (cI, 12, .inl kd))] := hD
        refine lv_if_ne (tgt := 75) hx hb d_Told_addNatural_13 (by decide) (fun b13 => ?_) (fun b13 => ?_)
        · skip
          have hz0 : nv kd 12 = 0 := Decidable.byContradiction fun h => b13 (by rw [h10, if_neg h])
          exact L_Told_addNatural_75 (h0) (a0) (b0) (f) (g) (lx) (w) (d0) (hn) (fd) (y) (bh) C0 hA (hT) (hy0) (hb0) _ (x3) (cnt) (kg) (kd) H locs ls (Nat.lt_succ_self _) ((t_x3).trans (by omega)) ((t_y).trans (by omega)) (by omega) (by rw [hkd] at hz0; rcases Nat.div_eq_zero_iff.mp hz0 with h | h; exact absurd h (Nat.ne_of_gt (Nat.pow_pos (by decide))); exact h) (by exact hk) (va_Psub hP [0, 1, 2, 3, 4] rfl) (hD.sub [0, 1, 2, 3, 4] (by decide) rfl) hS (lv_sub hl [0, 1, 3] rfl)
        · skip
          have hnz : nv kd 12 ≠ 0 := fun h => by rw [if_pos h] at h10; rw [h10] at b13; exact absurd b13 (by decide)
          refine lv_aload_n hx hb d_Told_addNatural_16 rfl (lv_at hl 2 rfl) ?_
          refine lv_ldc (v := 1000000000) hx hb hown (hts _ m_527) d_Told_addNatural_17 ?_
          have hge : 10 ^ cnt ≤ nv fd 12 := by rw [hkd] at hnz; exact Nat.le_of_not_lt fun h => hnz (Nat.div_eq_of_lt h)
          have hc116 : cnt < 116 := Decidable.byContradiction fun h => by have := Nat.pow_le_pow_right (show 0 < 10 by decide) (show 116 ≤ cnt by omega); omega
          refine callV_i (wr := [(h0, .inr (6, [.ref a0, .ref b0, .int lx])), (a0, .inl (cB, 160, .inl f)), (b0, .inl (cB, 160, .inl kg))]) C0 (c_Natural_divide l dC dI cI cB cJ (d0) (hn) (kd) ((1000000000 : Int32)) ((1000000000 : Nat)) (by decide) (by decide)) (cwV 1 hts (gV m_528 m_529 m_530 m_51 m_531) rfl rfl rfl (by decide +kernel) ⟨Nat.le_of_ble_eq_true rfl, Nat.le_of_ble_eq_true rfl⟩) 1 rfl rfl 0 rfl hP hD hS hA [3, 4] [0, 1, 2] rfl rfl (by decide) (by decide) (by decide) rfl hl.1 rfl (Nat.le_of_ble_eq_true rfl) d_Told_addNatural_19 ⟨Nat.le_of_ble_eq_true rfl, Nat.le_of_ble_eq_true rfl⟩ (fun r19 k19 H locs hw9 hP hD hS => ?_)
          have h19 : nv k19 12 = nv kd 12 / (1000000000 : Nat) ∧ r19.toInt = ((nv kd 12 % (1000000000 : Nat) : Nat) : Int) := hw9
          have hP : va_P (dC, dI) vwCl [(h0, .inr (6, [.ref a0, .ref b0, .int lx])), (a0, .inl (cB, 160, .inl f)), (b0, .inl (cB, 160, .inl kg)), (d0, .inr (1, [.ref hn])), (hn, .inl (cI, 12, .inl k19))] H := hP
          have hD : va_D A [(h0, .inr (6, [.ref a0, .ref b0, .int lx])), (a0, .inl (cB, 160, .inl f)), (b0, .inl (cB, 160, .inl kg)), (d0, .inr (1, [.ref hn])), (hn, .inl (cI, 12, .inl k19))] := hD
          have t19 : r19.toInt = ((nv fd 12 / 10 ^ cnt % 1000000000 : Nat) : Int) := by rw [h19.2, hkd]
          refine lv_istore (lv' := [(4, .int r19), (3, .int x3), (2, .int y), (1, .ref d0), (0, .ref h0)]) hx hb d_Told_addNatural_22 hl (by decide) rfl (fun ls hl => ?_)
          refine lv_iconst (v := 0) hx hb d_Told_addNatural_24 (by decide) ?_
          refine lv_istore (lv' := [(5, .int 0), (4, .int r19), (3, .int x3), (2, .int y), (1, .ref d0), (0, .ref h0)]) hx hb d_Told_addNatural_25 hl (by decide) rfl (fun ls hl => ?_)
          exact ih.2 (x3) (r19) (0) (cnt) (0) (kg) (k19) H locs ls (by omega) (((show (0 : Int32).toInt = 0 by decide)).trans (by omega)) (t19.trans (by rw [Nat.pow_zero, Nat.div_one])) ((t_x3).trans (by omega)) ((t_y).trans (by omega)) (by omega) (by omega) (by rw [h19.1, hkd, Nat.div_div_eq_div_mul, Nat.pow_add]) (by intro j hj; exact hk j (by omega)) (by exact hge) (va_Psub hP [0, 1, 2, 3, 4] rfl) (hD.sub [0, 1, 2, 3, 4] (by decide) rfl) hS (lv_sub hl [0, 1, 2, 3, 4, 5] rfl)
    · skip
      intro x3 x4 x5 cnt i kg kd H locs ls hn9 t_x5 t_x4 t_x3 t_y hc hi hkd hk hmin hP hD hS hl
      have r_x5 := q_r32 x5
      have r_x4 := q_r32 x4
      have r_x3 := q_r32 x3
      have r_y := q_r32 y
      have hVl := nv_lt fd 12
      have h116 : (2 : Nat) ^ (32 * 12) < 10 ^ 116 := by decide
      refine lv_iload hx hb d_Told_addNatural_27 (lv_at hl 0 rfl) ?_
      refine lv_bipush (v := 9) hx hb d_Told_addNatural_29 (by decide) ?_
      refine lv_icmp_ge (tgt := 72) hx hb d_Told_addNatural_31 (by decide) (fun b31 => ?_) (fun b31 => ?_)
      · skip
        rw [q_ile (show (9 : Int32).toInt = 9 by decide) t_x5] at b31
        refine lv_goto (tgt := 2) hx hb d_Told_addNatural_72 (by decide) ?_
        have hi9 : i = 9 := by omega
        subst hi9
        exact ih.1 (x3) (cnt + 9) (kg) (kd) H locs ls (by omega) ((t_x3).trans (by omega)) ((t_y).trans (by omega)) (by omega) (by exact hkd) (by exact hk) (by exact Or.inr (by rw [show cnt + 9 - 9 = cnt by omega]; exact hmin)) (va_Psub hP [0, 1, 2, 3, 4] rfl) (hD.sub [0, 1, 2, 3, 4] (by decide) rfl) hS (lv_sub hl [2, 3, 4, 5] rfl)
      · skip
        rw [q_ile (show (9 : Int32).toInt = 9 by decide) t_x5] at b31
        refine lv_iload_n hx hb d_Told_addNatural_34 rfl (lv_at hl 2 rfl) ?_
        refine lv_sipush (v := 160) hx hb d_Told_addNatural_35 (by decide) ?_
        refine lv_icmp_ge (tgt := 72) hx hb d_Told_addNatural_38 (by decide) (fun b38 => ?_) (fun b38 => ?_)
        · skip
          rw [q_ile (show (160 : Int32).toInt = 160 by decide) t_x3] at b38
          exact absurd b38 (by omega)
        · skip
          rw [q_ile (show (160 : Int32).toInt = 160 by decide) t_x3] at b38
          refine lv_aload_n hx hb d_Told_addNatural_41 rfl (lv_at hl 5 rfl) ?_
          refine va_get (D := (dC, dI)) (ci := 6) (v := .ref b0) (C := R_Told) (T := F_Told) (N := 3) hx hb hts u_Told hown hK hP 0 rfl rfl 1 (by decide) (hts _ m_167) (fun _ h9 => h9) rfl d_Told_addNatural_42 ?_
          refine lv_iload_n hx hb d_Told_addNatural_45 rfl (lv_at hl 2 rfl) ?_
          refine lv_bipush (v := 48) hx hb d_Told_addNatural_46 (by decide) ?_
          refine lv_iload hx hb d_Told_addNatural_48 (lv_at hl 1 rfl) ?_
          refine lv_bipush (v := 10) hx hb d_Told_addNatural_50 (by decide) ?_
          refine lv_irem hx hb d_Told_addNatural_52 (by decide) ?_
          refine lv_topi (fun v52 e52 => ?_)
          have t52 : v52.toInt = ((nv fd 12 / 10 ^ cnt % 1000000000 / 10 ^ i % 10 : Nat) : Int) := by rw [e52]; exact (q_irem t_x4 (show (10 : Int32).toInt = 10 by decide) ⟨Int.natCast_nonneg _, by decide⟩).trans (by rw [Int.natCast_emod]; rfl)
          refine lv_iadd hx hb d_Told_addNatural_53 ?_
          refine lv_topi (fun v53 e53 => ?_)
          have t53 : v53.toInt = 48 + (((nv fd 12 / 10 ^ cnt % 1000000000 / 10 ^ i % 10 : Nat) : Int)) := by rw [e53]; exact q_iadd (show (48 : Int32).toInt = 48 by decide) t52 (by omega)
          have hdl := dgt_lt (nv fd 12) (cnt + i)
          refine lv_i2b hx hb d_Told_addNatural_54 rfl ?_
          refine lv_topi (fun v54 e54 => ?_)
          have t54 : v54.toInt = (dgt (nv fd 12) (cnt + i) : Int) := by rw [e54]; exact q_i2b (t53.trans (by rw [chunk_dig (by omega)]; unfold dgt; omega)) (by omega)
          refine va_bast hx hb hK hP hD hS 2 1 rfl rfl (q_in t_x3 (by omega)) d_Told_addNatural_55 (fun H locs hP hD hS => ?_)
          rw [q_cl (k := cnt + i) (t_x3)] at hP hD
          have hP : va_P (dC, dI) vwCl [(h0, .inr (6, [.ref a0, .ref b0, .int lx])), (a0, .inl (cB, 160, .inl f)), (b0, .inl (cB, 160, .inl (upd kg (cnt + i) (vp_nar .byte v54)))), (d0, .inr (1, [.ref hn])), (hn, .inl (cI, 12, .inl kd))] H := hP
          have hD : va_D A [(h0, .inr (6, [.ref a0, .ref b0, .int lx])), (a0, .inl (cB, 160, .inl f)), (b0, .inl (cB, 160, .inl (upd kg (cnt + i) (vp_nar .byte v54)))), (d0, .inr (1, [.ref hn])), (hn, .inl (cI, 12, .inl kd))] := hD
          refine lv_iload hx hb d_Told_addNatural_56 (lv_at hl 1 rfl) ?_
          refine lv_bipush (v := 10) hx hb d_Told_addNatural_58 (by decide) ?_
          refine lv_idiv hx hb d_Told_addNatural_60 (by decide) ?_
          refine lv_topi (fun v60 e60 => ?_)
          have t60 : v60.toInt = ((nv fd 12 / 10 ^ cnt % 1000000000 / 10 ^ (i + 1) : Nat) : Int) := by rw [e60]; exact (q_idiv t_x4 (show (10 : Int32).toInt = 10 by decide) ⟨Int.natCast_nonneg _, by decide⟩).trans (by rw [Nat.pow_succ, ← Nat.div_div_eq_div_mul, Int.natCast_ediv (nv fd 12 / 10 ^ cnt % 1000000000 / 10 ^ i)]; rfl)
          refine lv_istore (lv' := [(4, .int v60), (5, .int x5), (3, .int x3), (2, .int y), (1, .ref d0), (0, .ref h0)]) hx hb d_Told_addNatural_61 hl (by decide) rfl (fun ls hl => ?_)
          obtain ⟨v63, e63⟩ : ∃ y : Int32, y = x3 + 1 := ⟨_, rfl⟩
          have t63 : v63.toInt = ((cnt + i : Nat) : Int) + 1 := by rw [e63]; exact q_iadd t_x3 (show (1 : Int32).toInt = 1 by decide) (by omega)
          refine lv_iinc (v := v63) (lv' := [(3, .int v63), (4, .int v60), (5, .int x5), (2, .int y), (1, .ref d0), (0, .ref h0)]) hx hb d_Told_addNatural_63 hl (k := 2) rfl (by rw [e63]; rfl) (by decide) rfl (fun ls hl => ?_)
          obtain ⟨v66, e66⟩ : ∃ y : Int32, y = x5 + 1 := ⟨_, rfl⟩
          have t66 : v66.toInt = (i : Int) + 1 := by rw [e66]; exact q_iadd t_x5 (show (1 : Int32).toInt = 1 by decide) (by omega)
          refine lv_iinc (v := v66) (lv' := [(5, .int v66), (3, .int v63), (4, .int v60), (2, .int y), (1, .ref d0), (0, .ref h0)]) hx hb d_Told_addNatural_66 hl (k := 2) rfl (by rw [e66]; rfl) (by decide) rfl (fun ls hl => ?_)
          refine lv_goto (tgt := 27) hx hb d_Told_addNatural_69 (by decide) ?_
          exact ih.2 (v63) (v60) (v66) (cnt) (i + 1) (upd kg (cnt + i) (vp_nar .byte v54)) (kd) H locs ls (by omega) ((t66).trans (by omega)) ((t60).trans (by omega)) ((t63).trans (by omega)) ((t_y).trans (by omega)) (by omega) (by omega) (by exact hkd) (by intro j hj; rcases Nat.lt_or_ge j (cnt + i) with h | h; rw [pk_un (by omega)]; exact hk j h; rw [show j = cnt + i by omega, pk_us, nar_b t54 (by omega)]; exact t54) (by exact hmin) (va_Psub hP [0, 1, 2, 3, 4] rfl) (hD.sub [0, 1, 2, 3, 4] (by decide) rfl) hS (lv_sub hl [0, 2, 1, 3, 4, 5] rfl)
set_option maxHeartbeats 4000000 in
set_option maxRecDepth 100000 in
theorem c_Told_addNatural (l : Launch) (dC : Nat → ClassId) (dI : Nat → Nat → Nat) (cI cB cJ : ClassId) (h0 : Nat) (a0 : Nat) (b0 : Nat) (f : Nat → Int32) (g : Nat → Int32) (lx : Int32) (w : List Nat) (d0 : Nat) (hn : Nat) (fd : Nat → Int32) (y : Int32) (bh : Nat) (hT : TL f lx w) (hy0 : y.toInt = (bh : Int)) (hb0 : bh ≤ 155) : Cv l dC dI cI cB cJ y_Told_addNatural w_Told_addNatural ({ frames := 2, cells := 0, slots := 0, locals := 44 } : Room) [.ref h0, .ref d0, .int y] [(h0, .inr (6, [.ref a0, .ref b0, .int lx])), (a0, .inl (cB, 160, .inl f)), (b0, .inl (cB, 160, .inl g)), (d0, .inr (1, [.ref hn])), (hn, .inl (cI, 12, .inl fd))] (fun (u : (Nat → Int32) × (Nat → Int32) × (Int32) × (Nat → Int32)) => ∃ cnt : Nat, TL u.1 u.2.2.1 (tk (w ++ revS (dgt (nv fd 12)) (bh : Int) cnt)) ∧ bh + 1 ≤ cnt ∧ cnt ≤ 160 ∧ nv fd 12 < 10 ^ cnt ∧ (cnt = bh + 1 ∨ 10 ^ (cnt - 1) ≤ nv fd 12)) (fun u : (Nat → Int32) × (Nat → Int32) × (Int32) × (Nat → Int32) => [(h0, .inr (6, [.ref a0, .ref b0, .int u.2.2.1])), (a0, .inl (cB, 160, .inl u.1)), (b0, .inl (cB, 160, .inl u.2.1)), (d0, .inr (1, [.ref hn])), (hn, .inl (cI, 12, .inl u.2.2.2))]) := by
  refine Cv.intro (cc := b_Told_addNatural) (maxL := 6) (plainFor_of_name (by decide)) rfl (Nat.le_of_ble_eq_true rfl) ?_
  intro p e s m below meth c A ls C0 hin hA hP hD hS hl
  obtain ⟨hx, hb, hml, hown, hts, hr, hlocks, hK, hN⟩ := id C0
  obtain ⟨H, hH⟩ : ∃ H, H = s.heap := ⟨_, rfl⟩
  have hP : va_P (dC, dI) vwCl [(h0, .inr (6, [.ref a0, .ref b0, .int lx])), (a0, .inl (cB, 160, .inl f)), (b0, .inl (cB, 160, .inl g)), (d0, .inr (1, [.ref hn])), (hn, .inl (cI, 12, .inl fd))] s.heap := hP
  have hl : lv_has ls 6 [(0, .ref h0), (1, .ref d0), (2, .int y)] := hl
  have r_y := q_r32 y
  suffices h : ∀ (H : Heap) (locs : List Loc), va_P (dC, dI) vwCl [(h0, .inr (6, [.ref a0, .ref b0, .int lx])), (a0, .inl (cB, 160, .inl f)), (b0, .inl (cB, 160, .inl g)), (d0, .inr (1, [.ref hn])), (hn, .inl (cI, 12, .inl fd))] H → va_D A [(h0, .inr (6, [.ref a0, .ref b0, .int lx])), (a0, .inl (cB, 160, .inl f)), (b0, .inl (cB, 160, .inl g)), (d0, .inr (1, [.ref hn])), (hn, .inl (cI, 12, .inl fd))] → va_S A s.heap H locs → W p l e ({ frames := 2, cells := 0, slots := 0, locals := 44 } : Room) s m ([.ref h0, .ref d0, .int y] : List Value).toArray below meth c H locs 0 0 (MQ below (va_Qv (fun (u : (Nat → Int32) × (Nat → Int32) × (Int32) × (Nat → Int32)) => ∃ cnt : Nat, TL u.1 u.2.2.1 (tk (w ++ revS (dgt (nv fd 12)) (bh : Int) cnt)) ∧ bh + 1 ≤ cnt ∧ cnt ≤ 160 ∧ nv fd 12 < 10 ^ cnt ∧ (cnt = bh + 1 ∨ 10 ^ (cnt - 1) ≤ nv fd 12)) (poG dC dI A (fun u : (Nat → Int32) × (Nat → Int32) × (Int32) × (Nat → Int32) => [(h0, .inr (6, [.ref a0, .ref b0, .int u.2.2.1])), (a0, .inl (cB, 160, .inl u.1)), (b0, .inl (cB, 160, .inl u.2.1)), (d0, .inr (1, [.ref hn])), (hn, .inl (cI, 12, .inl u.2.2.2))])) A) ([.ref h0, .ref d0, .int y] : List Value).toArray s 0 0 A) (F0 m 0 ls []) from h _ _ hP hD hS
  clear hP hD hS hH H
  intro H locs hP hD hS
  have hVl := nv_lt fd 12
  have h116 : (2 : Nat) ^ (32 * 12) < 10 ^ 116 := by decide
  refine lv_iconst (v := 0) hx hb d_Told_addNatural_0 (by decide) ?_
  refine lv_istore_n (lv' := [(3, .int 0), (0, .ref h0), (1, .ref d0), (2, .int y)]) hx hb d_Told_addNatural_1 rfl hl (by decide) rfl (fun ls hl => ?_)
  exact (L_Told_addNatural_2 (h0) (a0) (b0) (f) (g) (lx) (w) (d0) (hn) (fd) (y) (bh) C0 hA (hT) (hy0) (hb0) _).1 (0) (0) (g) (fd) H locs ls (Nat.lt_succ_self _) (((show (0 : Int32).toInt = 0 by decide)).trans (by omega)) ((hy0).trans (by omega)) (by omega) (by rw [Nat.pow_zero, Nat.div_one]) (by intro j hj; omega) (by exact Or.inl rfl) (va_Psub hP [0, 1, 2, 3, 4] rfl) (hD.sub [0, 1, 2, 3, 4] (by decide) rfl) hS (lv_sub hl [0, 3, 2, 1] rfl)
