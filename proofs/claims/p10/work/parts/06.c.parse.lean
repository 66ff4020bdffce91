set_option maxHeartbeats 4000000 in
set_option maxRecDepth 100000 in
theorem c_Decimal_parse (l : Launch) (dC : Nat → ClassId) (dI : Nat → Nat → Nat) (cI cB cJ : ClassId) (h0 : Nat) (hn : Nat) (an : Nat) (f : Nat → Int32) (neg : Int32) (ex0 : Int32) (h1 : Nat) (a1 : Nat) (g : Nat → Int32) (l1 : Int32) (T : Nat → Nat) (len : Nat) (hT : TP g l1 T len) : Ci l dC dI cI cB cJ y_Decimal_parse w_Decimal_parse ({ frames := 2, cells := 0, slots := 0, locals := 51 } : Room) [.ref h0, .ref h1] [(h0, .inr (3, [.ref hn, .int neg, .int ex0])), (hn, .inr (1, [.ref an])), (an, .inl (cI, 12, .inl f)), (h1, .inr (2, [.ref a1, .int l1])), (a1, .inl (cB, 60, .inl g))] (fun (r : Int32) (u : (Nat → Int32) × (Int32) × (Int32)) => (r = 0 ∧ ¬ isDec T len) ∨ (r = 1 ∧ isDec T len ∧ nv u.1 12 = pV T len ∧ u.2.1.toInt = (pS T len : Int) ∧ u.2.2.toInt = -(pB T len : Int) + xE T len (pQ T len))) (fun u : (Nat → Int32) × (Int32) × (Int32) => [(h0, .inr (3, [.ref hn, .int u.2.1, .int u.2.2])), (hn, .inr (1, [.ref an])), (an, .inl (cI, 12, .inl u.1)), (h1, .inr (2, [.ref a1, .int l1])), (a1, .inl (cB, 60, .inl g))]) := by
  refine Ci.intro (cc := b_Decimal_parse) (maxL := 3) (plainFor_of_name (by decide)) rfl (Nat.le_of_ble_eq_true rfl) ?_
  intro p e s m below meth c A ls C0 hin hA hP hD hS hl
  obtain ⟨hx, hb, hml, hown, hts, hr, hlocks, hK, hN⟩ := id C0
  obtain ⟨H, hH⟩ : ∃ H, H = s.heap := ⟨_, rfl⟩
  have hP : va_P (dC, dI) vwCl [(h0, .inr (3, [.ref hn, .int neg, .int ex0])), (hn, .inr (1, [.ref an])), (an, .inl (cI, 12, .inl f)), (h1, .inr (2, [.ref a1, .int l1])), (a1, .inl (cB, 60, .inl g))] s.heap := hP
  have hl : lv_has ls 3 [(0, .ref h0), (1, .ref h1)] := hl
  suffices h : ∀ (H : Heap) (locs : List Loc), va_P (dC, dI) vwCl [(h0, .inr (3, [.ref hn, .int neg, .int ex0])), (hn, .inr (1, [.ref an])), (an, .inl (cI, 12, .inl f)), (h1, .inr (2, [.ref a1, .int l1])), (a1, .inl (cB, 60, .inl g))] H → va_D A [(h0, .inr (3, [.ref hn, .int neg, .int ex0])), (hn, .inr (1, [.ref an])), (an, .inl (cI, 12, .inl f)), (h1, .inr (2, [.ref a1, .int l1])), (a1, .inl (cB, 60, .inl g))] → va_S A s.heap H locs → W p l e ({ frames := 2, cells := 0, slots := 0, locals := 51 } : Room) s m ([.ref h0, .ref h1] : List Value).toArray below meth c H locs 0 0 (MQ below (va_Qi (fun (r : Int32) (u : (Nat → Int32) × (Int32) × (Int32)) => (r = 0 ∧ ¬ isDec T len) ∨ (r = 1 ∧ isDec T len ∧ nv u.1 12 = pV T len ∧ u.2.1.toInt = (pS T len : Int) ∧ u.2.2.toInt = -(pB T len : Int) + xE T len (pQ T len))) (poG dC dI A (fun u : (Nat → Int32) × (Int32) × (Int32) => [(h0, .inr (3, [.ref hn, .int u.2.1, .int u.2.2])), (hn, .inr (1, [.ref an])), (an, .inl (cI, 12, .inl u.1)), (h1, .inr (2, [.ref a1, .int l1])), (a1, .inl (cB, 60, .inl g))])) A) ([.ref h0, .ref h1] : List Value).toArray s 0 0 A) (F0 m 0 ls []) from h _ _ hP hD hS
  clear hP hD hS hH H
  intro H locs hP hD hS
  have hn60 := hT.2.1
  refine lv_aload_n hx hb d_Decimal_parse_0 rfl (lv_at hl 0 rfl) ?_
  refine va_get (D := (dC, dI)) (ci := 3) (v := .ref hn) (C := R_Decimal) (T := F_Decimal) (N := 3) hx hb hts u_Decimal hown hK hP 0 rfl rfl 0 (by decide) (hts _ m_108) (fun _ h9 => h9) rfl d_Decimal_parse_1 ?_
  refine lv_lconst (v := 0) hx hb d_Decimal_parse_4 (by decide) ?_
  refine callV_v (wr := [(h0, .inr (3, [.ref hn, .int neg, .int ex0])), (h1, .inr (2, [.ref a1, .int l1])), (a1, .inl (cB, 60, .inl g))]) C0 (c_Natural_set l dC dI cI cB cJ (hn) (an) (f) ((0 : Int64))) (cwV 1 hts (gV m_255 m_256 m_257 m_51 m_258) rfl rfl rfl (by decide +kernel) ⟨Nat.le_of_ble_eq_true rfl, Nat.le_of_ble_eq_true rfl⟩) 1 rfl rfl 0 rfl hP hD hS hA [1, 2] [0, 3, 4] rfl rfl (by decide) (by decide) (by decide) rfl hl.1 rfl (Nat.le_of_ble_eq_true rfl) d_Decimal_parse_5 ⟨Nat.le_of_ble_eq_true rfl, Nat.le_of_ble_eq_true rfl⟩ (fun k5 H locs hw9 hP hD hS => ?_)
  have h5 : nv k5 12 = ul (0 : Int64) := hw9
  have hP : va_P (dC, dI) vwCl [(h0, .inr (3, [.ref hn, .int neg, .int ex0])), (h1, .inr (2, [.ref a1, .int l1])), (a1, .inl (cB, 60, .inl g)), (hn, .inr (1, [.ref an])), (an, .inl (cI, 12, .inl k5))] H := hP
  have hD : va_D A [(h0, .inr (3, [.ref hn, .int neg, .int ex0])), (h1, .inr (2, [.ref a1, .int l1])), (a1, .inl (cB, 60, .inl g)), (hn, .inr (1, [.ref an])), (an, .inl (cI, 12, .inl k5))] := hD
  refine lv_aload_n hx hb d_Decimal_parse_8 rfl (lv_at hl 0 rfl) ?_
  refine lv_iconst (v := 0) hx hb d_Decimal_parse_9 (by decide) ?_
  refine va_put (D := (dC, dI)) (ci := 3) (v := .int 0) (ty := .int) (C := R_Decimal) (T := F_Decimal) (N := 3) hx hb hts u_Decimal t_Decimal t_Decimal_ok n_Decimal hown hK hP hD hS 0 rfl rfl 2 (by decide) (hts _ m_110) (fun _ h9 => h9) rfl (by decide +kernel) rfl rfl (Nat.le_of_ble_eq_true rfl) d_Decimal_parse_10 (fun H locs hP hD hS => ?_)
  have hP : va_P (dC, dI) vwCl [(h0, .inr (3, [.ref hn, .int neg, .int 0])), (h1, .inr (2, [.ref a1, .int l1])), (a1, .inl (cB, 60, .inl g)), (hn, .inr (1, [.ref an])), (an, .inl (cI, 12, .inl k5))] H := hP
  have hD : va_D A [(h0, .inr (3, [.ref hn, .int neg, .int 0])), (h1, .inr (2, [.ref a1, .int l1])), (a1, .inl (cB, 60, .inl g)), (hn, .inr (1, [.ref an])), (an, .inl (cI, 12, .inl k5))] := hD
  refine lv_aload_n hx hb d_Decimal_parse_13 rfl (lv_at hl 0 rfl) ?_
  refine lv_aload_n hx hb d_Decimal_parse_14 rfl (lv_at hl 1 rfl) ?_
  refine lv_iconst (v := 0) hx hb d_Decimal_parse_15 (by decide) ?_
  refine callV_i (wr := [(h0, .inr (3, [.ref hn, .int neg, .int 0])), (hn, .inr (1, [.ref an])), (an, .inl (cI, 12, .inl k5))]) C0 (c_Tape_at l dC dI cI cB cJ (h1) (a1) (g) (l1) (T) (len) ((0 : Int32)) (by exact hT)) (cwV 1 hts (gV m_259 m_260 m_261 m_49 m_262) rfl rfl rfl (by decide +kernel) ⟨Nat.le_of_ble_eq_true rfl, Nat.le_of_ble_eq_true rfl⟩) 2 rfl rfl 0 rfl hP hD hS hA [1, 2] [0, 3, 4] rfl rfl (by decide) (by decide) (by decide) rfl hl.1 rfl (Nat.le_of_ble_eq_true rfl) d_Decimal_parse_16 ⟨Nat.le_of_ble_eq_true rfl, Nat.le_of_ble_eq_true rfl⟩ (fun r16 u16 H locs hw9 hP hD hS => ?_)
  have h16 : r16.toInt = tAt T len (0 : Int32).toInt := hw9
  have hP : va_P (dC, dI) vwCl [(h0, .inr (3, [.ref hn, .int neg, .int 0])), (hn, .inr (1, [.ref an])), (an, .inl (cI, 12, .inl k5)), (h1, .inr (2, [.ref a1, .int l1])), (a1, .inl (cB, 60, .inl g))] H := hP
  have hD : va_D A [(h0, .inr (3, [.ref hn, .int neg, .int 0])), (hn, .inr (1, [.ref an])), (an, .inl (cI, 12, .inl k5)), (h1, .inr (2, [.ref a1, .int l1])), (a1, .inl (cB, 60, .inl g))] := hD
  have t16 : r16.toInt = tAt T len ((0 : Nat) : Int) := h16
  refine lv_bipush (v := 45) hx hb d_Decimal_parse_19 (by decide) ?_
  refine lv_icmp_ne (tgt := 28) hx hb d_Decimal_parse_21 (by decide) (fun b21 => ?_) (fun b21 => ?_)
  · skip
    rw [q_ieq t16 (show (45 : Int32).toInt = 45 by decide)] at b21
    have hneg : (0 : Int32).toInt = (pS T len : Int) := by rw [pS, if_neg]; decide; rintro ⟨h1, h2⟩; exact b21 (by rw [tAt_ne h1]; omega)
    refine lv_iconst (v := 0) hx hb d_Decimal_parse_28 (by decide) ?_
    refine va_put (D := (dC, dI)) (ci := 3) (v := .int 0) (ty := .boolean) (C := R_Decimal) (T := F_Decimal) (N := 3) hx hb hts u_Decimal t_Decimal t_Decimal_ok n_Decimal hown hK hP hD hS 0 rfl rfl 1 (by decide) (hts _ m_109) (fun _ h9 => h9) rfl (by decide +kernel) rfl rfl (Nat.le_of_ble_eq_true rfl) d_Decimal_parse_29 (fun H locs hP hD hS => ?_)
    have hP : va_P (dC, dI) vwCl [(h0, .inr (3, [.ref hn, .int 0, .int 0])), (hn, .inr (1, [.ref an])), (an, .inl (cI, 12, .inl k5)), (h1, .inr (2, [.ref a1, .int l1])), (a1, .inl (cB, 60, .inl g))] H := hP
    have hD : va_D A [(h0, .inr (3, [.ref hn, .int 0, .int 0])), (hn, .inr (1, [.ref an])), (an, .inl (cI, 12, .inl k5)), (h1, .inr (2, [.ref a1, .int l1])), (a1, .inl (cB, 60, .inl g))] := hD
    refine lv_aload_n hx hb d_Decimal_parse_32 rfl (lv_at hl 0 rfl) ?_
    refine lv_aload_n hx hb d_Decimal_parse_33 rfl (lv_at hl 1 rfl) ?_
    refine lv_aload_n hx hb d_Decimal_parse_34 rfl (lv_at hl 0 rfl) ?_
    refine va_get (D := (dC, dI)) (ci := 3) (v := .int 0) (C := R_Decimal) (T := F_Decimal) (N := 3) hx hb hts u_Decimal hown hK hP 0 rfl rfl 1 (by decide) (hts _ m_109) (fun _ h9 => h9) rfl d_Decimal_parse_35 ?_
    refine lv_if_eq (tgt := 45) hx hb d_Decimal_parse_38 (by decide) (fun b38 => ?_) (fun b38 => ?_)
    · skip
      rw [q_ieq (show (0 : Int32).toInt = 0 by decide) (show (0 : Int32).toInt = 0 by decide)] at b38
      refine lv_iconst (v := 0) hx hb d_Decimal_parse_45 (by decide) ?_
      refine callV_i (wr := []) C0 (c_Decimal_takeDigits l dC dI cI cB cJ (h0) (hn) (an) (k5) ((0 : Int32)) ((0 : Int32)) (h1) (a1) (g) (l1) (T) (len) ((0 : Int32)) (by exact hT) (by exact hneg) (by rw [h5]; rfl)) (cwV 2 hts (gV m_263 m_264 m_0 m_50 m_265) rfl rfl rfl (by decide +kernel) ⟨Nat.le_of_ble_eq_true rfl, Nat.le_of_ble_eq_true rfl⟩) 3 rfl rfl 0 rfl hP hD hS hA [0, 1, 2, 3, 4] [] rfl rfl (by decide) (by decide) (by decide) rfl hl.1 rfl (Nat.le_of_ble_eq_true rfl) d_Decimal_parse_46 ⟨Nat.le_of_ble_eq_true rfl, Nat.le_of_ble_eq_true rfl⟩ (fun r46 u46 H locs hw9 hP hD hS => ?_)
      obtain ⟨k46, ex146⟩ := u46
      have h46 : (r46 = -1 ∧ ¬ okD T len) ∨ (r46.toInt = (pQ T len : Int) ∧ okD T len ∧ nv k46 12 = pV T len ∧ ex146.toInt = -(pB T len : Int)) := hw9
      have hP : va_P (dC, dI) vwCl [(h0, .inr (3, [.ref hn, .int 0, .int ex146])), (hn, .inr (1, [.ref an])), (an, .inl (cI, 12, .inl k46)), (h1, .inr (2, [.ref a1, .int l1])), (a1, .inl (cB, 60, .inl g))] H := hP
      have hD : va_D A [(h0, .inr (3, [.ref hn, .int 0, .int ex146])), (hn, .inr (1, [.ref an])), (an, .inl (cI, 12, .inl k46)), (h1, .inr (2, [.ref a1, .int l1])), (a1, .inl (cB, 60, .inl g))] := hD
      refine lv_istore_n (lv' := [(2, .int r46), (0, .ref h0), (1, .ref h1)]) hx hb d_Decimal_parse_49 rfl hl (by decide) rfl (fun ls hl => ?_)
      refine lv_iload_n hx hb d_Decimal_parse_50 rfl (lv_at hl 0 rfl) ?_
      refine lv_iconst (v := (-1)) hx hb d_Decimal_parse_51 (by decide) ?_
      refine lv_icmp_eq (tgt := 68) hx hb d_Decimal_parse_52 (by decide) (fun b52 => ?_) (fun b52 => ?_)
      · skip
        refine lv_iconst (v := 0) hx hb d_Decimal_parse_68 (by decide) ?_
        exact Cz.ret C0 (v := 0) (u := (k46, 0, ex146)) (by rfl) (Nat.le_of_ble_eq_true rfl) (Nat.le_of_ble_eq_true rfl) (by show ((0 : Int32) = 0 ∧ ¬ isDec T len) ∨ ((0 : Int32) = 1 ∧ isDec T len ∧ nv k46 12 = pV T len ∧ (0 : Int32).toInt = (pS T len : Int) ∧ ex146.toInt = -(pB T len : Int) + xE T len (pQ T len)); exact Or.inl ⟨rfl, fun h => h46.elim (fun h2 => h2.2 h.1) (fun h2 => by have h3 := h2.1; rw [b52] at h3; exact absurd h3 (by rw [show (-1 : Int32).toInt = -1 by decide]; omega))⟩) hP hD hS [0, 1, 2, 3, 4] (by decide) rfl d_Decimal_parse_69
      · skip
        have hok46 : okD T len ∧ r46.toInt = (pQ T len : Int) ∧ nv k46 12 = pV T len ∧ ex146.toInt = -(pB T len : Int) := by
          rcases h46 with ⟨h, -⟩ | ⟨h1, h2, h3, h4⟩
          · exact absurd h b52
          · exact ⟨h2, h1, h3, h4⟩
        obtain ⟨hokD, t46, hv46, hx46⟩ := hok46
        have hq46 := pQ_le T len
        have hb46 := hokD.2.2
        refine lv_aload_n hx hb d_Decimal_parse_55 rfl (lv_at hl 1 rfl) ?_
        refine lv_aload_n hx hb d_Decimal_parse_56 rfl (lv_at hl 2 rfl) ?_
        refine lv_iload_n hx hb d_Decimal_parse_57 rfl (lv_at hl 0 rfl) ?_
        refine callV_i (wr := []) C0 (c_Decimal_takePower l dC dI cI cB cJ (h0) (hn) (an) (k46) ((0 : Int32)) (ex146) (h1) (a1) (g) (l1) (T) (len) (r46) (pQ T len) (by exact hT) (by exact t46) (by omega) (by omega)) (cwV 2 hts (gV m_274 m_275 m_1 m_50 m_276) rfl rfl rfl (by decide +kernel) ⟨Nat.le_of_ble_eq_true rfl, Nat.le_of_ble_eq_true rfl⟩) 3 rfl rfl 0 rfl hP hD hS hA [0, 1, 2, 3, 4] [] rfl rfl (by decide) (by decide) (by decide) rfl hl.1 rfl (Nat.le_of_ble_eq_true rfl) d_Decimal_parse_58 ⟨Nat.le_of_ble_eq_true rfl, Nat.le_of_ble_eq_true rfl⟩ (fun r58 ex158 H locs hw9 hP hD hS => ?_)
        have h58 : (r58 = 0 ∧ ¬ okE T len (pQ T len)) ∨ (r58 = 1 ∧ okE T len (pQ T len) ∧ ex158.toInt = ex146.toInt + xE T len (pQ T len)) := hw9
        have hP : va_P (dC, dI) vwCl [(h0, .inr (3, [.ref hn, .int 0, .int ex158])), (hn, .inr (1, [.ref an])), (an, .inl (cI, 12, .inl k46)), (h1, .inr (2, [.ref a1, .int l1])), (a1, .inl (cB, 60, .inl g))] H := hP
        have hD : va_D A [(h0, .inr (3, [.ref hn, .int 0, .int ex158])), (hn, .inr (1, [.ref an])), (an, .inl (cI, 12, .inl k46)), (h1, .inr (2, [.ref a1, .int l1])), (a1, .inl (cB, 60, .inl g))] := hD
        refine lv_if_eq (tgt := 68) hx hb d_Decimal_parse_61 (by decide) (fun b61 => ?_) (fun b61 => ?_)
        · skip
          refine lv_iconst (v := 0) hx hb d_Decimal_parse_68 (by decide) ?_
          exact Cz.ret C0 (v := 0) (u := (k46, 0, ex158)) (by rfl) (Nat.le_of_ble_eq_true rfl) (Nat.le_of_ble_eq_true rfl) (by show ((0 : Int32) = 0 ∧ ¬ isDec T len) ∨ ((0 : Int32) = 1 ∧ isDec T len ∧ nv k46 12 = pV T len ∧ (0 : Int32).toInt = (pS T len : Int) ∧ ex158.toInt = -(pB T len : Int) + xE T len (pQ T len)); exact Or.inl ⟨rfl, fun h => h58.elim (fun h2 => h2.2 h.2) (fun h2 => absurd (h2.1.symm.trans b61) (by decide))⟩) hP hD hS [0, 1, 2, 3, 4] (by decide) rfl d_Decimal_parse_69
        · skip
          refine lv_iconst (v := 1) hx hb d_Decimal_parse_64 (by decide) ?_
          refine lv_goto (tgt := 69) hx hb d_Decimal_parse_65 (by decide) ?_
          have hok58 : okE T len (pQ T len) ∧ ex158.toInt = ex146.toInt + xE T len (pQ T len) := by
            rcases h58 with ⟨h, -⟩ | ⟨h1, h2, h3⟩
            · exact absurd h b61
            · exact ⟨h2, h3⟩
          exact Cz.ret C0 (v := 1) (u := (k46, 0, ex158)) (by rfl) (Nat.le_of_ble_eq_true rfl) (Nat.le_of_ble_eq_true rfl) (by show ((1 : Int32) = 0 ∧ ¬ isDec T len) ∨ ((1 : Int32) = 1 ∧ isDec T len ∧ nv k46 12 = pV T len ∧ (0 : Int32).toInt = (pS T len : Int) ∧ ex158.toInt = -(pB T len : Int) + xE T len (pQ T len)); exact Or.inr ⟨rfl, ⟨hokD, hok58.1⟩, hv46, hneg, by rw [hok58.2, hx46]⟩) hP hD hS [0, 1, 2, 3, 4] (by decide) rfl d_Decimal_parse_69
    · skip
      rw [q_ieq (show (0 : Int32).toInt = 0 by decide) (show (0 : Int32).toInt = 0 by decide)] at b38
      exact absurd b38 (by omega)
  · skip
    rw [q_ieq t16 (show (45 : Int32).toInt = 45 by decide)] at b21
    have hpt := tAt_eq (T := T) b21 (by decide)
    have hneg : (1 : Int32).toInt = (pS T len : Int) := by rw [pS, if_pos ⟨hpt.1, by omega⟩]; decide
    refine lv_iconst (v := 1) hx hb d_Decimal_parse_24 (by decide) ?_
    refine lv_goto (tgt := 29) hx hb d_Decimal_parse_25 (by decide) ?_
    refine va_put (D := (dC, dI)) (ci := 3) (v := .int 1) (ty := .boolean) (C := R_Decimal) (T := F_Decimal) (N := 3) hx hb hts u_Decimal t_Decimal t_Decimal_ok n_Decimal hown hK hP hD hS 0 rfl rfl 1 (by decide) (hts _ m_109) (fun _ h9 => h9) rfl (by decide +kernel) rfl rfl (Nat.le_of_ble_eq_true rfl) d_Decimal_parse_29 (fun H locs hP hD hS => ?_)
    have hP : va_P (dC, dI) vwCl [(h0, .inr (3, [.ref hn, .int 1, .int 0])), (hn, .inr (1, [.ref an])), (an, .inl (cI, 12, .inl k5)), (h1, .inr (2, [.ref a1, .int l1])), (a1, .inl (cB, 60, .inl g))] H := hP
    have hD : va_D A [(h0, .inr (3, [.ref hn, .int 1, .int 0])), (hn, .inr (1, [.ref an])), (an, .inl (cI, 12, .inl k5)), (h1, .inr (2, [.ref a1, .int l1])), (a1, .inl (cB, 60, .inl g))] := hD
    refine lv_aload_n hx hb d_Decimal_parse_32 rfl (lv_at hl 0 rfl) ?_
    refine lv_aload_n hx hb d_Decimal_parse_33 rfl (lv_at hl 1 rfl) ?_
    refine lv_aload_n hx hb d_Decimal_parse_34 rfl (lv_at hl 0 rfl) ?_
    refine va_get (D := (dC, dI)) (ci := 3) (v := .int 1) (C := R_Decimal) (T := F_Decimal) (N := 3) hx hb hts u_Decimal hown hK hP 0 rfl rfl 1 (by decide) (hts _ m_109) (fun _ h9 => h9) rfl d_Decimal_parse_35 ?_
    refine lv_if_eq (tgt := 45) hx hb d_Decimal_parse_38 (by decide) (fun b38 => ?_) (fun b38 => ?_)
    · skip
      rw [q_ieq (show (1 : Int32).toInt = 1 by decide) (show (0 : Int32).toInt = 0 by decide)] at b38
      exact absurd b38 (by omega)
    · skip
      rw [q_ieq (show (1 : Int32).toInt = 1 by decide) (show (0 : Int32).toInt = 0 by decide)] at b38
      refine lv_iconst (v := 1) hx hb d_Decimal_parse_41 (by decide) ?_
      refine lv_goto (tgt := 46) hx hb d_Decimal_parse_42 (by decide) ?_
      refine callV_i (wr := []) C0 (c_Decimal_takeDigits l dC dI cI cB cJ (h0) (hn) (an) (k5) ((1 : Int32)) ((0 : Int32)) (h1) (a1) (g) (l1) (T) (len) ((1 : Int32)) (by exact hT) (by exact hneg) (by rw [h5]; rfl)) (cwV 2 hts (gV m_263 m_264 m_0 m_50 m_265) rfl rfl rfl (by decide +kernel) ⟨Nat.le_of_ble_eq_true rfl, Nat.le_of_ble_eq_true rfl⟩) 3 rfl rfl 0 rfl hP hD hS hA [0, 1, 2, 3, 4] [] rfl rfl (by decide) (by decide) (by decide) rfl hl.1 rfl (Nat.le_of_ble_eq_true rfl) d_Decimal_parse_46 ⟨Nat.le_of_ble_eq_true rfl, Nat.le_of_ble_eq_true rfl⟩ (fun r46 u46 H locs hw9 hP hD hS => ?_)
      obtain ⟨k46, ex146⟩ := u46
      have h46 : (r46 = -1 ∧ ¬ okD T len) ∨ (r46.toInt = (pQ T len : Int) ∧ okD T len ∧ nv k46 12 = pV T len ∧ ex146.toInt = -(pB T len : Int)) := hw9
      have hP : va_P (dC, dI) vwCl [(h0, .inr (3, [.ref hn, .int 1, .int ex146])), (hn, .inr (1, [.ref an])), (an, .inl (cI, 12, .inl k46)), (h1, .inr (2, [.ref a1, .int l1])), (a1, .inl (cB, 60, .inl g))] H := hP
      have hD : va_D A [(h0, .inr (3, [.ref hn, .int 1, .int ex146])), (hn, .inr (1, [.ref an])), (an, .inl (cI, 12, .inl k46)), (h1, .inr (2, [.ref a1, .int l1])), (a1, .inl (cB, 60, .inl g))] := hD
      refine lv_istore_n (lv' := [(2, .int r46), (0, .ref h0), (1, .ref h1)]) hx hb d_Decimal_parse_49 rfl hl (by decide) rfl (fun ls hl => ?_)
      refine lv_iload_n hx hb d_Decimal_parse_50 rfl (lv_at hl 0 rfl) ?_
      refine lv_iconst (v := (-1)) hx hb d_Decimal_parse_51 (by decide) ?_
      refine lv_icmp_eq (tgt := 68) hx hb d_Decimal_parse_52 (by decide) (fun b52 => ?_) (fun b52 => ?_)
      · skip
        refine lv_iconst (v := 0) hx hb d_Decimal_parse_68 (by decide) ?_
        exact Cz.ret C0 (v := 0) (u := (k46, 1, ex146)) (by rfl) (Nat.le_of_ble_eq_true rfl) (Nat.le_of_ble_eq_true rfl) (by show ((0 : Int32) = 0 ∧ ¬ isDec T len) ∨ ((0 : Int32) = 1 ∧ isDec T len ∧ nv k46 12 = pV T len ∧ (1 : Int32).toInt = (pS T len : Int) ∧ ex146.toInt = -(pB T len : Int) + xE T len (pQ T len)); exact Or.inl ⟨rfl, fun h => h46.elim (fun h2 => h2.2 h.1) (fun h2 => by have h3 := h2.1; rw [b52] at h3; exact absurd h3 (by rw [show (-1 : Int32).toInt = -1 by decide]; omega))⟩) hP hD hS [0, 1, 2, 3, 4] (by decide) rfl d_Decimal_parse_69
      · skip
        have hok46 : okD T len ∧ r46.toInt = (pQ T len : Int) ∧ nv k46 12 = pV T len ∧ ex146.toInt = -(pB T len : Int) := by
          rcases h46 with ⟨h, -⟩ | ⟨h1, h2, h3, h4⟩
          · exact absurd h b52
          · exact ⟨h2, h1, h3, h4⟩
        obtain ⟨hokD, t46, hv46, hx46⟩ := hok46
        have hq46 := pQ_le T len
        have hb46 := hokD.2.2
        refine lv_aload_n hx hb d_Decimal_parse_55 rfl (lv_at hl 1 rfl) ?_
        refine lv_aload_n hx hb d_Decimal_parse_56 rfl (lv_at hl 2 rfl) ?_
        refine lv_iload_n hx hb d_Decimal_parse_57 rfl (lv_at hl 0 rfl) ?_
        refine callV_i (wr := []) C0 (c_Decimal_takePower l dC dI cI cB cJ (h0) (hn) (an) (k46) ((1 : Int32)) (ex146) (h1) (a1) (g) (l1) (T) (len) (r46) (pQ T len) (by exact hT) (by exact t46) (by omega) (by omega)) (cwV 2 hts (gV m_274 m_275 m_1 m_50 m_276) rfl rfl rfl (by decide +kernel) ⟨Nat.le_of_ble_eq_true rfl, Nat.le_of_ble_eq_true rfl⟩) 3 rfl rfl 0 rfl hP hD hS hA [0, 1, 2, 3, 4] [] rfl rfl (by decide) (by decide) (by decide) rfl hl.1 rfl (Nat.le_of_ble_eq_true rfl) d_Decimal_parse_58 ⟨Nat.le_of_ble_eq_true rfl, Nat.le_of_ble_eq_true rfl⟩ (fun r58 ex158 H locs hw9 hP hD hS => ?_)
        have h58 : (r58 = 0 ∧ ¬ okE T len (pQ T len)) ∨ (r58 = 1 ∧ okE T len (pQ T len) ∧ ex158.toInt = ex146.toInt + xE T len (pQ T len)) := hw9
        have hP : va_P (dC, dI) vwCl [(h0, .inr (3, [.ref hn, .int 1, .int ex158])), (hn, .inr (1, [.ref an])), (an, .inl (cI, 12, .inl k46)), (h1, .inr (2, [.ref a1, .int l1])), (a1, .inl (cB, 60, .inl g))] H := hP
        have hD : va_D A [(h0, .inr (3, [.ref hn, .int 1, .int ex158])), (hn, .inr (1, [.ref an])), (an, .inl (cI, 12, .inl k46)), (h1, .inr (2, [.ref a1, .int l1])), (a1, .inl (cB, 60, .inl g))] := hD
        refine lv_if_eq (tgt := 68) hx hb d_Decimal_parse_61 (by decide) (fun b61 => ?_) (fun b61 => ?_)
        · skip
          refine lv_iconst (v := 0) hx hb d_Decimal_parse_68 (by decide) ?_
          exact Cz.ret C0 (v := 0) (u := (k46, 1, ex158)) (by rfl) (Nat.le_of_ble_eq_true rfl) (Nat.le_of_ble_eq_true rfl) (by show ((0 : Int32) = 0 ∧ ¬ isDec T len) ∨ ((0 : Int32) = 1 ∧ isDec T len ∧ nv k46 12 = pV T len ∧ (1 : Int32).toInt = (pS T len : Int) ∧ ex158.toInt = -(pB T len : Int) + xE T len (pQ T len)); exact Or.inl ⟨rfl, fun h => h58.elim (fun h2 => h2.2 h.2) (fun h2 => absurd (h2.1.symm.trans b61) (by decide))⟩) hP hD hS [0, 1, 2, 3, 4] (by decide) rfl d_Decimal_parse_69
        · skip
          refine lv_iconst (v := 1) hx hb d_Decimal_parse_64 (by decide) ?_
          refine lv_goto (tgt := 69) hx hb d_Decimal_parse_65 (by decide) ?_
          have hok58 : okE T len (pQ T len) ∧ ex158.toInt = ex146.toInt + xE T len (pQ T len) := by
            rcases h58 with ⟨h, -⟩ | ⟨h1, h2, h3⟩
            · exact absurd h b61
            · exact ⟨h2, h3⟩
          exact Cz.ret C0 (v := 1) (u := (k46, 1, ex158)) (by rfl) (Nat.le_of_ble_eq_true rfl) (Nat.le_of_ble_eq_true rfl) (by show ((1 : Int32) = 0 ∧ ¬ isDec T len) ∨ ((1 : Int32) = 1 ∧ isDec T len ∧ nv k46 12 = pV T len ∧ (1 : Int32).toInt = (pS T len : Int) ∧ ex158.toInt = -(pB T len : Int) + xE T len (pQ T len)); exact Or.inr ⟨rfl, ⟨hokD, hok58.1⟩, hv46, hneg, by rw [hok58.2, hx46]⟩) hP hD hS [0, 1, 2, 3, 4] (by decide) rfl d_Decimal_parse_69
