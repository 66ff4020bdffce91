set_option maxHeartbeats 4000000 in
set_option maxRecDepth 100000 in
theorem c_Model_thrown (l : Launch) (dC : Nat → ClassId) (dI : Nat → Nat → Nat) (cI cB cJ : ClassId) (h0 : Nat) (th : Int32) (we : Int32) (wm : Int32) (wy : Int32) (ra : Int32) (tA : Nat) (tn : Int32) (oA : Nat) (on : Int32) (rA : Nat) (fi : Int32) (la : Int32) (wA : Nat) (wf : Int32) (wl : Int32) (lo : Int32) (ov : Int32) (un : Int32) (aT : Int32) (mi : Int32) (ds : Int32) (dA : Nat) (a0 : Int32) (xp : Int32) (iA : Nat) (te : Int32)  : Ci l dC dI cI cB cJ y_Model_thrown w_Model_thrown ({ frames := 0, cells := 0, slots := 0, locals := 0 } : Room) [.ref h0] [(h0, .inr (8, [.int th, .int we, .int wm, .int wy, .int ra, .ref tA, .int tn, .ref oA, .int on, .ref rA, .int fi, .int la, .ref wA, .int wf, .int wl, .int lo, .int ov, .int un, .int aT, .int mi, .int ds, .ref dA, .int a0, .int xp, .ref iA, .int te]))] (fun (r : Int32) (u : Unit) => r = th) (fun u : Unit => [(h0, .inr (8, [.int th, .int we, .int wm, .int wy, .int ra, .ref tA, .int tn, .ref oA, .int on, .ref rA, .int fi, .int la, .ref wA, .int wf, .int wl, .int lo, .int ov, .int un, .int aT, .int mi, .int ds, .ref dA, .int a0, .int xp, .ref iA, .int te]))]) := by
  refine Ci.intro (cc := b_Model_thrown) (maxL := 1) (plainFor_of_name (by decide)) rfl (Nat.le_of_ble_eq_true rfl) ?_
  intro p e s m below meth c A ls C0 hin hA hP hD hS hl
  obtain ⟨hx, hb, hml, hown, hts, hr, hlocks, hK, hN⟩ := id C0
  obtain ⟨H, hH⟩ : ∃ H, H = s.heap := ⟨_, rfl⟩
  have hP : va_P (dC, dI) vwCl [(h0, .inr (8, [.int th, .int we, .int wm, .int wy, .int ra, .ref tA, .int tn, .ref oA, .int on, .ref rA, .int fi, .int la, .ref wA, .int wf, .int wl, .int lo, .int ov, .int un, .int aT, .int mi, .int ds, .ref dA, .int a0, .int xp, .ref iA, .int te]))] s.heap := hP
  have hl : lv_has ls 1 [(0, .ref h0)] := hl
  suffices h : ∀ (H : Heap) (locs : List Loc), va_P (dC, dI) vwCl [(h0, .inr (8, [.int th, .int we, .int wm, .int wy, .int ra, .ref tA, .int tn, .ref oA, .int on, .ref rA, .int fi, .int la, .ref wA, .int wf, .int wl, .int lo, .int ov, .int un, .int aT, .int mi, .int ds, .ref dA, .int a0, .int xp, .ref iA, .int te]))] H → va_D A [(h0, .inr (8, [.int th, .int we, .int wm, .int wy, .int ra, .ref tA, .int tn, .ref oA, .int on, .ref rA, .int fi, .int la, .ref wA, .int wf, .int wl, .int lo, .int ov, .int un, .int aT, .int mi, .int ds, .ref dA, .int a0, .int xp, .ref iA, .int te]))] → va_S A s.heap H locs → W p l e ({ frames := 0, cells := 0, slots := 0, locals := 0 } : Room) s m ([.ref h0] : List Value).toArray below meth c H locs 0 0 (MQ below (va_Qi (fun (r : Int32) (u : Unit) => r = th) (poG dC dI A (fun u : Unit => [(h0, .inr (8, [.int th, .int we, .int wm, .int wy, .int ra, .ref tA, .int tn, .ref oA, .int on, .ref rA, .int fi, .int la, .ref wA, .int wf, .int wl, .int lo, .int ov, .int un, .int aT, .int mi, .int ds, .ref dA, .int a0, .int xp, .ref iA, .int te]))])) A) ([.ref h0] : List Value).toArray s 0 0 A) (F0 m 0 ls []) from h _ _ hP hD hS
  clear hP hD hS hH H
  intro H locs hP hD hS
  refine lv_aload_n hx hb d_Model_thrown_0 rfl (lv_at hl 0 rfl) ?_
  refine va_get (D := (dC, dI)) (ci := 8) (v := .int th) (C := R_Model) (T := F_Model) (N := 26) hx hb hts u_Model hown hK hP 0 rfl rfl 0 (by decide) (hts _ m_563) (fun _ h9 => h9) rfl d_Model_thrown_1 ?_
  exact Ci.ret C0 (v := th) (u := ()) (Nat.le_of_ble_eq_true rfl) (Nat.le_of_ble_eq_true rfl) (by show th = th; rfl) hP hD hS [0] (by decide) rfl d_Model_thrown_4
set_option maxHeartbeats 4000000 in
set_option maxRecDepth 100000 in
theorem c_Model_dig (l : Launch) (dC : Nat → ClassId) (dI : Nat → Nat → Nat) (cI cB cJ : ClassId) (h0 : Nat) (th : Int32) (we : Int32) (wm : Int32) (wy : Int32) (ra : Int32) (tA : Nat) (tn : Int32) (oA : Nat) (on : Int32) (rA : Nat) (fi : Int32) (la : Int32) (wA : Nat) (wf : Int32) (wl : Int32) (lo : Int32) (ov : Int32) (un : Int32) (aT : Int32) (mi : Int32) (ds : Int32) (dA : Nat) (a0 : Int32) (xp : Int32) (iA : Nat) (te : Int32) (f : Nat → Int32) (n1 : Nat) (n2 : Nat) (x : Int32) (y : Int32) (ap : Nat) (dd : Nat) (hfi : fi.toInt = (n1 : Int)) (hla : la.toInt = (n2 : Int)) (hR : RWp f n1 n2) (hx0 : x.toInt = (ap : Int)) (hap : ap < 400) (hdg : y.toInt = (dd : Int)) (hd9 : dd ≤ 9) (hf0 : (f ap).toInt = 0) : Cv l dC dI cI cB cJ y_Model_dig w_Model_dig ({ frames := 0, cells := 0, slots := 0, locals := 0 } : Room) [.ref h0, .int x, .int y] [(h0, .inr (8, [.int th, .int we, .int wm, .int wy, .int ra, .ref tA, .int tn, .ref oA, .int on, .ref rA, .int fi, .int la, .ref wA, .int wf, .int wl, .int lo, .int ov, .int un, .int aT, .int mi, .int ds, .ref dA, .int a0, .int xp, .ref iA, .int te])), (rA, .inl (cI, 400, .inl f))] (fun (u : (Nat → Int32) × (Int32) × (Int32)) => ∃ nA nB : Nat, u.2.1.toInt = (nA : Int) ∧ u.2.2.toInt = (nB : Int) ∧ RWp u.1 nA nB ∧ sv u.1 400 = sv f 400 + dd * 10 ^ (399 - ap) ∧ min n1 ap ≤ nA ∧ nB ≤ max n2 ap ∧ (∀ j, j ≠ ap → u.1 j = f j)) (fun u : (Nat → Int32) × (Int32) × (Int32) => [(h0, .inr (8, [.int th, .int we, .int wm, .int wy, .int ra, .ref tA, .int tn, .ref oA, .int on, .ref rA, .int u.2.1, .int u.2.2, .ref wA, .int wf, .int wl, .int lo, .int ov, .int un, .int aT, .int mi, .int ds, .ref dA, .int a0, .int xp, .ref iA, .int te])), (rA, .inl (cI, 400, .inl u.1))]) := by
  refine Cv.intro (cc := b_Model_dig) (maxL := 3) (plainFor_of_name (by decide)) rfl (Nat.le_of_ble_eq_true rfl) ?_
  intro p e s m below meth c A ls C0 hin hA hP hD hS hl
  obtain ⟨hx, hb, hml, hown, hts, hr, hlocks, hK, hN⟩ := id C0
  obtain ⟨H, hH⟩ : ∃ H, H = s.heap := ⟨_, rfl⟩
  have hP : va_P (dC, dI) vwCl [(h0, .inr (8, [.int th, .int we, .int wm, .int wy, .int ra, .ref tA, .int tn, .ref oA, .int on, .ref rA, .int fi, .int la, .ref wA, .int wf, .int wl, .int lo, .int ov, .int un, .int aT, .int mi, .int ds, .ref dA, .int a0, .int xp, .ref iA, .int te])), (rA, .inl (cI, 400, .inl f))] s.heap := hP
  have hl : lv_has ls 3 [(0, .ref h0), (1, .int x), (2, .int y)] := hl
  have r_x := q_r32 x
  have r_y := q_r32 y
  suffices h : ∀ (H : Heap) (locs : List Loc), va_P (dC, dI) vwCl [(h0, .inr (8, [.int th, .int we, .int wm, .int wy, .int ra, .ref tA, .int tn, .ref oA, .int on, .ref rA, .int fi, .int la, .ref wA, .int wf, .int wl, .int lo, .int ov, .int un, .int aT, .int mi, .int ds, .ref dA, .int a0, .int xp, .ref iA, .int te])), (rA, .inl (cI, 400, .inl f))] H → va_D A [(h0, .inr (8, [.int th, .int we, .int wm, .int wy, .int ra, .ref tA, .int tn, .ref oA, .int on, .ref rA, .int fi, .int la, .ref wA, .int wf, .int wl, .int lo, .int ov, .int un, .int aT, .int mi, .int ds, .ref dA, .int a0, .int xp, .ref iA, .int te])), (rA, .inl (cI, 400, .inl f))] → va_S A s.heap H locs → W p l e ({ frames := 0, cells := 0, slots := 0, locals := 0 } : Room) s m ([.ref h0, .int x, .int y] : List Value).toArray below meth c H locs 0 0 (MQ below (va_Qv (fun (u : (Nat → Int32) × (Int32) × (Int32)) => ∃ nA nB : Nat, u.2.1.toInt = (nA : Int) ∧ u.2.2.toInt = (nB : Int) ∧ RWp u.1 nA nB ∧ sv u.1 400 = sv f 400 + dd * 10 ^ (399 - ap) ∧ min n1 ap ≤ nA ∧ nB ≤ max n2 ap ∧ (∀ j, j ≠ ap → u.1 j = f j)) (poG dC dI A (fun u : (Nat → Int32) × (Int32) × (Int32) => [(h0, .inr (8, [.int th, .int we, .int wm, .int wy, .int ra, .ref tA, .int tn, .ref oA, .int on, .ref rA, .int u.2.1, .int u.2.2, .ref wA, .int wf, .int wl, .int lo, .int ov, .int un, .int aT, .int mi, .int ds, .ref dA, .int a0, .int xp, .ref iA, .int te])), (rA, .inl (cI, 400, .inl u.1))])) A) ([.ref h0, .int x, .int y] : List Value).toArray s 0 0 A) (F0 m 0 ls []) from h _ _ hP hD hS
  clear hP hD hS hH H
  intro H locs hP hD hS
  have hR6 := hR.2.2.2
  refine lv_aload_n hx hb d_Model_dig_0 rfl (lv_at hl 0 rfl) ?_
  refine va_get (D := (dC, dI)) (ci := 8) (v := .ref rA) (C := R_Model) (T := F_Model) (N := 26) hx hb hts u_Model hown hK hP 0 rfl rfl 9 (by decide) (hts _ m_572) (fun _ h9 => h9) rfl d_Model_dig_1 ?_
  refine lv_iload_n hx hb d_Model_dig_4 rfl (lv_at hl 1 rfl) ?_
  refine lv_iload_n hx hb d_Model_dig_5 rfl (lv_at hl 2 rfl) ?_
  refine va_iast hx hb hK hP hD hS 1 0 rfl rfl (q_in hx0 (by omega)) d_Model_dig_6 (fun H locs hP hD hS => ?_)
  rw [q_cl (k := ap) (hx0)] at hP hD
  have hP : va_P (dC, dI) vwCl [(h0, .inr (8, [.int th, .int we, .int wm, .int wy, .int ra, .ref tA, .int tn, .ref oA, .int on, .ref rA, .int fi, .int la, .ref wA, .int wf, .int wl, .int lo, .int ov, .int un, .int aT, .int mi, .int ds, .ref dA, .int a0, .int xp, .ref iA, .int te])), (rA, .inl (cI, 400, .inl (upd f ap y)))] H := hP
  have hD : va_D A [(h0, .inr (8, [.int th, .int we, .int wm, .int wy, .int ra, .ref tA, .int tn, .ref oA, .int on, .ref rA, .int fi, .int la, .ref wA, .int wf, .int wl, .int lo, .int ov, .int un, .int aT, .int mi, .int ds, .ref dA, .int a0, .int xp, .ref iA, .int te])), (rA, .inl (cI, 400, .inl (upd f ap y)))] := hD
  refine lv_iload_n hx hb d_Model_dig_7 rfl (lv_at hl 2 rfl) ?_
  refine lv_if_le (tgt := 24) hx hb d_Model_dig_8 (by decide) (fun b8 => ?_) (fun b8 => ?_)
  · skip
    rw [q_ile hdg (show (0 : Int32).toInt = 0 by decide)] at b8
    refine lv_iload_n hx hb d_Model_dig_24 rfl (lv_at hl 2 rfl) ?_
    refine lv_if_le (tgt := 41) hx hb d_Model_dig_25 (by decide) (fun b25 => ?_) (fun b25 => ?_)
    · skip
      rw [q_ile hdg (show (0 : Int32).toInt = 0 by decide)] at b25
      exact Cv.ret C0 (u := (upd f ap y, fi, la)) (Nat.le_of_ble_eq_true rfl) (Nat.le_of_ble_eq_true rfl) (by show ∃ nA nB : Nat, fi.toInt = (nA : Int) ∧ la.toInt = (nB : Int) ∧ RWp (upd f ap y) nA nB ∧ sv (upd f ap y) 400 = sv f 400 + dd * 10 ^ (399 - ap) ∧ min n1 ap ≤ nA ∧ nB ≤ max n2 ap ∧ (∀ j, j ≠ ap → (upd f ap y) j = f j); exact ⟨n1, n2, hfi, hla, dig_rw hR hap hdg hd9 hf0 (by rw [if_neg (by omega)]) (by rw [if_neg (by omega)])⟩) hP hD hS [0, 1] (by decide) rfl d_Model_dig_41
    · skip
      rw [q_ile hdg (show (0 : Int32).toInt = 0 by decide)] at b25
      exact absurd b25 (by omega)
  · skip
    rw [q_ile hdg (show (0 : Int32).toInt = 0 by decide)] at b8
    refine lv_iload_n hx hb d_Model_dig_11 rfl (lv_at hl 1 rfl) ?_
    refine lv_aload_n hx hb d_Model_dig_12 rfl (lv_at hl 0 rfl) ?_
    refine va_get (D := (dC, dI)) (ci := 8) (v := .int fi) (C := R_Model) (T := F_Model) (N := 26) hx hb hts u_Model hown hK hP 0 rfl rfl 10 (by decide) (hts _ m_573) (fun _ h9 => h9) rfl d_Model_dig_13 ?_
    refine lv_icmp_ge (tgt := 24) hx hb d_Model_dig_16 (by decide) (fun b16 => ?_) (fun b16 => ?_)
    · skip
      rw [q_ile hfi hx0] at b16
      refine lv_iload_n hx hb d_Model_dig_24 rfl (lv_at hl 2 rfl) ?_
      refine lv_if_le (tgt := 41) hx hb d_Model_dig_25 (by decide) (fun b25 => ?_) (fun b25 => ?_)
      · skip
        rw [q_ile hdg (show (0 : Int32).toInt = 0 by decide)] at b25
        exact absurd b25 (by omega)
      · skip
        rw [q_ile hdg (show (0 : Int32).toInt = 0 by decide)] at b25
        refine lv_iload_n hx hb d_Model_dig_28 rfl (lv_at hl 1 rfl) ?_
        refine lv_aload_n hx hb d_Model_dig_29 rfl (lv_at hl 0 rfl) ?_
        refine va_get (D := (dC, dI)) (ci := 8) (v := .int la) (C := R_Model) (T := F_Model) (N := 26) hx hb hts u_Model hown hK hP 0 rfl rfl 11 (by decide) (hts _ m_574) (fun _ h9 => h9) rfl d_Model_dig_30 ?_
        refine lv_icmp_le (tgt := 41) hx hb d_Model_dig_33 (by decide) (fun b33 => ?_) (fun b33 => ?_)
        · skip
          rw [q_ile hx0 hla] at b33
          exact Cv.ret C0 (u := (upd f ap y, fi, la)) (Nat.le_of_ble_eq_true rfl) (Nat.le_of_ble_eq_true rfl) (by show ∃ nA nB : Nat, fi.toInt = (nA : Int) ∧ la.toInt = (nB : Int) ∧ RWp (upd f ap y) nA nB ∧ sv (upd f ap y) 400 = sv f 400 + dd * 10 ^ (399 - ap) ∧ min n1 ap ≤ nA ∧ nB ≤ max n2 ap ∧ (∀ j, j ≠ ap → (upd f ap y) j = f j); exact ⟨n1, n2, hfi, hla, dig_rw hR hap hdg hd9 hf0 (by rw [if_neg (by omega)]) (by rw [if_neg (by omega)])⟩) hP hD hS [0, 1] (by decide) rfl d_Model_dig_41
        · skip
          rw [q_ile hx0 hla] at b33
          refine lv_aload_n hx hb d_Model_dig_36 rfl (lv_at hl 0 rfl) ?_
          refine lv_iload_n hx hb d_Model_dig_37 rfl (lv_at hl 1 rfl) ?_
          refine va_put (D := (dC, dI)) (ci := 8) (v := .int x) (ty := .int) (C := R_Model) (T := F_Model) (N := 26) hx hb hts u_Model t_Model t_Model_ok n_Model hown hK hP hD hS 0 rfl rfl 11 (by decide) (hts _ m_574) (fun _ h9 => h9) rfl (by decide +kernel) rfl rfl (Nat.le_of_ble_eq_true rfl) d_Model_dig_38 (fun H locs hP hD hS => ?_)
          have hP : va_P (dC, dI) vwCl [(h0, .inr (8, [.int th, .int we, .int wm, .int wy, .int ra, .ref tA, .int tn, .ref oA, .int on, .ref rA, .int fi, .int x, .ref wA, .int wf, .int wl, .int lo, .int ov, .int un, .int aT, .int mi, .int ds, .ref dA, .int a0, .int xp, .ref iA, .int te])), (rA, .inl (cI, 400, .inl (upd f ap y)))] H := hP
          have hD : va_D A [(h0, .inr (8, [.int th, .int we, .int wm, .int wy, .int ra, .ref tA, .int tn, .ref oA, .int on, .ref rA, .int fi, .int x, .ref wA, .int wf, .int wl, .int lo, .int ov, .int un, .int aT, .int mi, .int ds, .ref dA, .int a0, .int xp, .ref iA, .int te])), (rA, .inl (cI, 400, .inl (upd f ap y)))] := hD
          exact Cv.ret C0 (u := (upd f ap y, fi, x)) (Nat.le_of_ble_eq_true rfl) (Nat.le_of_ble_eq_true rfl) (by show ∃ nA nB : Nat, fi.toInt = (nA : Int) ∧ x.toInt = (nB : Int) ∧ RWp (upd f ap y) nA nB ∧ sv (upd f ap y) 400 = sv f 400 + dd * 10 ^ (399 - ap) ∧ min n1 ap ≤ nA ∧ nB ≤ max n2 ap ∧ (∀ j, j ≠ ap → (upd f ap y) j = f j); exact ⟨n1, ap, hfi, hx0, dig_rw hR hap hdg hd9 hf0 (by rw [if_neg (by omega)]) (by rw [if_pos (by omega)])⟩) hP hD hS [0, 1] (by decide) rfl d_Model_dig_41
    · skip
      rw [q_ile hfi hx0] at b16
      refine lv_aload_n hx hb d_Model_dig_19 rfl (lv_at hl 0 rfl) ?_
      refine lv_iload_n hx hb d_Model_dig_20 rfl (lv_at hl 1 rfl) ?_
      refine va_put (D := (dC, dI)) (ci := 8) (v := .int x) (ty := .int) (C := R_Model) (T := F_Model) (N := 26) hx hb hts u_Model t_Model t_Model_ok n_Model hown hK hP hD hS 0 rfl rfl 10 (by decide) (hts _ m_573) (fun _ h9 => h9) rfl (by decide +kernel) rfl rfl (Nat.le_of_ble_eq_true rfl) d_Model_dig_21 (fun H locs hP hD hS => ?_)
      have hP : va_P (dC, dI) vwCl [(h0, .inr (8, [.int th, .int we, .int wm, .int wy, .int ra, .ref tA, .int tn, .ref oA, .int on, .ref rA, .int x, .int la, .ref wA, .int wf, .int wl, .int lo, .int ov, .int un, .int aT, .int mi, .int ds, .ref dA, .int a0, .int xp, .ref iA, .int te])), (rA, .inl (cI, 400, .inl (upd f ap y)))] H := hP
      have hD : va_D A [(h0, .inr (8, [.int th, .int we, .int wm, .int wy, .int ra, .ref tA, .int tn, .ref oA, .int on, .ref rA, .int x, .int la, .ref wA, .int wf, .int wl, .int lo, .int ov, .int un, .int aT, .int mi, .int ds, .ref dA, .int a0, .int xp, .ref iA, .int te])), (rA, .inl (cI, 400, .inl (upd f ap y)))] := hD
      refine lv_iload_n hx hb d_Model_dig_24 rfl (lv_at hl 2 rfl) ?_
      refine lv_if_le (tgt := 41) hx hb d_Model_dig_25 (by decide) (fun b25 => ?_) (fun b25 => ?_)
      · skip
        rw [q_ile hdg (show (0 : Int32).toInt = 0 by decide)] at b25
        exact absurd b25 (by omega)
      · skip
        rw [q_ile hdg (show (0 : Int32).toInt = 0 by decide)] at b25
        refine lv_iload_n hx hb d_Model_dig_28 rfl (lv_at hl 1 rfl) ?_
        refine lv_aload_n hx hb d_Model_dig_29 rfl (lv_at hl 0 rfl) ?_
        refine va_get (D := (dC, dI)) (ci := 8) (v := .int la) (C := R_Model) (T := F_Model) (N := 26) hx hb hts u_Model hown hK hP 0 rfl rfl 11 (by decide) (hts _ m_574) (fun _ h9 => h9) rfl d_Model_dig_30 ?_
        refine lv_icmp_le (tgt := 41) hx hb d_Model_dig_33 (by decide) (fun b33 => ?_) (fun b33 => ?_)
        · skip
          rw [q_ile hx0 hla] at b33
          exact Cv.ret C0 (u := (upd f ap y, x, la)) (Nat.le_of_ble_eq_true rfl) (Nat.le_of_ble_eq_true rfl) (by show ∃ nA nB : Nat, x.toInt = (nA : Int) ∧ la.toInt = (nB : Int) ∧ RWp (upd f ap y) nA nB ∧ sv (upd f ap y) 400 = sv f 400 + dd * 10 ^ (399 - ap) ∧ min n1 ap ≤ nA ∧ nB ≤ max n2 ap ∧ (∀ j, j ≠ ap → (upd f ap y) j = f j); exact ⟨ap, n2, hx0, hla, dig_rw hR hap hdg hd9 hf0 (by rw [if_pos (by omega)]) (by rw [if_neg (by omega)])⟩) hP hD hS [0, 1] (by decide) rfl d_Model_dig_41
        · skip
          rw [q_ile hx0 hla] at b33
          exact absurd b33 (by omega)
set_option maxHeartbeats 4000000 in
set_option maxRecDepth 100000 in
theorem c_Model_say (l : Launch) (dC : Nat → ClassId) (dI : Nat → Nat → Nat) (cI cB cJ : ClassId) (h0 : Nat) (th : Int32) (we : Int32) (wm : Int32) (wy : Int32) (ra : Int32) (tA : Nat) (tn : Int32) (oA : Nat) (on : Int32) (rA : Nat) (fi : Int32) (la : Int32) (wA : Nat) (wf : Int32) (wl : Int32) (lo : Int32) (ov : Int32) (un : Int32) (aT : Int32) (mi : Int32) (ds : Int32) (dA : Nat) (a0 : Int32) (xp : Int32) (iA : Nat) (te : Int32) (f : Nat → Int32) (w : List Nat) (x : Int32) (cc : Nat) (hT : TL f on w) (hcc : x.toInt = (cc : Int)) (hl160 : w.length < 160) : Cv l dC dI cI cB cJ y_Model_say w_Model_say ({ frames := 0, cells := 0, slots := 0, locals := 0 } : Room) [.ref h0, .int x] [(h0, .inr (8, [.int th, .int we, .int wm, .int wy, .int ra, .ref tA, .int tn, .ref oA, .int on, .ref rA, .int fi, .int la, .ref wA, .int wf, .int wl, .int lo, .int ov, .int un, .int aT, .int mi, .int ds, .ref dA, .int a0, .int xp, .ref iA, .int te])), (oA, .inl (cI, 300, .inl f))] (fun (u : (Nat → Int32) × (Int32)) => TL u.1 u.2 (w ++ [cc])) (fun u : (Nat → Int32) × (Int32) => [(h0, .inr (8, [.int th, .int we, .int wm, .int wy, .int ra, .ref tA, .int tn, .ref oA, .int u.2, .ref rA, .int fi, .int la, .ref wA, .int wf, .int wl, .int lo, .int ov, .int un, .int aT, .int mi, .int ds, .ref dA, .int a0, .int xp, .ref iA, .int te])), (oA, .inl (cI, 300, .inl u.1))]) := by
  refine Cv.intro (cc := b_Model_say) (maxL := 2) (plainFor_of_name (by decide)) rfl (Nat.le_of_ble_eq_true rfl) ?_
  intro p e s m below meth c A ls C0 hin hA hP hD hS hl
  obtain ⟨hx, hb, hml, hown, hts, hr, hlocks, hK, hN⟩ := id C0
  obtain ⟨H, hH⟩ : ∃ H, H = s.heap := ⟨_, rfl⟩
  have hP : va_P (dC, dI) vwCl [(h0, .inr (8, [.int th, .int we, .int wm, .int wy, .int ra, .ref tA, .int tn, .ref oA, .int on, .ref rA, .int fi, .int la, .ref wA, .int wf, .int wl, .int lo, .int ov, .int un, .int aT, .int mi, .int ds, .ref dA, .int a0, .int xp, .ref iA, .int te])), (oA, .inl (cI, 300, .inl f))] s.heap := hP
  have hl : lv_has ls 2 [(0, .ref h0), (1, .int x)] := hl
  have r_x := q_r32 x
  suffices h : ∀ (H : Heap) (locs : List Loc), va_P (dC, dI) vwCl [(h0, .inr (8, [.int th, .int we, .int wm, .int wy, .int ra, .ref tA, .int tn, .ref oA, .int on, .ref rA, .int fi, .int la, .ref wA, .int wf, .int wl, .int lo, .int ov, .int un, .int aT, .int mi, .int ds, .ref dA, .int a0, .int xp, .ref iA, .int te])), (oA, .inl (cI, 300, .inl f))] H → va_D A [(h0, .inr (8, [.int th, .int we, .int wm, .int wy, .int ra, .ref tA, .int tn, .ref oA, .int on, .ref rA, .int fi, .int la, .ref wA, .int wf, .int wl, .int lo, .int ov, .int un, .int aT, .int mi, .int ds, .ref dA, .int a0, .int xp, .ref iA, .int te])), (oA, .inl (cI, 300, .inl f))] → va_S A s.heap H locs → W p l e ({ frames := 0, cells := 0, slots := 0, locals := 0 } : Room) s m ([.ref h0, .int x] : List Value).toArray below meth c H locs 0 0 (MQ below (va_Qv (fun (u : (Nat → Int32) × (Int32)) => TL u.1 u.2 (w ++ [cc])) (poG dC dI A (fun u : (Nat → Int32) × (Int32) => [(h0, .inr (8, [.int th, .int we, .int wm, .int wy, .int ra, .ref tA, .int tn, .ref oA, .int u.2, .ref rA, .int fi, .int la, .ref wA, .int wf, .int wl, .int lo, .int ov, .int un, .int aT, .int mi, .int ds, .ref dA, .int a0, .int xp, .ref iA, .int te])), (oA, .inl (cI, 300, .inl u.1))])) A) ([.ref h0, .int x] : List Value).toArray s 0 0 A) (F0 m 0 ls []) from h _ _ hP hD hS
  clear hP hD hS hH H
  intro H locs hP hD hS
  refine lv_aload_n hx hb d_Model_say_0 rfl (lv_at hl 0 rfl) ?_
  refine va_get (D := (dC, dI)) (ci := 8) (v := .ref oA) (C := R_Model) (T := F_Model) (N := 26) hx hb hts u_Model hown hK hP 0 rfl rfl 7 (by decide) (hts _ m_570) (fun _ h9 => h9) rfl d_Model_say_1 ?_
  refine lv_aload_n hx hb d_Model_say_4 rfl (lv_at hl 0 rfl) ?_
  refine va_get (D := (dC, dI)) (ci := 8) (v := .int on) (C := R_Model) (T := F_Model) (N := 26) hx hb hts u_Model hown hK hP 0 rfl rfl 8 (by decide) (hts _ m_571) (fun _ h9 => h9) rfl d_Model_say_5 ?_
  refine lv_iload_n hx hb d_Model_say_8 rfl (lv_at hl 1 rfl) ?_
  refine va_iast hx hb hK hP hD hS 1 0 rfl rfl (q_in hT.1 (by omega)) d_Model_say_9 (fun H locs hP hD hS => ?_)
  rw [q_cl (k := w.length) (hT.1)] at hP hD
  have hP : va_P (dC, dI) vwCl [(h0, .inr (8, [.int th, .int we, .int wm, .int wy, .int ra, .ref tA, .int tn, .ref oA, .int on, .ref rA, .int fi, .int la, .ref wA, .int wf, .int wl, .int lo, .int ov, .int un, .int aT, .int mi, .int ds, .ref dA, .int a0, .int xp, .ref iA, .int te])), (oA, .inl (cI, 300, .inl (upd f w.length x)))] H := hP
  have hD : va_D A [(h0, .inr (8, [.int th, .int we, .int wm, .int wy, .int ra, .ref tA, .int tn, .ref oA, .int on, .ref rA, .int fi, .int la, .ref wA, .int wf, .int wl, .int lo, .int ov, .int un, .int aT, .int mi, .int ds, .ref dA, .int a0, .int xp, .ref iA, .int te])), (oA, .inl (cI, 300, .inl (upd f w.length x)))] := hD
  refine lv_aload_n hx hb d_Model_say_10 rfl (lv_at hl 0 rfl) ?_
  refine lv_dup hx hb d_Model_say_11 rfl ?_
  refine va_get (D := (dC, dI)) (ci := 8) (v := .int on) (C := R_Model) (T := F_Model) (N := 26) hx hb hts u_Model hown hK hP 0 rfl rfl 8 (by decide) (hts _ m_571) (fun _ h9 => h9) rfl d_Model_say_12 ?_
  refine lv_iconst (v := 1) hx hb d_Model_say_15 (by decide) ?_
  refine lv_iadd hx hb d_Model_say_16 ?_
  refine lv_topi (fun v16 e16 => ?_)
  have t16 : v16.toInt = (w.length : Int) + 1 := by rw [e16]; exact q_iadd hT.1 (show (1 : Int32).toInt = 1 by decide) (by omega)
  refine va_put (D := (dC, dI)) (ci := 8) (v := .int v16) (ty := .int) (C := R_Model) (T := F_Model) (N := 26) hx hb hts u_Model t_Model t_Model_ok n_Model hown hK hP hD hS 0 rfl rfl 8 (by decide) (hts _ m_571) (fun _ h9 => h9) rfl (by decide +kernel) rfl rfl (Nat.le_of_ble_eq_true rfl) d_Model_say_17 (fun H locs hP hD hS => ?_)
  have hP : va_P (dC, dI) vwCl [(h0, .inr (8, [.int th, .int we, .int wm, .int wy, .int ra, .ref tA, .int tn, .ref oA, .int v16, .ref rA, .int fi, .int la, .ref wA, .int wf, .int wl, .int lo, .int ov, .int un, .int aT, .int mi, .int ds, .ref dA, .int a0, .int xp, .ref iA, .int te])), (oA, .inl (cI, 300, .inl (upd f w.length x)))] H := hP
  have hD : va_D A [(h0, .inr (8, [.int th, .int we, .int wm, .int wy, .int ra, .ref tA, .int tn, .ref oA, .int v16, .ref rA, .int fi, .int la, .ref wA, .int wf, .int wl, .int lo, .int ov, .int un, .int aT, .int mi, .int ds, .ref dA, .int a0, .int xp, .ref iA, .int te])), (oA, .inl (cI, 300, .inl (upd f w.length x)))] := hD
  exact Cv.ret C0 (u := (upd f w.length x, v16)) (Nat.le_of_ble_eq_true rfl) (Nat.le_of_ble_eq_true rfl) (by show TL (upd f w.length x) v16 (w ++ [cc]); rw [← tk_app hl160]; exact TL_add hT hl160 t16 hcc) hP hD hS [0, 1] (by decide) rfl d_Model_say_20
set_option maxHeartbeats 4000000 in
set_option maxRecDepth 100000 in
theorem c_Model_see (l : Launch) (dC : Nat → ClassId) (dI : Nat → Nat → Nat) (cI cB cJ : ClassId) (h0 : Nat) (th : Int32) (we : Int32) (wm : Int32) (wy : Int32) (ra : Int32) (tA : Nat) (tn : Int32) (oA : Nat) (on : Int32) (rA : Nat) (fi : Int32) (la : Int32) (wA : Nat) (wf : Int32) (wl : Int32) (lo : Int32) (ov : Int32) (un : Int32) (aT : Int32) (mi : Int32) (ds : Int32) (dA : Nat) (a0 : Int32) (xp : Int32) (iA : Nat) (te : Int32) (f : Nat → Int32) (T : Nat → Nat) (len : Nat) (x : Int32) (i : Nat) (hT : TP f tn T len) (hi0 : x.toInt = (i : Int)) : Ci l dC dI cI cB cJ y_Model_see w_Model_see ({ frames := 0, cells := 0, slots := 0, locals := 0 } : Room) [.ref h0, .int x] [(h0, .inr (8, [.int th, .int we, .int wm, .int wy, .int ra, .ref tA, .int tn, .ref oA, .int on, .ref rA, .int fi, .int la, .ref wA, .int wf, .int wl, .int lo, .int ov, .int un, .int aT, .int mi, .int ds, .ref dA, .int a0, .int xp, .ref iA, .int te])), (tA, .inl (cI, 60, .inl f))] (fun (r : Int32) (u : Unit) => r.toInt = ((sT T len i : Nat) : Int)) (fun u : Unit => [(h0, .inr (8, [.int th, .int we, .int wm, .int wy, .int ra, .ref tA, .int tn, .ref oA, .int on, .ref rA, .int fi, .int la, .ref wA, .int wf, .int wl, .int lo, .int ov, .int un, .int aT, .int mi, .int ds, .ref dA, .int a0, .int xp, .ref iA, .int te])), (tA, .inl (cI, 60, .inl f))]) := by
  refine Ci.intro (cc := b_Model_see) (maxL := 2) (plainFor_of_name (by decide)) rfl (Nat.le_of_ble_eq_true rfl) ?_
  intro p e s m below meth c A ls C0 hin hA hP hD hS hl
  obtain ⟨hx, hb, hml, hown, hts, hr, hlocks, hK, hN⟩ := id C0
  obtain ⟨H, hH⟩ : ∃ H, H = s.heap := ⟨_, rfl⟩
  have hP : va_P (dC, dI) vwCl [(h0, .inr (8, [.int th, .int we, .int wm, .int wy, .int ra, .ref tA, .int tn, .ref oA, .int on, .ref rA, .int fi, .int la, .ref wA, .int wf, .int wl, .int lo, .int ov, .int un, .int aT, .int mi, .int ds, .ref dA, .int a0, .int xp, .ref iA, .int te])), (tA, .inl (cI, 60, .inl f))] s.heap := hP
  have hl : lv_has ls 2 [(0, .ref h0), (1, .int x)] := hl
  have r_x := q_r32 x
  suffices h : ∀ (H : Heap) (locs : List Loc), va_P (dC, dI) vwCl [(h0, .inr (8, [.int th, .int we, .int wm, .int wy, .int ra, .ref tA, .int tn, .ref oA, .int on, .ref rA, .int fi, .int la, .ref wA, .int wf, .int wl, .int lo, .int ov, .int un, .int aT, .int mi, .int ds, .ref dA, .int a0, .int xp, .ref iA, .int te])), (tA, .inl (cI, 60, .inl f))] H → va_D A [(h0, .inr (8, [.int th, .int we, .int wm, .int wy, .int ra, .ref tA, .int tn, .ref oA, .int on, .ref rA, .int fi, .int la, .ref wA, .int wf, .int wl, .int lo, .int ov, .int un, .int aT, .int mi, .int ds, .ref dA, .int a0, .int xp, .ref iA, .int te])), (tA, .inl (cI, 60, .inl f))] → va_S A s.heap H locs → W p l e ({ frames := 0, cells := 0, slots := 0, locals := 0 } : Room) s m ([.ref h0, .int x] : List Value).toArray below meth c H locs 0 0 (MQ below (va_Qi (fun (r : Int32) (u : Unit) => r.toInt = ((sT T len i : Nat) : Int)) (poG dC dI A (fun u : Unit => [(h0, .inr (8, [.int th, .int we, .int wm, .int wy, .int ra, .ref tA, .int tn, .ref oA, .int on, .ref rA, .int fi, .int la, .ref wA, .int wf, .int wl, .int lo, .int ov, .int un, .int aT, .int mi, .int ds, .ref dA, .int a0, .int xp, .ref iA, .int te])), (tA, .inl (cI, 60, .inl f))])) A) ([.ref h0, .int x] : List Value).toArray s 0 0 A) (F0 m 0 ls []) from h _ _ hP hD hS
  clear hP hD hS hH H
  intro H locs hP hD hS
  have hn60 := hT.2.1
  refine lv_iload_n hx hb d_Model_see_0 rfl (lv_at hl 1 rfl) ?_
  refine lv_aload_n hx hb d_Model_see_1 rfl (lv_at hl 0 rfl) ?_
  refine va_get (D := (dC, dI)) (ci := 8) (v := .int tn) (C := R_Model) (T := F_Model) (N := 26) hx hb hts u_Model hown hK hP 0 rfl rfl 6 (by decide) (hts _ m_569) (fun _ h9 => h9) rfl d_Model_see_2 ?_
  refine lv_icmp_ge (tgt := 17) hx hb d_Model_see_5 (by decide) (fun b5 => ?_) (fun b5 => ?_)
  · skip
    rw [q_ile hT.1 hi0] at b5
    refine lv_iconst (v := 0) hx hb d_Model_see_17 (by decide) ?_
    exact Ci.ret C0 (v := 0) (u := ()) (Nat.le_of_ble_eq_true rfl) (Nat.le_of_ble_eq_true rfl) (by show (0 : Int32).toInt = ((sT T len i : Nat) : Int); rw [sT, if_neg (by omega)]; rfl) hP hD hS [0, 1] (by decide) rfl d_Model_see_18
  · skip
    rw [q_ile hT.1 hi0] at b5
    refine lv_aload_n hx hb d_Model_see_8 rfl (lv_at hl 0 rfl) ?_
    refine va_get (D := (dC, dI)) (ci := 8) (v := .ref tA) (C := R_Model) (T := F_Model) (N := 26) hx hb hts u_Model hown hK hP 0 rfl rfl 5 (by decide) (hts _ m_568) (fun _ h9 => h9) rfl d_Model_see_9 ?_
    refine lv_iload_n hx hb d_Model_see_12 rfl (lv_at hl 1 rfl) ?_
    refine va_iald hx hb hK hP 1 0 rfl rfl (q_in hi0 (by omega)) d_Model_see_13 ?_
    refine lv_topi (fun v13 e13 => ?_)
    rw [q_cl (k := i) (hi0)] at e13
    refine lv_goto (tgt := 18) hx hb d_Model_see_14 (by decide) ?_
    exact Ci.ret C0 (v := v13) (u := ()) (Nat.le_of_ble_eq_true rfl) (Nat.le_of_ble_eq_true rfl) (by show v13.toInt = ((sT T len i : Nat) : Int); rw [sT, if_pos (by omega), e13]; exact (hT.2.2 i (by omega)).1) hP hD hS [0, 1] (by decide) rfl d_Model_see_18
set_option maxHeartbeats 4000000 in
set_option maxRecDepth 100000 in
theorem L_Model_run_2 {p : Program} {l : Launch} {e : Env} {s : State} {m : MethodId} {below : List Frame} {meth : Method} {c : Code} {dC : Nat → ClassId} {dI : Nat → Nat → Nat} {cI cB cJ : ClassId} {A : Nat → Prop} (h0 : Nat) (th : Int32) (we : Int32) (wm : Int32) (wy : Int32) (ra : Int32) (tA : Nat) (tn : Int32) (oA : Nat) (on : Int32) (rA : Nat) (fi : Int32) (la : Int32) (wA : Nat) (wf : Int32) (wl : Int32) (lo : Int32) (ov : Int32) (un : Int32) (aT : Int32) (mi : Int32) (ds : Int32) (dA : Nat) (a0 : Int32) (xp : Int32) (iA : Nat) (te : Int32) (f : Nat → Int32) (T : Nat → Nat) (len : Nat) (g : Nat → Int32) (q0 : Nat) (d0 : Nat) (C0 : cx dC dI cI cB cJ R_Model b_Model_run 2 (some .int) p s m ([.ref h0] : List Value).toArray meth c) (hA : ∀ q : Nat, s.heap.size ≤ q → A q) (hT : TP f tn T len) (hq0 : aT.toInt = (q0 : Int)) (hq60 : q0 ≤ 100) (hd0 : ds.toInt = (d0 : Int)) (hd60 : d0 ≤ 100) : ∀ n : Nat, (∀ (x1 : Int32) (i : Nat) (aT1 : Int32) (ds1 : Int32) (k : Nat → Int32) (H : Heap) (locs : List Loc) (ls : Array Slot), 61 - i < n → x1.toInt = (i : Int) → (aT1.toInt = ((q0 + i : Nat) : Int)) → (ds1.toInt = ((d0 + i : Nat) : Int)) → (∀ j, j < i → isD T len (q0 + j)) → (∀ j, j < d0 → k j = g j) → (∀ j, j < i → d0 + j < 40 → (k (d0 + j)).toInt = (T (q0 + j) : Int) - 48) → (i ≤ 60) → va_P (dC, dI) vwCl [(h0, .inr (8, [.int th, .int we, .int wm, .int wy, .int ra, .ref tA, .int tn, .ref oA, .int on, .ref rA, .int fi, .int la, .ref wA, .int wf, .int wl, .int lo, .int ov, .int un, .int aT1, .int mi, .int ds1, .ref dA, .int a0, .int xp, .ref iA, .int te])), (tA, .inl (cI, 60, .inl f)), (dA, .inl (cI, 40, .inl k))] H → va_D A [(h0, .inr (8, [.int th, .int we, .int wm, .int wy, .int ra, .ref tA, .int tn, .ref oA, .int on, .ref rA, .int fi, .int la, .ref wA, .int wf, .int wl, .int lo, .int ov, .int un, .int aT1, .int mi, .int ds1, .ref dA, .int a0, .int xp, .ref iA, .int te])), (tA, .inl (cI, 60, .inl f)), (dA, .inl (cI, 40, .inl k))] → va_S A s.heap H locs → lv_has ls 2 [(1, .int x1), (0, .ref h0)] → W p l e ({ frames := 1, cells := 0, slots := 0, locals := 21 } : Room) s m ([.ref h0] : List Value).toArray below meth c H locs 0 0 (MQ below (va_Qi (fun (r : Int32) (u : (Nat → Int32) × (Int32) × (Int32)) => ∃ a : Nat, r.toInt = (a : Int) ∧ a = rl T len 61 q0 ∧ u.2.1.toInt = ((q0 + a : Nat) : Int) ∧ u.2.2.toInt = ((d0 + a : Nat) : Int) ∧ (∀ j, j < a → isD T len (q0 + j)) ∧ ¬ isD T len (q0 + a) ∧ (∀ j, j < d0 → u.1 j = g j) ∧ (∀ j, j < a → d0 + j < 40 → (u.1 (d0 + j)).toInt = (T (q0 + j) : Int) - 48)) (poG dC dI A (fun u : (Nat → Int32) × (Int32) × (Int32) => [(h0, .inr (8, [.int th, .int we, .int wm, .int wy, .int ra, .ref tA, .int tn, .ref oA, .int on, .ref rA, .int fi, .int la, .ref wA, .int wf, .int wl, .int lo, .int ov, .int un, .int u.2.1, .int mi, .int u.2.2, .ref dA, .int a0, .int xp, .ref iA, .int te])), (tA, .inl (cI, 60, .inl f)), (dA, .inl (cI, 40, .inl u.1))])) A) ([.ref h0] : List Value).toArray s 0 0 A) (F0 m 2 ls [])) := by
  obtain ⟨hx, hb, hml, hown, hts, hr, hlocks, hK, hN⟩ := id C0
  intro n
  induction n with
  | zero => exact fun _ _ _ _ _ _ _ _ h0 _ _ _ _ _ _ _ _ _ _ _ => absurd h0 (Nat.not_lt_zero _)
  | succ n ih =>
    intro x1 i aT1 ds1 k H locs ls hn9 t_x1 t_aT1 t_ds1 hall hk0 hkn hi60 hP hD hS hl
    have r_x1 := q_r32 x1
    have hn60 := hT.2.1
    refine lv_aload_n hx hb d_Model_run_2 rfl (lv_at hl 1 rfl) ?_
    refine lv_aload_n hx hb d_Model_run_3 rfl (lv_at hl 1 rfl) ?_
    refine va_get (D := (dC, dI)) (ci := 8) (v := .int aT1) (C := R_Model) (T := F_Model) (N := 26) hx hb hts u_Model hown hK hP 0 rfl rfl 18 (by decide) (hts _ m_581) (fun _ h9 => h9) rfl d_Model_run_4 ?_
    refine callV_i (wr := [(dA, .inl (cI, 40, .inl k))]) C0 (c_Model_see l dC dI cI cB cJ (h0) (th) (we) (wm) (wy) (ra) (tA) (tn) (oA) (on) (rA) (fi) (la) (wA) (wf) (wl) (lo) (ov) (un) (aT1) (mi) (ds1) (dA) (a0) (xp) (iA) (te) (f) (T) (len) (aT1) (q0 + i) (by exact hT) (by exact t_aT1)) (cwV 1 hts (gV m_647 m_648 m_20 m_55 m_649) rfl rfl rfl (by decide +kernel) ⟨Nat.le_of_ble_eq_true rfl, Nat.le_of_ble_eq_true rfl⟩) 8 rfl rfl 0 rfl hP hD hS hA [0, 1] [2] rfl rfl (by decide) (by decide) (by decide) rfl hl.1 rfl (Nat.le_of_ble_eq_true rfl) d_Model_run_7 ⟨Nat.le_of_ble_eq_true rfl, Nat.le_of_ble_eq_true rfl⟩ (fun r7 u7 H locs hw9 hP hD hS => ?_)
    have h7 : r7.toInt = ((sT T len (q0 + i) : Nat) : Int) := hw9
    have hP : va_P (dC, dI) vwCl [(dA, .inl (cI, 40, .inl k)), (h0, .inr (8, [.int th, .int we, .int wm, .int wy, .int ra, .ref tA, .int tn, .ref oA, .int on, .ref rA, .int fi, .int la, .ref wA, .int wf, .int wl, .int lo, .int ov, .int un, .int aT1, .int mi, .int ds1, .ref dA, .int a0, .int xp, .ref iA, .int te])), (tA, .inl (cI, 60, .inl f))] H := hP
    have hD : va_D A [(dA, .inl (cI, 40, .inl k)), (h0, .inr (8, [.int th, .int we, .int wm, .int wy, .int ra, .ref tA, .int tn, .ref oA, .int on, .ref rA, .int fi, .int la, .ref wA, .int wf, .int wl, .int lo, .int ov, .int un, .int aT1, .int mi, .int ds1, .ref dA, .int a0, .int xp, .ref iA, .int te])), (tA, .inl (cI, 60, .inl f))] := hD
    have t7 : r7.toInt = ((sT T len (q0 + i) : Nat) : Int) := h7
    refine callS_i (wr := [(dA, .inl (cI, 40, .inl k)), (h0, .inr (8, [.int th, .int we, .int wm, .int wy, .int ra, .ref tA, .int tn, .ref oA, .int on, .ref rA, .int fi, .int la, .ref wA, .int wf, .int wl, .int lo, .int ov, .int un, .int aT1, .int mi, .int ds1, .ref dA, .int a0, .int xp, .ref iA, .int te])), (tA, .inl (cI, 60, .inl f))]) C0 (c_Model_isDigit l dC dI cI cB cJ (r7)) (cwS 1 hts (gS m_653 m_654 m_55 m_655) rfl rfl rfl (by decide +kernel) ⟨Nat.le_of_ble_eq_true rfl, Nat.le_of_ble_eq_true rfl⟩) hP hD hS hA [] [0, 1, 2] rfl rfl (by decide) (by decide) (by decide) rfl hl.1 rfl (Nat.le_of_ble_eq_true rfl) d_Model_run_10 ⟨Nat.le_of_ble_eq_true rfl, Nat.le_of_ble_eq_true rfl⟩ (fun r10 u10 H locs hw9 hP hD hS => ?_)
    have h10 : r10 = if 48 ≤ r7.toInt ∧ r7.toInt ≤ 57 then 1 else 0 := hw9
    have hP : va_P (dC, dI) vwCl [(dA, .inl (cI, 40, .inl k)), (h0, .inr (8, [.int th, .int we, .int wm, .int wy, .int ra, .ref tA, .int tn, .ref oA, .int on, .ref rA, .int fi, .int la, .ref wA, .int wf, .int wl, .int lo, .int ov, .int un, .int aT1, .int mi, .int ds1, .ref dA, .int a0, .int xp, .ref iA, .int te])), (tA, .inl (cI, 60, .inl f))] H := hP
    have hD : va_D A [(dA, .inl (cI, 40, .inl k)), (h0, .inr (8, [.int th, .int we, .int wm, .int wy, .int ra, .ref tA, .int tn, .ref oA, .int on, .ref rA, .int fi, .int la, .ref wA, .int wf, .int wl, .int lo, .int ov, .int un, .int aT1, .int mi, .int ds1, .ref dA, .int a0, .int xp, .ref iA, .int te])), (tA, .inl (cI, 60, .inl f))] := hD
    refine lv_if_eq (tgt := 71) hx hb d_Model_run_13 (by decide) (fun b13 => ?_) (fun b13 => ?_)
    · skip
      have hnd : ¬ isD T len (q0 + i) := fun h => by rw [h7, if_pos (by have := isD_sT.mp h; omega)] at h10; rw [h10] at b13; exact absurd b13 (by decide)
      refine lv_iload_n hx hb d_Model_run_71 rfl (lv_at hl 0 rfl) ?_
      exact Ci.ret C0 (v := x1) (u := (k, aT1, ds1)) (Nat.le_of_ble_eq_true rfl) (Nat.le_of_ble_eq_true rfl) (by show ∃ a : Nat, x1.toInt = (a : Int) ∧ a = rl T len 61 q0 ∧ aT1.toInt = ((q0 + a : Nat) : Int) ∧ ds1.toInt = ((d0 + a : Nat) : Int) ∧ (∀ j, j < a → isD T len (q0 + j)) ∧ ¬ isD T len (q0 + a) ∧ (∀ j, j < d0 → k j = g j) ∧ (∀ j, j < a → d0 + j < 40 → (k (d0 + j)).toInt = (T (q0 + j) : Int) - 48); exact ⟨i, t_x1, (rl_eq (by omega) hall (Or.inr hnd)).symm, t_aT1, t_ds1, hall, hnd, hk0, hkn⟩) hP hD hS [1, 2, 0] (by decide) rfl d_Model_run_72
    · skip
      have hdg : isD T len (q0 + i) := isD_sT.mpr (Decidable.byContradiction fun h => b13 (by rw [h10, h7]; exact if_neg (by omega)))
      have hs7 := isD_sT.mp hdg
      refine lv_aload_n hx hb d_Model_run_16 rfl (lv_at hl 1 rfl) ?_
      refine va_get (D := (dC, dI)) (ci := 8) (v := .int ds1) (C := R_Model) (T := F_Model) (N := 26) hx hb hts u_Model hown hK hP 1 rfl rfl 20 (by decide) (hts _ m_583) (fun _ h9 => h9) rfl d_Model_run_17 ?_
      refine lv_bipush (v := 40) hx hb d_Model_run_20 (by decide) ?_
      refine lv_icmp_ge (tgt := 45) hx hb d_Model_run_22 (by decide) (fun b22 => ?_) (fun b22 => ?_)
      · skip
        rw [q_ile (show (40 : Int32).toInt = 40 by decide) t_ds1] at b22
        refine lv_aload_n hx hb d_Model_run_45 rfl (lv_at hl 1 rfl) ?_
        refine lv_dup hx hb d_Model_run_46 rfl ?_
        refine va_get (D := (dC, dI)) (ci := 8) (v := .int ds1) (C := R_Model) (T := F_Model) (N := 26) hx hb hts u_Model hown hK hP 1 rfl rfl 20 (by decide) (hts _ m_583) (fun _ h9 => h9) rfl d_Model_run_47 ?_
        refine lv_iconst (v := 1) hx hb d_Model_run_50 (by decide) ?_
        refine lv_iadd hx hb d_Model_run_51 ?_
        refine lv_topi (fun v51 e51 => ?_)
        have t51 : v51.toInt = (((d0 + i : Nat) : Int)) + 1 := by rw [e51]; exact q_iadd t_ds1 (show (1 : Int32).toInt = 1 by decide) (by omega)
        refine va_put (D := (dC, dI)) (ci := 8) (v := .int v51) (ty := .int) (C := R_Model) (T := F_Model) (N := 26) hx hb hts u_Model t_Model t_Model_ok n_Model hown hK hP hD hS 1 rfl rfl 20 (by decide) (hts _ m_583) (fun _ h9 => h9) rfl (by decide +kernel) rfl rfl (Nat.le_of_ble_eq_true rfl) d_Model_run_52 (fun H locs hP hD hS => ?_)
        have hP : va_P (dC, dI) vwCl [(dA, .inl (cI, 40, .inl k)), (h0, .inr (8, [.int th, .int we, .int wm, .int wy, .int ra, .ref tA, .int tn, .ref oA, .int on, .ref rA, .int fi, .int la, .ref wA, .int wf, .int wl, .int lo, .int ov, .int un, .int aT1, .int mi, .int v51, .ref dA, .int a0, .int xp, .ref iA, .int te])), (tA, .inl (cI, 60, .inl f))] H := hP
        have hD : va_D A [(dA, .inl (cI, 40, .inl k)), (h0, .inr (8, [.int th, .int we, .int wm, .int wy, .int ra, .ref tA, .int tn, .ref oA, .int on, .ref rA, .int fi, .int la, .ref wA, .int wf, .int wl, .int lo, .int ov, .int un, .int aT1, .int mi, .int v51, .ref dA, .int a0, .int xp, .ref iA, .int te])), (tA, .inl (cI, 60, .inl f))] := hD
        obtain ⟨v55, e55⟩ : ∃ y : Int32, y = x1 + 1 := ⟨_, rfl⟩
        have t55 : v55.toInt = (i : Int) + 1 := by rw [e55]; exact q_iadd t_x1 (show (1 : Int32).toInt = 1 by decide) (by omega)
        refine lv_iinc (v := v55) (lv' := [(1, .int v55), (0, .ref h0)]) hx hb d_Model_run_55 hl (k := 0) rfl (by rw [e55]; rfl) (by decide) rfl (fun ls hl => ?_)
        refine lv_aload_n hx hb d_Model_run_58 rfl (lv_at hl 1 rfl) ?_
        refine lv_dup hx hb d_Model_run_59 rfl ?_
        refine va_get (D := (dC, dI)) (ci := 8) (v := .int aT1) (C := R_Model) (T := F_Model) (N := 26) hx hb hts u_Model hown hK hP 1 rfl rfl 18 (by decide) (hts _ m_581) (fun _ h9 => h9) rfl d_Model_run_60 ?_
        refine lv_iconst (v := 1) hx hb d_Model_run_63 (by decide) ?_
        refine lv_iadd hx hb d_Model_run_64 ?_
        refine lv_topi (fun v64 e64 => ?_)
        have t64 : v64.toInt = (((q0 + i : Nat) : Int)) + 1 := by rw [e64]; exact q_iadd t_aT1 (show (1 : Int32).toInt = 1 by decide) (by omega)
        refine va_put (D := (dC, dI)) (ci := 8) (v := .int v64) (ty := .int) (C := R_Model) (T := F_Model) (N := 26) hx hb hts u_Model t_Model t_Model_ok n_Model hown hK hP hD hS 1 rfl rfl 18 (by decide) (hts _ m_581) (fun _ h9 => h9) rfl (by decide +kernel) rfl rfl (Nat.le_of_ble_eq_true rfl) d_Model_run_65 (fun H locs hP hD hS => ?_)
        have hP : va_P (dC, dI) vwCl [(dA, .inl (cI, 40, .inl k)), (h0, .inr (8, [.int th, .int we, .int wm, .int wy, .int ra, .ref tA, .int tn, .ref oA, .int on, .ref rA, .int fi, .int la, .ref wA, .int wf, .int wl, .int lo, .int ov, .int un, .int v64, .int mi, .int v51, .ref dA, .int a0, .int xp, .ref iA, .int te])), (tA, .inl (cI, 60, .inl f))] H := hP
        have hD : va_D A [(dA, .inl (cI, 40, .inl k)), (h0, .inr (8, [.int th, .int we, .int wm, .int wy, .int ra, .ref tA, .int tn, .ref oA, .int on, .ref rA, .int fi, .int la, .ref wA, .int wf, .int wl, .int lo, .int ov, .int un, .int v64, .int mi, .int v51, .ref dA, .int a0, .int xp, .ref iA, .int te])), (tA, .inl (cI, 60, .inl f))] := hD
        refine lv_goto (tgt := 2) hx hb d_Model_run_68 (by decide) ?_
        exact ih (v55) (i + 1) (v64) (v51) (k) H locs ls (by omega) ((t55).trans (by omega)) (by exact t64.trans (by omega)) (by exact t51.trans (by omega)) (by intro j hj; rcases Nat.lt_or_ge j i with h | h; exact hall j h; rw [show j = i by omega]; exact hdg) (by exact hk0) (by intro j hj h40; exact hkn j (by omega) h40) (by have h1 := hdg.1; omega) (va_Psub hP [1, 2, 0] rfl) (hD.sub [1, 2, 0] (by decide) rfl) hS (lv_sub hl [0, 1] rfl)
      · skip
        rw [q_ile (show (40 : Int32).toInt = 40 by decide) t_ds1] at b22
        refine lv_aload_n hx hb d_Model_run_25 rfl (lv_at hl 1 rfl) ?_
        refine va_get (D := (dC, dI)) (ci := 8) (v := .ref dA) (C := R_Model) (T := F_Model) (N := 26) hx hb hts u_Model hown hK hP 1 rfl rfl 21 (by decide) (hts _ m_584) (fun _ h9 => h9) rfl d_Model_run_26 ?_
        refine lv_aload_n hx hb d_Model_run_29 rfl (lv_at hl 1 rfl) ?_
        refine va_get (D := (dC, dI)) (ci := 8) (v := .int ds1) (C := R_Model) (T := F_Model) (N := 26) hx hb hts u_Model hown hK hP 1 rfl rfl 20 (by decide) (hts _ m_583) (fun _ h9 => h9) rfl d_Model_run_30 ?_
        refine lv_aload_n hx hb d_Model_run_33 rfl (lv_at hl 1 rfl) ?_
        refine lv_aload_n hx hb d_Model_run_34 rfl (lv_at hl 1 rfl) ?_
        refine va_get (D := (dC, dI)) (ci := 8) (v := .int aT1) (C := R_Model) (T := F_Model) (N := 26) hx hb hts u_Model hown hK hP 1 rfl rfl 18 (by decide) (hts _ m_581) (fun _ h9 => h9) rfl d_Model_run_35 ?_
        refine callV_i (wr := [(dA, .inl (cI, 40, .inl k))]) C0 (c_Model_see l dC dI cI cB cJ (h0) (th) (we) (wm) (wy) (ra) (tA) (tn) (oA) (on) (rA) (fi) (la) (wA) (wf) (wl) (lo) (ov) (un) (aT1) (mi) (ds1) (dA) (a0) (xp) (iA) (te) (f) (T) (len) (aT1) (q0 + i) (by exact hT) (by exact t_aT1)) (cwV 1 hts (gV m_647 m_648 m_20 m_55 m_649) rfl rfl rfl (by decide +kernel) ⟨Nat.le_of_ble_eq_true rfl, Nat.le_of_ble_eq_true rfl⟩) 8 rfl rfl 0 rfl hP hD hS hA [1, 2] [0] rfl rfl (by decide) (by decide) (by decide) rfl hl.1 rfl (Nat.le_of_ble_eq_true rfl) d_Model_run_38 ⟨Nat.le_of_ble_eq_true rfl, Nat.le_of_ble_eq_true rfl⟩ (fun r38 u38 H locs hw9 hP hD hS => ?_)
        have h38 : r38.toInt = ((sT T len (q0 + i) : Nat) : Int) := hw9
        have hP : va_P (dC, dI) vwCl [(dA, .inl (cI, 40, .inl k)), (h0, .inr (8, [.int th, .int we, .int wm, .int wy, .int ra, .ref tA, .int tn, .ref oA, .int on, .ref rA, .int fi, .int la, .ref wA, .int wf, .int wl, .int lo, .int ov, .int un, .int aT1, .int mi, .int ds1, .ref dA, .int a0, .int xp, .ref iA, .int te])), (tA, .inl (cI, 60, .inl f))] H := hP
        have hD : va_D A [(dA, .inl (cI, 40, .inl k)), (h0, .inr (8, [.int th, .int we, .int wm, .int wy, .int ra, .ref tA, .int tn, .ref oA, .int on, .ref rA, .int fi, .int la, .ref wA, .int wf, .int wl, .int lo, .int ov, .int un, .int aT1, .int mi, .int ds1, .ref dA, .int a0, .int xp, .ref iA, .int te])), (tA, .inl (cI, 60, .inl f))] := hD
        have t38 : r38.toInt = ((sT T len (q0 + i) : Nat) : Int) := h38
        refine lv_bipush (v := 48) hx hb d_Model_run_41 (by decide) ?_
        refine lv_isub hx hb d_Model_run_43 ?_
        refine lv_topi (fun v43 e43 => ?_)
        have t43 : v43.toInt = (((sT T len (q0 + i) : Nat) : Int)) - 48 := by rw [e43]; exact q_isub t38 (show (48 : Int32).toInt = 48 by decide) (by omega)
        refine va_iast hx hb hK hP hD hS 0 0 rfl rfl (q_in t_ds1 (by omega)) d_Model_run_44 (fun H locs hP hD hS => ?_)
        rw [q_cl (k := d0 + i) (t_ds1)] at hP hD
        have hP : va_P (dC, dI) vwCl [(dA, .inl (cI, 40, .inl (upd k (d0 + i) v43))), (h0, .inr (8, [.int th, .int we, .int wm, .int wy, .int ra, .ref tA, .int tn, .ref oA, .int on, .ref rA, .int fi, .int la, .ref wA, .int wf, .int wl, .int lo, .int ov, .int un, .int aT1, .int mi, .int ds1, .ref dA, .int a0, .int xp, .ref iA, .int te])), (tA, .inl (cI, 60, .inl f))] H := hP
        have hD : va_D A [(dA, .inl (cI, 40, .inl (upd k (d0 + i) v43))), (h0, .inr (8, [.int th, .int we, .int wm, .int wy, .int ra, .ref tA, .int tn, .ref oA, .int on, .ref rA, .int fi, .int la, .ref wA, .int wf, .int wl, .int lo, .int ov, .int un, .int aT1, .int mi, .int ds1, .ref dA, .int a0, .int xp, .ref iA, .int te])), (tA, .inl (cI, 60, .inl f))] := hD
        refine lv_aload_n hx hb d_Model_run_45 rfl (lv_at hl 1 rfl) ?_
        refine lv_dup hx hb d_Model_run_46 rfl ?_
        refine va_get (D := (dC, dI)) (ci := 8) (v := .int ds1) (C := R_Model) (T := F_Model) (N := 26) hx hb hts u_Model hown hK hP 1 rfl rfl 20 (by decide) (hts _ m_583) (fun _ h9 => h9) rfl d_Model_run_47 ?_
        refine lv_iconst (v := 1) hx hb d_Model_run_50 (by decide) ?_
        refine lv_iadd hx hb d_Model_run_51 ?_
        refine lv_topi (fun v51 e51 => ?_)
        have t51 : v51.toInt = (((d0 + i : Nat) : Int)) + 1 := by rw [e51]; exact q_iadd t_ds1 (show (1 : Int32).toInt = 1 by decide) (by omega)
        refine va_put (D := (dC, dI)) (ci := 8) (v := .int v51) (ty := .int) (C := R_Model) (T := F_Model) (N := 26) hx hb hts u_Model t_Model t_Model_ok n_Model hown hK hP hD hS 1 rfl rfl 20 (by decide) (hts _ m_583) (fun _ h9 => h9) rfl (by decide +kernel) rfl rfl (Nat.le_of_ble_eq_true rfl) d_Model_run_52 (fun H locs hP hD hS => ?_)
        have hP : va_P (dC, dI) vwCl [(dA, .inl (cI, 40, .inl (upd k (d0 + i) v43))), (h0, .inr (8, [.int th, .int we, .int wm, .int wy, .int ra, .ref tA, .int tn, .ref oA, .int on, .ref rA, .int fi, .int la, .ref wA, .int wf, .int wl, .int lo, .int ov, .int un, .int aT1, .int mi, .int v51, .ref dA, .int a0, .int xp, .ref iA, .int te])), (tA, .inl (cI, 60, .inl f))] H := hP
        have hD : va_D A [(dA, .inl (cI, 40, .inl (upd k (d0 + i) v43))), (h0, .inr (8, [.int th, .int we, .int wm, .int wy, .int ra, .ref tA, .int tn, .ref oA, .int on, .ref rA, .int fi, .int la, .ref wA, .int wf, .int wl, .int lo, .int ov, .int un, .int aT1, .int mi, .int v51, .ref dA, .int a0, .int xp, .ref iA, .int te])), (tA, .inl (cI, 60, .inl f))] := hD
        obtain ⟨v55, e55⟩ : ∃ y : Int32, y = x1 + 1 := ⟨_, rfl⟩
        have t55 : v55.toInt = (i : Int) + 1 := by rw [e55]; exact q_iadd t_x1 (show (1 : Int32).toInt = 1 by decide) (by omega)
        refine lv_iinc (v := v55) (lv' := [(1, .int v55), (0, .ref h0)]) hx hb d_Model_run_55 hl (k := 0) rfl (by rw [e55]; rfl) (by decide) rfl (fun ls hl => ?_)
        refine lv_aload_n hx hb d_Model_run_58 rfl (lv_at hl 1 rfl) ?_
        refine lv_dup hx hb d_Model_run_59 rfl ?_
        refine va_get (D := (dC, dI)) (ci := 8) (v := .int aT1) (C := R_Model) (T := F_Model) (N := 26) hx hb hts u_Model hown hK hP 1 rfl rfl 18 (by decide) (hts _ m_581) (fun _ h9 => h9) rfl d_Model_run_60 ?_
        refine lv_iconst (v := 1) hx hb d_Model_run_63 (by decide) ?_
        refine lv_iadd hx hb d_Model_run_64 ?_
        refine lv_topi (fun v64 e64 => ?_)
        have t64 : v64.toInt = (((q0 + i : Nat) : Int)) + 1 := by rw [e64]; exact q_iadd t_aT1 (show (1 : Int32).toInt = 1 by decide) (by omega)
        refine va_put (D := (dC, dI)) (ci := 8) (v := .int v64) (ty := .int) (C := R_Model) (T := F_Model) (N := 26) hx hb hts u_Model t_Model t_Model_ok n_Model hown hK hP hD hS 1 rfl rfl 18 (by decide) (hts _ m_581) (fun _ h9 => h9) rfl (by decide +kernel) rfl rfl (Nat.le_of_ble_eq_true rfl) d_Model_run_65 (fun H locs hP hD hS => ?_)
        have hP : va_P (dC, dI) vwCl [(dA, .inl (cI, 40, .inl (upd k (d0 + i) v43))), (h0, .inr (8, [.int th, .int we, .int wm, .int wy, .int ra, .ref tA, .int tn, .ref oA, .int on, .ref rA, .int fi, .int la, .ref wA, .int wf, .int wl, .int lo, .int ov, .int un, .int v64, .int mi, .int v51, .ref dA, .int a0, .int xp, .ref iA, .int te])), (tA, .inl (cI, 60, .inl f))] H := hP
        have hD : va_D A [(dA, .inl (cI, 40, .inl (upd k (d0 + i) v43))), (h0, .inr (8, [.int th, .int we, .int wm, .int wy, .int ra, .ref tA, .int tn, .ref oA, .int on, .ref rA, .int fi, .int la, .ref wA, .int wf, .int wl, .int lo, .int ov, .int un, .int v64, .int mi, .int v51, .ref dA, .int a0, .int xp, .ref iA, .int te])), (tA, .inl (cI, 60, .inl f))] := hD
        refine lv_goto (tgt := 2) hx hb d_Model_run_68 (by decide) ?_
        exact ih (v55) (i + 1) (v64) (v51) (upd k (d0 + i) v43) H locs ls (by omega) ((t55).trans (by omega)) (by exact t64.trans (by omega)) (by exact t51.trans (by omega)) (by intro j hj; rcases Nat.lt_or_ge j i with h | h; exact hall j h; rw [show j = i by omega]; exact hdg) (by intro j hj; rw [pk_un (by omega)]; exact hk0 j hj) (by intro j hj h40; rcases Nat.lt_or_ge j i with h | h; rw [pk_un (by omega)]; exact hkn j h h40; rw [show j = i by omega, pk_us, t43, sT_of hdg.1]) (by have h1 := hdg.1; omega) (va_Psub hP [1, 2, 0] rfl) (hD.sub [1, 2, 0] (by decide) rfl) hS (lv_sub hl [0, 1] rfl)
set_option maxHeartbeats 4000000 in
set_option maxRecDepth 100000 in
theorem c_Model_run (l : Launch) (dC : Nat → ClassId) (dI : Nat → Nat → Nat) (cI cB cJ : ClassId) (h0 : Nat) (th : Int32) (we : Int32) (wm : Int32) (wy : Int32) (ra : Int32) (tA : Nat) (tn : Int32) (oA : Nat) (on : Int32) (rA : Nat) (fi : Int32) (la : Int32) (wA : Nat) (wf : Int32) (wl : Int32) (lo : Int32) (ov : Int32) (un : Int32) (aT : Int32) (mi : Int32) (ds : Int32) (dA : Nat) (a0 : Int32) (xp : Int32) (iA : Nat) (te : Int32) (f : Nat → Int32) (T : Nat → Nat) (len : Nat) (g : Nat → Int32) (q0 : Nat) (d0 : Nat) (hT : TP f tn T len) (hq0 : aT.toInt = (q0 : Int)) (hq60 : q0 ≤ 100) (hd0 : ds.toInt = (d0 : Int)) (hd60 : d0 ≤ 100) : Ci l dC dI cI cB cJ y_Model_run w_Model_run ({ frames := 1, cells := 0, slots := 0, locals := 21 } : Room) [.ref h0] [(h0, .inr (8, [.int th, .int we, .int wm, .int wy, .int ra, .ref tA, .int tn, .ref oA, .int on, .ref rA, .int fi, .int la, .ref wA, .int wf, .int wl, .int lo, .int ov, .int un, .int aT, .int mi, .int ds, .ref dA, .int a0, .int xp, .ref iA, .int te])), (tA, .inl (cI, 60, .inl f)), (dA, .inl (cI, 40, .inl g))] (fun (r : Int32) (u : (Nat → Int32) × (Int32) × (Int32)) => ∃ a : Nat, r.toInt = (a : Int) ∧ a = rl T len 61 q0 ∧ u.2.1.toInt = ((q0 + a : Nat) : Int) ∧ u.2.2.toInt = ((d0 + a : Nat) : Int) ∧ (∀ j, j < a → isD T len (q0 + j)) ∧ ¬ isD T len (q0 + a) ∧ (∀ j, j < d0 → u.1 j = g j) ∧ (∀ j, j < a → d0 + j < 40 → (u.1 (d0 + j)).toInt = (T (q0 + j) : Int) - 48)) (fun u : (Nat → Int32) × (Int32) × (Int32) => [(h0, .inr (8, [.int th, .int we, .int wm, .int wy, .int ra, .ref tA, .int tn, .ref oA, .int on, .ref rA, .int fi, .int la, .ref wA, .int wf, .int wl, .int lo, .int ov, .int un, .int u.2.1, .int mi, .int u.2.2, .ref dA, .int a0, .int xp, .ref iA, .int te])), (tA, .inl (cI, 60, .inl f)), (dA, .inl (cI, 40, .inl u.1))]) := by
  refine Ci.intro (cc := b_Model_run) (maxL := 2) (plainFor_of_name (by decide)) rfl (Nat.le_of_ble_eq_true rfl) ?_
  intro p e s m below meth c A ls C0 hin hA hP hD hS hl
  obtain ⟨hx, hb, hml, hown, hts, hr, hlocks, hK, hN⟩ := id C0
  obtain ⟨H, hH⟩ : ∃ H, H = s.heap := ⟨_, rfl⟩
  have hP : va_P (dC, dI) vwCl [(h0, .inr (8, [.int th, .int we, .int wm, .int wy, .int ra, .ref tA, .int tn, .ref oA, .int on, .ref rA, .int fi, .int la, .ref wA, .int wf, .int wl, .int lo, .int ov, .int un, .int aT, .int mi, .int ds, .ref dA, .int a0, .int xp, .ref iA, .int te])), (tA, .inl (cI, 60, .inl f)), (dA, .inl (cI, 40, .inl g))] s.heap := hP
  have hl : lv_has ls 2 [(0, .ref h0)] := hl
  suffices h : ∀ (H : Heap) (locs : List Loc), va_P (dC, dI) vwCl [(h0, .inr (8, [.int th, .int we, .int wm, .int wy, .int ra, .ref tA, .int tn, .ref oA, .int on, .ref rA, .int fi, .int la, .ref wA, .int wf, .int wl, .int lo, .int ov, .int un, .int aT, .int mi, .int ds, .ref dA, .int a0, .int xp, .ref iA, .int te])), (tA, .inl (cI, 60, .inl f)), (dA, .inl (cI, 40, .inl g))] H → va_D A [(h0, .inr (8, [.int th, .int we, .int wm, .int wy, .int ra, .ref tA, .int tn, .ref oA, .int on, .ref rA, .int fi, .int la, .ref wA, .int wf, .int wl, .int lo, .int ov, .int un, .int aT, .int mi, .int ds, .ref dA, .int a0, .int xp, .ref iA, .int te])), (tA, .inl (cI, 60, .inl f)), (dA, .inl (cI, 40, .inl g))] → va_S A s.heap H locs → W p l e ({ frames := 1, cells := 0, slots := 0, locals := 21 } : Room) s m ([.ref h0] : List Value).toArray below meth c H locs 0 0 (MQ below (va_Qi (fun (r : Int32) (u : (Nat → Int32) × (Int32) × (Int32)) => ∃ a : Nat, r.toInt = (a : Int) ∧ a = rl T len 61 q0 ∧ u.2.1.toInt = ((q0 + a : Nat) : Int) ∧ u.2.2.toInt = ((d0 + a : Nat) : Int) ∧ (∀ j, j < a → isD T len (q0 + j)) ∧ ¬ isD T len (q0 + a) ∧ (∀ j, j < d0 → u.1 j = g j) ∧ (∀ j, j < a → d0 + j < 40 → (u.1 (d0 + j)).toInt = (T (q0 + j) : Int) - 48)) (poG dC dI A (fun u : (Nat → Int32) × (Int32) × (Int32) => [(h0, .inr (8, [.int th, .int we, .int wm, .int wy, .int ra, .ref tA, .int tn, .ref oA, .int on, .ref rA, .int fi, .int la, .ref wA, .int wf, .int wl, .int lo, .int ov, .int un, .int u.2.1, .int mi, .int u.2.2, .ref dA, .int a0, .int xp, .ref iA, .int te])), (tA, .inl (cI, 60, .inl f)), (dA, .inl (cI, 40, .inl u.1))])) A) ([.ref h0] : List Value).toArray s 0 0 A) (F0 m 0 ls []) from h _ _ hP hD hS
  clear hP hD hS hH H
  intro H locs hP hD hS
  have hn60 := hT.2.1
  refine lv_iconst (v := 0) hx hb d_Model_run_0 (by decide) ?_
  refine lv_istore_n (lv' := [(1, .int 0), (0, .ref h0)]) hx hb d_Model_run_1 rfl hl (by decide) rfl (fun ls hl => ?_)
  exact L_Model_run_2 (h0) (th) (we) (wm) (wy) (ra) (tA) (tn) (oA) (on) (rA) (fi) (la) (wA) (wf) (wl) (lo) (ov) (un) (aT) (mi) (ds) (dA) (a0) (xp) (iA) (te) (f) (T) (len) (g) (q0) (d0) C0 hA (hT) (hq0) (hq60) (hd0) (hd60) _ (0) (0) (aT) (ds) (g) H locs ls (Nat.lt_succ_self _) (((show (0 : Int32).toInt = 0 by decide)).trans (by omega)) (by exact hq0.trans (by omega)) (by exact hd0.trans (by omega)) (by intro j hj; omega) (by intro j hj; rfl) (by intro j hj; omega) (by omega) (va_Psub hP [0, 1, 2] rfl) (hD.sub [0, 1, 2] (by decide) rfl) hS (lv_sub hl [0, 1] rfl)
set_option maxHeartbeats 4000000 in
set_option maxRecDepth 100000 in
theorem L_Model_isDecimal_259 {p : Program} {l : Launch} {e : Env} {s : State} {m : MethodId} {below : List Frame} {meth : Method} {c : Code} {dC : Nat → ClassId} {dI : Nat → Nat → Nat} {cI cB cJ : ClassId} {A : Nat → Prop} (h0 : Nat) (th : Int32) (we : Int32) (wm : Int32) (wy : Int32) (ra : Int32) (tA : Nat) (tn : Int32) (oA : Nat) (on : Int32) (rA : Nat) (fi : Int32) (la : Int32) (wA : Nat) (wf : Int32) (wl : Int32) (lo : Int32) (ov : Int32) (un : Int32) (aT : Int32) (mi : Int32) (ds : Int32) (dA : Nat) (a0 : Int32) (xp : Int32) (iA : Nat) (te : Int32) (f : Nat → Int32) (T : Nat → Nat) (len : Nat) (g : Nat → Int32) (C0 : cx dC dI cI cB cJ R_Model b_Model_isDecimal 3 (some .boolean) p s m ([.ref h0] : List Value).toArray meth c) (hA : ∀ q : Nat, s.heap.size ≤ q → A q) (hT : TP f tn T len) : (∀ (k : Nat → Int32) (aT1 : Int32) (ds1 : Int32) (a01 : Int32) (xp1 : Int32) (mi1 : Int32) (q1 : Nat) (H : Heap) (locs : List Loc) (ls : Array Slot), (mi1.toInt = (pS T len : Int)) → (ds1.toInt = ((pA T len + pB T len : Nat) : Int)) → (a01.toInt = (pA T len : Int)) → (DG T len k) → (pA T len ≠ 0 ∧ (pD T len → pB T len ≠ 0)) → (pA T len + pB T len ≤ 40) → (aT1.toInt = ((q1 : Nat) : Int)) → (endE T len q1 xp1.toInt) → va_P (dC, dI) vwCl [(h0, .inr (8, [.int th, .int we, .int wm, .int wy, .int ra, .ref tA, .int tn, .ref oA, .int on, .ref rA, .int fi, .int la, .ref wA, .int wf, .int wl, .int lo, .int ov, .int un, .int aT1, .int mi1, .int ds1, .ref dA, .int a01, .int xp1, .ref iA, .int te])), (tA, .inl (cI, 60, .inl f)), (dA, .inl (cI, 40, .inl k))] H → va_D A [(h0, .inr (8, [.int th, .int we, .int wm, .int wy, .int ra, .ref tA, .int tn, .ref oA, .int on, .ref rA, .int fi, .int la, .ref wA, .int wf, .int wl, .int lo, .int ov, .int un, .int aT1, .int mi1, .int ds1, .ref dA, .int a01, .int xp1, .ref iA, .int te])), (tA, .inl (cI, 60, .inl f)), (dA, .inl (cI, 40, .inl k))] → va_S A s.heap H locs → lv_has ls 3 [(0, .ref h0)] → W p l e ({ frames := 2, cells := 0, slots := 0, locals := 42 } : Room) s m ([.ref h0] : List Value).toArray below meth c H locs 0 0 (MQ below (va_Qi (fun (r : Int32) (u : (Nat → Int32) × (Int32) × (Int32) × (Int32) × (Int32) × (Int32)) => (r = 1 ∧ isDec T len ∧ u.2.2.2.2.2.toInt = (pS T len : Int) ∧ u.2.2.1.toInt = ((pA T len + pB T len : Nat) : Int) ∧ u.2.2.2.1.toInt = (pA T len : Int) ∧ u.2.2.2.2.1.toInt = xE T len (pQ T len) ∧ DG T len u.1) ∨ (r = 0 ∧ ¬ isDec T len)) (poG dC dI A (fun u : (Nat → Int32) × (Int32) × (Int32) × (Int32) × (Int32) × (Int32) => [(h0, .inr (8, [.int th, .int we, .int wm, .int wy, .int ra, .ref tA, .int tn, .ref oA, .int on, .ref rA, .int fi, .int la, .ref wA, .int wf, .int wl, .int lo, .int ov, .int un, .int u.2.1, .int u.2.2.2.2.2, .int u.2.2.1, .ref dA, .int u.2.2.2.1, .int u.2.2.2.2.1, .ref iA, .int te])), (tA, .inl (cI, 60, .inl f)), (dA, .inl (cI, 40, .inl u.1))])) A) ([.ref h0] : List Value).toArray s 0 0 A) (F0 m 259 ls [])) := by
  obtain ⟨hx, hb, hml, hown, hts, hr, hlocks, hK, hN⟩ := id C0
  intro k aT1 ds1 a01 xp1 mi1 q1 H locs ls t_mi1 t_ds1 t_a01 hDG hOD h40 t_aT1 hend hP hD hS hl
  have hn60 := hT.2.1
  have hpS := pS_le T len
  have hpQ := pQ_le T len
  refine lv_aload_n hx hb d_Model_isDecimal_259 rfl (lv_at hl 0 rfl) ?_
  refine va_get (D := (dC, dI)) (ci := 8) (v := .int aT1) (C := R_Model) (T := F_Model) (N := 26) hx hb hts u_Model hown hK hP 0 rfl rfl 18 (by decide) (hts _ m_581) (fun _ h9 => h9) rfl d_Model_isDecimal_260 ?_
  refine lv_aload_n hx hb d_Model_isDecimal_263 rfl (lv_at hl 0 rfl) ?_
  refine va_get (D := (dC, dI)) (ci := 8) (v := .int tn) (C := R_Model) (T := F_Model) (N := 26) hx hb hts u_Model hown hK hP 0 rfl rfl 6 (by decide) (hts _ m_569) (fun _ h9 => h9) rfl d_Model_isDecimal_264 ?_
  refine lv_icmp_ne (tgt := 274) hx hb d_Model_isDecimal_267 (by decide) (fun b267 => ?_) (fun b267 => ?_)
  · skip
    rw [q_ieq t_aT1 hT.1] at b267
    refine lv_iconst (v := 0) hx hb d_Model_isDecimal_274 (by decide) ?_
    exact Cz.ret C0 (v := 0) (u := (k, aT1, ds1, a01, xp1, mi1)) (by rfl) (Nat.le_of_ble_eq_true rfl) (Nat.le_of_ble_eq_true rfl) (by show ((0 : Int32) = 1 ∧ isDec T len ∧ mi1.toInt = (pS T len : Int) ∧ ds1.toInt = ((pA T len + pB T len : Nat) : Int) ∧ a01.toInt = (pA T len : Int) ∧ xp1.toInt = xE T len (pQ T len) ∧ DG T len k) ∨ ((0 : Int32) = 0 ∧ ¬ isDec T len); exact Or.inr ⟨rfl, fun h => b267 (by have h3 := hend.1.mpr h.2; omega)⟩) hP hD hS [0, 1, 2] (by decide) rfl d_Model_isDecimal_275
  · skip
    rw [q_ieq t_aT1 hT.1] at b267
    refine lv_iconst (v := 1) hx hb d_Model_isDecimal_270 (by decide) ?_
    refine lv_goto (tgt := 275) hx hb d_Model_isDecimal_271 (by decide) ?_
    exact Cz.ret C0 (v := 1) (u := (k, aT1, ds1, a01, xp1, mi1)) (by rfl) (Nat.le_of_ble_eq_true rfl) (Nat.le_of_ble_eq_true rfl) (by show ((1 : Int32) = 1 ∧ isDec T len ∧ mi1.toInt = (pS T len : Int) ∧ ds1.toInt = ((pA T len + pB T len : Nat) : Int) ∧ a01.toInt = (pA T len : Int) ∧ xp1.toInt = xE T len (pQ T len) ∧ DG T len k) ∨ ((1 : Int32) = 0 ∧ ¬ isDec T len); exact Or.inl ⟨rfl, ⟨⟨hOD.1, hOD.2, h40⟩, hend.1.mp (by omega)⟩, t_mi1, t_ds1, t_a01, hend.2 (hend.1.mp (by omega)), hDG⟩) hP hD hS [0, 1, 2] (by decide) rfl d_Model_isDecimal_275
set_option maxHeartbeats 4000000 in
set_option maxRecDepth 100000 in
theorem L_Model_isDecimal_182 {p : Program} {l : Launch} {e : Env} {s : State} {m : MethodId} {below : List Frame} {meth : Method} {c : Code} {dC : Nat → ClassId} {dI : Nat → Nat → Nat} {cI cB cJ : ClassId} {A : Nat → Prop} (h0 : Nat) (th : Int32) (we : Int32) (wm : Int32) (wy : Int32) (ra : Int32) (tA : Nat) (tn : Int32) (oA : Nat) (on : Int32) (rA : Nat) (fi : Int32) (la : Int32) (wA : Nat) (wf : Int32) (wl : Int32) (lo : Int32) (ov : Int32) (un : Int32) (aT : Int32) (mi : Int32) (ds : Int32) (dA : Nat) (a0 : Int32) (xp : Int32) (iA : Nat) (te : Int32) (f : Nat → Int32) (T : Nat → Nat) (len : Nat) (g : Nat → Int32) (C0 : cx dC dI cI cB cJ R_Model b_Model_isDecimal 3 (some .boolean) p s m ([.ref h0] : List Value).toArray meth c) (hA : ∀ q : Nat, s.heap.size ≤ q → A q) (hT : TP f tn T len) : ∀ n : Nat, (∀ (k : Nat → Int32) (aT1 : Int32) (ds1 : Int32) (a01 : Int32) (xp1 : Int32) (mi1 : Int32) (x1 : Int32) (x2 : Int32) (i : Nat) (H : Heap) (locs : List Loc) (ls : Array Slot), 4 - i < n → x2.toInt = (i : Int) → (mi1.toInt = (pS T len : Int)) → (ds1.toInt = ((pA T len + pB T len : Nat) : Int)) → (a01.toInt = (pA T len : Int)) → (DG T len k) → (pA T len ≠ 0 ∧ (pD T len → pB T len ≠ 0)) → (pA T len + pB T len ≤ 40) → (sT T len (pQ T len) = 101) → (aT1.toInt = ((pQ T len + 1 + eS T len (pQ T len) + i : Nat) : Int)) → ((x1 = 1 ∧ eN T len (pQ T len)) ∨ (x1 = 0 ∧ ¬ eN T len (pQ T len))) → (xp1.toInt = (dvl T (pQ T len + 1 + eS T len (pQ T len)) i : Int)) → (∀ j, j < i → isD T len (pQ T len + 1 + eS T len (pQ T len) + j)) → (i ≤ 3) → (dvl T (pQ T len + 1 + eS T len (pQ T len)) i < 1000) → va_P (dC, dI) vwCl [(h0, .inr (8, [.int th, .int we, .int wm, .int wy, .int ra, .ref tA, .int tn, .ref oA, .int on, .ref rA, .int fi, .int la, .ref wA, .int wf, .int wl, .int lo, .int ov, .int un, .int aT1, .int mi1, .int ds1, .ref dA, .int a01, .int xp1, .ref iA, .int te])), (tA, .inl (cI, 60, .inl f)), (dA, .inl (cI, 40, .inl k))] H → va_D A [(h0, .inr (8, [.int th, .int we, .int wm, .int wy, .int ra, .ref tA, .int tn, .ref oA, .int on, .ref rA, .int fi, .int la, .ref wA, .int wf, .int wl, .int lo, .int ov, .int un, .int aT1, .int mi1, .int ds1, .ref dA, .int a01, .int xp1, .ref iA, .int te])), (tA, .inl (cI, 60, .inl f)), (dA, .inl (cI, 40, .inl k))] → va_S A s.heap H locs → lv_has ls 3 [(2, .int x2), (1, .int x1), (0, .ref h0)] → W p l e ({ frames := 2, cells := 0, slots := 0, locals := 42 } : Room) s m ([.ref h0] : List Value).toArray below meth c H locs 0 0 (MQ below (va_Qi (fun (r : Int32) (u : (Nat → Int32) × (Int32) × (Int32) × (Int32) × (Int32) × (Int32)) => (r = 1 ∧ isDec T len ∧ u.2.2.2.2.2.toInt = (pS T len : Int) ∧ u.2.2.1.toInt = ((pA T len + pB T len : Nat) : Int) ∧ u.2.2.2.1.toInt = (pA T len : Int) ∧ u.2.2.2.2.1.toInt = xE T len (pQ T len) ∧ DG T len u.1) ∨ (r = 0 ∧ ¬ isDec T len)) (poG dC dI A (fun u : (Nat → Int32) × (Int32) × (Int32) × (Int32) × (Int32) × (Int32) => [(h0, .inr (8, [.int th, .int we, .int wm, .int wy, .int ra, .ref tA, .int tn, .ref oA, .int on, .ref rA, .int fi, .int la, .ref wA, .int wf, .int wl, .int lo, .int ov, .int un, .int u.2.1, .int u.2.2.2.2.2, .int u.2.2.1, .ref dA, .int u.2.2.2.1, .int u.2.2.2.2.1, .ref iA, .int te])), (tA, .inl (cI, 60, .inl f)), (dA, .inl (cI, 40, .inl u.1))])) A) ([.ref h0] : List Value).toArray s 0 0 A) (F0 m 182 ls [])) := by
  obtain ⟨hx, hb, hml, hown, hts, hr, hlocks, hK, hN⟩ := id C0
  intro n
  induction n with
  | zero => exact fun _ _ _ _ _ _ _ _ _ _ _ _ h0 _ _ _ _ _ _ _ _ _ _ _ _ _ _ _ _ _ _ => absurd h0 (Nat.not_lt_zero _)
  | succ n ih =>
    intro k aT1 ds1 a01 xp1 mi1 x1 x2 i H locs ls hn9 t_x2 t_mi1 t_ds1 t_a01 hDG hOD h40 h101 t_aT1 hx1 t_xp1 hall hi3 hdv hP hD hS hl
    have r_x2 := q_r32 x2
    have hn60 := hT.2.1
    have hpS := pS_le T len
    have hpQ := pQ_le T len
    refine lv_iload_n hx hb d_Model_isDecimal_182 rfl (lv_at hl 0 rfl) ?_
    refine lv_iconst (v := 3) hx hb d_Model_isDecimal_183 (by decide) ?_
    refine lv_icmp_ge (tgt := 240) hx hb d_Model_isDecimal_184 (by decide) (fun b184 => ?_) (fun b184 => ?_)
    · skip
      rw [q_ile (show (3 : Int32).toInt = 3 by decide) t_x2] at b184
      refine lv_iload_n hx hb d_Model_isDecimal_240 rfl (lv_at hl 0 rfl) ?_
      refine lv_if_ne (tgt := 246) hx hb d_Model_isDecimal_241 (by decide) (fun b241 => ?_) (fun b241 => ?_)
      · skip
        rw [q_ieq t_x2 (show (0 : Int32).toInt = 0 by decide)] at b241
        refine lv_iload_n hx hb d_Model_isDecimal_246 rfl (lv_at hl 1 rfl) ?_
        refine lv_if_eq (tgt := 259) hx hb d_Model_isDecimal_247 (by decide) (fun b247 => ?_) (fun b247 => ?_)
        · skip
          exact L_Model_isDecimal_259 (h0) (th) (we) (wm) (wy) (ra) (tA) (tn) (oA) (on) (rA) (fi) (la) (wA) (wf) (wl) (lo) (ov) (un) (aT) (mi) (ds) (dA) (a0) (xp) (iA) (te) (f) (T) (len) (g) C0 hA (hT) (k) (aT1) (ds1) (a01) (xp1) (mi1) (pQ T len + 1 + eS T len (pQ T len) + i) H locs ls (by exact t_mi1) (by exact t_ds1) (by exact t_a01) (by exact hDG) (by exact hOD) (by exact h40) (by exact t_aT1) (by exact endE_yes hn60 h101 hi3 hall (Or.inl (by omega)) (by omega) (Or.inr ⟨hx1.elim (fun h => absurd (b247.symm.trans h.1) (by decide)) (fun h => h.2), t_xp1⟩)) (va_Psub hP [0, 1, 2] rfl) (hD.sub [0, 1, 2] (by decide) rfl) hS (lv_sub hl [2] rfl)
        · skip
          refine lv_aload_n hx hb d_Model_isDecimal_250 rfl (lv_at hl 2 rfl) ?_
          refine lv_aload_n hx hb d_Model_isDecimal_251 rfl (lv_at hl 2 rfl) ?_
          refine va_get (D := (dC, dI)) (ci := 8) (v := .int xp1) (C := R_Model) (T := F_Model) (N := 26) hx hb hts u_Model hown hK hP 0 rfl rfl 23 (by decide) (hts _ m_586) (fun _ h9 => h9) rfl d_Model_isDecimal_252 ?_
          refine lv_ineg hx hb d_Model_isDecimal_255 ?_
          refine lv_topi (fun v255 e255 => ?_)
          have t255 : v255.toInt = -((dvl T (pQ T len + 1 + eS T len (pQ T len)) i : Int)) := by rw [e255]; exact q_ineg t_xp1 (by omega)
          refine va_put (D := (dC, dI)) (ci := 8) (v := .int v255) (ty := .int) (C := R_Model) (T := F_Model) (N := 26) hx hb hts u_Model t_Model t_Model_ok n_Model hown hK hP hD hS 0 rfl rfl 23 (by decide) (hts _ m_586) (fun _ h9 => h9) rfl (by decide +kernel) rfl rfl (Nat.le_of_ble_eq_true rfl) d_Model_isDecimal_256 (fun H locs hP hD hS => ?_)
          have hP : va_P (dC, dI) vwCl [(h0, .inr (8, [.int th, .int we, .int wm, .int wy, .int ra, .ref tA, .int tn, .ref oA, .int on, .ref rA, .int fi, .int la, .ref wA, .int wf, .int wl, .int lo, .int ov, .int un, .int aT1, .int mi1, .int ds1, .ref dA, .int a01, .int v255, .ref iA, .int te])), (tA, .inl (cI, 60, .inl f)), (dA, .inl (cI, 40, .inl k))] H := hP
          have hD : va_D A [(h0, .inr (8, [.int th, .int we, .int wm, .int wy, .int ra, .ref tA, .int tn, .ref oA, .int on, .ref rA, .int fi, .int la, .ref wA, .int wf, .int wl, .int lo, .int ov, .int un, .int aT1, .int mi1, .int ds1, .ref dA, .int a01, .int v255, .ref iA, .int te])), (tA, .inl (cI, 60, .inl f)), (dA, .inl (cI, 40, .inl k))] := hD
          exact L_Model_isDecimal_259 (h0) (th) (we) (wm) (wy) (ra) (tA) (tn) (oA) (on) (rA) (fi) (la) (wA) (wf) (wl) (lo) (ov) (un) (aT) (mi) (ds) (dA) (a0) (xp) (iA) (te) (f) (T) (len) (g) C0 hA (hT) (k) (aT1) (ds1) (a01) (v255) (mi1) (pQ T len + 1 + eS T len (pQ T len) + i) H locs ls (by exact t_mi1) (by exact t_ds1) (by exact t_a01) (by exact hDG) (by exact hOD) (by exact h40) (by exact t_aT1) (by exact endE_yes hn60 h101 hi3 hall (Or.inl (by omega)) (by omega) (Or.inl ⟨hx1.elim (fun h => h.2) (fun h => absurd h.1 b247), t255⟩)) (va_Psub hP [0, 1, 2] rfl) (hD.sub [0, 1, 2] (by decide) rfl) hS (lv_sub hl [2] rfl)
      · skip
        rw [q_ieq t_x2 (show (0 : Int32).toInt = 0 by decide)] at b241
        exact absurd b241 (by omega)
    · skip
      rw [q_ile (show (3 : Int32).toInt = 3 by decide) t_x2] at b184
      refine lv_aload_n hx hb d_Model_isDecimal_187 rfl (lv_at hl 2 rfl) ?_
      refine lv_aload_n hx hb d_Model_isDecimal_188 rfl (lv_at hl 2 rfl) ?_
      refine va_get (D := (dC, dI)) (ci := 8) (v := .int aT1) (C := R_Model) (T := F_Model) (N := 26) hx hb hts u_Model hown hK hP 0 rfl rfl 18 (by decide) (hts _ m_581) (fun _ h9 => h9) rfl d_Model_isDecimal_189 ?_
      refine callV_i (wr := [(dA, .inl (cI, 40, .inl k))]) C0 (c_Model_see l dC dI cI cB cJ (h0) (th) (we) (wm) (wy) (ra) (tA) (tn) (oA) (on) (rA) (fi) (la) (wA) (wf) (wl) (lo) (ov) (un) (aT1) (mi1) (ds1) (dA) (a01) (xp1) (iA) (te) (f) (T) (len) (aT1) (pQ T len + 1 + eS T len (pQ T len) + i) (by exact hT) (by exact t_aT1)) (cwV 1 hts (gV m_647 m_648 m_20 m_55 m_649) rfl rfl rfl (by decide +kernel) ⟨Nat.le_of_ble_eq_true rfl, Nat.le_of_ble_eq_true rfl⟩) 8 rfl rfl 0 rfl hP hD hS hA [0, 1] [2] rfl rfl (by decide) (by decide) (by decide) rfl hl.1 rfl (Nat.le_of_ble_eq_true rfl) d_Model_isDecimal_192 ⟨Nat.le_of_ble_eq_true rfl, Nat.le_of_ble_eq_true rfl⟩ (fun r192 u192 H locs hw9 hP hD hS => ?_)
      have h192 : r192.toInt = ((sT T len (pQ T len + 1 + eS T len (pQ T len) + i) : Nat) : Int) := hw9
      have hP : va_P (dC, dI) vwCl [(dA, .inl (cI, 40, .inl k)), (h0, .inr (8, [.int th, .int we, .int wm, .int wy, .int ra, .ref tA, .int tn, .ref oA, .int on, .ref rA, .int fi, .int la, .ref wA, .int wf, .int wl, .int lo, .int ov, .int un, .int aT1, .int mi1, .int ds1, .ref dA, .int a01, .int xp1, .ref iA, .int te])), (tA, .inl (cI, 60, .inl f))] H := hP
      have hD : va_D A [(dA, .inl (cI, 40, .inl k)), (h0, .inr (8, [.int th, .int we, .int wm, .int wy, .int ra, .ref tA, .int tn, .ref oA, .int on, .ref rA, .int fi, .int la, .ref wA, .int wf, .int wl, .int lo, .int ov, .int un, .int aT1, .int mi1, .int ds1, .ref dA, .int a01, .int xp1, .ref iA, .int te])), (tA, .inl (cI, 60, .inl f))] := hD
      have t192 : r192.toInt = ((sT T len (pQ T len + 1 + eS T len (pQ T len) + i) : Nat) : Int) := h192
      refine callS_i (wr := [(dA, .inl (cI, 40, .inl k)), (h0, .inr (8, [.int th, .int we, .int wm, .int wy, .int ra, .ref tA, .int tn, .ref oA, .int on, .ref rA, .int fi, .int la, .ref wA, .int wf, .int wl, .int lo, .int ov, .int un, .int aT1, .int mi1, .int ds1, .ref dA, .int a01, .int xp1, .ref iA, .int te])), (tA, .inl (cI, 60, .inl f))]) C0 (c_Model_isDigit l dC dI cI cB cJ (r192)) (cwS 1 hts (gS m_653 m_654 m_55 m_655) rfl rfl rfl (by decide +kernel) ⟨Nat.le_of_ble_eq_true rfl, Nat.le_of_ble_eq_true rfl⟩) hP hD hS hA [] [0, 1, 2] rfl rfl (by decide) (by decide) (by decide) rfl hl.1 rfl (Nat.le_of_ble_eq_true rfl) d_Model_isDecimal_195 ⟨Nat.le_of_ble_eq_true rfl, Nat.le_of_ble_eq_true rfl⟩ (fun r195 u195 H locs hw9 hP hD hS => ?_)
      have h195 : r195 = if 48 ≤ r192.toInt ∧ r192.toInt ≤ 57 then 1 else 0 := hw9
      have hP : va_P (dC, dI) vwCl [(dA, .inl (cI, 40, .inl k)), (h0, .inr (8, [.int th, .int we, .int wm, .int wy, .int ra, .ref tA, .int tn, .ref oA, .int on, .ref rA, .int fi, .int la, .ref wA, .int wf, .int wl, .int lo, .int ov, .int un, .int aT1, .int mi1, .int ds1, .ref dA, .int a01, .int xp1, .ref iA, .int te])), (tA, .inl (cI, 60, .inl f))] H := hP
      have hD : va_D A [(dA, .inl (cI, 40, .inl k)), (h0, .inr (8, [.int th, .int we, .int wm, .int wy, .int ra, .ref tA, .int tn, .ref oA, .int on, .ref rA, .int fi, .int la, .ref wA, .int wf, .int wl, .int lo, .int ov, .int un, .int aT1, .int mi1, .int ds1, .ref dA, .int a01, .int xp1, .ref iA, .int te])), (tA, .inl (cI, 60, .inl f))] := hD
      refine lv_if_eq (tgt := 240) hx hb d_Model_isDecimal_198 (by decide) (fun b198 => ?_) (fun b198 => ?_)
      · skip
        have hnd : ¬ isD T len (pQ T len + 1 + eS T len (pQ T len) + i) := fun h => by rw [h192, if_pos (by have := isD_sT.mp h; omega)] at h195; rw [h195] at b198; exact absurd b198 (by decide)
        refine lv_iload_n hx hb d_Model_isDecimal_240 rfl (lv_at hl 0 rfl) ?_
        refine lv_if_ne (tgt := 246) hx hb d_Model_isDecimal_241 (by decide) (fun b241 => ?_) (fun b241 => ?_)
        · skip
          rw [q_ieq t_x2 (show (0 : Int32).toInt = 0 by decide)] at b241
          refine lv_iload_n hx hb d_Model_isDecimal_246 rfl (lv_at hl 1 rfl) ?_
          refine lv_if_eq (tgt := 259) hx hb d_Model_isDecimal_247 (by decide) (fun b247 => ?_) (fun b247 => ?_)
          · skip
            exact L_Model_isDecimal_259 (h0) (th) (we) (wm) (wy) (ra) (tA) (tn) (oA) (on) (rA) (fi) (la) (wA) (wf) (wl) (lo) (ov) (un) (aT) (mi) (ds) (dA) (a0) (xp) (iA) (te) (f) (T) (len) (g) C0 hA (hT) (k) (aT1) (ds1) (a01) (xp1) (mi1) (pQ T len + 1 + eS T len (pQ T len) + i) H locs ls (by exact t_mi1) (by exact t_ds1) (by exact t_a01) (by exact hDG) (by exact hOD) (by exact h40) (by exact t_aT1) (by exact endE_yes hn60 h101 hi3 hall (Or.inr hnd) (by omega) (Or.inr ⟨hx1.elim (fun h => absurd (b247.symm.trans h.1) (by decide)) (fun h => h.2), t_xp1⟩)) (va_Psub hP [1, 2, 0] rfl) (hD.sub [1, 2, 0] (by decide) rfl) hS (lv_sub hl [2] rfl)
          · skip
            refine lv_aload_n hx hb d_Model_isDecimal_250 rfl (lv_at hl 2 rfl) ?_
            refine lv_aload_n hx hb d_Model_isDecimal_251 rfl (lv_at hl 2 rfl) ?_
            refine va_get (D := (dC, dI)) (ci := 8) (v := .int xp1) (C := R_Model) (T := F_Model) (N := 26) hx hb hts u_Model hown hK hP 1 rfl rfl 23 (by decide) (hts _ m_586) (fun _ h9 => h9) rfl d_Model_isDecimal_252 ?_
            refine lv_ineg hx hb d_Model_isDecimal_255 ?_
            refine lv_topi (fun v255 e255 => ?_)
            have t255 : v255.toInt = -((dvl T (pQ T len + 1 + eS T len (pQ T len)) i : Int)) := by rw [e255]; exact q_ineg t_xp1 (by omega)
            refine va_put (D := (dC, dI)) (ci := 8) (v := .int v255) (ty := .int) (C := R_Model) (T := F_Model) (N := 26) hx hb hts u_Model t_Model t_Model_ok n_Model hown hK hP hD hS 1 rfl rfl 23 (by decide) (hts _ m_586) (fun _ h9 => h9) rfl (by decide +kernel) rfl rfl (Nat.le_of_ble_eq_true rfl) d_Model_isDecimal_256 (fun H locs hP hD hS => ?_)
            have hP : va_P (dC, dI) vwCl [(dA, .inl (cI, 40, .inl k)), (h0, .inr (8, [.int th, .int we, .int wm, .int wy, .int ra, .ref tA, .int tn, .ref oA, .int on, .ref rA, .int fi, .int la, .ref wA, .int wf, .int wl, .int lo, .int ov, .int un, .int aT1, .int mi1, .int ds1, .ref dA, .int a01, .int v255, .ref iA, .int te])), (tA, .inl (cI, 60, .inl f))] H := hP
            have hD : va_D A [(dA, .inl (cI, 40, .inl k)), (h0, .inr (8, [.int th, .int we, .int wm, .int wy, .int ra, .ref tA, .int tn, .ref oA, .int on, .ref rA, .int fi, .int la, .ref wA, .int wf, .int wl, .int lo, .int ov, .int un, .int aT1, .int mi1, .int ds1, .ref dA, .int a01, .int v255, .ref iA, .int te])), (tA, .inl (cI, 60, .inl f))] := hD
            exact L_Model_isDecimal_259 (h0) (th) (we) (wm) (wy) (ra) (tA) (tn) (oA) (on) (rA) (fi) (la) (wA) (wf) (wl) (lo) (ov) (un) (aT) (mi) (ds) (dA) (a0) (xp) (iA) (te) (f) (T) (len) (g) C0 hA (hT) (k) (aT1) (ds1) (a01) (v255) (mi1) (pQ T len + 1 + eS T len (pQ T len) + i) H locs ls (by exact t_mi1) (by exact t_ds1) (by exact t_a01) (by exact hDG) (by exact hOD) (by exact h40) (by exact t_aT1) (by exact endE_yes hn60 h101 hi3 hall (Or.inr hnd) (by omega) (Or.inl ⟨hx1.elim (fun h => h.2) (fun h => absurd h.1 b247), t255⟩)) (va_Psub hP [1, 2, 0] rfl) (hD.sub [1, 2, 0] (by decide) rfl) hS (lv_sub hl [2] rfl)
        · skip
          rw [q_ieq t_x2 (show (0 : Int32).toInt = 0 by decide)] at b241
          refine lv_iconst (v := 0) hx hb d_Model_isDecimal_244 (by decide) ?_
          exact Cz.ret C0 (v := 0) (u := (k, aT1, ds1, a01, xp1, mi1)) (by rfl) (Nat.le_of_ble_eq_true rfl) (Nat.le_of_ble_eq_true rfl) (by show ((0 : Int32) = 1 ∧ isDec T len ∧ mi1.toInt = (pS T len : Int) ∧ ds1.toInt = ((pA T len + pB T len : Nat) : Int) ∧ a01.toInt = (pA T len : Int) ∧ xp1.toInt = xE T len (pQ T len) ∧ DG T len k) ∨ ((0 : Int32) = 0 ∧ ¬ isDec T len); exact Or.inr ⟨rfl, fun h => endE_none h101 (by rw [show i = 0 by omega] at hnd; exact hnd) h.2⟩) hP hD hS [1, 2, 0] (by decide) rfl d_Model_isDecimal_245
      · skip
        have hdg : isD T len (pQ T len + 1 + eS T len (pQ T len) + i) := isD_sT.mpr (Decidable.byContradiction fun h => b198 (by rw [h195, h192]; exact if_neg (by omega)))
        have hs7 := isD_sT.mp hdg
        refine lv_aload_n hx hb d_Model_isDecimal_201 rfl (lv_at hl 2 rfl) ?_
        refine lv_bipush (v := 10) hx hb d_Model_isDecimal_202 (by decide) ?_
        refine lv_aload_n hx hb d_Model_isDecimal_204 rfl (lv_at hl 2 rfl) ?_
        refine va_get (D := (dC, dI)) (ci := 8) (v := .int xp1) (C := R_Model) (T := F_Model) (N := 26) hx hb hts u_Model hown hK hP 1 rfl rfl 23 (by decide) (hts _ m_586) (fun _ h9 => h9) rfl d_Model_isDecimal_205 ?_
        refine lv_imul hx hb d_Model_isDecimal_208 ?_
        refine lv_topi (fun v208 e208 => ?_)
        have t208 : v208.toInt = 10 * ((dvl T (pQ T len + 1 + eS T len (pQ T len)) i : Int)) := by rw [e208]; exact q_imul (show (10 : Int32).toInt = 10 by decide) t_xp1 (by omega)
        refine lv_aload_n hx hb d_Model_isDecimal_209 rfl (lv_at hl 2 rfl) ?_
        refine lv_aload_n hx hb d_Model_isDecimal_210 rfl (lv_at hl 2 rfl) ?_
        refine va_get (D := (dC, dI)) (ci := 8) (v := .int aT1) (C := R_Model) (T := F_Model) (N := 26) hx hb hts u_Model hown hK hP 1 rfl rfl 18 (by decide) (hts _ m_581) (fun _ h9 => h9) rfl d_Model_isDecimal_211 ?_
        refine callV_i (wr := [(dA, .inl (cI, 40, .inl k))]) C0 (c_Model_see l dC dI cI cB cJ (h0) (th) (we) (wm) (wy) (ra) (tA) (tn) (oA) (on) (rA) (fi) (la) (wA) (wf) (wl) (lo) (ov) (un) (aT1) (mi1) (ds1) (dA) (a01) (xp1) (iA) (te) (f) (T) (len) (aT1) (pQ T len + 1 + eS T len (pQ T len) + i) (by exact hT) (by exact t_aT1)) (cwV 1 hts (gV m_647 m_648 m_20 m_55 m_649) rfl rfl rfl (by decide +kernel) ⟨Nat.le_of_ble_eq_true rfl, Nat.le_of_ble_eq_true rfl⟩) 8 rfl rfl 0 rfl hP hD hS hA [1, 2] [0] rfl rfl (by decide) (by decide) (by decide) rfl hl.1 rfl (Nat.le_of_ble_eq_true rfl) d_Model_isDecimal_214 ⟨Nat.le_of_ble_eq_true rfl, Nat.le_of_ble_eq_true rfl⟩ (fun r214 u214 H locs hw9 hP hD hS => ?_)
        have h214 : r214.toInt = ((sT T len (pQ T len + 1 + eS T len (pQ T len) + i) : Nat) : Int) := hw9
        have hP : va_P (dC, dI) vwCl [(dA, .inl (cI, 40, .inl k)), (h0, .inr (8, [.int th, .int we, .int wm, .int wy, .int ra, .ref tA, .int tn, .ref oA, .int on, .ref rA, .int fi, .int la, .ref wA, .int wf, .int wl, .int lo, .int ov, .int un, .int aT1, .int mi1, .int ds1, .ref dA, .int a01, .int xp1, .ref iA, .int te])), (tA, .inl (cI, 60, .inl f))] H := hP
        have hD : va_D A [(dA, .inl (cI, 40, .inl k)), (h0, .inr (8, [.int th, .int we, .int wm, .int wy, .int ra, .ref tA, .int tn, .ref oA, .int on, .ref rA, .int fi, .int la, .ref wA, .int wf, .int wl, .int lo, .int ov, .int un, .int aT1, .int mi1, .int ds1, .ref dA, .int a01, .int xp1, .ref iA, .int te])), (tA, .inl (cI, 60, .inl f))] := hD
        have t214 : r214.toInt = ((sT T len (pQ T len + 1 + eS T len (pQ T len) + i) : Nat) : Int) := h214
        refine lv_iadd hx hb d_Model_isDecimal_217 ?_
        refine lv_topi (fun v217 e217 => ?_)
        have t217 : v217.toInt = (10 * ((dvl T (pQ T len + 1 + eS T len (pQ T len)) i : Int))) + (((sT T len (pQ T len + 1 + eS T len (pQ T len) + i) : Nat) : Int)) := by rw [e217]; exact q_iadd t208 t214 (by omega)
        refine lv_bipush (v := 48) hx hb d_Model_isDecimal_218 (by decide) ?_
        refine lv_isub hx hb d_Model_isDecimal_220 ?_
        refine lv_topi (fun v220 e220 => ?_)
        have t220 : v220.toInt = ((10 * ((dvl T (pQ T len + 1 + eS T len (pQ T len)) i : Int))) + (((sT T len (pQ T len + 1 + eS T len (pQ T len) + i) : Nat) : Int))) - 48 := by rw [e220]; exact q_isub t217 (show (48 : Int32).toInt = 48 by decide) (by omega)
        refine va_put (D := (dC, dI)) (ci := 8) (v := .int v220) (ty := .int) (C := R_Model) (T := F_Model) (N := 26) hx hb hts u_Model t_Model t_Model_ok n_Model hown hK hP hD hS 1 rfl rfl 23 (by decide) (hts _ m_586) (fun _ h9 => h9) rfl (by decide +kernel) rfl rfl (Nat.le_of_ble_eq_true rfl) d_Model_isDecimal_221 (fun H locs hP hD hS => ?_)
        have hP : va_P (dC, dI) vwCl [(dA, .inl (cI, 40, .inl k)), (h0, .inr (8, [.int th, .int we, .int wm, .int wy, .int ra, .ref tA, .int tn, .ref oA, .int on, .ref rA, .int fi, .int la, .ref wA, .int wf, .int wl, .int lo, .int ov, .int un, .int aT1, .int mi1, .int ds1, .ref dA, .int a01, .int v220, .ref iA, .int te])), (tA, .inl (cI, 60, .inl f))] H := hP
        have hD : va_D A [(dA, .inl (cI, 40, .inl k)), (h0, .inr (8, [.int th, .int we, .int wm, .int wy, .int ra, .ref tA, .int tn, .ref oA, .int on, .ref rA, .int fi, .int la, .ref wA, .int wf, .int wl, .int lo, .int ov, .int un, .int aT1, .int mi1, .int ds1, .ref dA, .int a01, .int v220, .ref iA, .int te])), (tA, .inl (cI, 60, .inl f))] := hD
        refine lv_aload_n hx hb d_Model_isDecimal_224 rfl (lv_at hl 2 rfl) ?_
        refine lv_dup hx hb d_Model_isDecimal_225 rfl ?_
        refine va_get (D := (dC, dI)) (ci := 8) (v := .int aT1) (C := R_Model) (T := F_Model) (N := 26) hx hb hts u_Model hown hK hP 1 rfl rfl 18 (by decide) (hts _ m_581) (fun _ h9 => h9) rfl d_Model_isDecimal_226 ?_
        refine lv_iconst (v := 1) hx hb d_Model_isDecimal_229 (by decide) ?_
        refine lv_iadd hx hb d_Model_isDecimal_230 ?_
        refine lv_topi (fun v230 e230 => ?_)
        have t230 : v230.toInt = (((pQ T len + 1 + eS T len (pQ T len) + i : Nat) : Int)) + 1 := by rw [e230]; exact q_iadd t_aT1 (show (1 : Int32).toInt = 1 by decide) (by omega)
        refine va_put (D := (dC, dI)) (ci := 8) (v := .int v230) (ty := .int) (C := R_Model) (T := F_Model) (N := 26) hx hb hts u_Model t_Model t_Model_ok n_Model hown hK hP hD hS 1 rfl rfl 18 (by decide) (hts _ m_581) (fun _ h9 => h9) rfl (by decide +kernel) rfl rfl (Nat.le_of_ble_eq_true rfl) d_Model_isDecimal_231 (fun H locs hP hD hS => ?_)
        have hP : va_P (dC, dI) vwCl [(dA, .inl (cI, 40, .inl k)), (h0, .inr (8, [.int th, .int we, .int wm, .int wy, .int ra, .ref tA, .int tn, .ref oA, .int on, .ref rA, .int fi, .int la, .ref wA, .int wf, .int wl, .int lo, .int ov, .int un, .int v230, .int mi1, .int ds1, .ref dA, .int a01, .int v220, .ref iA, .int te])), (tA, .inl (cI, 60, .inl f))] H := hP
        have hD : va_D A [(dA, .inl (cI, 40, .inl k)), (h0, .inr (8, [.int th, .int we, .int wm, .int wy, .int ra, .ref tA, .int tn, .ref oA, .int on, .ref rA, .int fi, .int la, .ref wA, .int wf, .int wl, .int lo, .int ov, .int un, .int v230, .int mi1, .int ds1, .ref dA, .int a01, .int v220, .ref iA, .int te])), (tA, .inl (cI, 60, .inl f))] := hD
        obtain ⟨v234, e234⟩ : ∃ y : Int32, y = x2 + 1 := ⟨_, rfl⟩
        have t234 : v234.toInt = (i : Int) + 1 := by rw [e234]; exact q_iadd t_x2 (show (1 : Int32).toInt = 1 by decide) (by omega)
        refine lv_iinc (v := v234) (lv' := [(2, .int v234), (1, .int x1), (0, .ref h0)]) hx hb d_Model_isDecimal_234 hl (k := 0) rfl (by rw [e234]; rfl) (by decide) rfl (fun ls hl => ?_)
        refine lv_goto (tgt := 182) hx hb d_Model_isDecimal_237 (by decide) ?_
        have hst := sT_of (T := T) hdg.1
        have hds := dvl_step t_xp1 hdg
        have hd1 := dvl_lt (T := T) (n := len) (i := pQ T len + 1 + eS T len (pQ T len)) (k := i + 1) (fun j hj => (Nat.lt_or_ge j i).elim (fun h => hall j h) (fun h => by rw [show j = i by omega]; exact hdg))
        have hd2 : 10 ^ (i + 1) ≤ 10 ^ 3 := Nat.pow_le_pow_right (by decide) (by omega)
        have hd3 : (10 : Nat) ^ 3 = 1000 := by decide
        exact ih (k) (v230) (ds1) (a01) (v220) (mi1) (x1) (v234) (i + 1) H locs ls (by omega) ((t234).trans (by omega)) (by exact t_mi1) (by exact t_ds1) (by exact t_a01) (by exact hDG) (by exact hOD) (by exact h40) (by exact h101) (by exact t230.trans (by omega)) (by exact hx1) (by rw [t220]; omega) (by intro j hj; rcases Nat.lt_or_ge j i with h | h; exact hall j h; rw [show j = i by omega]; exact hdg) (by omega) (by omega) (va_Psub hP [1, 2, 0] rfl) (hD.sub [1, 2, 0] (by decide) rfl) hS (lv_sub hl [0, 1, 2] rfl)
set_option maxHeartbeats 4000000 in
set_option maxRecDepth 100000 in
theorem L_Model_isDecimal_180 {p : Program} {l : Launch} {e : Env} {s : State} {m : MethodId} {below : List Frame} {meth : Method} {c : Code} {dC : Nat → ClassId} {dI : Nat → Nat → Nat} {cI cB cJ : ClassId} {A : Nat → Prop} (h0 : Nat) (th : Int32) (we : Int32) (wm : Int32) (wy : Int32) (ra : Int32) (tA : Nat) (tn : Int32) (oA : Nat) (on : Int32) (rA : Nat) (fi : Int32) (la : Int32) (wA : Nat) (wf : Int32) (wl : Int32) (lo : Int32) (ov : Int32) (un : Int32) (aT : Int32) (mi : Int32) (ds : Int32) (dA : Nat) (a0 : Int32) (xp : Int32) (iA : Nat) (te : Int32) (f : Nat → Int32) (T : Nat → Nat) (len : Nat) (g : Nat → Int32) (C0 : cx dC dI cI cB cJ R_Model b_Model_isDecimal 3 (some .boolean) p s m ([.ref h0] : List Value).toArray meth c) (hA : ∀ q : Nat, s.heap.size ≤ q → A q) (hT : TP f tn T len) : (∀ (k : Nat → Int32) (aT1 : Int32) (ds1 : Int32) (a01 : Int32) (mi1 : Int32) (x1 : Int32) (H : Heap) (locs : List Loc) (ls : Array Slot), (mi1.toInt = (pS T len : Int)) → (ds1.toInt = ((pA T len + pB T len : Nat) : Int)) → (a01.toInt = (pA T len : Int)) → (DG T len k) → (pA T len ≠ 0 ∧ (pD T len → pB T len ≠ 0)) → (pA T len + pB T len ≤ 40) → (sT T len (pQ T len) = 101) → (aT1.toInt = ((pQ T len + 1 + eS T len (pQ T len) : Nat) : Int)) → ((x1 = 1 ∧ eN T len (pQ T len)) ∨ (x1 = 0 ∧ ¬ eN T len (pQ T len))) → va_P (dC, dI) vwCl [(h0, .inr (8, [.int th, .int we, .int wm, .int wy, .int ra, .ref tA, .int tn, .ref oA, .int on, .ref rA, .int fi, .int la, .ref wA, .int wf, .int wl, .int lo, .int ov, .int un, .int aT1, .int mi1, .int ds1, .ref dA, .int a01, .int 0, .ref iA, .int te])), (tA, .inl (cI, 60, .inl f)), (dA, .inl (cI, 40, .inl k))] H → va_D A [(h0, .inr (8, [.int th, .int we, .int wm, .int wy, .int ra, .ref tA, .int tn, .ref oA, .int on, .ref rA, .int fi, .int la, .ref wA, .int wf, .int wl, .int lo, .int ov, .int un, .int aT1, .int mi1, .int ds1, .ref dA, .int a01, .int 0, .ref iA, .int te])), (tA, .inl (cI, 60, .inl f)), (dA, .inl (cI, 40, .inl k))] → va_S A s.heap H locs → lv_has ls 3 [(1, .int x1), (0, .ref h0)] → W p l e ({ frames := 2, cells := 0, slots := 0, locals := 42 } : Room) s m ([.ref h0] : List Value).toArray below meth c H locs 0 0 (MQ below (va_Qi (fun (r : Int32) (u : (Nat → Int32) × (Int32) × (Int32) × (Int32) × (Int32) × (Int32)) => (r = 1 ∧ isDec T len ∧ u.2.2.2.2.2.toInt = (pS T len : Int) ∧ u.2.2.1.toInt = ((pA T len + pB T len : Nat) : Int) ∧ u.2.2.2.1.toInt = (pA T len : Int) ∧ u.2.2.2.2.1.toInt = xE T len (pQ T len) ∧ DG T len u.1) ∨ (r = 0 ∧ ¬ isDec T len)) (poG dC dI A (fun u : (Nat → Int32) × (Int32) × (Int32) × (Int32) × (Int32) × (Int32) => [(h0, .inr (8, [.int th, .int we, .int wm, .int wy, .int ra, .ref tA, .int tn, .ref oA, .int on, .ref rA, .int fi, .int la, .ref wA, .int wf, .int wl, .int lo, .int ov, .int un, .int u.2.1, .int u.2.2.2.2.2, .int u.2.2.1, .ref dA, .int u.2.2.2.1, .int u.2.2.2.2.1, .ref iA, .int te])), (tA, .inl (cI, 60, .inl f)), (dA, .inl (cI, 40, .inl u.1))])) A) ([.ref h0] : List Value).toArray s 0 0 A) (F0 m 180 ls [])) := by
  obtain ⟨hx, hb, hml, hown, hts, hr, hlocks, hK, hN⟩ := id C0
  intro k aT1 ds1 a01 mi1 x1 H locs ls t_mi1 t_ds1 t_a01 hDG hOD h40 h101 t_aT1 hx1 hP hD hS hl
  have hn60 := hT.2.1
  have hpS := pS_le T len
  have hpQ := pQ_le T len
  refine lv_iconst (v := 0) hx hb d_Model_isDecimal_180 (by decide) ?_
  refine lv_istore_n (lv' := [(2, .int 0), (1, .int x1), (0, .ref h0)]) hx hb d_Model_isDecimal_181 rfl hl (by decide) rfl (fun ls hl => ?_)
  exact L_Model_isDecimal_182 (h0) (th) (we) (wm) (wy) (ra) (tA) (tn) (oA) (on) (rA) (fi) (la) (wA) (wf) (wl) (lo) (ov) (un) (aT) (mi) (ds) (dA) (a0) (xp) (iA) (te) (f) (T) (len) (g) C0 hA (hT) _ (k) (aT1) (ds1) (a01) (0) (mi1) (x1) (0) (0) H locs ls (Nat.lt_succ_self _) (((show (0 : Int32).toInt = 0 by decide)).trans (by omega)) (by exact t_mi1) (by exact t_ds1) (by exact t_a01) (by exact hDG) (by exact hOD) (by exact h40) (by exact h101) (by exact t_aT1.trans (by omega)) (by exact hx1) (by rfl) (by intro j hj; omega) (by omega) (by show (0 : Nat) < 1000; decide) (va_Psub hP [0, 1, 2] rfl) (hD.sub [0, 1, 2] (by decide) rfl) hS (lv_sub hl [0, 1, 2] rfl)
set_option maxHeartbeats 4000000 in
set_option maxRecDepth 100000 in
theorem L_Model_isDecimal_100 {p : Program} {l : Launch} {e : Env} {s : State} {m : MethodId} {below : List Frame} {meth : Method} {c : Code} {dC : Nat → ClassId} {dI : Nat → Nat → Nat} {cI cB cJ : ClassId} {A : Nat → Prop} (h0 : Nat) (th : Int32) (we : Int32) (wm : Int32) (wy : Int32) (ra : Int32) (tA : Nat) (tn : Int32) (oA : Nat) (on : Int32) (rA : Nat) (fi : Int32) (la : Int32) (wA : Nat) (wf : Int32) (wl : Int32) (lo : Int32) (ov : Int32) (un : Int32) (aT : Int32) (mi : Int32) (ds : Int32) (dA : Nat) (a0 : Int32) (xp : Int32) (iA : Nat) (te : Int32) (f : Nat → Int32) (T : Nat → Nat) (len : Nat) (g : Nat → Int32) (C0 : cx dC dI cI cB cJ R_Model b_Model_isDecimal 3 (some .boolean) p s m ([.ref h0] : List Value).toArray meth c) (hA : ∀ q : Nat, s.heap.size ≤ q → A q) (hT : TP f tn T len) : (∀ (k : Nat → Int32) (aT1 : Int32) (ds1 : Int32) (a01 : Int32) (mi1 : Int32) (H : Heap) (locs : List Loc) (ls : Array Slot), (mi1.toInt = (pS T len : Int)) → (ds1.toInt = ((pA T len + pB T len : Nat) : Int)) → (a01.toInt = (pA T len : Int)) → (DG T len k) → (pA T len ≠ 0 ∧ (pD T len → pB T len ≠ 0)) → (aT1.toInt = ((pQ T len : Nat) : Int)) → (pQ T len ≤ len) → va_P (dC, dI) vwCl [(h0, .inr (8, [.int th, .int we, .int wm, .int wy, .int ra, .ref tA, .int tn, .ref oA, .int on, .ref rA, .int fi, .int la, .ref wA, .int wf, .int wl, .int lo, .int ov, .int un, .int aT1, .int mi1, .int ds1, .ref dA, .int a01, .int 0, .ref iA, .int te])), (tA, .inl (cI, 60, .inl f)), (dA, .inl (cI, 40, .inl k))] H → va_D A [(h0, .inr (8, [.int th, .int we, .int wm, .int wy, .int ra, .ref tA, .int tn, .ref oA, .int on, .ref rA, .int fi, .int la, .ref wA, .int wf, .int wl, .int lo, .int ov, .int un, .int aT1, .int mi1, .int ds1, .ref dA, .int a01, .int 0, .ref iA, .int te])), (tA, .inl (cI, 60, .inl f)), (dA, .inl (cI, 40, .inl k))] → va_S A s.heap H locs → lv_has ls 3 [(0, .ref h0)] → W p l e ({ frames := 2, cells := 0, slots := 0, locals := 42 } : Room) s m ([.ref h0] : List Value).toArray below meth c H locs 0 0 (MQ below (va_Qi (fun (r : Int32) (u : (Nat → Int32) × (Int32) × (Int32) × (Int32) × (Int32) × (Int32)) => (r = 1 ∧ isDec T len ∧ u.2.2.2.2.2.toInt = (pS T len : Int) ∧ u.2.2.1.toInt = ((pA T len + pB T len : Nat) : Int) ∧ u.2.2.2.1.toInt = (pA T len : Int) ∧ u.2.2.2.2.1.toInt = xE T len (pQ T len) ∧ DG T len u.1) ∨ (r = 0 ∧ ¬ isDec T len)) (poG dC dI A (fun u : (Nat → Int32) × (Int32) × (Int32) × (Int32) × (Int32) × (Int32) => [(h0, .inr (8, [.int th, .int we, .int wm, .int wy, .int ra, .ref tA, .int tn, .ref oA, .int on, .ref rA, .int fi, .int la, .ref wA, .int wf, .int wl, .int lo, .int ov, .int un, .int u.2.1, .int u.2.2.2.2.2, .int u.2.2.1, .ref dA, .int u.2.2.2.1, .int u.2.2.2.2.1, .ref iA, .int te])), (tA, .inl (cI, 60, .inl f)), (dA, .inl (cI, 40, .inl u.1))])) A) ([.ref h0] : List Value).toArray s 0 0 A) (F0 m 100 ls [])) := by
  obtain ⟨hx, hb, hml, hown, hts, hr, hlocks, hK, hN⟩ := id C0
  intro k aT1 ds1 a01 mi1 H locs ls t_mi1 t_ds1 t_a01 hDG hOD t_aT1 hqn hP hD hS hl
  have hn60 := hT.2.1
  have hpS := pS_le T len
  have hpQ := pQ_le T len
  refine lv_aload_n hx hb d_Model_isDecimal_100 rfl (lv_at hl 0 rfl) ?_
  refine va_get (D := (dC, dI)) (ci := 8) (v := .int ds1) (C := R_Model) (T := F_Model) (N := 26) hx hb hts u_Model hown hK hP 0 rfl rfl 20 (by decide) (hts _ m_583) (fun _ h9 => h9) rfl d_Model_isDecimal_101 ?_
  refine lv_bipush (v := 40) hx hb d_Model_isDecimal_104 (by decide) ?_
  refine lv_icmp_le (tgt := 111) hx hb d_Model_isDecimal_106 (by decide) (fun b106 => ?_) (fun b106 => ?_)
  · skip
    rw [q_ile t_ds1 (show (40 : Int32).toInt = 40 by decide)] at b106
    refine lv_aload_n hx hb d_Model_isDecimal_111 rfl (lv_at hl 0 rfl) ?_
    refine lv_aload_n hx hb d_Model_isDecimal_112 rfl (lv_at hl 0 rfl) ?_
    refine va_get (D := (dC, dI)) (ci := 8) (v := .int aT1) (C := R_Model) (T := F_Model) (N := 26) hx hb hts u_Model hown hK hP 0 rfl rfl 18 (by decide) (hts _ m_581) (fun _ h9 => h9) rfl d_Model_isDecimal_113 ?_
    refine callV_i (wr := [(dA, .inl (cI, 40, .inl k))]) C0 (c_Model_see l dC dI cI cB cJ (h0) (th) (we) (wm) (wy) (ra) (tA) (tn) (oA) (on) (rA) (fi) (la) (wA) (wf) (wl) (lo) (ov) (un) (aT1) (mi1) (ds1) (dA) (a01) ((0 : Int32)) (iA) (te) (f) (T) (len) (aT1) (pQ T len) (by exact hT) (by exact t_aT1)) (cwV 1 hts (gV m_647 m_648 m_20 m_55 m_649) rfl rfl rfl (by decide +kernel) ⟨Nat.le_of_ble_eq_true rfl, Nat.le_of_ble_eq_true rfl⟩) 8 rfl rfl 0 rfl hP hD hS hA [0, 1] [2] rfl rfl (by decide) (by decide) (by decide) rfl hl.1 rfl (Nat.le_of_ble_eq_true rfl) d_Model_isDecimal_116 ⟨Nat.le_of_ble_eq_true rfl, Nat.le_of_ble_eq_true rfl⟩ (fun r116 u116 H locs hw9 hP hD hS => ?_)
    have h116 : r116.toInt = ((sT T len (pQ T len) : Nat) : Int) := hw9
    have hP : va_P (dC, dI) vwCl [(dA, .inl (cI, 40, .inl k)), (h0, .inr (8, [.int th, .int we, .int wm, .int wy, .int ra, .ref tA, .int tn, .ref oA, .int on, .ref rA, .int fi, .int la, .ref wA, .int wf, .int wl, .int lo, .int ov, .int un, .int aT1, .int mi1, .int ds1, .ref dA, .int a01, .int 0, .ref iA, .int te])), (tA, .inl (cI, 60, .inl f))] H := hP
    have hD : va_D A [(dA, .inl (cI, 40, .inl k)), (h0, .inr (8, [.int th, .int we, .int wm, .int wy, .int ra, .ref tA, .int tn, .ref oA, .int on, .ref rA, .int fi, .int la, .ref wA, .int wf, .int wl, .int lo, .int ov, .int un, .int aT1, .int mi1, .int ds1, .ref dA, .int a01, .int 0, .ref iA, .int te])), (tA, .inl (cI, 60, .inl f))] := hD
    have t116 : r116.toInt = ((sT T len (pQ T len) : Nat) : Int) := h116
    refine lv_bipush (v := 101) hx hb d_Model_isDecimal_119 (by decide) ?_
    refine lv_icmp_ne (tgt := 259) hx hb d_Model_isDecimal_121 (by decide) (fun b121 => ?_) (fun b121 => ?_)
    · skip
      rw [q_ieq t116 (show (101 : Int32).toInt = 101 by decide)] at b121
      exact L_Model_isDecimal_259 (h0) (th) (we) (wm) (wy) (ra) (tA) (tn) (oA) (on) (rA) (fi) (la) (wA) (wf) (wl) (lo) (ov) (un) (aT) (mi) (ds) (dA) (a0) (xp) (iA) (te) (f) (T) (len) (g) C0 hA (hT) (k) (aT1) (ds1) (a01) (0) (mi1) (pQ T len) H locs ls (by exact t_mi1) (by exact t_ds1) (by exact t_a01) (by exact hDG) (by exact hOD) (by omega) (by exact t_aT1) (by exact endE_no hqn (by omega)) (va_Psub hP [1, 2, 0] rfl) (hD.sub [1, 2, 0] (by decide) rfl) hS (lv_sub hl [0] rfl)
    · skip
      rw [q_ieq t116 (show (101 : Int32).toInt = 101 by decide)] at b121
      refine lv_aload_n hx hb d_Model_isDecimal_124 rfl (lv_at hl 0 rfl) ?_
      refine lv_dup hx hb d_Model_isDecimal_125 rfl ?_
      refine va_get (D := (dC, dI)) (ci := 8) (v := .int aT1) (C := R_Model) (T := F_Model) (N := 26) hx hb hts u_Model hown hK hP 1 rfl rfl 18 (by decide) (hts _ m_581) (fun _ h9 => h9) rfl d_Model_isDecimal_126 ?_
      refine lv_iconst (v := 1) hx hb d_Model_isDecimal_129 (by decide) ?_
      refine lv_iadd hx hb d_Model_isDecimal_130 ?_
      refine lv_topi (fun v130 e130 => ?_)
      have t130 : v130.toInt = (((pQ T len : Nat) : Int)) + 1 := by rw [e130]; exact q_iadd t_aT1 (show (1 : Int32).toInt = 1 by decide) (by omega)
      refine va_put (D := (dC, dI)) (ci := 8) (v := .int v130) (ty := .int) (C := R_Model) (T := F_Model) (N := 26) hx hb hts u_Model t_Model t_Model_ok n_Model hown hK hP hD hS 1 rfl rfl 18 (by decide) (hts _ m_581) (fun _ h9 => h9) rfl (by decide +kernel) rfl rfl (Nat.le_of_ble_eq_true rfl) d_Model_isDecimal_131 (fun H locs hP hD hS => ?_)
      have hP : va_P (dC, dI) vwCl [(dA, .inl (cI, 40, .inl k)), (h0, .inr (8, [.int th, .int we, .int wm, .int wy, .int ra, .ref tA, .int tn, .ref oA, .int on, .ref rA, .int fi, .int la, .ref wA, .int wf, .int wl, .int lo, .int ov, .int un, .int v130, .int mi1, .int ds1, .ref dA, .int a01, .int 0, .ref iA, .int te])), (tA, .inl (cI, 60, .inl f))] H := hP
      have hD : va_D A [(dA, .inl (cI, 40, .inl k)), (h0, .inr (8, [.int th, .int we, .int wm, .int wy, .int ra, .ref tA, .int tn, .ref oA, .int on, .ref rA, .int fi, .int la, .ref wA, .int wf, .int wl, .int lo, .int ov, .int un, .int v130, .int mi1, .int ds1, .ref dA, .int a01, .int 0, .ref iA, .int te])), (tA, .inl (cI, 60, .inl f))] := hD
      refine lv_aload_n hx hb d_Model_isDecimal_134 rfl (lv_at hl 0 rfl) ?_
      refine lv_aload_n hx hb d_Model_isDecimal_135 rfl (lv_at hl 0 rfl) ?_
      refine va_get (D := (dC, dI)) (ci := 8) (v := .int v130) (C := R_Model) (T := F_Model) (N := 26) hx hb hts u_Model hown hK hP 1 rfl rfl 18 (by decide) (hts _ m_581) (fun _ h9 => h9) rfl d_Model_isDecimal_136 ?_
      refine callV_i (wr := [(dA, .inl (cI, 40, .inl k))]) C0 (c_Model_see l dC dI cI cB cJ (h0) (th) (we) (wm) (wy) (ra) (tA) (tn) (oA) (on) (rA) (fi) (la) (wA) (wf) (wl) (lo) (ov) (un) (v130) (mi1) (ds1) (dA) (a01) ((0 : Int32)) (iA) (te) (f) (T) (len) (v130) (pQ T len + 1) (by exact hT) (by exact t130.trans (by omega))) (cwV 1 hts (gV m_647 m_648 m_20 m_55 m_649) rfl rfl rfl (by decide +kernel) ⟨Nat.le_of_ble_eq_true rfl, Nat.le_of_ble_eq_true rfl⟩) 8 rfl rfl 0 rfl hP hD hS hA [1, 2] [0] rfl rfl (by decide) (by decide) (by decide) rfl hl.1 rfl (Nat.le_of_ble_eq_true rfl) d_Model_isDecimal_139 ⟨Nat.le_of_ble_eq_true rfl, Nat.le_of_ble_eq_true rfl⟩ (fun r139 u139 H locs hw9 hP hD hS => ?_)
      have h139 : r139.toInt = ((sT T len (pQ T len + 1) : Nat) : Int) := hw9
      have hP : va_P (dC, dI) vwCl [(dA, .inl (cI, 40, .inl k)), (h0, .inr (8, [.int th, .int we, .int wm, .int wy, .int ra, .ref tA, .int tn, .ref oA, .int on, .ref rA, .int fi, .int la, .ref wA, .int wf, .int wl, .int lo, .int ov, .int un, .int v130, .int mi1, .int ds1, .ref dA, .int a01, .int 0, .ref iA, .int te])), (tA, .inl (cI, 60, .inl f))] H := hP
      have hD : va_D A [(dA, .inl (cI, 40, .inl k)), (h0, .inr (8, [.int th, .int we, .int wm, .int wy, .int ra, .ref tA, .int tn, .ref oA, .int on, .ref rA, .int fi, .int la, .ref wA, .int wf, .int wl, .int lo, .int ov, .int un, .int v130, .int mi1, .int ds1, .ref dA, .int a01, .int 0, .ref iA, .int te])), (tA, .inl (cI, 60, .inl f))] := hD
      have t139 : r139.toInt = ((sT T len (pQ T len + 1) : Nat) : Int) := h139
      refine lv_bipush (v := 45) hx hb d_Model_isDecimal_142 (by decide) ?_
      refine lv_icmp_ne (tgt := 151) hx hb d_Model_isDecimal_144 (by decide) (fun b144 => ?_) (fun b144 => ?_)
      · skip
        rw [q_ieq t139 (show (45 : Int32).toInt = 45 by decide)] at b144
        refine lv_iconst (v := 0) hx hb d_Model_isDecimal_151 (by decide) ?_
        refine lv_istore_n (lv' := [(1, .int 0), (0, .ref h0)]) hx hb d_Model_isDecimal_152 rfl hl (by decide) rfl (fun ls hl => ?_)
        refine lv_iload_n hx hb d_Model_isDecimal_153 rfl (lv_at hl 0 rfl) ?_
        refine lv_if_ne (tgt := 170) hx hb d_Model_isDecimal_154 (by decide) (fun b154 => ?_) (fun b154 => ?_)
        · skip
          rw [q_ieq (show (0 : Int32).toInt = 0 by decide) (show (0 : Int32).toInt = 0 by decide)] at b154
          exact absurd b154 (by omega)
        · skip
          rw [q_ieq (show (0 : Int32).toInt = 0 by decide) (show (0 : Int32).toInt = 0 by decide)] at b154
          refine lv_aload_n hx hb d_Model_isDecimal_157 rfl (lv_at hl 1 rfl) ?_
          refine lv_aload_n hx hb d_Model_isDecimal_158 rfl (lv_at hl 1 rfl) ?_
          refine va_get (D := (dC, dI)) (ci := 8) (v := .int v130) (C := R_Model) (T := F_Model) (N := 26) hx hb hts u_Model hown hK hP 1 rfl rfl 18 (by decide) (hts _ m_581) (fun _ h9 => h9) rfl d_Model_isDecimal_159 ?_
          refine callV_i (wr := [(dA, .inl (cI, 40, .inl k))]) C0 (c_Model_see l dC dI cI cB cJ (h0) (th) (we) (wm) (wy) (ra) (tA) (tn) (oA) (on) (rA) (fi) (la) (wA) (wf) (wl) (lo) (ov) (un) (v130) (mi1) (ds1) (dA) (a01) ((0 : Int32)) (iA) (te) (f) (T) (len) (v130) (pQ T len + 1) (by exact hT) (by exact t130.trans (by omega))) (cwV 1 hts (gV m_647 m_648 m_20 m_55 m_649) rfl rfl rfl (by decide +kernel) ⟨Nat.le_of_ble_eq_true rfl, Nat.le_of_ble_eq_true rfl⟩) 8 rfl rfl 0 rfl hP hD hS hA [1, 2] [0] rfl rfl (by decide) (by decide) (by decide) rfl hl.1 rfl (Nat.le_of_ble_eq_true rfl) d_Model_isDecimal_162 ⟨Nat.le_of_ble_eq_true rfl, Nat.le_of_ble_eq_true rfl⟩ (fun r162 u162 H locs hw9 hP hD hS => ?_)
          have h162 : r162.toInt = ((sT T len (pQ T len + 1) : Nat) : Int) := hw9
          have hP : va_P (dC, dI) vwCl [(dA, .inl (cI, 40, .inl k)), (h0, .inr (8, [.int th, .int we, .int wm, .int wy, .int ra, .ref tA, .int tn, .ref oA, .int on, .ref rA, .int fi, .int la, .ref wA, .int wf, .int wl, .int lo, .int ov, .int un, .int v130, .int mi1, .int ds1, .ref dA, .int a01, .int 0, .ref iA, .int te])), (tA, .inl (cI, 60, .inl f))] H := hP
          have hD : va_D A [(dA, .inl (cI, 40, .inl k)), (h0, .inr (8, [.int th, .int we, .int wm, .int wy, .int ra, .ref tA, .int tn, .ref oA, .int on, .ref rA, .int fi, .int la, .ref wA, .int wf, .int wl, .int lo, .int ov, .int un, .int v130, .int mi1, .int ds1, .ref dA, .int a01, .int 0, .ref iA, .int te])), (tA, .inl (cI, 60, .inl f))] := hD
          have t162 : r162.toInt = ((sT T len (pQ T len + 1) : Nat) : Int) := h162
          refine lv_bipush (v := 43) hx hb d_Model_isDecimal_165 (by decide) ?_
          refine lv_icmp_ne (tgt := 180) hx hb d_Model_isDecimal_167 (by decide) (fun b167 => ?_) (fun b167 => ?_)
          · skip
            rw [q_ieq t162 (show (43 : Int32).toInt = 43 by decide)] at b167
            have he0 := eS_sT.2 (show ¬ (sT T len (pQ T len + 1) = 45 ∨ sT T len (pQ T len + 1) = 43) by omega)
            exact L_Model_isDecimal_180 (h0) (th) (we) (wm) (wy) (ra) (tA) (tn) (oA) (on) (rA) (fi) (la) (wA) (wf) (wl) (lo) (ov) (un) (aT) (mi) (ds) (dA) (a0) (xp) (iA) (te) (f) (T) (len) (g) C0 hA (hT) (k) (v130) (ds1) (a01) (mi1) (0) H locs ls (by exact t_mi1) (by exact t_ds1) (by exact t_a01) (by exact hDG) (by exact hOD) (by omega) (by omega) (by exact t130.trans (by omega)) (by exact Or.inr ⟨rfl, fun h => by have := eN_sT.mp h; omega⟩) (va_Psub hP [1, 2, 0] rfl) (hD.sub [1, 2, 0] (by decide) rfl) hS (lv_sub hl [0, 1] rfl)
          · skip
            rw [q_ieq t162 (show (43 : Int32).toInt = 43 by decide)] at b167
            refine lv_aload_n hx hb d_Model_isDecimal_170 rfl (lv_at hl 1 rfl) ?_
            refine lv_dup hx hb d_Model_isDecimal_171 rfl ?_
            refine va_get (D := (dC, dI)) (ci := 8) (v := .int v130) (C := R_Model) (T := F_Model) (N := 26) hx hb hts u_Model hown hK hP 1 rfl rfl 18 (by decide) (hts _ m_581) (fun _ h9 => h9) rfl d_Model_isDecimal_172 ?_
            refine lv_iconst (v := 1) hx hb d_Model_isDecimal_175 (by decide) ?_
            refine lv_iadd hx hb d_Model_isDecimal_176 ?_
            refine lv_topi (fun v176 e176 => ?_)
            have t176 : v176.toInt = ((((pQ T len : Nat) : Int)) + 1) + 1 := by rw [e176]; exact q_iadd t130 (show (1 : Int32).toInt = 1 by decide) (by omega)
            refine va_put (D := (dC, dI)) (ci := 8) (v := .int v176) (ty := .int) (C := R_Model) (T := F_Model) (N := 26) hx hb hts u_Model t_Model t_Model_ok n_Model hown hK hP hD hS 1 rfl rfl 18 (by decide) (hts _ m_581) (fun _ h9 => h9) rfl (by decide +kernel) rfl rfl (Nat.le_of_ble_eq_true rfl) d_Model_isDecimal_177 (fun H locs hP hD hS => ?_)
            have hP : va_P (dC, dI) vwCl [(dA, .inl (cI, 40, .inl k)), (h0, .inr (8, [.int th, .int we, .int wm, .int wy, .int ra, .ref tA, .int tn, .ref oA, .int on, .ref rA, .int fi, .int la, .ref wA, .int wf, .int wl, .int lo, .int ov, .int un, .int v176, .int mi1, .int ds1, .ref dA, .int a01, .int 0, .ref iA, .int te])), (tA, .inl (cI, 60, .inl f))] H := hP
            have hD : va_D A [(dA, .inl (cI, 40, .inl k)), (h0, .inr (8, [.int th, .int we, .int wm, .int wy, .int ra, .ref tA, .int tn, .ref oA, .int on, .ref rA, .int fi, .int la, .ref wA, .int wf, .int wl, .int lo, .int ov, .int un, .int v176, .int mi1, .int ds1, .ref dA, .int a01, .int 0, .ref iA, .int te])), (tA, .inl (cI, 60, .inl f))] := hD
            have he0 := eS_sT.1 (show sT T len (pQ T len + 1) = 45 ∨ sT T len (pQ T len + 1) = 43 by omega)
            exact L_Model_isDecimal_180 (h0) (th) (we) (wm) (wy) (ra) (tA) (tn) (oA) (on) (rA) (fi) (la) (wA) (wf) (wl) (lo) (ov) (un) (aT) (mi) (ds) (dA) (a0) (xp) (iA) (te) (f) (T) (len) (g) C0 hA (hT) (k) (v176) (ds1) (a01) (mi1) (0) H locs ls (by exact t_mi1) (by exact t_ds1) (by exact t_a01) (by exact hDG) (by exact hOD) (by omega) (by omega) (by exact t176.trans (by omega)) (by exact Or.inr ⟨rfl, fun h => by have := eN_sT.mp h; omega⟩) (va_Psub hP [1, 2, 0] rfl) (hD.sub [1, 2, 0] (by decide) rfl) hS (lv_sub hl [0, 1] rfl)
      · skip
        rw [q_ieq t139 (show (45 : Int32).toInt = 45 by decide)] at b144
        refine lv_iconst (v := 1) hx hb d_Model_isDecimal_147 (by decide) ?_
        refine lv_goto (tgt := 152) hx hb d_Model_isDecimal_148 (by decide) ?_
        refine lv_istore_n (lv' := [(1, .int 1), (0, .ref h0)]) hx hb d_Model_isDecimal_152 rfl hl (by decide) rfl (fun ls hl => ?_)
        refine lv_iload_n hx hb d_Model_isDecimal_153 rfl (lv_at hl 0 rfl) ?_
        refine lv_if_ne (tgt := 170) hx hb d_Model_isDecimal_154 (by decide) (fun b154 => ?_) (fun b154 => ?_)
        · skip
          rw [q_ieq (show (1 : Int32).toInt = 1 by decide) (show (0 : Int32).toInt = 0 by decide)] at b154
          refine lv_aload_n hx hb d_Model_isDecimal_170 rfl (lv_at hl 1 rfl) ?_
          refine lv_dup hx hb d_Model_isDecimal_171 rfl ?_
          refine va_get (D := (dC, dI)) (ci := 8) (v := .int v130) (C := R_Model) (T := F_Model) (N := 26) hx hb hts u_Model hown hK hP 1 rfl rfl 18 (by decide) (hts _ m_581) (fun _ h9 => h9) rfl d_Model_isDecimal_172 ?_
          refine lv_iconst (v := 1) hx hb d_Model_isDecimal_175 (by decide) ?_
          refine lv_iadd hx hb d_Model_isDecimal_176 ?_
          refine lv_topi (fun v176 e176 => ?_)
          have t176 : v176.toInt = ((((pQ T len : Nat) : Int)) + 1) + 1 := by rw [e176]; exact q_iadd t130 (show (1 : Int32).toInt = 1 by decide) (by omega)
          refine va_put (D := (dC, dI)) (ci := 8) (v := .int v176) (ty := .int) (C := R_Model) (T := F_Model) (N := 26) hx hb hts u_Model t_Model t_Model_ok n_Model hown hK hP hD hS 1 rfl rfl 18 (by decide) (hts _ m_581) (fun _ h9 => h9) rfl (by decide +kernel) rfl rfl (Nat.le_of_ble_eq_true rfl) d_Model_isDecimal_177 (fun H locs hP hD hS => ?_)
          have hP : va_P (dC, dI) vwCl [(dA, .inl (cI, 40, .inl k)), (h0, .inr (8, [.int th, .int we, .int wm, .int wy, .int ra, .ref tA, .int tn, .ref oA, .int on, .ref rA, .int fi, .int la, .ref wA, .int wf, .int wl, .int lo, .int ov, .int un, .int v176, .int mi1, .int ds1, .ref dA, .int a01, .int 0, .ref iA, .int te])), (tA, .inl (cI, 60, .inl f))] H := hP
          have hD : va_D A [(dA, .inl (cI, 40, .inl k)), (h0, .inr (8, [.int th, .int we, .int wm, .int wy, .int ra, .ref tA, .int tn, .ref oA, .int on, .ref rA, .int fi, .int la, .ref wA, .int wf, .int wl, .int lo, .int ov, .int un, .int v176, .int mi1, .int ds1, .ref dA, .int a01, .int 0, .ref iA, .int te])), (tA, .inl (cI, 60, .inl f))] := hD
          have he0 := eS_sT.1 (show sT T len (pQ T len + 1) = 45 ∨ sT T len (pQ T len + 1) = 43 by omega)
          exact L_Model_isDecimal_180 (h0) (th) (we) (wm) (wy) (ra) (tA) (tn) (oA) (on) (rA) (fi) (la) (wA) (wf) (wl) (lo) (ov) (un) (aT) (mi) (ds) (dA) (a0) (xp) (iA) (te) (f) (T) (len) (g) C0 hA (hT) (k) (v176) (ds1) (a01) (mi1) (1) H locs ls (by exact t_mi1) (by exact t_ds1) (by exact t_a01) (by exact hDG) (by exact hOD) (by omega) (by omega) (by exact t176.trans (by omega)) (by exact Or.inl ⟨rfl, eN_sT.mpr (by omega)⟩) (va_Psub hP [1, 2, 0] rfl) (hD.sub [1, 2, 0] (by decide) rfl) hS (lv_sub hl [0, 1] rfl)
        · skip
          rw [q_ieq (show (1 : Int32).toInt = 1 by decide) (show (0 : Int32).toInt = 0 by decide)] at b154
          exact absurd b154 (by omega)
  · skip
    rw [q_ile t_ds1 (show (40 : Int32).toInt = 40 by decide)] at b106
    refine lv_iconst (v := 0) hx hb d_Model_isDecimal_109 (by decide) ?_
    exact Cz.ret C0 (v := 0) (u := (k, aT1, ds1, a01, 0, mi1)) (by rfl) (Nat.le_of_ble_eq_true rfl) (Nat.le_of_ble_eq_true rfl) (by show ((0 : Int32) = 1 ∧ isDec T len ∧ mi1.toInt = (pS T len : Int) ∧ ds1.toInt = ((pA T len + pB T len : Nat) : Int) ∧ a01.toInt = (pA T len : Int) ∧ (0 : Int32).toInt = xE T len (pQ T len) ∧ DG T len k) ∨ ((0 : Int32) = 0 ∧ ¬ isDec T len); exact Or.inr ⟨rfl, fun h => by have := h.1.2.2; omega⟩) hP hD hS [0, 1, 2] (by decide) rfl d_Model_isDecimal_110
set_option maxHeartbeats 4000000 in
set_option maxRecDepth 100000 in
theorem L_Model_isDecimal_51 {p : Program} {l : Launch} {e : Env} {s : State} {m : MethodId} {below : List Frame} {meth : Method} {c : Code} {dC : Nat → ClassId} {dI : Nat → Nat → Nat} {cI cB cJ : ClassId} {A : Nat → Prop} (h0 : Nat) (th : Int32) (we : Int32) (wm : Int32) (wy : Int32) (ra : Int32) (tA : Nat) (tn : Int32) (oA : Nat) (on : Int32) (rA : Nat) (fi : Int32) (la : Int32) (wA : Nat) (wf : Int32) (wl : Int32) (lo : Int32) (ov : Int32) (un : Int32) (aT : Int32) (mi : Int32) (ds : Int32) (dA : Nat) (a0 : Int32) (xp : Int32) (iA : Nat) (te : Int32) (f : Nat → Int32) (T : Nat → Nat) (len : Nat) (g : Nat → Int32) (C0 : cx dC dI cI cB cJ R_Model b_Model_isDecimal 3 (some .boolean) p s m ([.ref h0] : List Value).toArray meth c) (hA : ∀ q : Nat, s.heap.size ≤ q → A q) (hT : TP f tn T len) : (∀ (mi1 : Int32) (aT1 : Int32) (H : Heap) (locs : List Loc) (ls : Array Slot), (mi1.toInt = (pS T len : Int)) → (aT1.toInt = (pS T len : Int)) → va_P (dC, dI) vwCl [(h0, .inr (8, [.int th, .int we, .int wm, .int wy, .int ra, .ref tA, .int tn, .ref oA, .int on, .ref rA, .int fi, .int la, .ref wA, .int wf, .int wl, .int lo, .int ov, .int un, .int aT1, .int mi1, .int 0, .ref dA, .int a0, .int 0, .ref iA, .int te])), (tA, .inl (cI, 60, .inl f)), (dA, .inl (cI, 40, .inl g))] H → va_D A [(h0, .inr (8, [.int th, .int we, .int wm, .int wy, .int ra, .ref tA, .int tn, .ref oA, .int on, .ref rA, .int fi, .int la, .ref wA, .int wf, .int wl, .int lo, .int ov, .int un, .int aT1, .int mi1, .int 0, .ref dA, .int a0, .int 0, .ref iA, .int te])), (tA, .inl (cI, 60, .inl f)), (dA, .inl (cI, 40, .inl g))] → va_S A s.heap H locs → lv_has ls 3 [(0, .ref h0)] → W p l e ({ frames := 2, cells := 0, slots := 0, locals := 42 } : Room) s m ([.ref h0] : List Value).toArray below meth c H locs 0 0 (MQ below (va_Qi (fun (r : Int32) (u : (Nat → Int32) × (Int32) × (Int32) × (Int32) × (Int32) × (Int32)) => (r = 1 ∧ isDec T len ∧ u.2.2.2.2.2.toInt = (pS T len : Int) ∧ u.2.2.1.toInt = ((pA T len + pB T len : Nat) : Int) ∧ u.2.2.2.1.toInt = (pA T len : Int) ∧ u.2.2.2.2.1.toInt = xE T len (pQ T len) ∧ DG T len u.1) ∨ (r = 0 ∧ ¬ isDec T len)) (poG dC dI A (fun u : (Nat → Int32) × (Int32) × (Int32) × (Int32) × (Int32) × (Int32) => [(h0, .inr (8, [.int th, .int we, .int wm, .int wy, .int ra, .ref tA, .int tn, .ref oA, .int on, .ref rA, .int fi, .int la, .ref wA, .int wf, .int wl, .int lo, .int ov, .int un, .int u.2.1, .int u.2.2.2.2.2, .int u.2.2.1, .ref dA, .int u.2.2.2.1, .int u.2.2.2.2.1, .ref iA, .int te])), (tA, .inl (cI, 60, .inl f)), (dA, .inl (cI, 40, .inl u.1))])) A) ([.ref h0] : List Value).toArray s 0 0 A) (F0 m 51 ls [])) := by
  obtain ⟨hx, hb, hml, hown, hts, hr, hlocks, hK, hN⟩ := id C0
  intro mi1 aT1 H locs ls t_mi1 t_aT1 hP hD hS hl
  have hn60 := hT.2.1
  have hpS := pS_le T len
  have hpQ := pQ_le T len
  refine lv_aload_n hx hb d_Model_isDecimal_51 rfl (lv_at hl 0 rfl) ?_
  refine lv_aload_n hx hb d_Model_isDecimal_52 rfl (lv_at hl 0 rfl) ?_
  refine callV_i (wr := []) C0 (c_Model_run l dC dI cI cB cJ (h0) (th) (we) (wm) (wy) (ra) (tA) (tn) (oA) (on) (rA) (fi) (la) (wA) (wf) (wl) (lo) (ov) (un) (aT1) (mi1) ((0 : Int32)) (dA) (a0) ((0 : Int32)) (iA) (te) (f) (T) (len) (g) (pS T len) ((0 : Nat)) (by exact hT) (by exact t_aT1) (by omega) (by decide) (by omega)) (cwV 0 hts (gV m_650 m_651 m_21 m_55 m_652) rfl rfl rfl (by decide +kernel) ⟨Nat.le_of_ble_eq_true rfl, Nat.le_of_ble_eq_true rfl⟩) 8 rfl rfl 0 rfl hP hD hS hA [0, 1, 2] [] rfl rfl (by decide) (by decide) (by decide) rfl hl.1 rfl (Nat.le_of_ble_eq_true rfl) d_Model_isDecimal_53 ⟨Nat.le_of_ble_eq_true rfl, Nat.le_of_ble_eq_true rfl⟩ (fun r53 u53 H locs hw9 hP hD hS => ?_)
  obtain ⟨k53, aT153, ds153⟩ := u53
  have h53 : ∃ a : Nat, r53.toInt = (a : Int) ∧ a = rl T len 61 (pS T len) ∧ aT153.toInt = (((pS T len) + a : Nat) : Int) ∧ ds153.toInt = (((0 : Nat) + a : Nat) : Int) ∧ (∀ j, j < a → isD T len ((pS T len) + j)) ∧ ¬ isD T len ((pS T len) + a) ∧ (∀ j, j < (0 : Nat) → k53 j = g j) ∧ (∀ j, j < a → (0 : Nat) + j < 40 → (k53 ((0 : Nat) + j)).toInt = (T ((pS T len) + j) : Int) - 48) := hw9
  have hP : va_P (dC, dI) vwCl [(h0, .inr (8, [.int th, .int we, .int wm, .int wy, .int ra, .ref tA, .int tn, .ref oA, .int on, .ref rA, .int fi, .int la, .ref wA, .int wf, .int wl, .int lo, .int ov, .int un, .int aT153, .int mi1, .int ds153, .ref dA, .int a0, .int 0, .ref iA, .int te])), (tA, .inl (cI, 60, .inl f)), (dA, .inl (cI, 40, .inl k53))] H := hP
  have hD : va_D A [(h0, .inr (8, [.int th, .int we, .int wm, .int wy, .int ra, .ref tA, .int tn, .ref oA, .int on, .ref rA, .int fi, .int la, .ref wA, .int wf, .int wl, .int lo, .int ov, .int un, .int aT153, .int mi1, .int ds153, .ref dA, .int a0, .int 0, .ref iA, .int te])), (tA, .inl (cI, 60, .inl f)), (dA, .inl (cI, 40, .inl k53))] := hD
  obtain ⟨a53, ra53, hr53, t_at5, t_ds5, hal53, hnd53, hk053, hkn53⟩ := h53
  have hA53 : a53 = pA T len := hr53
  subst hA53
  have rA53 := ra53
  have t_at53 := t_at5
  have t_ds53 : ds153.toInt = (pA T len : Int) := t_ds5.trans (by omega)
  have hA60 := rl_le2 hn60 hal53
  have t53 : r53.toInt = (pA T len : Int) := rA53
  refine va_put (D := (dC, dI)) (ci := 8) (v := .int r53) (ty := .int) (C := R_Model) (T := F_Model) (N := 26) hx hb hts u_Model t_Model t_Model_ok n_Model hown hK hP hD hS 0 rfl rfl 22 (by decide) (hts _ m_585) (fun _ h9 => h9) rfl (by decide +kernel) rfl rfl (Nat.le_of_ble_eq_true rfl) d_Model_isDecimal_56 (fun H locs hP hD hS => ?_)
  have hP : va_P (dC, dI) vwCl [(h0, .inr (8, [.int th, .int we, .int wm, .int wy, .int ra, .ref tA, .int tn, .ref oA, .int on, .ref rA, .int fi, .int la, .ref wA, .int wf, .int wl, .int lo, .int ov, .int un, .int aT153, .int mi1, .int ds153, .ref dA, .int r53, .int 0, .ref iA, .int te])), (tA, .inl (cI, 60, .inl f)), (dA, .inl (cI, 40, .inl k53))] H := hP
  have hD : va_D A [(h0, .inr (8, [.int th, .int we, .int wm, .int wy, .int ra, .ref tA, .int tn, .ref oA, .int on, .ref rA, .int fi, .int la, .ref wA, .int wf, .int wl, .int lo, .int ov, .int un, .int aT153, .int mi1, .int ds153, .ref dA, .int r53, .int 0, .ref iA, .int te])), (tA, .inl (cI, 60, .inl f)), (dA, .inl (cI, 40, .inl k53))] := hD
  refine lv_aload_n hx hb d_Model_isDecimal_59 rfl (lv_at hl 0 rfl) ?_
  refine va_get (D := (dC, dI)) (ci := 8) (v := .int r53) (C := R_Model) (T := F_Model) (N := 26) hx hb hts u_Model hown hK hP 0 rfl rfl 22 (by decide) (hts _ m_585) (fun _ h9 => h9) rfl d_Model_isDecimal_60 ?_
  refine lv_if_ne (tgt := 68) hx hb d_Model_isDecimal_63 (by decide) (fun b63 => ?_) (fun b63 => ?_)
  · skip
    rw [q_ieq t53 (show (0 : Int32).toInt = 0 by decide)] at b63
    have hA0 : pA T len ≠ 0 := by omega
    have hin53 := rl_in hal53 hA0
    refine lv_aload_n hx hb d_Model_isDecimal_68 rfl (lv_at hl 0 rfl) ?_
    refine lv_aload_n hx hb d_Model_isDecimal_69 rfl (lv_at hl 0 rfl) ?_
    refine va_get (D := (dC, dI)) (ci := 8) (v := .int aT153) (C := R_Model) (T := F_Model) (N := 26) hx hb hts u_Model hown hK hP 0 rfl rfl 18 (by decide) (hts _ m_581) (fun _ h9 => h9) rfl d_Model_isDecimal_70 ?_
    refine callV_i (wr := [(dA, .inl (cI, 40, .inl k53))]) C0 (c_Model_see l dC dI cI cB cJ (h0) (th) (we) (wm) (wy) (ra) (tA) (tn) (oA) (on) (rA) (fi) (la) (wA) (wf) (wl) (lo) (ov) (un) (aT153) (mi1) (ds153) (dA) (r53) ((0 : Int32)) (iA) (te) (f) (T) (len) (aT153) (pS T len + pA T len) (by exact hT) (by exact t_at53)) (cwV 1 hts (gV m_647 m_648 m_20 m_55 m_649) rfl rfl rfl (by decide +kernel) ⟨Nat.le_of_ble_eq_true rfl, Nat.le_of_ble_eq_true rfl⟩) 8 rfl rfl 0 rfl hP hD hS hA [0, 1] [2] rfl rfl (by decide) (by decide) (by decide) rfl hl.1 rfl (Nat.le_of_ble_eq_true rfl) d_Model_isDecimal_73 ⟨Nat.le_of_ble_eq_true rfl, Nat.le_of_ble_eq_true rfl⟩ (fun r73 u73 H locs hw9 hP hD hS => ?_)
    have h73 : r73.toInt = ((sT T len (pS T len + pA T len) : Nat) : Int) := hw9
    have hP : va_P (dC, dI) vwCl [(dA, .inl (cI, 40, .inl k53)), (h0, .inr (8, [.int th, .int we, .int wm, .int wy, .int ra, .ref tA, .int tn, .ref oA, .int on, .ref rA, .int fi, .int la, .ref wA, .int wf, .int wl, .int lo, .int ov, .int un, .int aT153, .int mi1, .int ds153, .ref dA, .int r53, .int 0, .ref iA, .int te])), (tA, .inl (cI, 60, .inl f))] H := hP
    have hD : va_D A [(dA, .inl (cI, 40, .inl k53)), (h0, .inr (8, [.int th, .int we, .int wm, .int wy, .int ra, .ref tA, .int tn, .ref oA, .int on, .ref rA, .int fi, .int la, .ref wA, .int wf, .int wl, .int lo, .int ov, .int un, .int aT153, .int mi1, .int ds153, .ref dA, .int r53, .int 0, .ref iA, .int te])), (tA, .inl (cI, 60, .inl f))] := hD
    have t73 : r73.toInt = ((sT T len (pS T len + pA T len) : Nat) : Int) := h73
    refine lv_bipush (v := 46) hx hb d_Model_isDecimal_76 (by decide) ?_
    refine lv_icmp_ne (tgt := 100) hx hb d_Model_isDecimal_78 (by decide) (fun b78 => ?_) (fun b78 => ?_)
    · skip
      rw [q_ieq t73 (show (46 : Int32).toInt = 46 by decide)] at b78
      have hnD : ¬ pD T len := fun h => b78 (by rw [pD_sT.mp h]; rfl)
      have hB0 : pB T len = 0 := by rw [pB, if_neg hnD]
      have hQ0 : pQ T len = pS T len + pA T len := by rw [pQ, if_neg hnD]
      exact L_Model_isDecimal_100 (h0) (th) (we) (wm) (wy) (ra) (tA) (tn) (oA) (on) (rA) (fi) (la) (wA) (wf) (wl) (lo) (ov) (un) (aT) (mi) (ds) (dA) (a0) (xp) (iA) (te) (f) (T) (len) (g) C0 hA (hT) (k53) (aT153) (ds153) (r53) (mi1) H locs ls (by exact t_mi1) (by exact t_ds53.trans (by omega)) (by exact rA53) (by exact ⟨fun j h1 h2 => by have h3 := hkn53 j h1 (by omega); rw [Nat.zero_add] at h3; exact h3, fun j h1 => by omega⟩) (by exact ⟨hA0, fun h => absurd h hnD⟩) (by exact t_at53.trans (by omega)) (by omega) (va_Psub hP [1, 2, 0] rfl) (hD.sub [1, 2, 0] (by decide) rfl) hS (lv_sub hl [0] rfl)
    · skip
      rw [q_ieq t73 (show (46 : Int32).toInt = 46 by decide)] at b78
      have hpD : pD T len := pD_sT.mpr (by omega)
      have hDl := hpD.1
      refine lv_aload_n hx hb d_Model_isDecimal_81 rfl (lv_at hl 0 rfl) ?_
      refine lv_dup hx hb d_Model_isDecimal_82 rfl ?_
      refine va_get (D := (dC, dI)) (ci := 8) (v := .int aT153) (C := R_Model) (T := F_Model) (N := 26) hx hb hts u_Model hown hK hP 1 rfl rfl 18 (by decide) (hts _ m_581) (fun _ h9 => h9) rfl d_Model_isDecimal_83 ?_
      refine lv_iconst (v := 1) hx hb d_Model_isDecimal_86 (by decide) ?_
      refine lv_iadd hx hb d_Model_isDecimal_87 ?_
      refine lv_topi (fun v87 e87 => ?_)
      have t87 : v87.toInt = (((pS T len + pA T len : Nat) : Int)) + 1 := by rw [e87]; exact q_iadd t_at53 (show (1 : Int32).toInt = 1 by decide) (by omega)
      refine va_put (D := (dC, dI)) (ci := 8) (v := .int v87) (ty := .int) (C := R_Model) (T := F_Model) (N := 26) hx hb hts u_Model t_Model t_Model_ok n_Model hown hK hP hD hS 1 rfl rfl 18 (by decide) (hts _ m_581) (fun _ h9 => h9) rfl (by decide +kernel) rfl rfl (Nat.le_of_ble_eq_true rfl) d_Model_isDecimal_88 (fun H locs hP hD hS => ?_)
      have hP : va_P (dC, dI) vwCl [(dA, .inl (cI, 40, .inl k53)), (h0, .inr (8, [.int th, .int we, .int wm, .int wy, .int ra, .ref tA, .int tn, .ref oA, .int on, .ref rA, .int fi, .int la, .ref wA, .int wf, .int wl, .int lo, .int ov, .int un, .int v87, .int mi1, .int ds153, .ref dA, .int r53, .int 0, .ref iA, .int te])), (tA, .inl (cI, 60, .inl f))] H := hP
      have hD : va_D A [(dA, .inl (cI, 40, .inl k53)), (h0, .inr (8, [.int th, .int we, .int wm, .int wy, .int ra, .ref tA, .int tn, .ref oA, .int on, .ref rA, .int fi, .int la, .ref wA, .int wf, .int wl, .int lo, .int ov, .int un, .int v87, .int mi1, .int ds153, .ref dA, .int r53, .int 0, .ref iA, .int te])), (tA, .inl (cI, 60, .inl f))] := hD
      refine lv_aload_n hx hb d_Model_isDecimal_91 rfl (lv_at hl 0 rfl) ?_
      refine callV_i (wr := []) C0 (c_Model_run l dC dI cI cB cJ (h0) (th) (we) (wm) (wy) (ra) (tA) (tn) (oA) (on) (rA) (fi) (la) (wA) (wf) (wl) (lo) (ov) (un) (v87) (mi1) (ds153) (dA) (r53) ((0 : Int32)) (iA) (te) (f) (T) (len) (k53) (pS T len + pA T len + 1) (pA T len) (by exact hT) (by exact t87.trans (by omega)) (by omega) (by exact t_ds53) (by omega)) (cwV 0 hts (gV m_650 m_651 m_21 m_55 m_652) rfl rfl rfl (by decide +kernel) ⟨Nat.le_of_ble_eq_true rfl, Nat.le_of_ble_eq_true rfl⟩) 8 rfl rfl 0 rfl hP hD hS hA [1, 2, 0] [] rfl rfl (by decide) (by decide) (by decide) rfl hl.1 rfl (Nat.le_of_ble_eq_true rfl) d_Model_isDecimal_92 ⟨Nat.le_of_ble_eq_true rfl, Nat.le_of_ble_eq_true rfl⟩ (fun r92 u92 H locs hw9 hP hD hS => ?_)
      obtain ⟨k92, aT192, ds192⟩ := u92
      have h92 : ∃ a : Nat, r92.toInt = (a : Int) ∧ a = rl T len 61 (pS T len + pA T len + 1) ∧ aT192.toInt = (((pS T len + pA T len + 1) + a : Nat) : Int) ∧ ds192.toInt = (((pA T len) + a : Nat) : Int) ∧ (∀ j, j < a → isD T len ((pS T len + pA T len + 1) + j)) ∧ ¬ isD T len ((pS T len + pA T len + 1) + a) ∧ (∀ j, j < (pA T len) → k92 j = k53 j) ∧ (∀ j, j < a → (pA T len) + j < 40 → (k92 ((pA T len) + j)).toInt = (T ((pS T len + pA T len + 1) + j) : Int) - 48) := hw9
      have hP : va_P (dC, dI) vwCl [(h0, .inr (8, [.int th, .int we, .int wm, .int wy, .int ra, .ref tA, .int tn, .ref oA, .int on, .ref rA, .int fi, .int la, .ref wA, .int wf, .int wl, .int lo, .int ov, .int un, .int aT192, .int mi1, .int ds192, .ref dA, .int r53, .int 0, .ref iA, .int te])), (tA, .inl (cI, 60, .inl f)), (dA, .inl (cI, 40, .inl k92))] H := hP
      have hD : va_D A [(h0, .inr (8, [.int th, .int we, .int wm, .int wy, .int ra, .ref tA, .int tn, .ref oA, .int on, .ref rA, .int fi, .int la, .ref wA, .int wf, .int wl, .int lo, .int ov, .int un, .int aT192, .int mi1, .int ds192, .ref dA, .int r53, .int 0, .ref iA, .int te])), (tA, .inl (cI, 60, .inl f)), (dA, .inl (cI, 40, .inl k92))] := hD
      obtain ⟨a92, ra92, hr92, t_at92, t_ds92, hal92, hnd92, hk092, hkn92⟩ := h92
      have hB92 : pB T len = a92 := by rw [pB, if_pos hpD]; exact hr92.symm
      have hB60 := rl_le2 hn60 hal92
      have hQ92 : pQ T len = pS T len + pA T len + 1 + a92 := by rw [pQ, if_pos hpD, hB92]
      have t92 : r92.toInt = (a92 : Int) := ra92
      refine lv_if_ne (tgt := 100) hx hb d_Model_isDecimal_95 (by decide) (fun b95 => ?_) (fun b95 => ?_)
      · skip
        rw [q_ieq t92 (show (0 : Int32).toInt = 0 by decide)] at b95
        exact L_Model_isDecimal_100 (h0) (th) (we) (wm) (wy) (ra) (tA) (tn) (oA) (on) (rA) (fi) (la) (wA) (wf) (wl) (lo) (ov) (un) (aT) (mi) (ds) (dA) (a0) (xp) (iA) (te) (f) (T) (len) (g) C0 hA (hT) (k92) (aT192) (ds192) (r53) (mi1) H locs ls (by exact t_mi1) (by exact t_ds92.trans (by omega)) (by exact rA53) (by exact ⟨fun j h1 h2 => by rw [hk092 j h1]; have h3 := hkn53 j h1 (by omega); rw [Nat.zero_add] at h3; exact h3, fun j h1 h2 => hkn92 j (by omega) h2⟩) (by exact ⟨hA0, fun _ => by omega⟩) (by exact t_at92.trans (by omega)) (by have h3 := rl_in hal92 (by omega); omega) (va_Psub hP [0, 1, 2] rfl) (hD.sub [0, 1, 2] (by decide) rfl) hS (lv_sub hl [0] rfl)
      · skip
        rw [q_ieq t92 (show (0 : Int32).toInt = 0 by decide)] at b95
        refine lv_iconst (v := 0) hx hb d_Model_isDecimal_98 (by decide) ?_
        exact Cz.ret C0 (v := 0) (u := (k92, aT192, ds192, r53, 0, mi1)) (by rfl) (Nat.le_of_ble_eq_true rfl) (Nat.le_of_ble_eq_true rfl) (by show ((0 : Int32) = 1 ∧ isDec T len ∧ mi1.toInt = (pS T len : Int) ∧ ds192.toInt = ((pA T len + pB T len : Nat) : Int) ∧ r53.toInt = (pA T len : Int) ∧ (0 : Int32).toInt = xE T len (pQ T len) ∧ DG T len k92) ∨ ((0 : Int32) = 0 ∧ ¬ isDec T len); exact Or.inr ⟨rfl, fun h => h.1.2.1 hpD (by omega)⟩) hP hD hS [0, 1, 2] (by decide) rfl d_Model_isDecimal_99
  · skip
    rw [q_ieq t53 (show (0 : Int32).toInt = 0 by decide)] at b63
    have hA0 : pA T len = 0 := by omega
    refine lv_iconst (v := 0) hx hb d_Model_isDecimal_66 (by decide) ?_
    exact Cz.ret C0 (v := 0) (u := (k53, aT153, ds153, r53, 0, mi1)) (by rfl) (Nat.le_of_ble_eq_true rfl) (Nat.le_of_ble_eq_true rfl) (by show ((0 : Int32) = 1 ∧ isDec T len ∧ mi1.toInt = (pS T len : Int) ∧ ds153.toInt = ((pA T len + pB T len : Nat) : Int) ∧ r53.toInt = (pA T len : Int) ∧ (0 : Int32).toInt = xE T len (pQ T len) ∧ DG T len k53) ∨ ((0 : Int32) = 0 ∧ ¬ isDec T len); exact Or.inr ⟨rfl, fun h => h.1.1 hA0⟩) hP hD hS [0, 1, 2] (by decide) rfl d_Model_isDecimal_67
set_option maxHeartbeats 4000000 in
set_option maxRecDepth 100000 in
theorem c_Model_isDecimal (l : Launch) (dC : Nat → ClassId) (dI : Nat → Nat → Nat) (cI cB cJ : ClassId) (h0 : Nat) (th : Int32) (we : Int32) (wm : Int32) (wy : Int32) (ra : Int32) (tA : Nat) (tn : Int32) (oA : Nat) (on : Int32) (rA : Nat) (fi : Int32) (la : Int32) (wA : Nat) (wf : Int32) (wl : Int32) (lo : Int32) (ov : Int32) (un : Int32) (aT : Int32) (mi : Int32) (ds : Int32) (dA : Nat) (a0 : Int32) (xp : Int32) (iA : Nat) (te : Int32) (f : Nat → Int32) (T : Nat → Nat) (len : Nat) (g : Nat → Int32) (hT : TP f tn T len) : Ci l dC dI cI cB cJ y_Model_isDecimal w_Model_isDecimal ({ frames := 2, cells := 0, slots := 0, locals := 42 } : Room) [.ref h0] [(h0, .inr (8, [.int th, .int we, .int wm, .int wy, .int ra, .ref tA, .int tn, .ref oA, .int on, .ref rA, .int fi, .int la, .ref wA, .int wf, .int wl, .int lo, .int ov, .int un, .int aT, .int mi, .int ds, .ref dA, .int a0, .int xp, .ref iA, .int te])), (tA, .inl (cI, 60, .inl f)), (dA, .inl (cI, 40, .inl g))] (fun (r : Int32) (u : (Nat → Int32) × (Int32) × (Int32) × (Int32) × (Int32) × (Int32)) => (r = 1 ∧ isDec T len ∧ u.2.2.2.2.2.toInt = (pS T len : Int) ∧ u.2.2.1.toInt = ((pA T len + pB T len : Nat) : Int) ∧ u.2.2.2.1.toInt = (pA T len : Int) ∧ u.2.2.2.2.1.toInt = xE T len (pQ T len) ∧ DG T len u.1) ∨ (r = 0 ∧ ¬ isDec T len)) (fun u : (Nat → Int32) × (Int32) × (Int32) × (Int32) × (Int32) × (Int32) => [(h0, .inr (8, [.int th, .int we, .int wm, .int wy, .int ra, .ref tA, .int tn, .ref oA, .int on, .ref rA, .int fi, .int la, .ref wA, .int wf, .int wl, .int lo, .int ov, .int un, .int u.2.1, .int u.2.2.2.2.2, .int u.2.2.1, .ref dA, .int u.2.2.2.1, .int u.2.2.2.2.1, .ref iA, .int te])), (tA, .inl (cI, 60, .inl f)), (dA, .inl (cI, 40, .inl u.1))]) := by
  refine Ci.intro (cc := b_Model_isDecimal) (maxL := 3) (plainFor_of_name (by decide)) rfl (Nat.le_of_ble_eq_true rfl) ?_
  intro p e s m below meth c A ls C0 hin hA hP hD hS hl
  obtain ⟨hx, hb, hml, hown, hts, hr, hlocks, hK, hN⟩ := id C0
  obtain ⟨H, hH⟩ : ∃ H, H = s.heap := ⟨_, rfl⟩
  have hP : va_P (dC, dI) vwCl [(h0, .inr (8, [.int th, .int we, .int wm, .int wy, .int ra, .ref tA, .int tn, .ref oA, .int on, .ref rA, .int fi, .int la, .ref wA, .int wf, .int wl, .int lo, .int ov, .int un, .int aT, .int mi, .int ds, .ref dA, .int a0, .int xp, .ref iA, .int te])), (tA, .inl (cI, 60, .inl f)), (dA, .inl (cI, 40, .inl g))] s.heap := hP
  have hl : lv_has ls 3 [(0, .ref h0)] := hl
  suffices h : ∀ (H : Heap) (locs : List Loc), va_P (dC, dI) vwCl [(h0, .inr (8, [.int th, .int we, .int wm, .int wy, .int ra, .ref tA, .int tn, .ref oA, .int on, .ref rA, .int fi, .int la, .ref wA, .int wf, .int wl, .int lo, .int ov, .int un, .int aT, .int mi, .int ds, .ref dA, .int a0, .int xp, .ref iA, .int te])), (tA, .inl (cI, 60, .inl f)), (dA, .inl (cI, 40, .inl g))] H → va_D A [(h0, .inr (8, [.int th, .int we, .int wm, .int wy, .int ra, .ref tA, .int tn, .ref oA, .int on, .ref rA, .int fi, .int la, .ref wA, .int wf, .int wl, .int lo, .int ov, .int un, .int aT, .int mi, .int ds, .ref dA, .int a0, .int xp, .ref iA, .int te])), (tA, .inl (cI, 60, .inl f)), (dA, .inl (cI, 40, .inl g))] → va_S A s.heap H locs → W p l e ({ frames := 2, cells := 0, slots := 0, locals := 42 } : Room) s m ([.ref h0] : List Value).toArray below meth c H locs 0 0 (MQ below (va_Qi (fun (r : Int32) (u : (Nat → Int32) × (Int32) × (Int32) × (Int32) × (Int32) × (Int32)) => (r = 1 ∧ isDec T len ∧ u.2.2.2.2.2.toInt = (pS T len : Int) ∧ u.2.2.1.toInt = ((pA T len + pB T len : Nat) : Int) ∧ u.2.2.2.1.toInt = (pA T len : Int) ∧ u.2.2.2.2.1.toInt = xE T len (pQ T len) ∧ DG T len u.1) ∨ (r = 0 ∧ ¬ isDec T len)) (poG dC dI A (fun u : (Nat → Int32) × (Int32) × (Int32) × (Int32) × (Int32) × (Int32) => [(h0, .inr (8, [.int th, .int we, .int wm, .int wy, .int ra, .ref tA, .int tn, .ref oA, .int on, .ref rA, .int fi, .int la, .ref wA, .int wf, .int wl, .int lo, .int ov, .int un, .int u.2.1, .int u.2.2.2.2.2, .int u.2.2.1, .ref dA, .int u.2.2.2.1, .int u.2.2.2.2.1, .ref iA, .int te])), (tA, .inl (cI, 60, .inl f)), (dA, .inl (cI, 40, .inl u.1))])) A) ([.ref h0] : List Value).toArray s 0 0 A) (F0 m 0 ls []) from h _ _ hP hD hS
  clear hP hD hS hH H
  intro H locs hP hD hS
  have hn60 := hT.2.1
  have hpS := pS_le T len
  have hpQ := pQ_le T len
  refine lv_aload_n hx hb d_Model_isDecimal_0 rfl (lv_at hl 0 rfl) ?_
  refine lv_iconst (v := 0) hx hb d_Model_isDecimal_1 (by decide) ?_
  refine va_put (D := (dC, dI)) (ci := 8) (v := .int 0) (ty := .int) (C := R_Model) (T := F_Model) (N := 26) hx hb hts u_Model t_Model t_Model_ok n_Model hown hK hP hD hS 0 rfl rfl 18 (by decide) (hts _ m_581) (fun _ h9 => h9) rfl (by decide +kernel) rfl rfl (Nat.le_of_ble_eq_true rfl) d_Model_isDecimal_2 (fun H locs hP hD hS => ?_)
  have hP : va_P (dC, dI) vwCl [(h0, .inr (8, [.int th, .int we, .int wm, .int wy, .int ra, .ref tA, .int tn, .ref oA, .int on, .ref rA, .int fi, .int la, .ref wA, .int wf, .int wl, .int lo, .int ov, .int un, .int 0, .int mi, .int ds, .ref dA, .int a0, .int xp, .ref iA, .int te])), (tA, .inl (cI, 60, .inl f)), (dA, .inl (cI, 40, .inl g))] H := hP
  have hD : va_D A [(h0, .inr (8, [.int th, .int we, .int wm, .int wy, .int ra, .ref tA, .int tn, .ref oA, .int on, .ref rA, .int fi, .int la, .ref wA, .int wf, .int wl, .int lo, .int ov, .int un, .int 0, .int mi, .int ds, .ref dA, .int a0, .int xp, .ref iA, .int te])), (tA, .inl (cI, 60, .inl f)), (dA, .inl (cI, 40, .inl g))] := hD
  refine lv_aload_n hx hb d_Model_isDecimal_5 rfl (lv_at hl 0 rfl) ?_
  refine lv_iconst (v := 0) hx hb d_Model_isDecimal_6 (by decide) ?_
  refine va_put (D := (dC, dI)) (ci := 8) (v := .int 0) (ty := .int) (C := R_Model) (T := F_Model) (N := 26) hx hb hts u_Model t_Model t_Model_ok n_Model hown hK hP hD hS 0 rfl rfl 20 (by decide) (hts _ m_583) (fun _ h9 => h9) rfl (by decide +kernel) rfl rfl (Nat.le_of_ble_eq_true rfl) d_Model_isDecimal_7 (fun H locs hP hD hS => ?_)
  have hP : va_P (dC, dI) vwCl [(h0, .inr (8, [.int th, .int we, .int wm, .int wy, .int ra, .ref tA, .int tn, .ref oA, .int on, .ref rA, .int fi, .int la, .ref wA, .int wf, .int wl, .int lo, .int ov, .int un, .int 0, .int mi, .int 0, .ref dA, .int a0, .int xp, .ref iA, .int te])), (tA, .inl (cI, 60, .inl f)), (dA, .inl (cI, 40, .inl g))] H := hP
  have hD : va_D A [(h0, .inr (8, [.int th, .int we, .int wm, .int wy, .int ra, .ref tA, .int tn, .ref oA, .int on, .ref rA, .int fi, .int la, .ref wA, .int wf, .int wl, .int lo, .int ov, .int un, .int 0, .int mi, .int 0, .ref dA, .int a0, .int xp, .ref iA, .int te])), (tA, .inl (cI, 60, .inl f)), (dA, .inl (cI, 40, .inl g))] := hD
  refine lv_aload_n hx hb d_Model_isDecimal_10 rfl (lv_at hl 0 rfl) ?_
  refine lv_iconst (v := 0) hx hb d_Model_isDecimal_11 (by decide) ?_
  refine va_put (D := (dC, dI)) (ci := 8) (v := .int 0) (ty := .int) (C := R_Model) (T := F_Model) (N := 26) hx hb hts u_Model t_Model t_Model_ok n_Model hown hK hP hD hS 0 rfl rfl 23 (by decide) (hts _ m_586) (fun _ h9 => h9) rfl (by decide +kernel) rfl rfl (Nat.le_of_ble_eq_true rfl) d_Model_isDecimal_12 (fun H locs hP hD hS => ?_)
  have hP : va_P (dC, dI) vwCl [(h0, .inr (8, [.int th, .int we, .int wm, .int wy, .int ra, .ref tA, .int tn, .ref oA, .int on, .ref rA, .int fi, .int la, .ref wA, .int wf, .int wl, .int lo, .int ov, .int un, .int 0, .int mi, .int 0, .ref dA, .int a0, .int 0, .ref iA, .int te])), (tA, .inl (cI, 60, .inl f)), (dA, .inl (cI, 40, .inl g))] H := hP
  have hD : va_D A [(h0, .inr (8, [.int th, .int we, .int wm, .int wy, .int ra, .ref tA, .int tn, .ref oA, .int on, .ref rA, .int fi, .int la, .ref wA, .int wf, .int wl, .int lo, .int ov, .int un, .int 0, .int mi, .int 0, .ref dA, .int a0, .int 0, .ref iA, .int te])), (tA, .inl (cI, 60, .inl f)), (dA, .inl (cI, 40, .inl g))] := hD
  refine lv_aload_n hx hb d_Model_isDecimal_15 rfl (lv_at hl 0 rfl) ?_
  refine lv_aload_n hx hb d_Model_isDecimal_16 rfl (lv_at hl 0 rfl) ?_
  refine lv_iconst (v := 0) hx hb d_Model_isDecimal_17 (by decide) ?_
  refine callV_i (wr := [(dA, .inl (cI, 40, .inl g))]) C0 (c_Model_see l dC dI cI cB cJ (h0) (th) (we) (wm) (wy) (ra) (tA) (tn) (oA) (on) (rA) (fi) (la) (wA) (wf) (wl) (lo) (ov) (un) ((0 : Int32)) (mi) ((0 : Int32)) (dA) (a0) ((0 : Int32)) (iA) (te) (f) (T) (len) ((0 : Int32)) ((0 : Nat)) (by exact hT) (by exact (by decide))) (cwV 1 hts (gV m_647 m_648 m_20 m_55 m_649) rfl rfl rfl (by decide +kernel) ⟨Nat.le_of_ble_eq_true rfl, Nat.le_of_ble_eq_true rfl⟩) 8 rfl rfl 0 rfl hP hD hS hA [0, 1] [2] rfl rfl (by decide) (by decide) (by decide) rfl hl.1 rfl (Nat.le_of_ble_eq_true rfl) d_Model_isDecimal_18 ⟨Nat.le_of_ble_eq_true rfl, Nat.le_of_ble_eq_true rfl⟩ (fun r18 u18 H locs hw9 hP hD hS => ?_)
  have h18 : r18.toInt = ((sT T len (0 : Nat) : Nat) : Int) := hw9
  have hP : va_P (dC, dI) vwCl [(dA, .inl (cI, 40, .inl g)), (h0, .inr (8, [.int th, .int we, .int wm, .int wy, .int ra, .ref tA, .int tn, .ref oA, .int on, .ref rA, .int fi, .int la, .ref wA, .int wf, .int wl, .int lo, .int ov, .int un, .int 0, .int mi, .int 0, .ref dA, .int a0, .int 0, .ref iA, .int te])), (tA, .inl (cI, 60, .inl f))] H := hP
  have hD : va_D A [(dA, .inl (cI, 40, .inl g)), (h0, .inr (8, [.int th, .int we, .int wm, .int wy, .int ra, .ref tA, .int tn, .ref oA, .int on, .ref rA, .int fi, .int la, .ref wA, .int wf, .int wl, .int lo, .int ov, .int un, .int 0, .int mi, .int 0, .ref dA, .int a0, .int 0, .ref iA, .int te])), (tA, .inl (cI, 60, .inl f))] := hD
  have t18 : r18.toInt = ((sT T len (0) : Nat) : Int) := h18
  refine lv_bipush (v := 45) hx hb d_Model_isDecimal_21 (by decide) ?_
  refine lv_icmp_ne (tgt := 30) hx hb d_Model_isDecimal_23 (by decide) (fun b23 => ?_) (fun b23 => ?_)
  · skip
    rw [q_ieq t18 (show (45 : Int32).toInt = 45 by decide)] at b23
    refine lv_iconst (v := 0) hx hb d_Model_isDecimal_30 (by decide) ?_
    refine va_put (D := (dC, dI)) (ci := 8) (v := .int 0) (ty := .boolean) (C := R_Model) (T := F_Model) (N := 26) hx hb hts u_Model t_Model t_Model_ok n_Model hown hK hP hD hS 1 rfl rfl 19 (by decide) (hts _ m_582) (fun _ h9 => h9) rfl (by decide +kernel) rfl rfl (Nat.le_of_ble_eq_true rfl) d_Model_isDecimal_31 (fun H locs hP hD hS => ?_)
    have hP : va_P (dC, dI) vwCl [(dA, .inl (cI, 40, .inl g)), (h0, .inr (8, [.int th, .int we, .int wm, .int wy, .int ra, .ref tA, .int tn, .ref oA, .int on, .ref rA, .int fi, .int la, .ref wA, .int wf, .int wl, .int lo, .int ov, .int un, .int 0, .int 0, .int 0, .ref dA, .int a0, .int 0, .ref iA, .int te])), (tA, .inl (cI, 60, .inl f))] H := hP
    have hD : va_D A [(dA, .inl (cI, 40, .inl g)), (h0, .inr (8, [.int th, .int we, .int wm, .int wy, .int ra, .ref tA, .int tn, .ref oA, .int on, .ref rA, .int fi, .int la, .ref wA, .int wf, .int wl, .int lo, .int ov, .int un, .int 0, .int 0, .int 0, .ref dA, .int a0, .int 0, .ref iA, .int te])), (tA, .inl (cI, 60, .inl f))] := hD
    refine lv_aload_n hx hb d_Model_isDecimal_34 rfl (lv_at hl 0 rfl) ?_
    refine va_get (D := (dC, dI)) (ci := 8) (v := .int 0) (C := R_Model) (T := F_Model) (N := 26) hx hb hts u_Model hown hK hP 1 rfl rfl 19 (by decide) (hts _ m_582) (fun _ h9 => h9) rfl d_Model_isDecimal_35 ?_
    refine lv_if_eq (tgt := 51) hx hb d_Model_isDecimal_38 (by decide) (fun b38 => ?_) (fun b38 => ?_)
    · skip
      rw [q_ieq (show (0 : Int32).toInt = 0 by decide) (show (0 : Int32).toInt = 0 by decide)] at b38
      exact L_Model_isDecimal_51 (h0) (th) (we) (wm) (wy) (ra) (tA) (tn) (oA) (on) (rA) (fi) (la) (wA) (wf) (wl) (lo) (ov) (un) (aT) (mi) (ds) (dA) (a0) (xp) (iA) (te) (f) (T) (len) (g) C0 hA (hT) (0) (0) H locs ls (by rw [pS_sT.2 (by omega)]; rfl) (by rw [pS_sT.2 (by omega)]; rfl) (va_Psub hP [1, 2, 0] rfl) (hD.sub [1, 2, 0] (by decide) rfl) hS (lv_sub hl [0] rfl)
    · skip
      rw [q_ieq (show (0 : Int32).toInt = 0 by decide) (show (0 : Int32).toInt = 0 by decide)] at b38
      exact absurd b38 (by omega)
  · skip
    rw [q_ieq t18 (show (45 : Int32).toInt = 45 by decide)] at b23
    refine lv_iconst (v := 1) hx hb d_Model_isDecimal_26 (by decide) ?_
    refine lv_goto (tgt := 31) hx hb d_Model_isDecimal_27 (by decide) ?_
    refine va_put (D := (dC, dI)) (ci := 8) (v := .int 1) (ty := .boolean) (C := R_Model) (T := F_Model) (N := 26) hx hb hts u_Model t_Model t_Model_ok n_Model hown hK hP hD hS 1 rfl rfl 19 (by decide) (hts _ m_582) (fun _ h9 => h9) rfl (by decide +kernel) rfl rfl (Nat.le_of_ble_eq_true rfl) d_Model_isDecimal_31 (fun H locs hP hD hS => ?_)
    have hP : va_P (dC, dI) vwCl [(dA, .inl (cI, 40, .inl g)), (h0, .inr (8, [.int th, .int we, .int wm, .int wy, .int ra, .ref tA, .int tn, .ref oA, .int on, .ref rA, .int fi, .int la, .ref wA, .int wf, .int wl, .int lo, .int ov, .int un, .int 0, .int 1, .int 0, .ref dA, .int a0, .int 0, .ref iA, .int te])), (tA, .inl (cI, 60, .inl f))] H := hP
    have hD : va_D A [(dA, .inl (cI, 40, .inl g)), (h0, .inr (8, [.int th, .int we, .int wm, .int wy, .int ra, .ref tA, .int tn, .ref oA, .int on, .ref rA, .int fi, .int la, .ref wA, .int wf, .int wl, .int lo, .int ov, .int un, .int 0, .int 1, .int 0, .ref dA, .int a0, .int 0, .ref iA, .int te])), (tA, .inl (cI, 60, .inl f))] := hD
    refine lv_aload_n hx hb d_Model_isDecimal_34 rfl (lv_at hl 0 rfl) ?_
    refine va_get (D := (dC, dI)) (ci := 8) (v := .int 1) (C := R_Model) (T := F_Model) (N := 26) hx hb hts u_Model hown hK hP 1 rfl rfl 19 (by decide) (hts _ m_582) (fun _ h9 => h9) rfl d_Model_isDecimal_35 ?_
    refine lv_if_eq (tgt := 51) hx hb d_Model_isDecimal_38 (by decide) (fun b38 => ?_) (fun b38 => ?_)
    · skip
      rw [q_ieq (show (1 : Int32).toInt = 1 by decide) (show (0 : Int32).toInt = 0 by decide)] at b38
      exact absurd b38 (by omega)
    · skip
      rw [q_ieq (show (1 : Int32).toInt = 1 by decide) (show (0 : Int32).toInt = 0 by decide)] at b38
      refine lv_aload_n hx hb d_Model_isDecimal_41 rfl (lv_at hl 0 rfl) ?_
      refine lv_dup hx hb d_Model_isDecimal_42 rfl ?_
      refine va_get (D := (dC, dI)) (ci := 8) (v := .int 0) (C := R_Model) (T := F_Model) (N := 26) hx hb hts u_Model hown hK hP 1 rfl rfl 18 (by decide) (hts _ m_581) (fun _ h9 => h9) rfl d_Model_isDecimal_43 ?_
      refine lv_iconst (v := 1) hx hb d_Model_isDecimal_46 (by decide) ?_
      refine lv_iadd hx hb d_Model_isDecimal_47 ?_
      refine lv_topi (fun v47 e47 => ?_)
      have t47 : v47.toInt = 0 + 1 := by rw [e47]; exact q_iadd (show (0 : Int32).toInt = 0 by decide) (show (1 : Int32).toInt = 1 by decide) (by omega)
      refine va_put (D := (dC, dI)) (ci := 8) (v := .int v47) (ty := .int) (C := R_Model) (T := F_Model) (N := 26) hx hb hts u_Model t_Model t_Model_ok n_Model hown hK hP hD hS 1 rfl rfl 18 (by decide) (hts _ m_581) (fun _ h9 => h9) rfl (by decide +kernel) rfl rfl (Nat.le_of_ble_eq_true rfl) d_Model_isDecimal_48 (fun H locs hP hD hS => ?_)
      have hP : va_P (dC, dI) vwCl [(dA, .inl (cI, 40, .inl g)), (h0, .inr (8, [.int th, .int we, .int wm, .int wy, .int ra, .ref tA, .int tn, .ref oA, .int on, .ref rA, .int fi, .int la, .ref wA, .int wf, .int wl, .int lo, .int ov, .int un, .int v47, .int 1, .int 0, .ref dA, .int a0, .int 0, .ref iA, .int te])), (tA, .inl (cI, 60, .inl f))] H := hP
      have hD : va_D A [(dA, .inl (cI, 40, .inl g)), (h0, .inr (8, [.int th, .int we, .int wm, .int wy, .int ra, .ref tA, .int tn, .ref oA, .int on, .ref rA, .int fi, .int la, .ref wA, .int wf, .int wl, .int lo, .int ov, .int un, .int v47, .int 1, .int 0, .ref dA, .int a0, .int 0, .ref iA, .int te])), (tA, .inl (cI, 60, .inl f))] := hD
      exact L_Model_isDecimal_51 (h0) (th) (we) (wm) (wy) (ra) (tA) (tn) (oA) (on) (rA) (fi) (la) (wA) (wf) (wl) (lo) (ov) (un) (aT) (mi) (ds) (dA) (a0) (xp) (iA) (te) (f) (T) (len) (g) C0 hA (hT) (1) (v47) H locs ls (by rw [pS_sT.1 (by omega)]; rfl) (by exact t47.trans (by rw [pS_sT.1 (by omega)]; rfl)) (va_Psub hP [1, 2, 0] rfl) (hD.sub [1, 2, 0] (by decide) rfl) hS (lv_sub hl [0] rfl)
