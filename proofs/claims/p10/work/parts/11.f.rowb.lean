set_option maxHeartbeats 4000000 in
set_option maxRecDepth 100000 in
theorem c_Model_ahead (l : Launch) (dC : Nat → ClassId) (dI : Nat → Nat → Nat) (cI cB cJ : ClassId) (h0 : Nat) (th : Int32) (we : Int32) (wm : Int32) (wy : Int32) (ra : Int32) (tA : Nat) (tn : Int32) (oA : Nat) (on : Int32) (rA : Nat) (fi : Int32) (la : Int32) (wA : Nat) (wf : Int32) (wl : Int32) (lo : Int32) (ov : Int32) (un : Int32) (aT : Int32) (mi : Int32) (ds : Int32) (dA : Nat) (a0 : Int32) (xp : Int32) (iA : Nat) (te : Int32) (f : Nat → Int32) (n1 : Nat) (n2 : Nat) (hfi : fi.toInt = (n1 : Int)) (hla : la.toInt = (n2 : Int)) (hR : RWp f n1 n2) : Ci l dC dI cI cB cJ y_Model_ahead w_Model_ahead ({ frames := 0, cells := 0, slots := 0, locals := 0 } : Room) [.ref h0] [(h0, .inr (8, [.int th, .int we, .int wm, .int wy, .int ra, .ref tA, .int tn, .ref oA, .int on, .ref rA, .int fi, .int la, .ref wA, .int wf, .int wl, .int lo, .int ov, .int un, .int aT, .int mi, .int ds, .ref dA, .int a0, .int xp, .ref iA, .int te])), (rA, .inl (cI, 400, .inl f))] (fun (r : Int32) (u : Unit) => r.toInt = ((min 2 (sv f 400 / 10 ^ 339) : Nat) : Int)) (fun u : Unit => [(h0, .inr (8, [.int th, .int we, .int wm, .int wy, .int ra, .ref tA, .int tn, .ref oA, .int on, .ref rA, .int fi, .int la, .ref wA, .int wf, .int wl, .int lo, .int ov, .int un, .int aT, .int mi, .int ds, .ref dA, .int a0, .int xp, .ref iA, .int te])), (rA, .inl (cI, 400, .inl f))]) := by
  refine Ci.intro (cc := b_Model_ahead) (maxL := 1) (plainFor_of_name (by decide)) rfl (Nat.le_of_ble_eq_true rfl) ?_
  intro p e s m below meth c A ls C0 hin hA hP hD hS hl
  obtain ⟨hx, hb, hml, hown, hts, hr, hlocks, hK, hN⟩ := id C0
  obtain ⟨H, hH⟩ : ∃ H, H = s.heap := ⟨_, rfl⟩
  have hP : va_P (dC, dI) vwCl [(h0, .inr (8, [.int th, .int we, .int wm, .int wy, .int ra, .ref tA, .int tn, .ref oA, .int on, .ref rA, .int fi, .int la, .ref wA, .int wf, .int wl, .int lo, .int ov, .int un, .int aT, .int mi, .int ds, .ref dA, .int a0, .int xp, .ref iA, .int te])), (rA, .inl (cI, 400, .inl f))] s.heap := hP
  have hl : lv_has ls 1 [(0, .ref h0)] := hl
  suffices h : ∀ (H : Heap) (locs : List Loc), va_P (dC, dI) vwCl [(h0, .inr (8, [.int th, .int we, .int wm, .int wy, .int ra, .ref tA, .int tn, .ref oA, .int on, .ref rA, .int fi, .int la, .ref wA, .int wf, .int wl, .int lo, .int ov, .int un, .int aT, .int mi, .int ds, .ref dA, .int a0, .int xp, .ref iA, .int te])), (rA, .inl (cI, 400, .inl f))] H → va_D A [(h0, .inr (8, [.int th, .int we, .int wm, .int wy, .int ra, .ref tA, .int tn, .ref oA, .int on, .ref rA, .int fi, .int la, .ref wA, .int wf, .int wl, .int lo, .int ov, .int un, .int aT, .int mi, .int ds, .ref dA, .int a0, .int xp, .ref iA, .int te])), (rA, .inl (cI, 400, .inl f))] → va_S A s.heap H locs → W p l e ({ frames := 0, cells := 0, slots := 0, locals := 0 } : Room) s m ([.ref h0] : List Value).toArray below meth c H locs 0 0 (MQ below (va_Qi (fun (r : Int32) (u : Unit) => r.toInt = ((min 2 (sv f 400 / 10 ^ 339) : Nat) : Int)) (poG dC dI A (fun u : Unit => [(h0, .inr (8, [.int th, .int we, .int wm, .int wy, .int ra, .ref tA, .int tn, .ref oA, .int on, .ref rA, .int fi, .int la, .ref wA, .int wf, .int wl, .int lo, .int ov, .int un, .int aT, .int mi, .int ds, .ref dA, .int a0, .int xp, .ref iA, .int te])), (rA, .inl (cI, 400, .inl f))])) A) ([.ref h0] : List Value).toArray s 0 0 A) (F0 m 0 ls []) from h _ _ hP hD hS
  clear hP hD hS hH H
  intro H locs hP hD hS
  have hR6 := hR.2.2.2
  refine lv_aload_n hx hb d_Model_ahead_0 rfl (lv_at hl 0 rfl) ?_
  refine va_get (D := (dC, dI)) (ci := 8) (v := .int fi) (C := R_Model) (T := F_Model) (N := 26) hx hb hts u_Model hown hK hP 0 rfl rfl 10 (by decide) (hts _ m_573) (fun _ h9 => h9) rfl d_Model_ahead_1 ?_
  refine lv_bipush (v := 60) hx hb d_Model_ahead_4 (by decide) ?_
  refine lv_icmp_lt (tgt := 20) hx hb d_Model_ahead_6 (by decide) (fun b6 => ?_) (fun b6 => ?_)
  · skip
    rw [q_ilt hfi (show (60 : Int32).toInt = 60 by decide)] at b6
    refine lv_iconst (v := 2) hx hb d_Model_ahead_20 (by decide) ?_
    refine lv_goto (tgt := 31) hx hb d_Model_ahead_21 (by decide) ?_
    exact Ci.ret C0 (v := 2) (u := ()) (Nat.le_of_ble_eq_true rfl) (Nat.le_of_ble_eq_true rfl) (by show (2 : Int32).toInt = ((min 2 (sv f 400 / 10 ^ 339) : Nat) : Int); rw [show min 2 (sv f 400 / 10 ^ 339) = 2 from Nat.min_eq_left (whole_lo hR (by omega))]; rfl) hP hD hS [0, 1] (by decide) rfl d_Model_ahead_31
  · skip
    rw [q_ilt hfi (show (60 : Int32).toInt = 60 by decide)] at b6
    have h60 : n1 = 60 := by omega
    subst h60
    have hw := whole_60 hR
    refine lv_aload_n hx hb d_Model_ahead_9 rfl (lv_at hl 0 rfl) ?_
    refine va_get (D := (dC, dI)) (ci := 8) (v := .ref rA) (C := R_Model) (T := F_Model) (N := 26) hx hb hts u_Model hown hK hP 0 rfl rfl 9 (by decide) (hts _ m_572) (fun _ h9 => h9) rfl d_Model_ahead_10 ?_
    refine lv_bipush (v := 60) hx hb d_Model_ahead_13 (by decide) ?_
    refine va_iald hx hb hK hP 1 0 rfl rfl (q_in (show (60 : Int32).toInt = 60 by decide) (by omega)) d_Model_ahead_15 ?_
    refine lv_topi (fun v15 e15 => ?_)
    rw [q_cl (k := 60) ((show (60 : Int32).toInt = 60 by decide))] at e15
    have t15 : v15.toInt = (rdg f 60 : Int) := by rw [e15]; exact rdg_i (hR.1 60 (by omega)).1
    refine lv_iconst (v := 1) hx hb d_Model_ahead_16 (by decide) ?_
    refine lv_icmp_le (tgt := 24) hx hb d_Model_ahead_17 (by decide) (fun b17 => ?_) (fun b17 => ?_)
    · skip
      rw [q_ile t15 (show (1 : Int32).toInt = 1 by decide)] at b17
      refine lv_aload_n hx hb d_Model_ahead_24 rfl (lv_at hl 0 rfl) ?_
      refine va_get (D := (dC, dI)) (ci := 8) (v := .ref rA) (C := R_Model) (T := F_Model) (N := 26) hx hb hts u_Model hown hK hP 0 rfl rfl 9 (by decide) (hts _ m_572) (fun _ h9 => h9) rfl d_Model_ahead_25 ?_
      refine lv_bipush (v := 60) hx hb d_Model_ahead_28 (by decide) ?_
      refine va_iald hx hb hK hP 1 0 rfl rfl (q_in (show (60 : Int32).toInt = 60 by decide) (by omega)) d_Model_ahead_30 ?_
      refine lv_topi (fun v30 e30 => ?_)
      rw [q_cl (k := 60) ((show (60 : Int32).toInt = 60 by decide))] at e30
      have t30 : v30.toInt = (rdg f 60 : Int) := by rw [e30]; exact rdg_i (hR.1 60 (by omega)).1
      exact Ci.ret C0 (v := v30) (u := ()) (Nat.le_of_ble_eq_true rfl) (Nat.le_of_ble_eq_true rfl) (by show v30.toInt = ((min 2 (sv f 400 / 10 ^ 339) : Nat) : Int); rw [hw, t30, show min 2 (rdg f 60) = rdg f 60 from Nat.min_eq_right (by omega)]) hP hD hS [0, 1] (by decide) rfl d_Model_ahead_31
    · skip
      rw [q_ile t15 (show (1 : Int32).toInt = 1 by decide)] at b17
      refine lv_iconst (v := 2) hx hb d_Model_ahead_20 (by decide) ?_
      refine lv_goto (tgt := 31) hx hb d_Model_ahead_21 (by decide) ?_
      exact Ci.ret C0 (v := 2) (u := ()) (Nat.le_of_ble_eq_true rfl) (Nat.le_of_ble_eq_true rfl) (by show (2 : Int32).toInt = ((min 2 (sv f 400 / 10 ^ 339) : Nat) : Int); rw [hw, show min 2 (rdg f 60) = 2 from Nat.min_eq_left (by omega)]; rfl) hP hD hS [0, 1] (by decide) rfl d_Model_ahead_31
set_option maxHeartbeats 4000000 in
set_option maxRecDepth 100000 in
theorem L_Model_behind_38 {p : Program} {l : Launch} {e : Env} {s : State} {m : MethodId} {below : List Frame} {meth : Method} {c : Code} {dC : Nat → ClassId} {dI : Nat → Nat → Nat} {cI cB cJ : ClassId} {A : Nat → Prop} (h0 : Nat) (th : Int32) (we : Int32) (wm : Int32) (wy : Int32) (ra : Int32) (tA : Nat) (tn : Int32) (oA : Nat) (on : Int32) (rA : Nat) (fi : Int32) (la : Int32) (wA : Nat) (wf : Int32) (wl : Int32) (lo : Int32) (ov : Int32) (un : Int32) (aT : Int32) (mi : Int32) (ds : Int32) (dA : Nat) (a0 : Int32) (xp : Int32) (iA : Nat) (te : Int32) (f : Nat → Int32) (n1 : Nat) (n2 : Nat) (C0 : cx dC dI cI cB cJ R_Model b_Model_behind 3 (some .int) p s m ([.ref h0] : List Value).toArray meth c) (hA : ∀ q : Nat, s.heap.size ≤ q → A q) (hfi : fi.toInt = (n1 : Int)) (hla : la.toInt = (n2 : Int)) (hR : RWp f n1 n2) : (∀ (x1 : Int32) (H : Heap) (locs : List Loc) (ls : Array Slot), ((x1 = 0 ∧ sv f 338 = 0) ∨ (x1 = 1 ∧ 0 < sv f 338)) → va_P (dC, dI) vwCl [(h0, .inr (8, [.int th, .int we, .int wm, .int wy, .int ra, .ref tA, .int tn, .ref oA, .int on, .ref rA, .int fi, .int la, .ref wA, .int wf, .int wl, .int lo, .int ov, .int un, .int aT, .int mi, .int ds, .ref dA, .int a0, .int xp, .ref iA, .int te])), (rA, .inl (cI, 400, .inl f))] H → va_D A [(h0, .inr (8, [.int th, .int we, .int wm, .int wy, .int ra, .ref tA, .int tn, .ref oA, .int on, .ref rA, .int fi, .int la, .ref wA, .int wf, .int wl, .int lo, .int ov, .int un, .int aT, .int mi, .int ds, .ref dA, .int a0, .int xp, .ref iA, .int te])), (rA, .inl (cI, 400, .inl f))] → va_S A s.heap H locs → lv_has ls 3 [(1, .int x1), (0, .ref h0)] → W p l e ({ frames := 0, cells := 0, slots := 0, locals := 0 } : Room) s m ([.ref h0] : List Value).toArray below meth c H locs 0 0 (MQ below (va_Qi (fun (r : Int32) (u : Unit) => HB (sv f 339) r.toInt) (poG dC dI A (fun u : Unit => [(h0, .inr (8, [.int th, .int we, .int wm, .int wy, .int ra, .ref tA, .int tn, .ref oA, .int on, .ref rA, .int fi, .int la, .ref wA, .int wf, .int wl, .int lo, .int ov, .int un, .int aT, .int mi, .int ds, .ref dA, .int a0, .int xp, .ref iA, .int te])), (rA, .inl (cI, 400, .inl f))])) A) ([.ref h0] : List Value).toArray s 0 0 A) (F0 m 38 ls [])) := by
  obtain ⟨hx, hb, hml, hown, hts, hr, hlocks, hK, hN⟩ := id C0
  intro x1 H locs ls hs hP hD hS hl
  have hR6 := hR.2.2.2
  have hHB := HB_of hR (so := ¬ x1 = 0) ⟨fun h => hs.elim (fun h2 => absurd h2.1 h) (fun h2 => h2.2), fun h => hs.elim (fun h2 => h2.2) (fun h2 => absurd (fun h3 => absurd (h3.symm.trans h2.1) (by decide)) h)⟩
  refine lv_aload_n hx hb d_Model_behind_38 rfl (lv_at hl 1 rfl) ?_
  refine va_get (D := (dC, dI)) (ci := 8) (v := .ref rA) (C := R_Model) (T := F_Model) (N := 26) hx hb hts u_Model hown hK hP 0 rfl rfl 9 (by decide) (hts _ m_572) (fun _ h9 => h9) rfl d_Model_behind_39 ?_
  refine lv_bipush (v := 61) hx hb d_Model_behind_42 (by decide) ?_
  refine va_iald hx hb hK hP 1 0 rfl rfl (q_in (show (61 : Int32).toInt = 61 by decide) (by omega)) d_Model_behind_44 ?_
  refine lv_topi (fun v44 e44 => ?_)
  rw [q_cl (k := 61) ((show (61 : Int32).toInt = 61 by decide))] at e44
  have t44 : v44.toInt = (rdg f 61 : Int) := by rw [e44]; exact rdg_i (hR.1 61 (by omega)).1
  refine lv_istore_n (lv' := [(2, .int v44), (1, .int x1), (0, .ref h0)]) hx hb d_Model_behind_45 rfl hl (by decide) rfl (fun ls hl => ?_)
  refine lv_iload_n hx hb d_Model_behind_46 rfl (lv_at hl 0 rfl) ?_
  refine lv_iconst (v := 5) hx hb d_Model_behind_47 (by decide) ?_
  refine lv_icmp_ne (tgt := 61) hx hb d_Model_behind_48 (by decide) (fun b48 => ?_) (fun b48 => ?_)
  · skip
    rw [q_ieq t44 (show (5 : Int32).toInt = 5 by decide)] at b48
    refine lv_iload_n hx hb d_Model_behind_61 rfl (lv_at hl 0 rfl) ?_
    refine lv_iconst (v := 5) hx hb d_Model_behind_62 (by decide) ?_
    refine lv_icmp_le (tgt := 70) hx hb d_Model_behind_63 (by decide) (fun b63 => ?_) (fun b63 => ?_)
    · skip
      rw [q_ile t44 (show (5 : Int32).toInt = 5 by decide)] at b63
      refine lv_iload_n hx hb d_Model_behind_70 rfl (lv_at hl 0 rfl) ?_
      refine lv_if_gt (tgt := 78) hx hb d_Model_behind_71 (by decide) (fun b71 => ?_) (fun b71 => ?_)
      · skip
        rw [q_ilt (show (0 : Int32).toInt = 0 by decide) t44] at b71
        refine lv_iconst (v := 1) hx hb d_Model_behind_78 (by decide) ?_
        refine lv_goto (tgt := 83) hx hb d_Model_behind_79 (by decide) ?_
        exact Ci.ret C0 (v := 1) (u := ()) (Nat.le_of_ble_eq_true rfl) (Nat.le_of_ble_eq_true rfl) (by show HB (sv f 339) (1 : Int32).toInt; exact hHB.2.2.2.1 (by omega) (by omega)) hP hD hS [0, 1] (by decide) rfl d_Model_behind_83
      · skip
        rw [q_ilt (show (0 : Int32).toInt = 0 by decide) t44] at b71
        refine lv_iload_n hx hb d_Model_behind_74 rfl (lv_at hl 1 rfl) ?_
        refine lv_if_eq (tgt := 82) hx hb d_Model_behind_75 (by decide) (fun b75 => ?_) (fun b75 => ?_)
        · skip
          refine lv_iconst (v := 0) hx hb d_Model_behind_82 (by decide) ?_
          exact Ci.ret C0 (v := 0) (u := ()) (Nat.le_of_ble_eq_true rfl) (Nat.le_of_ble_eq_true rfl) (by show HB (sv f 339) (0 : Int32).toInt; exact hHB.2.2.2.2.2 (by omega) (fun h => h b75)) hP hD hS [0, 1] (by decide) rfl d_Model_behind_83
        · skip
          refine lv_iconst (v := 1) hx hb d_Model_behind_78 (by decide) ?_
          refine lv_goto (tgt := 83) hx hb d_Model_behind_79 (by decide) ?_
          exact Ci.ret C0 (v := 1) (u := ()) (Nat.le_of_ble_eq_true rfl) (Nat.le_of_ble_eq_true rfl) (by show HB (sv f 339) (1 : Int32).toInt; exact hHB.2.2.2.2.1 (by omega) b75) hP hD hS [0, 1] (by decide) rfl d_Model_behind_83
    · skip
      rw [q_ile t44 (show (5 : Int32).toInt = 5 by decide)] at b63
      refine lv_iconst (v := 3) hx hb d_Model_behind_66 (by decide) ?_
      refine lv_goto (tgt := 83) hx hb d_Model_behind_67 (by decide) ?_
      exact Ci.ret C0 (v := 3) (u := ()) (Nat.le_of_ble_eq_true rfl) (Nat.le_of_ble_eq_true rfl) (by show HB (sv f 339) (3 : Int32).toInt; exact hHB.2.2.1 (by omega)) hP hD hS [0, 1] (by decide) rfl d_Model_behind_83
  · skip
    rw [q_ieq t44 (show (5 : Int32).toInt = 5 by decide)] at b48
    refine lv_iload_n hx hb d_Model_behind_51 rfl (lv_at hl 1 rfl) ?_
    refine lv_if_eq (tgt := 59) hx hb d_Model_behind_52 (by decide) (fun b52 => ?_) (fun b52 => ?_)
    · skip
      refine lv_iconst (v := 2) hx hb d_Model_behind_59 (by decide) ?_
      exact Ci.ret C0 (v := 2) (u := ()) (Nat.le_of_ble_eq_true rfl) (Nat.le_of_ble_eq_true rfl) (by show HB (sv f 339) (2 : Int32).toInt; exact hHB.2.1 (by omega) (fun h => h b52)) hP hD hS [0, 1] (by decide) rfl d_Model_behind_60
    · skip
      refine lv_iconst (v := 3) hx hb d_Model_behind_55 (by decide) ?_
      refine lv_goto (tgt := 60) hx hb d_Model_behind_56 (by decide) ?_
      exact Ci.ret C0 (v := 3) (u := ()) (Nat.le_of_ble_eq_true rfl) (Nat.le_of_ble_eq_true rfl) (by show HB (sv f 339) (3 : Int32).toInt; exact hHB.1 (by omega) b52) hP hD hS [0, 1] (by decide) rfl d_Model_behind_60
set_option maxHeartbeats 4000000 in
set_option maxRecDepth 100000 in
theorem L_Model_behind_5 {p : Program} {l : Launch} {e : Env} {s : State} {m : MethodId} {below : List Frame} {meth : Method} {c : Code} {dC : Nat → ClassId} {dI : Nat → Nat → Nat} {cI cB cJ : ClassId} {A : Nat → Prop} (h0 : Nat) (th : Int32) (we : Int32) (wm : Int32) (wy : Int32) (ra : Int32) (tA : Nat) (tn : Int32) (oA : Nat) (on : Int32) (rA : Nat) (fi : Int32) (la : Int32) (wA : Nat) (wf : Int32) (wl : Int32) (lo : Int32) (ov : Int32) (un : Int32) (aT : Int32) (mi : Int32) (ds : Int32) (dA : Nat) (a0 : Int32) (xp : Int32) (iA : Nat) (te : Int32) (f : Nat → Int32) (n1 : Nat) (n2 : Nat) (C0 : cx dC dI cI cB cJ R_Model b_Model_behind 3 (some .int) p s m ([.ref h0] : List Value).toArray meth c) (hA : ∀ q : Nat, s.heap.size ≤ q → A q) (hfi : fi.toInt = (n1 : Int)) (hla : la.toInt = (n2 : Int)) (hR : RWp f n1 n2) : ∀ n : Nat, (∀ (x1 : Int32) (x2 : Int32) (i : Nat) (H : Heap) (locs : List Loc) (ls : Array Slot), 500 - i < n → x2.toInt = (i : Int) → (62 ≤ i) → ((x1 = 0 ∧ ∀ j, 62 ≤ j → j < i → (f j).toInt = 0) ∨ (x1 = 1 ∧ 0 < sv f 338)) → va_P (dC, dI) vwCl [(h0, .inr (8, [.int th, .int we, .int wm, .int wy, .int ra, .ref tA, .int tn, .ref oA, .int on, .ref rA, .int fi, .int la, .ref wA, .int wf, .int wl, .int lo, .int ov, .int un, .int aT, .int mi, .int ds, .ref dA, .int a0, .int xp, .ref iA, .int te])), (rA, .inl (cI, 400, .inl f))] H → va_D A [(h0, .inr (8, [.int th, .int we, .int wm, .int wy, .int ra, .ref tA, .int tn, .ref oA, .int on, .ref rA, .int fi, .int la, .ref wA, .int wf, .int wl, .int lo, .int ov, .int un, .int aT, .int mi, .int ds, .ref dA, .int a0, .int xp, .ref iA, .int te])), (rA, .inl (cI, 400, .inl f))] → va_S A s.heap H locs → lv_has ls 3 [(2, .int x2), (1, .int x1), (0, .ref h0)] → W p l e ({ frames := 0, cells := 0, slots := 0, locals := 0 } : Room) s m ([.ref h0] : List Value).toArray below meth c H locs 0 0 (MQ below (va_Qi (fun (r : Int32) (u : Unit) => HB (sv f 339) r.toInt) (poG dC dI A (fun u : Unit => [(h0, .inr (8, [.int th, .int we, .int wm, .int wy, .int ra, .ref tA, .int tn, .ref oA, .int on, .ref rA, .int fi, .int la, .ref wA, .int wf, .int wl, .int lo, .int ov, .int un, .int aT, .int mi, .int ds, .ref dA, .int a0, .int xp, .ref iA, .int te])), (rA, .inl (cI, 400, .inl f))])) A) ([.ref h0] : List Value).toArray s 0 0 A) (F0 m 5 ls [])) := by
  obtain ⟨hx, hb, hml, hown, hts, hr, hlocks, hK, hN⟩ := id C0
  intro n
  induction n with
  | zero => exact fun _ _ _ _ _ _ h0 _ _ _ _ _ _ _ => absurd h0 (Nat.not_lt_zero _)
  | succ n ih =>
    intro x1 x2 i H locs ls hn9 t_x2 hi hs hP hD hS hl
    have r_x2 := q_r32 x2
    have hR6 := hR.2.2.2
    refine lv_iload_n hx hb d_Model_behind_5 rfl (lv_at hl 0 rfl) ?_
    refine lv_aload_n hx hb d_Model_behind_6 rfl (lv_at hl 2 rfl) ?_
    refine va_get (D := (dC, dI)) (ci := 8) (v := .int la) (C := R_Model) (T := F_Model) (N := 26) hx hb hts u_Model hown hK hP 0 rfl rfl 11 (by decide) (hts _ m_574) (fun _ h9 => h9) rfl d_Model_behind_7 ?_
    refine lv_icmp_gt (tgt := 38) hx hb d_Model_behind_10 (by decide) (fun b10 => ?_) (fun b10 => ?_)
    · skip
      rw [q_ilt hla t_x2] at b10
      exact L_Model_behind_38 (h0) (th) (we) (wm) (wy) (ra) (tA) (tn) (oA) (on) (rA) (fi) (la) (wA) (wf) (wl) (lo) (ov) (un) (aT) (mi) (ds) (dA) (a0) (xp) (iA) (te) (f) (n1) (n2) C0 hA (hfi) (hla) (hR) (x1) H locs ls (by exact hs.imp (fun h => ⟨h.1, sv_zero (by omega) (fun j a b => rdg_0 ((Nat.lt_or_ge j i).elim (fun h3 => h.2 j (by omega) h3) (fun h3 => hR.2.2.1 j (by omega) b)))⟩) id) (va_Psub hP [0, 1] rfl) (hD.sub [0, 1] (by decide) rfl) hS (lv_sub hl [1, 2] rfl)
    · skip
      rw [q_ilt hla t_x2] at b10
      refine lv_iload_n hx hb d_Model_behind_13 rfl (lv_at hl 1 rfl) ?_
      refine lv_if_ne (tgt := 38) hx hb d_Model_behind_14 (by decide) (fun b14 => ?_) (fun b14 => ?_)
      · skip
        exact L_Model_behind_38 (h0) (th) (we) (wm) (wy) (ra) (tA) (tn) (oA) (on) (rA) (fi) (la) (wA) (wf) (wl) (lo) (ov) (un) (aT) (mi) (ds) (dA) (a0) (xp) (iA) (te) (f) (n1) (n2) C0 hA (hfi) (hla) (hR) (x1) H locs ls (by exact Or.inr (hs.elim (fun h => absurd h.1 b14) id)) (va_Psub hP [0, 1] rfl) (hD.sub [0, 1] (by decide) rfl) hS (lv_sub hl [1, 2] rfl)
      · skip
        refine lv_aload_n hx hb d_Model_behind_17 rfl (lv_at hl 2 rfl) ?_
        refine va_get (D := (dC, dI)) (ci := 8) (v := .ref rA) (C := R_Model) (T := F_Model) (N := 26) hx hb hts u_Model hown hK hP 0 rfl rfl 9 (by decide) (hts _ m_572) (fun _ h9 => h9) rfl d_Model_behind_18 ?_
        refine lv_iload_n hx hb d_Model_behind_21 rfl (lv_at hl 0 rfl) ?_
        refine va_iald hx hb hK hP 1 0 rfl rfl (q_in t_x2 (by omega)) d_Model_behind_22 ?_
        refine lv_topi (fun v22 e22 => ?_)
        rw [q_cl (k := i) (t_x2)] at e22
        have t22 : v22.toInt = (rdg f i : Int) := by rw [e22]; exact rdg_i (hR.1 i (by omega)).1
        refine lv_if_le (tgt := 30) hx hb d_Model_behind_23 (by decide) (fun b23 => ?_) (fun b23 => ?_)
        · skip
          rw [q_ile t22 (show (0 : Int32).toInt = 0 by decide)] at b23
          refine lv_iconst (v := 0) hx hb d_Model_behind_30 (by decide) ?_
          refine lv_istore_n (lv' := [(1, .int 0), (2, .int x2), (0, .ref h0)]) hx hb d_Model_behind_31 rfl hl (by decide) rfl (fun ls hl => ?_)
          obtain ⟨v32, e32⟩ : ∃ y : Int32, y = x2 + 1 := ⟨_, rfl⟩
          have t32 : v32.toInt = (i : Int) + 1 := by rw [e32]; exact q_iadd t_x2 (show (1 : Int32).toInt = 1 by decide) (by omega)
          refine lv_iinc (v := v32) (lv' := [(2, .int v32), (1, .int 0), (0, .ref h0)]) hx hb d_Model_behind_32 hl (k := 1) rfl (by rw [e32]; rfl) (by decide) rfl (fun ls hl => ?_)
          refine lv_goto (tgt := 5) hx hb d_Model_behind_35 (by decide) ?_
          exact ih (0) (v32) (i + 1) H locs ls (by omega) ((t32).trans (by omega)) (by omega) (by exact Or.inl ⟨rfl, fun j h1 h2 => hs.elim (fun h => (Nat.lt_or_ge j i).elim (fun h3 => h.2 j h1 h3) (fun h3 => by rw [show j = i by omega, rdg_i (hR.1 i (by omega)).1]; omega)) (fun h => absurd (b14.symm.trans h.1) (by decide))⟩) (va_Psub hP [0, 1] rfl) (hD.sub [0, 1] (by decide) rfl) hS (lv_sub hl [0, 1, 2] rfl)
        · skip
          rw [q_ile t22 (show (0 : Int32).toInt = 0 by decide)] at b23
          refine lv_iconst (v := 1) hx hb d_Model_behind_26 (by decide) ?_
          refine lv_goto (tgt := 31) hx hb d_Model_behind_27 (by decide) ?_
          refine lv_istore_n (lv' := [(1, .int 1), (2, .int x2), (0, .ref h0)]) hx hb d_Model_behind_31 rfl hl (by decide) rfl (fun ls hl => ?_)
          obtain ⟨v32, e32⟩ : ∃ y : Int32, y = x2 + 1 := ⟨_, rfl⟩
          have t32 : v32.toInt = (i : Int) + 1 := by rw [e32]; exact q_iadd t_x2 (show (1 : Int32).toInt = 1 by decide) (by omega)
          refine lv_iinc (v := v32) (lv' := [(2, .int v32), (1, .int 1), (0, .ref h0)]) hx hb d_Model_behind_32 hl (k := 1) rfl (by rw [e32]; rfl) (by decide) rfl (fun ls hl => ?_)
          refine lv_goto (tgt := 5) hx hb d_Model_behind_35 (by decide) ?_
          exact ih (1) (v32) (i + 1) H locs ls (by omega) ((t32).trans (by omega)) (by omega) (by exact Or.inr ⟨rfl, sv_pos (k := i) (by omega) (by omega) (by omega) (by omega)⟩) (va_Psub hP [0, 1] rfl) (hD.sub [0, 1] (by decide) rfl) hS (lv_sub hl [0, 1, 2] rfl)
set_option maxHeartbeats 4000000 in
set_option maxRecDepth 100000 in
theorem c_Model_behind (l : Launch) (dC : Nat → ClassId) (dI : Nat → Nat → Nat) (cI cB cJ : ClassId) (h0 : Nat) (th : Int32) (we : Int32) (wm : Int32) (wy : Int32) (ra : Int32) (tA : Nat) (tn : Int32) (oA : Nat) (on : Int32) (rA : Nat) (fi : Int32) (la : Int32) (wA : Nat) (wf : Int32) (wl : Int32) (lo : Int32) (ov : Int32) (un : Int32) (aT : Int32) (mi : Int32) (ds : Int32) (dA : Nat) (a0 : Int32) (xp : Int32) (iA : Nat) (te : Int32) (f : Nat → Int32) (n1 : Nat) (n2 : Nat) (hfi : fi.toInt = (n1 : Int)) (hla : la.toInt = (n2 : Int)) (hR : RWp f n1 n2) : Ci l dC dI cI cB cJ y_Model_behind w_Model_behind ({ frames := 0, cells := 0, slots := 0, locals := 0 } : Room) [.ref h0] [(h0, .inr (8, [.int th, .int we, .int wm, .int wy, .int ra, .ref tA, .int tn, .ref oA, .int on, .ref rA, .int fi, .int la, .ref wA, .int wf, .int wl, .int lo, .int ov, .int un, .int aT, .int mi, .int ds, .ref dA, .int a0, .int xp, .ref iA, .int te])), (rA, .inl (cI, 400, .inl f))] (fun (r : Int32) (u : Unit) => HB (sv f 339) r.toInt) (fun u : Unit => [(h0, .inr (8, [.int th, .int we, .int wm, .int wy, .int ra, .ref tA, .int tn, .ref oA, .int on, .ref rA, .int fi, .int la, .ref wA, .int wf, .int wl, .int lo, .int ov, .int un, .int aT, .int mi, .int ds, .ref dA, .int a0, .int xp, .ref iA, .int te])), (rA, .inl (cI, 400, .inl f))]) := by
  refine Ci.intro (cc := b_Model_behind) (maxL := 3) (plainFor_of_name (by decide)) rfl (Nat.le_of_ble_eq_true rfl) ?_
  intro p e s m below meth c A ls C0 hin hA hP hD hS hl
  obtain ⟨hx, hb, hml, hown, hts, hr, hlocks, hK, hN⟩ := id C0
  obtain ⟨H, hH⟩ : ∃ H, H = s.heap := ⟨_, rfl⟩
  have hP : va_P (dC, dI) vwCl [(h0, .inr (8, [.int th, .int we, .int wm, .int wy, .int ra, .ref tA, .int tn, .ref oA, .int on, .ref rA, .int fi, .int la, .ref wA, .int wf, .int wl, .int lo, .int ov, .int un, .int aT, .int mi, .int ds, .ref dA, .int a0, .int xp, .ref iA, .int te])), (rA, .inl (cI, 400, .inl f))] s.heap := hP
  have hl : lv_has ls 3 [(0, .ref h0)] := hl
  suffices h : ∀ (H : Heap) (locs : List Loc), va_P (dC, dI) vwCl [(h0, .inr (8, [.int th, .int we, .int wm, .int wy, .int ra, .ref tA, .int tn, .ref oA, .int on, .ref rA, .int fi, .int la, .ref wA, .int wf, .int wl, .int lo, .int ov, .int un, .int aT, .int mi, .int ds, .ref dA, .int a0, .int xp, .ref iA, .int te])), (rA, .inl (cI, 400, .inl f))] H → va_D A [(h0, .inr (8, [.int th, .int we, .int wm, .int wy, .int ra, .ref tA, .int tn, .ref oA, .int on, .ref rA, .int fi, .int la, .ref wA, .int wf, .int wl, .int lo, .int ov, .int un, .int aT, .int mi, .int ds, .ref dA, .int a0, .int xp, .ref iA, .int te])), (rA, .inl (cI, 400, .inl f))] → va_S A s.heap H locs → W p l e ({ frames := 0, cells := 0, slots := 0, locals := 0 } : Room) s m ([.ref h0] : List Value).toArray below meth c H locs 0 0 (MQ below (va_Qi (fun (r : Int32) (u : Unit) => HB (sv f 339) r.toInt) (poG dC dI A (fun u : Unit => [(h0, .inr (8, [.int th, .int we, .int wm, .int wy, .int ra, .ref tA, .int tn, .ref oA, .int on, .ref rA, .int fi, .int la, .ref wA, .int wf, .int wl, .int lo, .int ov, .int un, .int aT, .int mi, .int ds, .ref dA, .int a0, .int xp, .ref iA, .int te])), (rA, .inl (cI, 400, .inl f))])) A) ([.ref h0] : List Value).toArray s 0 0 A) (F0 m 0 ls []) from h _ _ hP hD hS
  clear hP hD hS hH H
  intro H locs hP hD hS
  have hR6 := hR.2.2.2
  refine lv_iconst (v := 0) hx hb d_Model_behind_0 (by decide) ?_
  refine lv_istore_n (lv' := [(1, .int 0), (0, .ref h0)]) hx hb d_Model_behind_1 rfl hl (by decide) rfl (fun ls hl => ?_)
  refine lv_bipush (v := 62) hx hb d_Model_behind_2 (by decide) ?_
  refine lv_istore_n (lv' := [(2, .int 62), (1, .int 0), (0, .ref h0)]) hx hb d_Model_behind_4 rfl hl (by decide) rfl (fun ls hl => ?_)
  exact L_Model_behind_5 (h0) (th) (we) (wm) (wy) (ra) (tA) (tn) (oA) (on) (rA) (fi) (la) (wA) (wf) (wl) (lo) (ov) (un) (aT) (mi) (ds) (dA) (a0) (xp) (iA) (te) (f) (n1) (n2) C0 hA (hfi) (hla) (hR) _ (0) (62) (62) H locs ls (Nat.lt_succ_self _) (((show (62 : Int32).toInt = 62 by decide)).trans (by omega)) (by omega) (by exact Or.inl ⟨rfl, fun j h1 h2 => by omega⟩) (va_Psub hP [0, 1] rfl) (hD.sub [0, 1] (by decide) rfl) hS (lv_sub hl [0, 1, 2] rfl)
set_option maxHeartbeats 4000000 in
set_option maxRecDepth 100000 in
theorem c_Model_goesUp (l : Launch) (dC : Nat → ClassId) (dI : Nat → Nat → Nat) (cI cB cJ : ClassId) (h0 : Nat) (th : Int32) (we : Int32) (wm : Int32) (wy : Int32) (ra : Int32) (tA : Nat) (tn : Int32) (oA : Nat) (on : Int32) (rA : Nat) (fi : Int32) (la : Int32) (wA : Nat) (wf : Int32) (wl : Int32) (lo : Int32) (ov : Int32) (un : Int32) (aT : Int32) (mi : Int32) (ds : Int32) (dA : Nat) (a0 : Int32) (xp : Int32) (iA : Nat) (te : Int32) (bl : Int32) (by_ : Int32) (mv : Int64) (mm : Nat) (rs : Int32) (hby : 0 ≤ by_.toInt ∧ by_.toInt ≤ 4) (hmv : mv.toInt = (mm : Int)) : Ci l dC dI cI cB cJ y_Model_goesUp w_Model_goesUp ({ frames := 0, cells := 0, slots := 0, locals := 0 } : Room) [.ref h0, .int bl, .int by_, .long mv, .int rs] [(h0, .inr (8, [.int th, .int we, .int wm, .int wy, .int ra, .ref tA, .int tn, .ref oA, .int on, .ref rA, .int fi, .int la, .ref wA, .int wf, .int wl, .int lo, .int ov, .int un, .int aT, .int mi, .int ds, .ref dA, .int a0, .int xp, .ref iA, .int te]))] (fun (r : Int32) (u : Unit) => (r = 1 ∧ ((by_.toInt = 0 ∧ (rs.toInt = 3 ∨ (rs.toInt = 2 ∧ mm % 2 = 1))) ∨ (by_.toInt = 2 ∧ 0 < rs.toInt ∧ bl = 0) ∨ (by_.toInt = 3 ∧ 0 < rs.toInt ∧ ¬ bl = 0) ∨ (by_.toInt = 4 ∧ 1 < rs.toInt))) ∨ (r = 0 ∧ ¬ ((by_.toInt = 0 ∧ (rs.toInt = 3 ∨ (rs.toInt = 2 ∧ mm % 2 = 1))) ∨ (by_.toInt = 2 ∧ 0 < rs.toInt ∧ bl = 0) ∨ (by_.toInt = 3 ∧ 0 < rs.toInt ∧ ¬ bl = 0) ∨ (by_.toInt = 4 ∧ 1 < rs.toInt)))) (fun u : Unit => [(h0, .inr (8, [.int th, .int we, .int wm, .int wy, .int ra, .ref tA, .int tn, .ref oA, .int on, .ref rA, .int fi, .int la, .ref wA, .int wf, .int wl, .int lo, .int ov, .int un, .int aT, .int mi, .int ds, .ref dA, .int a0, .int xp, .ref iA, .int te]))]) := by
  refine Ci.intro (cc := b_Model_goesUp) (maxL := 6) (plainFor_of_name (by decide)) rfl (Nat.le_of_ble_eq_true rfl) ?_
  intro p e s m below meth c A ls C0 hin hA hP hD hS hl
  obtain ⟨hx, hb, hml, hown, hts, hr, hlocks, hK, hN⟩ := id C0
  obtain ⟨H, hH⟩ : ∃ H, H = s.heap := ⟨_, rfl⟩
  have hP : va_P (dC, dI) vwCl [(h0, .inr (8, [.int th, .int we, .int wm, .int wy, .int ra, .ref tA, .int tn, .ref oA, .int on, .ref rA, .int fi, .int la, .ref wA, .int wf, .int wl, .int lo, .int ov, .int un, .int aT, .int mi, .int ds, .ref dA, .int a0, .int xp, .ref iA, .int te]))] s.heap := hP
  have hl : lv_has ls 6 [(0, .ref h0), (1, .int bl), (2, .int by_), (3, .long mv), (5, .int rs)] := hl
  have r_by_ := q_r32 by_
  have r_mv := q_r64 mv
  have r_rs := q_r32 rs
  suffices h : ∀ (H : Heap) (locs : List Loc), va_P (dC, dI) vwCl [(h0, .inr (8, [.int th, .int we, .int wm, .int wy, .int ra, .ref tA, .int tn, .ref oA, .int on, .ref rA, .int fi, .int la, .ref wA, .int wf, .int wl, .int lo, .int ov, .int un, .int aT, .int mi, .int ds, .ref dA, .int a0, .int xp, .ref iA, .int te]))] H → va_D A [(h0, .inr (8, [.int th, .int we, .int wm, .int wy, .int ra, .ref tA, .int tn, .ref oA, .int on, .ref rA, .int fi, .int la, .ref wA, .int wf, .int wl, .int lo, .int ov, .int un, .int aT, .int mi, .int ds, .ref dA, .int a0, .int xp, .ref iA, .int te]))] → va_S A s.heap H locs → W p l e ({ frames := 0, cells := 0, slots := 0, locals := 0 } : Room) s m ([.ref h0, .int bl, .int by_, .long mv, .int rs] : List Value).toArray below meth c H locs 0 0 (MQ below (va_Qi (fun (r : Int32) (u : Unit) => (r = 1 ∧ ((by_.toInt = 0 ∧ (rs.toInt = 3 ∨ (rs.toInt = 2 ∧ mm % 2 = 1))) ∨ (by_.toInt = 2 ∧ 0 < rs.toInt ∧ bl = 0) ∨ (by_.toInt = 3 ∧ 0 < rs.toInt ∧ ¬ bl = 0) ∨ (by_.toInt = 4 ∧ 1 < rs.toInt))) ∨ (r = 0 ∧ ¬ ((by_.toInt = 0 ∧ (rs.toInt = 3 ∨ (rs.toInt = 2 ∧ mm % 2 = 1))) ∨ (by_.toInt = 2 ∧ 0 < rs.toInt ∧ bl = 0) ∨ (by_.toInt = 3 ∧ 0 < rs.toInt ∧ ¬ bl = 0) ∨ (by_.toInt = 4 ∧ 1 < rs.toInt)))) (poG dC dI A (fun u : Unit => [(h0, .inr (8, [.int th, .int we, .int wm, .int wy, .int ra, .ref tA, .int tn, .ref oA, .int on, .ref rA, .int fi, .int la, .ref wA, .int wf, .int wl, .int lo, .int ov, .int un, .int aT, .int mi, .int ds, .ref dA, .int a0, .int xp, .ref iA, .int te]))])) A) ([.ref h0, .int bl, .int by_, .long mv, .int rs] : List Value).toArray s 0 0 A) (F0 m 0 ls []) from h _ _ hP hD hS
  clear hP hD hS hH H
  intro H locs hP hD hS
  refine lv_iload_n hx hb d_Model_goesUp_0 rfl (lv_at hl 2 rfl) ?_
  rcases (show by_.toInt = 0 ∨ by_.toInt = 1 ∨ by_.toInt = 2 ∨ by_.toInt = 3 ∨ (by_.toInt < 0 ∨ 3 < by_.toInt) by omega) with w1 | w1 | w1 | w1 | w1
  · skip
    refine lv_tableIn (off := 31) (tgt := 32) hx hb d_Model_goesUp_1 (by rw [(rfl : by_.toInt = by_.toInt)]; omega) (by rw [(rfl : by_.toInt = by_.toInt)]; omega) (by rw [(rfl : by_.toInt = by_.toInt), w1]; rfl) (by decide) ?_
    refine lv_iload hx hb d_Model_goesUp_32 (lv_at hl 4 rfl) ?_
    refine lv_iconst (v := 3) hx hb d_Model_goesUp_34 (by decide) ?_
    refine lv_icmp_eq (tgt := 52) hx hb d_Model_goesUp_35 (by decide) (fun b35 => ?_) (fun b35 => ?_)
    · skip
      rw [q_ieq (rfl : rs.toInt = rs.toInt) (show (3 : Int32).toInt = 3 by decide)] at b35
      refine lv_iconst (v := 1) hx hb d_Model_goesUp_52 (by decide) ?_
      refine lv_goto (tgt := 57) hx hb d_Model_goesUp_53 (by decide) ?_
      exact Cz.ret C0 (v := 1) (u := ()) (by rfl) (Nat.le_of_ble_eq_true rfl) (Nat.le_of_ble_eq_true rfl) (by show ((1 : Int32) = 1 ∧ ((by_.toInt = 0 ∧ (rs.toInt = 3 ∨ (rs.toInt = 2 ∧ mm % 2 = 1))) ∨ (by_.toInt = 2 ∧ 0 < rs.toInt ∧ bl = 0) ∨ (by_.toInt = 3 ∧ 0 < rs.toInt ∧ ¬ bl = 0) ∨ (by_.toInt = 4 ∧ 1 < rs.toInt))) ∨ ((1 : Int32) = 0 ∧ ¬ ((by_.toInt = 0 ∧ (rs.toInt = 3 ∨ (rs.toInt = 2 ∧ mm % 2 = 1))) ∨ (by_.toInt = 2 ∧ 0 < rs.toInt ∧ bl = 0) ∨ (by_.toInt = 3 ∧ 0 < rs.toInt ∧ ¬ bl = 0) ∨ (by_.toInt = 4 ∧ 1 < rs.toInt))); exact Or.inl ⟨rfl, Or.inl ⟨w1, Or.inl b35⟩⟩) hP hD hS [0] (by decide) rfl d_Model_goesUp_57
    · skip
      rw [q_ieq (rfl : rs.toInt = rs.toInt) (show (3 : Int32).toInt = 3 by decide)] at b35
      refine lv_iload hx hb d_Model_goesUp_38 (lv_at hl 4 rfl) ?_
      refine lv_iconst (v := 2) hx hb d_Model_goesUp_40 (by decide) ?_
      refine lv_icmp_ne (tgt := 56) hx hb d_Model_goesUp_41 (by decide) (fun b41 => ?_) (fun b41 => ?_)
      · skip
        rw [q_ieq (rfl : rs.toInt = rs.toInt) (show (2 : Int32).toInt = 2 by decide)] at b41
        refine lv_iconst (v := 0) hx hb d_Model_goesUp_56 (by decide) ?_
        exact Cz.ret C0 (v := 0) (u := ()) (by rfl) (Nat.le_of_ble_eq_true rfl) (Nat.le_of_ble_eq_true rfl) (by show ((0 : Int32) = 1 ∧ ((by_.toInt = 0 ∧ (rs.toInt = 3 ∨ (rs.toInt = 2 ∧ mm % 2 = 1))) ∨ (by_.toInt = 2 ∧ 0 < rs.toInt ∧ bl = 0) ∨ (by_.toInt = 3 ∧ 0 < rs.toInt ∧ ¬ bl = 0) ∨ (by_.toInt = 4 ∧ 1 < rs.toInt))) ∨ ((0 : Int32) = 0 ∧ ¬ ((by_.toInt = 0 ∧ (rs.toInt = 3 ∨ (rs.toInt = 2 ∧ mm % 2 = 1))) ∨ (by_.toInt = 2 ∧ 0 < rs.toInt ∧ bl = 0) ∨ (by_.toInt = 3 ∧ 0 < rs.toInt ∧ ¬ bl = 0) ∨ (by_.toInt = 4 ∧ 1 < rs.toInt))); exact Or.inr ⟨rfl, fun h => by rcases h with h | h | h | h <;> omega⟩) hP hD hS [0] (by decide) rfl d_Model_goesUp_57
      · skip
        rw [q_ieq (rfl : rs.toInt = rs.toInt) (show (2 : Int32).toInt = 2 by decide)] at b41
        refine lv_lload_n hx hb d_Model_goesUp_44 rfl (lv_at hl 3 rfl) ?_
        refine lv_lconst (v := 1) hx hb d_Model_goesUp_45 (by decide) ?_
        refine lv_land hx hb d_Model_goesUp_46 ?_
        refine lv_topl (fun v46 e46 => ?_)
        have t46 : v46.toInt = ((mm % 2 : Nat) : Int) := by rw [e46]; exact q_and1 hmv
        refine lv_lconst (v := 1) hx hb d_Model_goesUp_47 (by decide) ?_
        refine W.lcmp hx hb d_Model_goesUp_48 ?_
        refine lv_if_ne (tgt := 56) hx hb d_Model_goesUp_49 (by decide) (fun b49 => ?_) (fun b49 => ?_)
        · skip
          rw [q_cmp_eq t46 (show (1 : Int64).toInt = 1 by decide)] at b49
          refine lv_iconst (v := 0) hx hb d_Model_goesUp_56 (by decide) ?_
          exact Cz.ret C0 (v := 0) (u := ()) (by rfl) (Nat.le_of_ble_eq_true rfl) (Nat.le_of_ble_eq_true rfl) (by show ((0 : Int32) = 1 ∧ ((by_.toInt = 0 ∧ (rs.toInt = 3 ∨ (rs.toInt = 2 ∧ mm % 2 = 1))) ∨ (by_.toInt = 2 ∧ 0 < rs.toInt ∧ bl = 0) ∨ (by_.toInt = 3 ∧ 0 < rs.toInt ∧ ¬ bl = 0) ∨ (by_.toInt = 4 ∧ 1 < rs.toInt))) ∨ ((0 : Int32) = 0 ∧ ¬ ((by_.toInt = 0 ∧ (rs.toInt = 3 ∨ (rs.toInt = 2 ∧ mm % 2 = 1))) ∨ (by_.toInt = 2 ∧ 0 < rs.toInt ∧ bl = 0) ∨ (by_.toInt = 3 ∧ 0 < rs.toInt ∧ ¬ bl = 0) ∨ (by_.toInt = 4 ∧ 1 < rs.toInt))); exact Or.inr ⟨rfl, fun h => by rcases h with h | h | h | h <;> omega⟩) hP hD hS [0] (by decide) rfl d_Model_goesUp_57
        · skip
          rw [q_cmp_eq t46 (show (1 : Int64).toInt = 1 by decide)] at b49
          refine lv_iconst (v := 1) hx hb d_Model_goesUp_52 (by decide) ?_
          refine lv_goto (tgt := 57) hx hb d_Model_goesUp_53 (by decide) ?_
          exact Cz.ret C0 (v := 1) (u := ()) (by rfl) (Nat.le_of_ble_eq_true rfl) (Nat.le_of_ble_eq_true rfl) (by show ((1 : Int32) = 1 ∧ ((by_.toInt = 0 ∧ (rs.toInt = 3 ∨ (rs.toInt = 2 ∧ mm % 2 = 1))) ∨ (by_.toInt = 2 ∧ 0 < rs.toInt ∧ bl = 0) ∨ (by_.toInt = 3 ∧ 0 < rs.toInt ∧ ¬ bl = 0) ∨ (by_.toInt = 4 ∧ 1 < rs.toInt))) ∨ ((1 : Int32) = 0 ∧ ¬ ((by_.toInt = 0 ∧ (rs.toInt = 3 ∨ (rs.toInt = 2 ∧ mm % 2 = 1))) ∨ (by_.toInt = 2 ∧ 0 < rs.toInt ∧ bl = 0) ∨ (by_.toInt = 3 ∧ 0 < rs.toInt ∧ ¬ bl = 0) ∨ (by_.toInt = 4 ∧ 1 < rs.toInt))); exact Or.inl ⟨rfl, Or.inl ⟨w1, Or.inr ⟨b41, by omega⟩⟩⟩) hP hD hS [0] (by decide) rfl d_Model_goesUp_57
  · skip
    refine lv_tableIn (off := 57) (tgt := 58) hx hb d_Model_goesUp_1 (by rw [(rfl : by_.toInt = by_.toInt)]; omega) (by rw [(rfl : by_.toInt = by_.toInt)]; omega) (by rw [(rfl : by_.toInt = by_.toInt), w1]; rfl) (by decide) ?_
    refine lv_iconst (v := 0) hx hb d_Model_goesUp_58 (by decide) ?_
    exact Cz.ret C0 (v := 0) (u := ()) (by rfl) (Nat.le_of_ble_eq_true rfl) (Nat.le_of_ble_eq_true rfl) (by show ((0 : Int32) = 1 ∧ ((by_.toInt = 0 ∧ (rs.toInt = 3 ∨ (rs.toInt = 2 ∧ mm % 2 = 1))) ∨ (by_.toInt = 2 ∧ 0 < rs.toInt ∧ bl = 0) ∨ (by_.toInt = 3 ∧ 0 < rs.toInt ∧ ¬ bl = 0) ∨ (by_.toInt = 4 ∧ 1 < rs.toInt))) ∨ ((0 : Int32) = 0 ∧ ¬ ((by_.toInt = 0 ∧ (rs.toInt = 3 ∨ (rs.toInt = 2 ∧ mm % 2 = 1))) ∨ (by_.toInt = 2 ∧ 0 < rs.toInt ∧ bl = 0) ∨ (by_.toInt = 3 ∧ 0 < rs.toInt ∧ ¬ bl = 0) ∨ (by_.toInt = 4 ∧ 1 < rs.toInt))); exact Or.inr ⟨rfl, fun h => by rcases h with h | h | h | h <;> omega⟩) hP hD hS [0] (by decide) rfl d_Model_goesUp_59
  · skip
    refine lv_tableIn (off := 59) (tgt := 60) hx hb d_Model_goesUp_1 (by rw [(rfl : by_.toInt = by_.toInt)]; omega) (by rw [(rfl : by_.toInt = by_.toInt)]; omega) (by rw [(rfl : by_.toInt = by_.toInt), w1]; rfl) (by decide) ?_
    refine lv_iload hx hb d_Model_goesUp_60 (lv_at hl 4 rfl) ?_
    refine lv_if_le (tgt := 73) hx hb d_Model_goesUp_62 (by decide) (fun b62 => ?_) (fun b62 => ?_)
    · skip
      rw [q_ile (rfl : rs.toInt = rs.toInt) (show (0 : Int32).toInt = 0 by decide)] at b62
      refine lv_iconst (v := 0) hx hb d_Model_goesUp_73 (by decide) ?_
      exact Cz.ret C0 (v := 0) (u := ()) (by rfl) (Nat.le_of_ble_eq_true rfl) (Nat.le_of_ble_eq_true rfl) (by show ((0 : Int32) = 1 ∧ ((by_.toInt = 0 ∧ (rs.toInt = 3 ∨ (rs.toInt = 2 ∧ mm % 2 = 1))) ∨ (by_.toInt = 2 ∧ 0 < rs.toInt ∧ bl = 0) ∨ (by_.toInt = 3 ∧ 0 < rs.toInt ∧ ¬ bl = 0) ∨ (by_.toInt = 4 ∧ 1 < rs.toInt))) ∨ ((0 : Int32) = 0 ∧ ¬ ((by_.toInt = 0 ∧ (rs.toInt = 3 ∨ (rs.toInt = 2 ∧ mm % 2 = 1))) ∨ (by_.toInt = 2 ∧ 0 < rs.toInt ∧ bl = 0) ∨ (by_.toInt = 3 ∧ 0 < rs.toInt ∧ ¬ bl = 0) ∨ (by_.toInt = 4 ∧ 1 < rs.toInt))); exact Or.inr ⟨rfl, fun h => by rcases h with h | h | h | h <;> omega⟩) hP hD hS [0] (by decide) rfl d_Model_goesUp_74
    · skip
      rw [q_ile (rfl : rs.toInt = rs.toInt) (show (0 : Int32).toInt = 0 by decide)] at b62
      refine lv_iload_n hx hb d_Model_goesUp_65 rfl (lv_at hl 1 rfl) ?_
      refine lv_if_ne (tgt := 73) hx hb d_Model_goesUp_66 (by decide) (fun b66 => ?_) (fun b66 => ?_)
      · skip
        refine lv_iconst (v := 0) hx hb d_Model_goesUp_73 (by decide) ?_
        exact Cz.ret C0 (v := 0) (u := ()) (by rfl) (Nat.le_of_ble_eq_true rfl) (Nat.le_of_ble_eq_true rfl) (by show ((0 : Int32) = 1 ∧ ((by_.toInt = 0 ∧ (rs.toInt = 3 ∨ (rs.toInt = 2 ∧ mm % 2 = 1))) ∨ (by_.toInt = 2 ∧ 0 < rs.toInt ∧ bl = 0) ∨ (by_.toInt = 3 ∧ 0 < rs.toInt ∧ ¬ bl = 0) ∨ (by_.toInt = 4 ∧ 1 < rs.toInt))) ∨ ((0 : Int32) = 0 ∧ ¬ ((by_.toInt = 0 ∧ (rs.toInt = 3 ∨ (rs.toInt = 2 ∧ mm % 2 = 1))) ∨ (by_.toInt = 2 ∧ 0 < rs.toInt ∧ bl = 0) ∨ (by_.toInt = 3 ∧ 0 < rs.toInt ∧ ¬ bl = 0) ∨ (by_.toInt = 4 ∧ 1 < rs.toInt))); exact Or.inr ⟨rfl, fun h => by rcases h with h | h | h | h <;> first | omega | exact b66 h.2.2⟩) hP hD hS [0] (by decide) rfl d_Model_goesUp_74
      · skip
        refine lv_iconst (v := 1) hx hb d_Model_goesUp_69 (by decide) ?_
        refine lv_goto (tgt := 74) hx hb d_Model_goesUp_70 (by decide) ?_
        exact Cz.ret C0 (v := 1) (u := ()) (by rfl) (Nat.le_of_ble_eq_true rfl) (Nat.le_of_ble_eq_true rfl) (by show ((1 : Int32) = 1 ∧ ((by_.toInt = 0 ∧ (rs.toInt = 3 ∨ (rs.toInt = 2 ∧ mm % 2 = 1))) ∨ (by_.toInt = 2 ∧ 0 < rs.toInt ∧ bl = 0) ∨ (by_.toInt = 3 ∧ 0 < rs.toInt ∧ ¬ bl = 0) ∨ (by_.toInt = 4 ∧ 1 < rs.toInt))) ∨ ((1 : Int32) = 0 ∧ ¬ ((by_.toInt = 0 ∧ (rs.toInt = 3 ∨ (rs.toInt = 2 ∧ mm % 2 = 1))) ∨ (by_.toInt = 2 ∧ 0 < rs.toInt ∧ bl = 0) ∨ (by_.toInt = 3 ∧ 0 < rs.toInt ∧ ¬ bl = 0) ∨ (by_.toInt = 4 ∧ 1 < rs.toInt))); exact Or.inl ⟨rfl, Or.inr (Or.inl ⟨w1, by omega, b66⟩)⟩) hP hD hS [0] (by decide) rfl d_Model_goesUp_74
  · skip
    refine lv_tableIn (off := 74) (tgt := 75) hx hb d_Model_goesUp_1 (by rw [(rfl : by_.toInt = by_.toInt)]; omega) (by rw [(rfl : by_.toInt = by_.toInt)]; omega) (by rw [(rfl : by_.toInt = by_.toInt), w1]; rfl) (by decide) ?_
    refine lv_iload hx hb d_Model_goesUp_75 (lv_at hl 4 rfl) ?_
    refine lv_if_le (tgt := 88) hx hb d_Model_goesUp_77 (by decide) (fun b77 => ?_) (fun b77 => ?_)
    · skip
      rw [q_ile (rfl : rs.toInt = rs.toInt) (show (0 : Int32).toInt = 0 by decide)] at b77
      refine lv_iconst (v := 0) hx hb d_Model_goesUp_88 (by decide) ?_
      exact Cz.ret C0 (v := 0) (u := ()) (by rfl) (Nat.le_of_ble_eq_true rfl) (Nat.le_of_ble_eq_true rfl) (by show ((0 : Int32) = 1 ∧ ((by_.toInt = 0 ∧ (rs.toInt = 3 ∨ (rs.toInt = 2 ∧ mm % 2 = 1))) ∨ (by_.toInt = 2 ∧ 0 < rs.toInt ∧ bl = 0) ∨ (by_.toInt = 3 ∧ 0 < rs.toInt ∧ ¬ bl = 0) ∨ (by_.toInt = 4 ∧ 1 < rs.toInt))) ∨ ((0 : Int32) = 0 ∧ ¬ ((by_.toInt = 0 ∧ (rs.toInt = 3 ∨ (rs.toInt = 2 ∧ mm % 2 = 1))) ∨ (by_.toInt = 2 ∧ 0 < rs.toInt ∧ bl = 0) ∨ (by_.toInt = 3 ∧ 0 < rs.toInt ∧ ¬ bl = 0) ∨ (by_.toInt = 4 ∧ 1 < rs.toInt))); exact Or.inr ⟨rfl, fun h => by rcases h with h | h | h | h <;> omega⟩) hP hD hS [0] (by decide) rfl d_Model_goesUp_89
    · skip
      rw [q_ile (rfl : rs.toInt = rs.toInt) (show (0 : Int32).toInt = 0 by decide)] at b77
      refine lv_iload_n hx hb d_Model_goesUp_80 rfl (lv_at hl 1 rfl) ?_
      refine lv_if_eq (tgt := 88) hx hb d_Model_goesUp_81 (by decide) (fun b81 => ?_) (fun b81 => ?_)
      · skip
        refine lv_iconst (v := 0) hx hb d_Model_goesUp_88 (by decide) ?_
        exact Cz.ret C0 (v := 0) (u := ()) (by rfl) (Nat.le_of_ble_eq_true rfl) (Nat.le_of_ble_eq_true rfl) (by show ((0 : Int32) = 1 ∧ ((by_.toInt = 0 ∧ (rs.toInt = 3 ∨ (rs.toInt = 2 ∧ mm % 2 = 1))) ∨ (by_.toInt = 2 ∧ 0 < rs.toInt ∧ bl = 0) ∨ (by_.toInt = 3 ∧ 0 < rs.toInt ∧ ¬ bl = 0) ∨ (by_.toInt = 4 ∧ 1 < rs.toInt))) ∨ ((0 : Int32) = 0 ∧ ¬ ((by_.toInt = 0 ∧ (rs.toInt = 3 ∨ (rs.toInt = 2 ∧ mm % 2 = 1))) ∨ (by_.toInt = 2 ∧ 0 < rs.toInt ∧ bl = 0) ∨ (by_.toInt = 3 ∧ 0 < rs.toInt ∧ ¬ bl = 0) ∨ (by_.toInt = 4 ∧ 1 < rs.toInt))); exact Or.inr ⟨rfl, fun h => by rcases h with h | h | h | h <;> first | omega | exact h.2.2 b81⟩) hP hD hS [0] (by decide) rfl d_Model_goesUp_89
      · skip
        refine lv_iconst (v := 1) hx hb d_Model_goesUp_84 (by decide) ?_
        refine lv_goto (tgt := 89) hx hb d_Model_goesUp_85 (by decide) ?_
        exact Cz.ret C0 (v := 1) (u := ()) (by rfl) (Nat.le_of_ble_eq_true rfl) (Nat.le_of_ble_eq_true rfl) (by show ((1 : Int32) = 1 ∧ ((by_.toInt = 0 ∧ (rs.toInt = 3 ∨ (rs.toInt = 2 ∧ mm % 2 = 1))) ∨ (by_.toInt = 2 ∧ 0 < rs.toInt ∧ bl = 0) ∨ (by_.toInt = 3 ∧ 0 < rs.toInt ∧ ¬ bl = 0) ∨ (by_.toInt = 4 ∧ 1 < rs.toInt))) ∨ ((1 : Int32) = 0 ∧ ¬ ((by_.toInt = 0 ∧ (rs.toInt = 3 ∨ (rs.toInt = 2 ∧ mm % 2 = 1))) ∨ (by_.toInt = 2 ∧ 0 < rs.toInt ∧ bl = 0) ∨ (by_.toInt = 3 ∧ 0 < rs.toInt ∧ ¬ bl = 0) ∨ (by_.toInt = 4 ∧ 1 < rs.toInt))); exact Or.inl ⟨rfl, Or.inr (Or.inr (Or.inl ⟨w1, by omega, b81⟩))⟩) hP hD hS [0] (by decide) rfl d_Model_goesUp_89
  · skip
    refine lv_tableOut (tgt := 90) hx hb d_Model_goesUp_1 (by rw [(rfl : by_.toInt = by_.toInt)]; exact w1) (by decide) ?_
    refine lv_iload hx hb d_Model_goesUp_90 (lv_at hl 4 rfl) ?_
    refine lv_iconst (v := 1) hx hb d_Model_goesUp_92 (by decide) ?_
    refine lv_icmp_le (tgt := 100) hx hb d_Model_goesUp_93 (by decide) (fun b93 => ?_) (fun b93 => ?_)
    · skip
      rw [q_ile (rfl : rs.toInt = rs.toInt) (show (1 : Int32).toInt = 1 by decide)] at b93
      refine lv_iconst (v := 0) hx hb d_Model_goesUp_100 (by decide) ?_
      exact Cz.ret C0 (v := 0) (u := ()) (by rfl) (Nat.le_of_ble_eq_true rfl) (Nat.le_of_ble_eq_true rfl) (by show ((0 : Int32) = 1 ∧ ((by_.toInt = 0 ∧ (rs.toInt = 3 ∨ (rs.toInt = 2 ∧ mm % 2 = 1))) ∨ (by_.toInt = 2 ∧ 0 < rs.toInt ∧ bl = 0) ∨ (by_.toInt = 3 ∧ 0 < rs.toInt ∧ ¬ bl = 0) ∨ (by_.toInt = 4 ∧ 1 < rs.toInt))) ∨ ((0 : Int32) = 0 ∧ ¬ ((by_.toInt = 0 ∧ (rs.toInt = 3 ∨ (rs.toInt = 2 ∧ mm % 2 = 1))) ∨ (by_.toInt = 2 ∧ 0 < rs.toInt ∧ bl = 0) ∨ (by_.toInt = 3 ∧ 0 < rs.toInt ∧ ¬ bl = 0) ∨ (by_.toInt = 4 ∧ 1 < rs.toInt))); exact Or.inr ⟨rfl, fun h => by rcases h with h | h | h | h <;> omega⟩) hP hD hS [0] (by decide) rfl d_Model_goesUp_101
    · skip
      rw [q_ile (rfl : rs.toInt = rs.toInt) (show (1 : Int32).toInt = 1 by decide)] at b93
      refine lv_iconst (v := 1) hx hb d_Model_goesUp_96 (by decide) ?_
      refine lv_goto (tgt := 101) hx hb d_Model_goesUp_97 (by decide) ?_
      exact Cz.ret C0 (v := 1) (u := ()) (by rfl) (Nat.le_of_ble_eq_true rfl) (Nat.le_of_ble_eq_true rfl) (by show ((1 : Int32) = 1 ∧ ((by_.toInt = 0 ∧ (rs.toInt = 3 ∨ (rs.toInt = 2 ∧ mm % 2 = 1))) ∨ (by_.toInt = 2 ∧ 0 < rs.toInt ∧ bl = 0) ∨ (by_.toInt = 3 ∧ 0 < rs.toInt ∧ ¬ bl = 0) ∨ (by_.toInt = 4 ∧ 1 < rs.toInt))) ∨ ((1 : Int32) = 0 ∧ ¬ ((by_.toInt = 0 ∧ (rs.toInt = 3 ∨ (rs.toInt = 2 ∧ mm % 2 = 1))) ∨ (by_.toInt = 2 ∧ 0 < rs.toInt ∧ bl = 0) ∨ (by_.toInt = 3 ∧ 0 < rs.toInt ∧ ¬ bl = 0) ∨ (by_.toInt = 4 ∧ 1 < rs.toInt))); exact Or.inl ⟨rfl, Or.inr (Or.inr (Or.inr ⟨by omega, by omega⟩))⟩) hP hD hS [0] (by decide) rfl d_Model_goesUp_101
set_option maxHeartbeats 4000000 in
set_option maxRecDepth 100000 in
theorem c_Model_letter (l : Launch) (dC : Nat → ClassId) (dI : Nat → Nat → Nat) (cI cB cJ : ClassId) (h0 : Nat) (th : Int32) (we : Int32) (wm : Int32) (wy : Int32) (ra : Int32) (tA : Nat) (tn : Int32) (oA : Nat) (on : Int32) (rA : Nat) (fi : Int32) (la : Int32) (wA : Nat) (wf : Int32) (wl : Int32) (lo : Int32) (ov : Int32) (un : Int32) (aT : Int32) (mi : Int32) (ds : Int32) (dA : Nat) (a0 : Int32) (xp : Int32) (iA : Nat) (te : Int32) (f : Nat → Int32) (w : List Nat) (x : Int32) (hT : TL f on w) : Ci l dC dI cI cB cJ y_Model_letter w_Model_letter ({ frames := 0, cells := 0, slots := 0, locals := 0 } : Room) [.ref h0, .int x] [(h0, .inr (8, [.int th, .int we, .int wm, .int wy, .int ra, .ref tA, .int tn, .ref oA, .int on, .ref rA, .int fi, .int la, .ref wA, .int wf, .int wl, .int lo, .int ov, .int un, .int aT, .int mi, .int ds, .ref dA, .int a0, .int xp, .ref iA, .int te])), (oA, .inl (cI, 300, .inl f))] (fun (r : Int32) (u : (Int32)) => ((0 ≤ x.toInt ∧ x.toInt < (w.length : Int)) ∧ u = 0 ∧ r.toInt = (w.getD x.toInt.toNat 0 : Int)) ∨ (¬ (0 ≤ x.toInt ∧ x.toInt < (w.length : Int)) ∧ u = 1)) (fun u : (Int32) => [(h0, .inr (8, [.int u, .int we, .int wm, .int wy, .int ra, .ref tA, .int tn, .ref oA, .int on, .ref rA, .int fi, .int la, .ref wA, .int wf, .int wl, .int lo, .int ov, .int un, .int aT, .int mi, .int ds, .ref dA, .int a0, .int xp, .ref iA, .int te])), (oA, .inl (cI, 300, .inl f))]) := by
  refine Ci.intro (cc := b_Model_letter) (maxL := 2) (plainFor_of_name (by decide)) rfl (Nat.le_of_ble_eq_true rfl) ?_
  intro p e s m below meth c A ls C0 hin hA hP hD hS hl
  obtain ⟨hx, hb, hml, hown, hts, hr, hlocks, hK, hN⟩ := id C0
  obtain ⟨H, hH⟩ : ∃ H, H = s.heap := ⟨_, rfl⟩
  have hP : va_P (dC, dI) vwCl [(h0, .inr (8, [.int th, .int we, .int wm, .int wy, .int ra, .ref tA, .int tn, .ref oA, .int on, .ref rA, .int fi, .int la, .ref wA, .int wf, .int wl, .int lo, .int ov, .int un, .int aT, .int mi, .int ds, .ref dA, .int a0, .int xp, .ref iA, .int te])), (oA, .inl (cI, 300, .inl f))] s.heap := hP
  have hl : lv_has ls 2 [(0, .ref h0), (1, .int x)] := hl
  have r_x := q_r32 x
  suffices h : ∀ (H : Heap) (locs : List Loc), va_P (dC, dI) vwCl [(h0, .inr (8, [.int th, .int we, .int wm, .int wy, .int ra, .ref tA, .int tn, .ref oA, .int on, .ref rA, .int fi, .int la, .ref wA, .int wf, .int wl, .int lo, .int ov, .int un, .int aT, .int mi, .int ds, .ref dA, .int a0, .int xp, .ref iA, .int te])), (oA, .inl (cI, 300, .inl f))] H → va_D A [(h0, .inr (8, [.int th, .int we, .int wm, .int wy, .int ra, .ref tA, .int tn, .ref oA, .int on, .ref rA, .int fi, .int la, .ref wA, .int wf, .int wl, .int lo, .int ov, .int un, .int aT, .int mi, .int ds, .ref dA, .int a0, .int xp, .ref iA, .int te])), (oA, .inl (cI, 300, .inl f))] → va_S A s.heap H locs → W p l e ({ frames := 0, cells := 0, slots := 0, locals := 0 } : Room) s m ([.ref h0, .int x] : List Value).toArray below meth c H locs 0 0 (MQ below (va_Qi (fun (r : Int32) (u : (Int32)) => ((0 ≤ x.toInt ∧ x.toInt < (w.length : Int)) ∧ u = 0 ∧ r.toInt = (w.getD x.toInt.toNat 0 : Int)) ∨ (¬ (0 ≤ x.toInt ∧ x.toInt < (w.length : Int)) ∧ u = 1)) (poG dC dI A (fun u : (Int32) => [(h0, .inr (8, [.int u, .int we, .int wm, .int wy, .int ra, .ref tA, .int tn, .ref oA, .int on, .ref rA, .int fi, .int la, .ref wA, .int wf, .int wl, .int lo, .int ov, .int un, .int aT, .int mi, .int ds, .ref dA, .int a0, .int xp, .ref iA, .int te])), (oA, .inl (cI, 300, .inl f))])) A) ([.ref h0, .int x] : List Value).toArray s 0 0 A) (F0 m 0 ls []) from h _ _ hP hD hS
  clear hP hD hS hH H
  intro H locs hP hD hS
  have hw160 := hT.2.1
  refine lv_aload_n hx hb d_Model_letter_0 rfl (lv_at hl 0 rfl) ?_
  refine lv_iload_n hx hb d_Model_letter_1 rfl (lv_at hl 1 rfl) ?_
  refine lv_if_lt (tgt := 13) hx hb d_Model_letter_2 (by decide) (fun b2 => ?_) (fun b2 => ?_)
  · skip
    rw [q_ilt (rfl : x.toInt = x.toInt) (show (0 : Int32).toInt = 0 by decide)] at b2
    refine lv_iconst (v := 1) hx hb d_Model_letter_13 (by decide) ?_
    refine lv_goto (tgt := 18) hx hb d_Model_letter_14 (by decide) ?_
    refine va_put (D := (dC, dI)) (ci := 8) (v := .int 1) (ty := .int) (C := R_Model) (T := F_Model) (N := 26) hx hb hts u_Model t_Model t_Model_ok n_Model hown hK hP hD hS 0 rfl rfl 0 (by decide) (hts _ m_563) (fun _ h9 => h9) rfl (by decide +kernel) rfl rfl (Nat.le_of_ble_eq_true rfl) d_Model_letter_18 (fun H locs hP hD hS => ?_)
    have hP : va_P (dC, dI) vwCl [(h0, .inr (8, [.int 1, .int we, .int wm, .int wy, .int ra, .ref tA, .int tn, .ref oA, .int on, .ref rA, .int fi, .int la, .ref wA, .int wf, .int wl, .int lo, .int ov, .int un, .int aT, .int mi, .int ds, .ref dA, .int a0, .int xp, .ref iA, .int te])), (oA, .inl (cI, 300, .inl f))] H := hP
    have hD : va_D A [(h0, .inr (8, [.int 1, .int we, .int wm, .int wy, .int ra, .ref tA, .int tn, .ref oA, .int on, .ref rA, .int fi, .int la, .ref wA, .int wf, .int wl, .int lo, .int ov, .int un, .int aT, .int mi, .int ds, .ref dA, .int a0, .int xp, .ref iA, .int te])), (oA, .inl (cI, 300, .inl f))] := hD
    refine lv_aload_n hx hb d_Model_letter_21 rfl (lv_at hl 0 rfl) ?_
    refine va_get (D := (dC, dI)) (ci := 8) (v := .int 1) (C := R_Model) (T := F_Model) (N := 26) hx hb hts u_Model hown hK hP 0 rfl rfl 0 (by decide) (hts _ m_563) (fun _ h9 => h9) rfl d_Model_letter_22 ?_
    refine lv_if_le (tgt := 32) hx hb d_Model_letter_25 (by decide) (fun b25 => ?_) (fun b25 => ?_)
    · skip
      rw [q_ile (show (1 : Int32).toInt = 1 by decide) (show (0 : Int32).toInt = 0 by decide)] at b25
      exact absurd b25 (by omega)
    · skip
      rw [q_ile (show (1 : Int32).toInt = 1 by decide) (show (0 : Int32).toInt = 0 by decide)] at b25
      refine lv_iconst (v := 0) hx hb d_Model_letter_28 (by decide) ?_
      refine lv_goto (tgt := 38) hx hb d_Model_letter_29 (by decide) ?_
      exact Ci.ret C0 (v := 0) (u := (1)) (Nat.le_of_ble_eq_true rfl) (Nat.le_of_ble_eq_true rfl) (by show ((0 ≤ x.toInt ∧ x.toInt < (w.length : Int)) ∧ (1 : Int32) = 0 ∧ (0 : Int32).toInt = (w.getD x.toInt.toNat 0 : Int)) ∨ (¬ (0 ≤ x.toInt ∧ x.toInt < (w.length : Int)) ∧ (1 : Int32) = 1); exact Or.inr ⟨by omega, rfl⟩) hP hD hS [0, 1] (by decide) rfl d_Model_letter_38
  · skip
    rw [q_ilt (rfl : x.toInt = x.toInt) (show (0 : Int32).toInt = 0 by decide)] at b2
    refine lv_iload_n hx hb d_Model_letter_5 rfl (lv_at hl 1 rfl) ?_
    refine lv_aload_n hx hb d_Model_letter_6 rfl (lv_at hl 0 rfl) ?_
    refine va_get (D := (dC, dI)) (ci := 8) (v := .int on) (C := R_Model) (T := F_Model) (N := 26) hx hb hts u_Model hown hK hP 0 rfl rfl 8 (by decide) (hts _ m_571) (fun _ h9 => h9) rfl d_Model_letter_7 ?_
    refine lv_icmp_lt (tgt := 17) hx hb d_Model_letter_10 (by decide) (fun b10 => ?_) (fun b10 => ?_)
    · skip
      rw [q_ilt (rfl : x.toInt = x.toInt) hT.1] at b10
      refine lv_iconst (v := 0) hx hb d_Model_letter_17 (by decide) ?_
      refine va_put (D := (dC, dI)) (ci := 8) (v := .int 0) (ty := .int) (C := R_Model) (T := F_Model) (N := 26) hx hb hts u_Model t_Model t_Model_ok n_Model hown hK hP hD hS 0 rfl rfl 0 (by decide) (hts _ m_563) (fun _ h9 => h9) rfl (by decide +kernel) rfl rfl (Nat.le_of_ble_eq_true rfl) d_Model_letter_18 (fun H locs hP hD hS => ?_)
      have hP : va_P (dC, dI) vwCl [(h0, .inr (8, [.int 0, .int we, .int wm, .int wy, .int ra, .ref tA, .int tn, .ref oA, .int on, .ref rA, .int fi, .int la, .ref wA, .int wf, .int wl, .int lo, .int ov, .int un, .int aT, .int mi, .int ds, .ref dA, .int a0, .int xp, .ref iA, .int te])), (oA, .inl (cI, 300, .inl f))] H := hP
      have hD : va_D A [(h0, .inr (8, [.int 0, .int we, .int wm, .int wy, .int ra, .ref tA, .int tn, .ref oA, .int on, .ref rA, .int fi, .int la, .ref wA, .int wf, .int wl, .int lo, .int ov, .int un, .int aT, .int mi, .int ds, .ref dA, .int a0, .int xp, .ref iA, .int te])), (oA, .inl (cI, 300, .inl f))] := hD
      refine lv_aload_n hx hb d_Model_letter_21 rfl (lv_at hl 0 rfl) ?_
      refine va_get (D := (dC, dI)) (ci := 8) (v := .int 0) (C := R_Model) (T := F_Model) (N := 26) hx hb hts u_Model hown hK hP 0 rfl rfl 0 (by decide) (hts _ m_563) (fun _ h9 => h9) rfl d_Model_letter_22 ?_
      refine lv_if_le (tgt := 32) hx hb d_Model_letter_25 (by decide) (fun b25 => ?_) (fun b25 => ?_)
      · skip
        rw [q_ile (show (0 : Int32).toInt = 0 by decide) (show (0 : Int32).toInt = 0 by decide)] at b25
        refine lv_aload_n hx hb d_Model_letter_32 rfl (lv_at hl 0 rfl) ?_
        refine va_get (D := (dC, dI)) (ci := 8) (v := .ref oA) (C := R_Model) (T := F_Model) (N := 26) hx hb hts u_Model hown hK hP 0 rfl rfl 7 (by decide) (hts _ m_570) (fun _ h9 => h9) rfl d_Model_letter_33 ?_
        refine lv_iload_n hx hb d_Model_letter_36 rfl (lv_at hl 1 rfl) ?_
        refine va_iald hx hb hK hP 1 0 rfl rfl (q_in (rfl : x.toInt = x.toInt) (by omega)) d_Model_letter_37 ?_
        refine lv_topi (fun v37 e37 => ?_)
        rw [q_cl (k := x.toInt.toNat) ((Int.toNat_of_nonneg (by omega)).symm)] at e37
        exact Ci.ret C0 (v := v37) (u := (0)) (Nat.le_of_ble_eq_true rfl) (Nat.le_of_ble_eq_true rfl) (by show ((0 ≤ x.toInt ∧ x.toInt < (w.length : Int)) ∧ (0 : Int32) = 0 ∧ v37.toInt = (w.getD x.toInt.toNat 0 : Int)) ∨ (¬ (0 ≤ x.toInt ∧ x.toInt < (w.length : Int)) ∧ (0 : Int32) = 1); exact Or.inl ⟨⟨by omega, by omega⟩, rfl, by rw [e37]; exact hT.2.2 _ (by omega)⟩) hP hD hS [0, 1] (by decide) rfl d_Model_letter_38
      · skip
        rw [q_ile (show (0 : Int32).toInt = 0 by decide) (show (0 : Int32).toInt = 0 by decide)] at b25
        exact absurd b25 (by omega)
    · skip
      rw [q_ilt (rfl : x.toInt = x.toInt) hT.1] at b10
      refine lv_iconst (v := 1) hx hb d_Model_letter_13 (by decide) ?_
      refine lv_goto (tgt := 18) hx hb d_Model_letter_14 (by decide) ?_
      refine va_put (D := (dC, dI)) (ci := 8) (v := .int 1) (ty := .int) (C := R_Model) (T := F_Model) (N := 26) hx hb hts u_Model t_Model t_Model_ok n_Model hown hK hP hD hS 0 rfl rfl 0 (by decide) (hts _ m_563) (fun _ h9 => h9) rfl (by decide +kernel) rfl rfl (Nat.le_of_ble_eq_true rfl) d_Model_letter_18 (fun H locs hP hD hS => ?_)
      have hP : va_P (dC, dI) vwCl [(h0, .inr (8, [.int 1, .int we, .int wm, .int wy, .int ra, .ref tA, .int tn, .ref oA, .int on, .ref rA, .int fi, .int la, .ref wA, .int wf, .int wl, .int lo, .int ov, .int un, .int aT, .int mi, .int ds, .ref dA, .int a0, .int xp, .ref iA, .int te])), (oA, .inl (cI, 300, .inl f))] H := hP
      have hD : va_D A [(h0, .inr (8, [.int 1, .int we, .int wm, .int wy, .int ra, .ref tA, .int tn, .ref oA, .int on, .ref rA, .int fi, .int la, .ref wA, .int wf, .int wl, .int lo, .int ov, .int un, .int aT, .int mi, .int ds, .ref dA, .int a0, .int xp, .ref iA, .int te])), (oA, .inl (cI, 300, .inl f))] := hD
      refine lv_aload_n hx hb d_Model_letter_21 rfl (lv_at hl 0 rfl) ?_
      refine va_get (D := (dC, dI)) (ci := 8) (v := .int 1) (C := R_Model) (T := F_Model) (N := 26) hx hb hts u_Model hown hK hP 0 rfl rfl 0 (by decide) (hts _ m_563) (fun _ h9 => h9) rfl d_Model_letter_22 ?_
      refine lv_if_le (tgt := 32) hx hb d_Model_letter_25 (by decide) (fun b25 => ?_) (fun b25 => ?_)
      · skip
        rw [q_ile (show (1 : Int32).toInt = 1 by decide) (show (0 : Int32).toInt = 0 by decide)] at b25
        exact absurd b25 (by omega)
      · skip
        rw [q_ile (show (1 : Int32).toInt = 1 by decide) (show (0 : Int32).toInt = 0 by decide)] at b25
        refine lv_iconst (v := 0) hx hb d_Model_letter_28 (by decide) ?_
        refine lv_goto (tgt := 38) hx hb d_Model_letter_29 (by decide) ?_
        exact Ci.ret C0 (v := 0) (u := (1)) (Nat.le_of_ble_eq_true rfl) (Nat.le_of_ble_eq_true rfl) (by show ((0 ≤ x.toInt ∧ x.toInt < (w.length : Int)) ∧ (1 : Int32) = 0 ∧ (0 : Int32).toInt = (w.getD x.toInt.toNat 0 : Int)) ∨ (¬ (0 ≤ x.toInt ∧ x.toInt < (w.length : Int)) ∧ (1 : Int32) = 1); exact Or.inr ⟨by omega, rfl⟩) hP hD hS [0, 1] (by decide) rfl d_Model_letter_38
set_option maxHeartbeats 4000000 in
set_option maxRecDepth 100000 in
theorem c_Model_next (l : Launch) (dC : Nat → ClassId) (dI : Nat → Nat → Nat) (cI cB cJ : ClassId) (h0 : Nat) (th : Int32) (we : Int32) (wm : Int32) (wy : Int32) (ra : Int32) (tA : Nat) (tn : Int32) (oA : Nat) (on : Int32) (rA : Nat) (fi : Int32) (la : Int32) (wA : Nat) (wf : Int32) (wl : Int32) (lo : Int32) (ov : Int32) (un : Int32) (aT : Int32) (mi : Int32) (ds : Int32) (dA : Nat) (a0 : Int32) (xp : Int32) (iA : Nat) (te : Int32) (E : Nat) (M : Nat) (x : Int64) (up : Int32) (hL : LY we wm E M) (hup : up = 0 ∨ up = 1) : Cl l dC dI cI cB cJ y_Model_next w_Model_next ({ frames := 1, cells := 0, slots := 0, locals := 22 } : Room) [.ref h0, .long x, .int up] [(h0, .inr (8, [.int th, .int we, .int wm, .int wy, .int ra, .ref tA, .int tn, .ref oA, .int on, .ref rA, .int fi, .int la, .ref wA, .int wf, .int wl, .int lo, .int ov, .int un, .int aT, .int mi, .int ds, .ref dA, .int a0, .int xp, .ref iA, .int te]))] (fun (r : Int64) (u : Unit) => NX E M x.toInt (up = 1) r.toInt) (fun u : Unit => [(h0, .inr (8, [.int 0, .int we, .int wm, .int wy, .int ra, .ref tA, .int tn, .ref oA, .int on, .ref rA, .int fi, .int la, .ref wA, .int wf, .int wl, .int lo, .int ov, .int un, .int aT, .int mi, .int ds, .ref dA, .int a0, .int xp, .ref iA, .int te]))]) := by
  refine Cl.intro (cc := b_Model_next) (maxL := 10) (plainFor_of_name (by decide)) rfl (Nat.le_of_ble_eq_true rfl) ?_
  intro p e s m below meth c A ls C0 hin hA hP hD hS hl
  obtain ⟨hx, hb, hml, hown, hts, hr, hlocks, hK, hN⟩ := id C0
  obtain ⟨H, hH⟩ : ∃ H, H = s.heap := ⟨_, rfl⟩
  have hP : va_P (dC, dI) vwCl [(h0, .inr (8, [.int th, .int we, .int wm, .int wy, .int ra, .ref tA, .int tn, .ref oA, .int on, .ref rA, .int fi, .int la, .ref wA, .int wf, .int wl, .int lo, .int ov, .int un, .int aT, .int mi, .int ds, .ref dA, .int a0, .int xp, .ref iA, .int te]))] s.heap := hP
  have hl : lv_has ls 10 [(0, .ref h0), (1, .long x), (3, .int up)] := hl
  have r_x := q_r64 x
  suffices h : ∀ (H : Heap) (locs : List Loc), va_P (dC, dI) vwCl [(h0, .inr (8, [.int th, .int we, .int wm, .int wy, .int ra, .ref tA, .int tn, .ref oA, .int on, .ref rA, .int fi, .int la, .ref wA, .int wf, .int wl, .int lo, .int ov, .int un, .int aT, .int mi, .int ds, .ref dA, .int a0, .int xp, .ref iA, .int te]))] H → va_D A [(h0, .inr (8, [.int th, .int we, .int wm, .int wy, .int ra, .ref tA, .int tn, .ref oA, .int on, .ref rA, .int fi, .int la, .ref wA, .int wf, .int wl, .int lo, .int ov, .int un, .int aT, .int mi, .int ds, .ref dA, .int a0, .int xp, .ref iA, .int te]))] → va_S A s.heap H locs → W p l e ({ frames := 1, cells := 0, slots := 0, locals := 22 } : Room) s m ([.ref h0, .long x, .int up] : List Value).toArray below meth c H locs 0 0 (MQ below (va_Ql (fun (r : Int64) (u : Unit) => NX E M x.toInt (up = 1) r.toInt) (poG dC dI A (fun u : Unit => [(h0, .inr (8, [.int 0, .int we, .int wm, .int wy, .int ra, .ref tA, .int tn, .ref oA, .int on, .ref rA, .int fi, .int la, .ref wA, .int wf, .int wl, .int lo, .int ov, .int un, .int aT, .int mi, .int ds, .ref dA, .int a0, .int xp, .ref iA, .int te]))])) A) ([.ref h0, .long x, .int up] : List Value).toArray s 0 0 A) (F0 m 0 ls []) from h _ _ hP hD hS
  clear hP hD hS hH H
  intro H locs hP hD hS
  obtain ⟨he, hm, hE1, hE2, hM1, hM2⟩ := id hL
  have hbz := p_bias hE1 hE2
  have hem := p_em hE1 hE2 hM1 hM2
  have hiz := iz_sb E M
  have hpm := p_m hM2
  have hpm1 := pw_p M
  have hpe := p_e hE1 hE2
  refine lv_aload_n hx hb d_Model_next_0 rfl (lv_at hl 0 rfl) ?_
  refine lv_iconst (v := 0) hx hb d_Model_next_1 (by decide) ?_
  refine va_put (D := (dC, dI)) (ci := 8) (v := .int 0) (ty := .int) (C := R_Model) (T := F_Model) (N := 26) hx hb hts u_Model t_Model t_Model_ok n_Model hown hK hP hD hS 0 rfl rfl 0 (by decide) (hts _ m_563) (fun _ h9 => h9) rfl (by decide +kernel) rfl rfl (Nat.le_of_ble_eq_true rfl) d_Model_next_2 (fun H locs hP hD hS => ?_)
  have hP : va_P (dC, dI) vwCl [(h0, .inr (8, [.int 0, .int we, .int wm, .int wy, .int ra, .ref tA, .int tn, .ref oA, .int on, .ref rA, .int fi, .int la, .ref wA, .int wf, .int wl, .int lo, .int ov, .int un, .int aT, .int mi, .int ds, .ref dA, .int a0, .int xp, .ref iA, .int te]))] H := hP
  have hD : va_D A [(h0, .inr (8, [.int 0, .int we, .int wm, .int wy, .int ra, .ref tA, .int tn, .ref oA, .int on, .ref rA, .int fi, .int la, .ref wA, .int wf, .int wl, .int lo, .int ov, .int un, .int aT, .int mi, .int ds, .ref dA, .int a0, .int xp, .ref iA, .int te]))] := hD
  refine lv_aload_n hx hb d_Model_next_5 rfl (lv_at hl 0 rfl) ?_
  refine lv_lload_n hx hb d_Model_next_6 rfl (lv_at hl 1 rfl) ?_
  refine callV_i (wr := []) C0 (c_Model_isPattern l dC dI cI cB cJ (h0) ((0 : Int32)) (we) (wm) (wy) (ra) (tA) (tn) (oA) (on) (rA) (fi) (la) (wA) (wf) (wl) (lo) (ov) (un) (aT) (mi) (ds) (dA) (a0) (xp) (iA) (te) (E) (M) (x) (by exact hL)) (cwV 1 hts (gV m_700 m_701 m_35 m_55 m_702) rfl rfl rfl (by decide +kernel) ⟨Nat.le_of_ble_eq_true rfl, Nat.le_of_ble_eq_true rfl⟩) 8 rfl rfl 0 rfl hP hD hS hA [0] [] rfl rfl (by decide) (by decide) (by decide) rfl hl.1 rfl (Nat.le_of_ble_eq_true rfl) d_Model_next_7 ⟨Nat.le_of_ble_eq_true rfl, Nat.le_of_ble_eq_true rfl⟩ (fun r7 u7 H locs hw9 hP hD hS => ?_)
  have h7 : r7 = if isPat E M x.toInt then 1 else 0 := hw9
  have hP : va_P (dC, dI) vwCl [(h0, .inr (8, [.int 0, .int we, .int wm, .int wy, .int ra, .ref tA, .int tn, .ref oA, .int on, .ref rA, .int fi, .int la, .ref wA, .int wf, .int wl, .int lo, .int ov, .int un, .int aT, .int mi, .int ds, .ref dA, .int a0, .int xp, .ref iA, .int te]))] H := hP
  have hD : va_D A [(h0, .inr (8, [.int 0, .int we, .int wm, .int wy, .int ra, .ref tA, .int tn, .ref oA, .int on, .ref rA, .int fi, .int la, .ref wA, .int wf, .int wl, .int lo, .int ov, .int un, .int aT, .int mi, .int ds, .ref dA, .int a0, .int xp, .ref iA, .int te]))] := hD
  refine lv_if_eq (tgt := 26) hx hb d_Model_next_10 (by decide) (fun b10 => ?_) (fun b10 => ?_)
  · skip
    have hnp : ¬ isPat E M x.toInt := fun h => by rw [if_pos h] at h7; rw [h7] at b10; exact absurd b10 (by decide)
    refine lv_ldc2 (v := (-1)) hx hb hown (hts _ m_746) d_Model_next_26 ?_
    exact Cl.ret C0 (v := (-1)) (u := ()) (Nat.le_of_ble_eq_true rfl) (Nat.le_of_ble_eq_true rfl) (by show NX E M x.toInt (up = 1) (((-1) : Int64)).toInt; exact Or.inl ⟨by decide, fun h => hnp h.1⟩) hP hD hS [0] (by decide) rfl d_Model_next_29
  · skip
    have hpat : isPat E M x.toInt := Decidable.byContradiction fun h => b10 (by rw [h7]; exact if_neg h)
    refine lv_aload_n hx hb d_Model_next_13 rfl (lv_at hl 0 rfl) ?_
    refine lv_lload_n hx hb d_Model_next_14 rfl (lv_at hl 1 rfl) ?_
    refine callV_l (wr := []) C0 (c_Model_sizeOf l dC dI cI cB cJ (h0) ((0 : Int32)) (we) (wm) (wy) (ra) (tA) (tn) (oA) (on) (rA) (fi) (la) (wA) (wf) (wl) (lo) (ov) (un) (aT) (mi) (ds) (dA) (a0) (xp) (iA) (te) (E) (M) (x) (x.toInt.toNat) (by exact hL) (by exact (Int.toNat_of_nonneg hpat.1).symm)) (cwV 1 hts (gV m_706 m_707 m_37 m_55 m_708) rfl rfl rfl (by decide +kernel) ⟨Nat.le_of_ble_eq_true rfl, Nat.le_of_ble_eq_true rfl⟩) 8 rfl rfl 0 rfl hP hD hS hA [0] [] rfl rfl (by decide) (by decide) (by decide) rfl hl.1 rfl (Nat.le_of_ble_eq_true rfl) d_Model_next_15 ⟨Nat.le_of_ble_eq_true rfl, Nat.le_of_ble_eq_true rfl⟩ (fun r15 u15 H locs hw9 hP hD hS => ?_)
    have h15 : r15.toInt = ((szo E M x.toInt.toNat : Nat) : Int) := hw9
    have hP : va_P (dC, dI) vwCl [(h0, .inr (8, [.int 0, .int we, .int wm, .int wy, .int ra, .ref tA, .int tn, .ref oA, .int on, .ref rA, .int fi, .int la, .ref wA, .int wf, .int wl, .int lo, .int ov, .int un, .int aT, .int mi, .int ds, .ref dA, .int a0, .int xp, .ref iA, .int te]))] H := hP
    have hD : va_D A [(h0, .inr (8, [.int 0, .int we, .int wm, .int wy, .int ra, .ref tA, .int tn, .ref oA, .int on, .ref rA, .int fi, .int la, .ref wA, .int wf, .int wl, .int lo, .int ov, .int un, .int aT, .int mi, .int ds, .ref dA, .int a0, .int xp, .ref iA, .int te]))] := hD
    have t15 : r15.toInt = ((szo E M x.toInt.toNat : Nat) : Int) := h15
    refine lv_aload_n hx hb d_Model_next_18 rfl (lv_at hl 0 rfl) ?_
    refine callV_l (wr := []) C0 (c_Model_beyond l dC dI cI cB cJ (h0) ((0 : Int32)) (we) (wm) (wy) (ra) (tA) (tn) (oA) (on) (rA) (fi) (la) (wA) (wf) (wl) (lo) (ov) (un) (aT) (mi) (ds) (dA) (a0) (xp) (iA) (te) (E) (M) (by exact hL)) (cwV 0 hts (gV m_672 m_673 m_27 m_55 m_674) rfl rfl rfl (by decide +kernel) ⟨Nat.le_of_ble_eq_true rfl, Nat.le_of_ble_eq_true rfl⟩) 8 rfl rfl 0 rfl hP hD hS hA [0] [] rfl rfl (by decide) (by decide) (by decide) rfl hl.1 rfl (Nat.le_of_ble_eq_true rfl) d_Model_next_19 ⟨Nat.le_of_ble_eq_true rfl, Nat.le_of_ble_eq_true rfl⟩ (fun r19 u19 H locs hw9 hP hD hS => ?_)
    have h19 : r19.toInt = ((iz E M : Nat) : Int) := hw9
    have hP : va_P (dC, dI) vwCl [(h0, .inr (8, [.int 0, .int we, .int wm, .int wy, .int ra, .ref tA, .int tn, .ref oA, .int on, .ref rA, .int fi, .int la, .ref wA, .int wf, .int wl, .int lo, .int ov, .int un, .int aT, .int mi, .int ds, .ref dA, .int a0, .int xp, .ref iA, .int te]))] H := hP
    have hD : va_D A [(h0, .inr (8, [.int 0, .int we, .int wm, .int wy, .int ra, .ref tA, .int tn, .ref oA, .int on, .ref rA, .int fi, .int la, .ref wA, .int wf, .int wl, .int lo, .int ov, .int un, .int aT, .int mi, .int ds, .ref dA, .int a0, .int xp, .ref iA, .int te]))] := hD
    have t19 : r19.toInt = ((iz E M : Nat) : Int) := h19
    refine W.lcmp hx hb d_Model_next_22 ?_
    refine lv_if_lt (tgt := 30) hx hb d_Model_next_23 (by decide) (fun b23 => ?_) (fun b23 => ?_)
    · skip
      rw [q_cmp_lt t15 t19] at b23
      refine lv_aload_n hx hb d_Model_next_30 rfl (lv_at hl 0 rfl) ?_
      refine lv_lload_n hx hb d_Model_next_31 rfl (lv_at hl 1 rfl) ?_
      refine callV_l (wr := []) C0 (c_Model_sizeOf l dC dI cI cB cJ (h0) ((0 : Int32)) (we) (wm) (wy) (ra) (tA) (tn) (oA) (on) (rA) (fi) (la) (wA) (wf) (wl) (lo) (ov) (un) (aT) (mi) (ds) (dA) (a0) (xp) (iA) (te) (E) (M) (x) (x.toInt.toNat) (by exact hL) (by exact (Int.toNat_of_nonneg hpat.1).symm)) (cwV 1 hts (gV m_706 m_707 m_37 m_55 m_708) rfl rfl rfl (by decide +kernel) ⟨Nat.le_of_ble_eq_true rfl, Nat.le_of_ble_eq_true rfl⟩) 8 rfl rfl 0 rfl hP hD hS hA [0] [] rfl rfl (by decide) (by decide) (by decide) rfl hl.1 rfl (Nat.le_of_ble_eq_true rfl) d_Model_next_32 ⟨Nat.le_of_ble_eq_true rfl, Nat.le_of_ble_eq_true rfl⟩ (fun r32 u32 H locs hw9 hP hD hS => ?_)
      have h32 : r32.toInt = ((szo E M x.toInt.toNat : Nat) : Int) := hw9
      have hP : va_P (dC, dI) vwCl [(h0, .inr (8, [.int 0, .int we, .int wm, .int wy, .int ra, .ref tA, .int tn, .ref oA, .int on, .ref rA, .int fi, .int la, .ref wA, .int wf, .int wl, .int lo, .int ov, .int un, .int aT, .int mi, .int ds, .ref dA, .int a0, .int xp, .ref iA, .int te]))] H := hP
      have hD : va_D A [(h0, .inr (8, [.int 0, .int we, .int wm, .int wy, .int ra, .ref tA, .int tn, .ref oA, .int on, .ref rA, .int fi, .int la, .ref wA, .int wf, .int wl, .int lo, .int ov, .int un, .int aT, .int mi, .int ds, .ref dA, .int a0, .int xp, .ref iA, .int te]))] := hD
      have t32 : r32.toInt = ((szo E M x.toInt.toNat : Nat) : Int) := h32
      refine lv_lstore (lv' := [(4, .long r32), (0, .ref h0), (1, .long x), (3, .int up)]) hx hb d_Model_next_35 hl (by decide) rfl (fun ls hl => ?_)
      refine lv_lload_n hx hb d_Model_next_37 rfl (lv_at hl 2 rfl) ?_
      refine lv_lload hx hb d_Model_next_38 (lv_at hl 0 rfl) ?_
      have hp1 := hpat.1
      have hp2 := hpat.2
      have hsz := szo_cases hpat.1 hpat.2
      refine lv_lsub hx hb d_Model_next_40 ?_
      refine lv_topl (fun v40 e40 => ?_)
      have t40 : v40.toInt = x.toInt - (((szo E M x.toInt.toNat : Nat) : Int)) := by rw [e40]; exact q_lsub (rfl : x.toInt = x.toInt) t32 (by omega)
      refine lv_lstore (lv' := [(6, .long v40), (4, .long r32), (0, .ref h0), (1, .long x), (3, .int up)]) hx hb d_Model_next_41 hl (by decide) rfl (fun ls hl => ?_)
      refine lv_lconst (v := 1) hx hb d_Model_next_43 (by decide) ?_
      refine lv_aload_n hx hb d_Model_next_44 rfl (lv_at hl 2 rfl) ?_
      refine va_get (D := (dC, dI)) (ci := 8) (v := .int we) (C := R_Model) (T := F_Model) (N := 26) hx hb hts u_Model hown hK hP 0 rfl rfl 1 (by decide) (hts _ m_564) (fun _ h9 => h9) rfl d_Model_next_45 ?_
      refine lv_aload_n hx hb d_Model_next_48 rfl (lv_at hl 2 rfl) ?_
      refine va_get (D := (dC, dI)) (ci := 8) (v := .int wm) (C := R_Model) (T := F_Model) (N := 26) hx hb hts u_Model hown hK hP 0 rfl rfl 2 (by decide) (hts _ m_565) (fun _ h9 => h9) rfl d_Model_next_49 ?_
      refine lv_iadd hx hb d_Model_next_52 ?_
      refine lv_topi (fun v52 e52 => ?_)
      have t52 : v52.toInt = (E : Int) + (M : Int) := by rw [e52]; exact q_iadd he hm (by omega)
      refine lv_lshl hx hb d_Model_next_53 rfl ?_
      refine lv_topl (fun v53 e53 => ?_)
      have t53 : v53.toInt = ((sb E M : Nat) : Int) := by rw [e53, ← Nat.one_mul (sb E M)]; exact q_lshl (a := 1) (k := E + M) (by decide) (t52.trans (by omega)) (by omega) (by rw [Nat.one_mul]; exact Nat.lt_of_le_of_lt hem.2 (by decide))
      refine lv_lstore (lv' := [(8, .long v53), (6, .long v40), (4, .long r32), (0, .ref h0), (1, .long x), (3, .int up)]) hx hb d_Model_next_54 hl (by decide) rfl (fun ls hl => ?_)
      refine lv_lload hx hb d_Model_next_56 (lv_at hl 2 rfl) ?_
      refine lv_lconst (v := 0) hx hb d_Model_next_58 (by decide) ?_
      refine W.lcmp hx hb d_Model_next_59 ?_
      refine lv_if_ne (tgt := 76) hx hb d_Model_next_60 (by decide) (fun b60 => ?_) (fun b60 => ?_)
      · skip
        rw [q_cmp_eq t32 (show (0 : Int64).toInt = 0 by decide)] at b60
        refine lv_lload hx hb d_Model_next_76 (lv_at hl 1 rfl) ?_
        refine lv_lconst (v := 0) hx hb d_Model_next_78 (by decide) ?_
        refine W.lcmp hx hb d_Model_next_79 ?_
        refine lv_if_ne (tgt := 87) hx hb d_Model_next_80 (by decide) (fun b80 => ?_) (fun b80 => ?_)
        · skip
          rw [q_cmp_eq t40 (show (0 : Int64).toInt = 0 by decide)] at b80
          refine lv_iconst (v := 0) hx hb d_Model_next_87 (by decide) ?_
          refine lv_iload_n hx hb d_Model_next_88 rfl (lv_at hl 5 rfl) ?_
          refine lv_icmp_ne (tgt := 98) hx hb d_Model_next_89 (by decide) (fun b89 => ?_) (fun b89 => ?_)
          · skip
            refine lv_lload_n hx hb d_Model_next_98 rfl (lv_at hl 4 rfl) ?_
            refine lv_lconst (v := 1) hx hb d_Model_next_99 (by decide) ?_
            refine lv_lsub hx hb d_Model_next_100 ?_
            refine lv_topl (fun v100 e100 => ?_)
            have t100 : v100.toInt = x.toInt - 1 := by rw [e100]; exact q_lsub (rfl : x.toInt = x.toInt) (show (1 : Int64).toInt = 1 by decide) (by omega)
            exact Cl.ret C0 (v := v100) (u := ()) (Nat.le_of_ble_eq_true rfl) (Nat.le_of_ble_eq_true rfl) (by show NX E M x.toInt (up = 1) v100.toInt; exact Or.inr ⟨⟨hpat, by omega⟩, Or.inr ⟨by omega, Or.inr ⟨Or.inl ⟨hup.elim (fun h => absurd h.symm b89) id, by omega⟩, t100⟩⟩⟩) hP hD hS [0] (by decide) rfl d_Model_next_101
          · skip
            refine lv_lload_n hx hb d_Model_next_92 rfl (lv_at hl 4 rfl) ?_
            refine lv_lconst (v := 1) hx hb d_Model_next_93 (by decide) ?_
            refine lv_ladd hx hb d_Model_next_94 ?_
            refine lv_topl (fun v94 e94 => ?_)
            have t94 : v94.toInt = x.toInt + 1 := by rw [e94]; exact q_ladd (rfl : x.toInt = x.toInt) (show (1 : Int64).toInt = 1 by decide) (by omega)
            refine lv_goto (tgt := 101) hx hb d_Model_next_95 (by decide) ?_
            exact Cl.ret C0 (v := v94) (u := ()) (Nat.le_of_ble_eq_true rfl) (Nat.le_of_ble_eq_true rfl) (by show NX E M x.toInt (up = 1) v94.toInt; exact Or.inr ⟨⟨hpat, by omega⟩, Or.inr ⟨by omega, Or.inl ⟨Or.inr ⟨fun h => absurd (b89.trans h) (by decide), by omega⟩, t94⟩⟩⟩) hP hD hS [0] (by decide) rfl d_Model_next_101
        · skip
          rw [q_cmp_eq t40 (show (0 : Int64).toInt = 0 by decide)] at b80
          refine lv_iconst (v := 1) hx hb d_Model_next_83 (by decide) ?_
          refine lv_goto (tgt := 88) hx hb d_Model_next_84 (by decide) ?_
          refine lv_iload_n hx hb d_Model_next_88 rfl (lv_at hl 5 rfl) ?_
          refine lv_icmp_ne (tgt := 98) hx hb d_Model_next_89 (by decide) (fun b89 => ?_) (fun b89 => ?_)
          · skip
            refine lv_lload_n hx hb d_Model_next_98 rfl (lv_at hl 4 rfl) ?_
            refine lv_lconst (v := 1) hx hb d_Model_next_99 (by decide) ?_
            refine lv_lsub hx hb d_Model_next_100 ?_
            refine lv_topl (fun v100 e100 => ?_)
            have t100 : v100.toInt = x.toInt - 1 := by rw [e100]; exact q_lsub (rfl : x.toInt = x.toInt) (show (1 : Int64).toInt = 1 by decide) (by omega)
            exact Cl.ret C0 (v := v100) (u := ()) (Nat.le_of_ble_eq_true rfl) (Nat.le_of_ble_eq_true rfl) (by show NX E M x.toInt (up = 1) v100.toInt; exact Or.inr ⟨⟨hpat, by omega⟩, Or.inr ⟨by omega, Or.inr ⟨Or.inr ⟨fun h => b89 h.symm, by omega⟩, t100⟩⟩⟩) hP hD hS [0] (by decide) rfl d_Model_next_101
          · skip
            refine lv_lload_n hx hb d_Model_next_92 rfl (lv_at hl 4 rfl) ?_
            refine lv_lconst (v := 1) hx hb d_Model_next_93 (by decide) ?_
            refine lv_ladd hx hb d_Model_next_94 ?_
            refine lv_topl (fun v94 e94 => ?_)
            have t94 : v94.toInt = x.toInt + 1 := by rw [e94]; exact q_ladd (rfl : x.toInt = x.toInt) (show (1 : Int64).toInt = 1 by decide) (by omega)
            refine lv_goto (tgt := 101) hx hb d_Model_next_95 (by decide) ?_
            exact Cl.ret C0 (v := v94) (u := ()) (Nat.le_of_ble_eq_true rfl) (Nat.le_of_ble_eq_true rfl) (by show NX E M x.toInt (up = 1) v94.toInt; exact Or.inr ⟨⟨hpat, by omega⟩, Or.inr ⟨by omega, Or.inl ⟨Or.inl ⟨b89.symm, by omega⟩, t94⟩⟩⟩) hP hD hS [0] (by decide) rfl d_Model_next_101
      · skip
        rw [q_cmp_eq t32 (show (0 : Int64).toInt = 0 by decide)] at b60
        refine lv_iload_n hx hb d_Model_next_63 rfl (lv_at hl 5 rfl) ?_
        refine lv_if_eq (tgt := 71) hx hb d_Model_next_64 (by decide) (fun b64 => ?_) (fun b64 => ?_)
        · skip
          refine lv_lload hx hb d_Model_next_71 (lv_at hl 0 rfl) ?_
          refine lv_lconst (v := 1) hx hb d_Model_next_73 (by decide) ?_
          refine lv_ladd hx hb d_Model_next_74 ?_
          refine lv_topl (fun v74 e74 => ?_)
          have t74 : v74.toInt = (((sb E M : Nat) : Int)) + 1 := by rw [e74]; exact q_ladd t53 (show (1 : Int64).toInt = 1 by decide) (by omega)
          exact Cl.ret C0 (v := v74) (u := ()) (Nat.le_of_ble_eq_true rfl) (Nat.le_of_ble_eq_true rfl) (by show NX E M x.toInt (up = 1) v74.toInt; exact Or.inr ⟨⟨hpat, by omega⟩, Or.inl ⟨by omega, Or.inr ⟨fun h => absurd (b64.symm.trans h) (by decide), t74⟩⟩⟩) hP hD hS [0] (by decide) rfl d_Model_next_75
        · skip
          refine lv_lconst (v := 1) hx hb d_Model_next_67 (by decide) ?_
          refine lv_goto (tgt := 75) hx hb d_Model_next_68 (by decide) ?_
          exact Cl.ret C0 (v := 1) (u := ()) (Nat.le_of_ble_eq_true rfl) (Nat.le_of_ble_eq_true rfl) (by show NX E M x.toInt (up = 1) (1 : Int64).toInt; exact Or.inr ⟨⟨hpat, by omega⟩, Or.inl ⟨by omega, Or.inl ⟨hup.elim (fun h => absurd h b64) id, by decide⟩⟩⟩) hP hD hS [0] (by decide) rfl d_Model_next_75
    · skip
      rw [q_cmp_lt t15 t19] at b23
      refine lv_ldc2 (v := (-1)) hx hb hown (hts _ m_746) d_Model_next_26 ?_
      exact Cl.ret C0 (v := (-1)) (u := ()) (Nat.le_of_ble_eq_true rfl) (Nat.le_of_ble_eq_true rfl) (by show NX E M x.toInt (up = 1) (((-1) : Int64)).toInt; exact Or.inl ⟨by decide, fun h => by have := h.2; omega⟩) hP hD hS [0] (by decide) rfl d_Model_next_29
