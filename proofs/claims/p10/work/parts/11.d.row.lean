set_option maxHeartbeats 4000000 in
set_option maxRecDepth 100000 in
theorem L_Model_wipe_2 {p : Program} {l : Launch} {e : Env} {s : State} {m : MethodId} {below : List Frame} {meth : Method} {c : Code} {dC : Nat → ClassId} {dI : Nat → Nat → Nat} {cI cB cJ : ClassId} {A : Nat → Prop} (h0 : Nat) (th : Int32) (we : Int32) (wm : Int32) (wy : Int32) (ra : Int32) (tA : Nat) (tn : Int32) (oA : Nat) (on : Int32) (rA : Nat) (fi : Int32) (la : Int32) (wA : Nat) (wf : Int32) (wl : Int32) (lo : Int32) (ov : Int32) (un : Int32) (aT : Int32) (mi : Int32) (ds : Int32) (dA : Nat) (a0 : Int32) (xp : Int32) (iA : Nat) (te : Int32) (f : Nat → Int32) (C0 : cx dC dI cI cB cJ R_Model b_Model_wipe 2 none p s m ([.ref h0] : List Value).toArray meth c) (hA : ∀ q : Nat, s.heap.size ≤ q → A q)  : ∀ n : Nat, (∀ (x1 : Int32) (i : Nat) (k : Nat → Int32) (H : Heap) (locs : List Loc) (ls : Array Slot), 400 - i < n → x1.toInt = (i : Int) → (i ≤ 400) → (∀ j, j < i → k j = 0) → va_P (dC, dI) vwCl [(h0, .inr (8, [.int th, .int we, .int wm, .int wy, .int ra, .ref tA, .int tn, .ref oA, .int on, .ref rA, .int fi, .int la, .ref wA, .int wf, .int wl, .int lo, .int ov, .int un, .int aT, .int mi, .int ds, .ref dA, .int a0, .int xp, .ref iA, .int te])), (rA, .inl (cI, 400, .inl k))] H → va_D A [(h0, .inr (8, [.int th, .int we, .int wm, .int wy, .int ra, .ref tA, .int tn, .ref oA, .int on, .ref rA, .int fi, .int la, .ref wA, .int wf, .int wl, .int lo, .int ov, .int un, .int aT, .int mi, .int ds, .ref dA, .int a0, .int xp, .ref iA, .int te])), (rA, .inl (cI, 400, .inl k))] → va_S A s.heap H locs → lv_has ls 2 [(1, .int x1), (0, .ref h0)] → W p l e ({ frames := 0, cells := 0, slots := 0, locals := 0 } : Room) s m ([.ref h0] : List Value).toArray below meth c H locs 0 0 (MQ below (va_Qv (fun (u : (Nat → Int32)) => (∀ j, j < 400 → u j = 0)) (poG dC dI A (fun u : (Nat → Int32) => [(h0, .inr (8, [.int th, .int we, .int wm, .int wy, .int ra, .ref tA, .int tn, .ref oA, .int on, .ref rA, .int 60, .int 60, .ref wA, .int wf, .int wl, .int lo, .int ov, .int un, .int aT, .int mi, .int ds, .ref dA, .int a0, .int xp, .ref iA, .int te])), (rA, .inl (cI, 400, .inl u))])) A) ([.ref h0] : List Value).toArray s 0 0 A) (F0 m 2 ls [])) := by
  obtain ⟨hx, hb, hml, hown, hts, hr, hlocks, hK, hN⟩ := id C0
  intro n
  induction n with
  | zero => exact fun _ _ _ _ _ _ h0 _ _ _ _ _ _ _ => absurd h0 (Nat.not_lt_zero _)
  | succ n ih =>
    intro x1 i k H locs ls hn9 t_x1 hi hz hP hD hS hl
    have r_x1 := q_r32 x1
    refine lv_iload_n hx hb d_Model_wipe_2 rfl (lv_at hl 0 rfl) ?_
    refine lv_sipush (v := 400) hx hb d_Model_wipe_3 (by decide) ?_
    refine lv_icmp_ge (tgt := 22) hx hb d_Model_wipe_6 (by decide) (fun b6 => ?_) (fun b6 => ?_)
    · skip
      rw [q_ile (show (400 : Int32).toInt = 400 by decide) t_x1] at b6
      refine lv_aload_n hx hb d_Model_wipe_22 rfl (lv_at hl 1 rfl) ?_
      refine lv_bipush (v := 60) hx hb d_Model_wipe_23 (by decide) ?_
      refine va_put (D := (dC, dI)) (ci := 8) (v := .int 60) (ty := .int) (C := R_Model) (T := F_Model) (N := 26) hx hb hts u_Model t_Model t_Model_ok n_Model hown hK hP hD hS 0 rfl rfl 10 (by decide) (hts _ m_573) (fun _ h9 => h9) rfl (by decide +kernel) rfl rfl (Nat.le_of_ble_eq_true rfl) d_Model_wipe_25 (fun H locs hP hD hS => ?_)
      have hP : va_P (dC, dI) vwCl [(h0, .inr (8, [.int th, .int we, .int wm, .int wy, .int ra, .ref tA, .int tn, .ref oA, .int on, .ref rA, .int 60, .int la, .ref wA, .int wf, .int wl, .int lo, .int ov, .int un, .int aT, .int mi, .int ds, .ref dA, .int a0, .int xp, .ref iA, .int te])), (rA, .inl (cI, 400, .inl k))] H := hP
      have hD : va_D A [(h0, .inr (8, [.int th, .int we, .int wm, .int wy, .int ra, .ref tA, .int tn, .ref oA, .int on, .ref rA, .int 60, .int la, .ref wA, .int wf, .int wl, .int lo, .int ov, .int un, .int aT, .int mi, .int ds, .ref dA, .int a0, .int xp, .ref iA, .int te])), (rA, .inl (cI, 400, .inl k))] := hD
      refine lv_aload_n hx hb d_Model_wipe_28 rfl (lv_at hl 1 rfl) ?_
      refine lv_bipush (v := 60) hx hb d_Model_wipe_29 (by decide) ?_
      refine va_put (D := (dC, dI)) (ci := 8) (v := .int 60) (ty := .int) (C := R_Model) (T := F_Model) (N := 26) hx hb hts u_Model t_Model t_Model_ok n_Model hown hK hP hD hS 0 rfl rfl 11 (by decide) (hts _ m_574) (fun _ h9 => h9) rfl (by decide +kernel) rfl rfl (Nat.le_of_ble_eq_true rfl) d_Model_wipe_31 (fun H locs hP hD hS => ?_)
      have hP : va_P (dC, dI) vwCl [(h0, .inr (8, [.int th, .int we, .int wm, .int wy, .int ra, .ref tA, .int tn, .ref oA, .int on, .ref rA, .int 60, .int 60, .ref wA, .int wf, .int wl, .int lo, .int ov, .int un, .int aT, .int mi, .int ds, .ref dA, .int a0, .int xp, .ref iA, .int te])), (rA, .inl (cI, 400, .inl k))] H := hP
      have hD : va_D A [(h0, .inr (8, [.int th, .int we, .int wm, .int wy, .int ra, .ref tA, .int tn, .ref oA, .int on, .ref rA, .int 60, .int 60, .ref wA, .int wf, .int wl, .int lo, .int ov, .int un, .int aT, .int mi, .int ds, .ref dA, .int a0, .int xp, .ref iA, .int te])), (rA, .inl (cI, 400, .inl k))] := hD
      exact Cv.ret C0 (u := (k)) (Nat.le_of_ble_eq_true rfl) (Nat.le_of_ble_eq_true rfl) (by show (∀ j, j < 400 → k j = 0); exact fun j hj => hz j (by omega)) hP hD hS [0, 1] (by decide) rfl d_Model_wipe_34
    · skip
      rw [q_ile (show (400 : Int32).toInt = 400 by decide) t_x1] at b6
      refine lv_aload_n hx hb d_Model_wipe_9 rfl (lv_at hl 1 rfl) ?_
      refine va_get (D := (dC, dI)) (ci := 8) (v := .ref rA) (C := R_Model) (T := F_Model) (N := 26) hx hb hts u_Model hown hK hP 0 rfl rfl 9 (by decide) (hts _ m_572) (fun _ h9 => h9) rfl d_Model_wipe_10 ?_
      refine lv_iload_n hx hb d_Model_wipe_13 rfl (lv_at hl 0 rfl) ?_
      refine lv_iconst (v := 0) hx hb d_Model_wipe_14 (by decide) ?_
      refine va_iast hx hb hK hP hD hS 1 0 rfl rfl (q_in t_x1 (by omega)) d_Model_wipe_15 (fun H locs hP hD hS => ?_)
      rw [q_cl (k := i) (t_x1)] at hP hD
      have hP : va_P (dC, dI) vwCl [(h0, .inr (8, [.int th, .int we, .int wm, .int wy, .int ra, .ref tA, .int tn, .ref oA, .int on, .ref rA, .int fi, .int la, .ref wA, .int wf, .int wl, .int lo, .int ov, .int un, .int aT, .int mi, .int ds, .ref dA, .int a0, .int xp, .ref iA, .int te])), (rA, .inl (cI, 400, .inl (upd k i 0)))] H := hP
      have hD : va_D A [(h0, .inr (8, [.int th, .int we, .int wm, .int wy, .int ra, .ref tA, .int tn, .ref oA, .int on, .ref rA, .int fi, .int la, .ref wA, .int wf, .int wl, .int lo, .int ov, .int un, .int aT, .int mi, .int ds, .ref dA, .int a0, .int xp, .ref iA, .int te])), (rA, .inl (cI, 400, .inl (upd k i 0)))] := hD
      obtain ⟨v16, e16⟩ : ∃ y : Int32, y = x1 + 1 := ⟨_, rfl⟩
      have t16 : v16.toInt = (i : Int) + 1 := by rw [e16]; exact q_iadd t_x1 (show (1 : Int32).toInt = 1 by decide) (by omega)
      refine lv_iinc (v := v16) (lv' := [(1, .int v16), (0, .ref h0)]) hx hb d_Model_wipe_16 hl (k := 0) rfl (by rw [e16]; rfl) (by decide) rfl (fun ls hl => ?_)
      refine lv_goto (tgt := 2) hx hb d_Model_wipe_19 (by decide) ?_
      exact ih (v16) (i + 1) (upd k i 0) H locs ls (by omega) ((t16).trans (by omega)) (by omega) (by intro j hj; rcases Nat.lt_or_ge j i with h | h; rw [pk_un (by omega)]; exact hz j h; rw [show j = i by omega, pk_us]) (va_Psub hP [0, 1] rfl) (hD.sub [0, 1] (by decide) rfl) hS (lv_sub hl [0, 1] rfl)
set_option maxHeartbeats 4000000 in
set_option maxRecDepth 100000 in
theorem c_Model_wipe (l : Launch) (dC : Nat → ClassId) (dI : Nat → Nat → Nat) (cI cB cJ : ClassId) (h0 : Nat) (th : Int32) (we : Int32) (wm : Int32) (wy : Int32) (ra : Int32) (tA : Nat) (tn : Int32) (oA : Nat) (on : Int32) (rA : Nat) (fi : Int32) (la : Int32) (wA : Nat) (wf : Int32) (wl : Int32) (lo : Int32) (ov : Int32) (un : Int32) (aT : Int32) (mi : Int32) (ds : Int32) (dA : Nat) (a0 : Int32) (xp : Int32) (iA : Nat) (te : Int32) (f : Nat → Int32)  : Cv l dC dI cI cB cJ y_Model_wipe w_Model_wipe ({ frames := 0, cells := 0, slots := 0, locals := 0 } : Room) [.ref h0] [(h0, .inr (8, [.int th, .int we, .int wm, .int wy, .int ra, .ref tA, .int tn, .ref oA, .int on, .ref rA, .int fi, .int la, .ref wA, .int wf, .int wl, .int lo, .int ov, .int un, .int aT, .int mi, .int ds, .ref dA, .int a0, .int xp, .ref iA, .int te])), (rA, .inl (cI, 400, .inl f))] (fun (u : (Nat → Int32)) => (∀ j, j < 400 → u j = 0)) (fun u : (Nat → Int32) => [(h0, .inr (8, [.int th, .int we, .int wm, .int wy, .int ra, .ref tA, .int tn, .ref oA, .int on, .ref rA, .int 60, .int 60, .ref wA, .int wf, .int wl, .int lo, .int ov, .int un, .int aT, .int mi, .int ds, .ref dA, .int a0, .int xp, .ref iA, .int te])), (rA, .inl (cI, 400, .inl u))]) := by
  refine Cv.intro (cc := b_Model_wipe) (maxL := 2) (plainFor_of_name (by decide)) rfl (Nat.le_of_ble_eq_true rfl) ?_
  intro p e s m below meth c A ls C0 hin hA hP hD hS hl
  obtain ⟨hx, hb, hml, hown, hts, hr, hlocks, hK, hN⟩ := id C0
  obtain ⟨H, hH⟩ : ∃ H, H = s.heap := ⟨_, rfl⟩
  have hP : va_P (dC, dI) vwCl [(h0, .inr (8, [.int th, .int we, .int wm, .int wy, .int ra, .ref tA, .int tn, .ref oA, .int on, .ref rA, .int fi, .int la, .ref wA, .int wf, .int wl, .int lo, .int ov, .int un, .int aT, .int mi, .int ds, .ref dA, .int a0, .int xp, .ref iA, .int te])), (rA, .inl (cI, 400, .inl f))] s.heap := hP
  have hl : lv_has ls 2 [(0, .ref h0)] := hl
  suffices h : ∀ (H : Heap) (locs : List Loc), va_P (dC, dI) vwCl [(h0, .inr (8, [.int th, .int we, .int wm, .int wy, .int ra, .ref tA, .int tn, .ref oA, .int on, .ref rA, .int fi, .int la, .ref wA, .int wf, .int wl, .int lo, .int ov, .int un, .int aT, .int mi, .int ds, .ref dA, .int a0, .int xp, .ref iA, .int te])), (rA, .inl (cI, 400, .inl f))] H → va_D A [(h0, .inr (8, [.int th, .int we, .int wm, .int wy, .int ra, .ref tA, .int tn, .ref oA, .int on, .ref rA, .int fi, .int la, .ref wA, .int wf, .int wl, .int lo, .int ov, .int un, .int aT, .int mi, .int ds, .ref dA, .int a0, .int xp, .ref iA, .int te])), (rA, .inl (cI, 400, .inl f))] → va_S A s.heap H locs → W p l e ({ frames := 0, cells := 0, slots := 0, locals := 0 } : Room) s m ([.ref h0] : List Value).toArray below meth c H locs 0 0 (MQ below (va_Qv (fun (u : (Nat → Int32)) => (∀ j, j < 400 → u j = 0)) (poG dC dI A (fun u : (Nat → Int32) => [(h0, .inr (8, [.int th, .int we, .int wm, .int wy, .int ra, .ref tA, .int tn, .ref oA, .int on, .ref rA, .int 60, .int 60, .ref wA, .int wf, .int wl, .int lo, .int ov, .int un, .int aT, .int mi, .int ds, .ref dA, .int a0, .int xp, .ref iA, .int te])), (rA, .inl (cI, 400, .inl u))])) A) ([.ref h0] : List Value).toArray s 0 0 A) (F0 m 0 ls []) from h _ _ hP hD hS
  clear hP hD hS hH H
  intro H locs hP hD hS
  refine lv_iconst (v := 0) hx hb d_Model_wipe_0 (by decide) ?_
  refine lv_istore_n (lv' := [(1, .int 0), (0, .ref h0)]) hx hb d_Model_wipe_1 rfl hl (by decide) rfl (fun ls hl => ?_)
  exact L_Model_wipe_2 (h0) (th) (we) (wm) (wy) (ra) (tA) (tn) (oA) (on) (rA) (fi) (la) (wA) (wf) (wl) (lo) (ov) (un) (aT) (mi) (ds) (dA) (a0) (xp) (iA) (te) (f) C0 hA  _ (0) (0) (f) H locs ls (Nat.lt_succ_self _) (((show (0 : Int32).toInt = 0 by decide)).trans (by omega)) (by omega) (by intro j hj; omega) (va_Psub hP [0, 1] rfl) (hD.sub [0, 1] (by decide) rfl) hS (lv_sub hl [0, 1] rfl)
set_option maxHeartbeats 4000000 in
set_option maxRecDepth 100000 in
theorem L_Model_twice_7 {p : Program} {l : Launch} {e : Env} {s : State} {m : MethodId} {below : List Frame} {meth : Method} {c : Code} {dC : Nat → ClassId} {dI : Nat → Nat → Nat} {cI cB cJ : ClassId} {A : Nat → Prop} (h0 : Nat) (th : Int32) (we : Int32) (wm : Int32) (wy : Int32) (ra : Int32) (tA : Nat) (tn : Int32) (oA : Nat) (on : Int32) (rA : Nat) (fi : Int32) (la : Int32) (wA : Nat) (wf : Int32) (wl : Int32) (lo : Int32) (ov : Int32) (un : Int32) (aT : Int32) (mi : Int32) (ds : Int32) (dA : Nat) (a0 : Int32) (xp : Int32) (iA : Nat) (te : Int32) (f : Nat → Int32) (n1 : Nat) (n2 : Nat) (C0 : cx dC dI cI cB cJ R_Model b_Model_twice 4 none p s m ([.ref h0] : List Value).toArray meth c) (hA : ∀ q : Nat, s.heap.size ≤ q → A q) (hfi : fi.toInt = (n1 : Int)) (hla : la.toInt = (n2 : Int)) (hR : RWp f n1 n2) (hn1 : 1 ≤ n1) : ∀ n : Nat, (∀ (x1 : Int32) (x2 : Int32) (cy : Nat) (q : Nat) (k : Nat → Int32) (H : Heap) (locs : List Loc) (ls : Array Slot), 400 - q < n → x2.toInt = 399 - (q : Int) → x1.toInt = (cy : Int) → (399 ≤ n2 + q) → (q + n1 ≤ 400) → (cy ≤ 1) → (sv k q + cy * 10 ^ q = 2 * sv f q) → (∀ j, j < 400 - q → k j = f j) → (∀ j, 400 - q ≤ j → j < 400 → 0 ≤ (k j).toInt ∧ (k j).toInt ≤ 9) → (∀ j, n2 < j → j < 400 → (k j).toInt = 0) → (q + n1 = 400 → n1 < 60 → (k n1).toInt ≠ 0 ∨ cy = 1) → va_P (dC, dI) vwCl [(h0, .inr (8, [.int th, .int we, .int wm, .int wy, .int ra, .ref tA, .int tn, .ref oA, .int on, .ref rA, .int fi, .int la, .ref wA, .int wf, .int wl, .int lo, .int ov, .int un, .int aT, .int mi, .int ds, .ref dA, .int a0, .int xp, .ref iA, .int te])), (rA, .inl (cI, 400, .inl k))] H → va_D A [(h0, .inr (8, [.int th, .int we, .int wm, .int wy, .int ra, .ref tA, .int tn, .ref oA, .int on, .ref rA, .int fi, .int la, .ref wA, .int wf, .int wl, .int lo, .int ov, .int un, .int aT, .int mi, .int ds, .ref dA, .int a0, .int xp, .ref iA, .int te])), (rA, .inl (cI, 400, .inl k))] → va_S A s.heap H locs → lv_has ls 4 [(2, .int x2), (1, .int x1), (0, .ref h0)] → W p l e ({ frames := 0, cells := 0, slots := 0, locals := 0 } : Room) s m ([.ref h0] : List Value).toArray below meth c H locs 0 0 (MQ below (va_Qv (fun (u : (Nat → Int32) × (Int32)) => ∃ nA : Nat, u.2.toInt = (nA : Int) ∧ (nA = n1 ∨ nA + 1 = n1) ∧ RWp u.1 nA n2 ∧ sv u.1 400 = 2 * sv f 400) (poG dC dI A (fun u : (Nat → Int32) × (Int32) => [(h0, .inr (8, [.int th, .int we, .int wm, .int wy, .int ra, .ref tA, .int tn, .ref oA, .int on, .ref rA, .int u.2, .int la, .ref wA, .int wf, .int wl, .int lo, .int ov, .int un, .int aT, .int mi, .int ds, .ref dA, .int a0, .int xp, .ref iA, .int te])), (rA, .inl (cI, 400, .inl u.1))])) A) ([.ref h0] : List Value).toArray s 0 0 A) (F0 m 7 ls [])) := by
  obtain ⟨hx, hb, hml, hown, hts, hr, hlocks, hK, hN⟩ := id C0
  intro n
  induction n with
  | zero => exact fun _ _ _ _ _ _ _ _ h0 _ _ _ _ _ _ _ _ _ _ _ _ _ _ => absurd h0 (Nat.not_lt_zero _)
  | succ n ih =>
    intro x1 x2 cy q k H locs ls hn9 t_x2 t_x1 hq1 hq2 hcy hv hk hkd hkz hkf hP hD hS hl
    have r_x2 := q_r32 x2
    have r_x1 := q_r32 x1
    have hR6 := hR.2.2.2
    refine lv_iload_n hx hb d_Model_twice_7 rfl (lv_at hl 0 rfl) ?_
    refine lv_aload_n hx hb d_Model_twice_8 rfl (lv_at hl 2 rfl) ?_
    refine va_get (D := (dC, dI)) (ci := 8) (v := .int fi) (C := R_Model) (T := F_Model) (N := 26) hx hb hts u_Model hown hK hP 0 rfl rfl 10 (by decide) (hts _ m_573) (fun _ h9 => h9) rfl d_Model_twice_9 ?_
    refine lv_icmp_lt (tgt := 47) hx hb d_Model_twice_12 (by decide) (fun b12 => ?_) (fun b12 => ?_)
    · skip
      rw [q_ilt t_x2 hfi] at b12
      refine lv_iload_n hx hb d_Model_twice_47 rfl (lv_at hl 1 rfl) ?_
      refine lv_if_le (tgt := 71) hx hb d_Model_twice_48 (by decide) (fun b48 => ?_) (fun b48 => ?_)
      · skip
        rw [q_ile t_x1 (show (0 : Int32).toInt = 0 by decide)] at b48
        have hqe : q + n1 = 400 := by omega
        have hc0 : cy = 0 := by omega
        subst hc0
        exact Cv.ret C0 (u := (k, fi)) (Nat.le_of_ble_eq_true rfl) (Nat.le_of_ble_eq_true rfl) (by show ∃ nA : Nat, fi.toInt = (nA : Int) ∧ (nA = n1 ∨ nA + 1 = n1) ∧ RWp k nA n2 ∧ sv k 400 = 2 * sv f 400; exact ⟨n1, hfi, Or.inl rfl, ⟨fun j hj => (Nat.lt_or_ge j (400 - q)).elim (fun h => by rw [hk j h]; exact hR.1 j hj) (fun h => hkd j h hj), fun j hj => by rw [hk j (by omega)]; exact hR.2.1 j hj, hkz, hR6.1, hR6.2.1, hR6.2.2.1, fun h => (hkf hqe h).elim id (fun h => by omega)⟩, by rw [sv_top (r := k) (m := q) (by omega) (fun j hj => rdg_0 (by rw [hk j (by omega)]; exact hR.2.1 j (by omega))), sv_top (r := f) (m := q) (by omega) (fun j hj => rdg_0 (hR.2.1 j (by omega)))]; omega⟩) hP hD hS [0, 1] (by decide) rfl d_Model_twice_71
      · skip
        rw [q_ile t_x1 (show (0 : Int32).toInt = 0 by decide)] at b48
        refine lv_aload_n hx hb d_Model_twice_51 rfl (lv_at hl 2 rfl) ?_
        refine lv_dup hx hb d_Model_twice_52 rfl ?_
        refine va_get (D := (dC, dI)) (ci := 8) (v := .int fi) (C := R_Model) (T := F_Model) (N := 26) hx hb hts u_Model hown hK hP 0 rfl rfl 10 (by decide) (hts _ m_573) (fun _ h9 => h9) rfl d_Model_twice_53 ?_
        refine lv_iconst (v := 1) hx hb d_Model_twice_56 (by decide) ?_
        refine lv_isub hx hb d_Model_twice_57 ?_
        refine lv_topi (fun v57 e57 => ?_)
        have t57 : v57.toInt = (n1 : Int) - 1 := by rw [e57]; exact q_isub hfi (show (1 : Int32).toInt = 1 by decide) (by omega)
        refine va_put (D := (dC, dI)) (ci := 8) (v := .int v57) (ty := .int) (C := R_Model) (T := F_Model) (N := 26) hx hb hts u_Model t_Model t_Model_ok n_Model hown hK hP hD hS 0 rfl rfl 10 (by decide) (hts _ m_573) (fun _ h9 => h9) rfl (by decide +kernel) rfl rfl (Nat.le_of_ble_eq_true rfl) d_Model_twice_58 (fun H locs hP hD hS => ?_)
        have hP : va_P (dC, dI) vwCl [(h0, .inr (8, [.int th, .int we, .int wm, .int wy, .int ra, .ref tA, .int tn, .ref oA, .int on, .ref rA, .int v57, .int la, .ref wA, .int wf, .int wl, .int lo, .int ov, .int un, .int aT, .int mi, .int ds, .ref dA, .int a0, .int xp, .ref iA, .int te])), (rA, .inl (cI, 400, .inl k))] H := hP
        have hD : va_D A [(h0, .inr (8, [.int th, .int we, .int wm, .int wy, .int ra, .ref tA, .int tn, .ref oA, .int on, .ref rA, .int v57, .int la, .ref wA, .int wf, .int wl, .int lo, .int ov, .int un, .int aT, .int mi, .int ds, .ref dA, .int a0, .int xp, .ref iA, .int te])), (rA, .inl (cI, 400, .inl k))] := hD
        refine lv_aload_n hx hb d_Model_twice_61 rfl (lv_at hl 2 rfl) ?_
        refine va_get (D := (dC, dI)) (ci := 8) (v := .ref rA) (C := R_Model) (T := F_Model) (N := 26) hx hb hts u_Model hown hK hP 0 rfl rfl 9 (by decide) (hts _ m_572) (fun _ h9 => h9) rfl d_Model_twice_62 ?_
        refine lv_aload_n hx hb d_Model_twice_65 rfl (lv_at hl 2 rfl) ?_
        refine va_get (D := (dC, dI)) (ci := 8) (v := .int v57) (C := R_Model) (T := F_Model) (N := 26) hx hb hts u_Model hown hK hP 0 rfl rfl 10 (by decide) (hts _ m_573) (fun _ h9 => h9) rfl d_Model_twice_66 ?_
        refine lv_iload_n hx hb d_Model_twice_69 rfl (lv_at hl 1 rfl) ?_
        refine va_iast hx hb hK hP hD hS 1 0 rfl rfl (q_in t57 (by omega)) d_Model_twice_70 (fun H locs hP hD hS => ?_)
        rw [q_cl (k := n1 - 1) (t57.trans (by omega))] at hP hD
        have hP : va_P (dC, dI) vwCl [(h0, .inr (8, [.int th, .int we, .int wm, .int wy, .int ra, .ref tA, .int tn, .ref oA, .int on, .ref rA, .int v57, .int la, .ref wA, .int wf, .int wl, .int lo, .int ov, .int un, .int aT, .int mi, .int ds, .ref dA, .int a0, .int xp, .ref iA, .int te])), (rA, .inl (cI, 400, .inl (upd k (n1 - 1) x1)))] H := hP
        have hD : va_D A [(h0, .inr (8, [.int th, .int we, .int wm, .int wy, .int ra, .ref tA, .int tn, .ref oA, .int on, .ref rA, .int v57, .int la, .ref wA, .int wf, .int wl, .int lo, .int ov, .int un, .int aT, .int mi, .int ds, .ref dA, .int a0, .int xp, .ref iA, .int te])), (rA, .inl (cI, 400, .inl (upd k (n1 - 1) x1)))] := hD
        have hqe : q + n1 = 400 := by omega
        have hc1 : cy = 1 := by omega
        subst hc1
        have hu1 := sv_upd (r := k) (k := n1 - 1) t_x1 (rdg_0 (by rw [hk _ (by omega)]; exact hR.2.1 _ (by omega))) (by omega) (m := 400) (by omega) (by omega)
        exact Cv.ret C0 (u := (upd k (n1 - 1) x1, v57)) (Nat.le_of_ble_eq_true rfl) (Nat.le_of_ble_eq_true rfl) (by show ∃ nA : Nat, v57.toInt = (nA : Int) ∧ (nA = n1 ∨ nA + 1 = n1) ∧ RWp (upd k (n1 - 1) x1) nA n2 ∧ sv (upd k (n1 - 1) x1) 400 = 2 * sv f 400; exact ⟨n1 - 1, t57.trans (by omega), Or.inr (by omega), ⟨fun j hj => by (by_cases h : j = n1 - 1; (rw [h, pk_us, t_x1]; exact ⟨by omega, by omega⟩); (rw [pk_un h]; exact (Nat.lt_or_ge j (400 - q)).elim (fun h => by rw [hk j h]; exact hR.1 j hj) (fun h => hkd j h hj))), fun j hj => by (rw [pk_un (by omega), hk j (by omega)]; exact hR.2.1 j (by omega)), fun j h1 h2 => by (rw [pk_un (by omega)]; exact hkz j h1 h2), by omega, hR6.2.1, hR6.2.2.1, fun _ => by (rw [pk_us, t_x1]; omega)⟩, by rw [hu1, sv_top (r := k) (m := q) (by omega) (fun j hj => rdg_0 (by rw [hk j (by omega)]; exact hR.2.1 j (by omega))), sv_top (r := f) (m := q) (by omega) (fun j hj => rdg_0 (hR.2.1 j (by omega))), show 399 - (n1 - 1) = q by omega]; omega⟩) hP hD hS [0, 1] (by decide) rfl d_Model_twice_71
    · skip
      rw [q_ilt t_x2 hfi] at b12
      refine lv_iconst (v := 2) hx hb d_Model_twice_15 (by decide) ?_
      refine lv_aload_n hx hb d_Model_twice_16 rfl (lv_at hl 2 rfl) ?_
      refine va_get (D := (dC, dI)) (ci := 8) (v := .ref rA) (C := R_Model) (T := F_Model) (N := 26) hx hb hts u_Model hown hK hP 0 rfl rfl 9 (by decide) (hts _ m_572) (fun _ h9 => h9) rfl d_Model_twice_17 ?_
      refine lv_iload_n hx hb d_Model_twice_20 rfl (lv_at hl 0 rfl) ?_
      refine va_iald hx hb hK hP 1 0 rfl rfl (q_in t_x2 (by omega)) d_Model_twice_21 ?_
      refine lv_topi (fun v21 e21 => ?_)
      rw [q_cl (k := 399 - q) (t_x2.trans (by omega))] at e21
      have t21 : v21.toInt = (rdg f (399 - q) : Int) := by rw [e21, hk (399 - q) (by omega)]; exact rdg_i (hR.1 _ (by omega)).1
      have hd9 := hR.1 (399 - q) (by omega)
      have hd8 := rdg_i hd9.1
      refine lv_imul hx hb d_Model_twice_22 ?_
      refine lv_topi (fun v22 e22 => ?_)
      have t22 : v22.toInt = 2 * ((rdg f (399 - q) : Int)) := by rw [e22]; exact q_imul (show (2 : Int32).toInt = 2 by decide) t21 (by omega)
      refine lv_iload_n hx hb d_Model_twice_23 rfl (lv_at hl 1 rfl) ?_
      refine lv_iadd hx hb d_Model_twice_24 ?_
      refine lv_topi (fun v24 e24 => ?_)
      have t24 : v24.toInt = (2 * ((rdg f (399 - q) : Int))) + (cy : Int) := by rw [e24]; exact q_iadd t22 t_x1 (by omega)
      refine lv_istore_n (lv' := [(3, .int v24), (2, .int x2), (1, .int x1), (0, .ref h0)]) hx hb d_Model_twice_25 rfl hl (by decide) rfl (fun ls hl => ?_)
      refine lv_aload_n hx hb d_Model_twice_26 rfl (lv_at hl 3 rfl) ?_
      refine va_get (D := (dC, dI)) (ci := 8) (v := .ref rA) (C := R_Model) (T := F_Model) (N := 26) hx hb hts u_Model hown hK hP 0 rfl rfl 9 (by decide) (hts _ m_572) (fun _ h9 => h9) rfl d_Model_twice_27 ?_
      refine lv_iload_n hx hb d_Model_twice_30 rfl (lv_at hl 1 rfl) ?_
      refine lv_iload_n hx hb d_Model_twice_31 rfl (lv_at hl 0 rfl) ?_
      refine lv_bipush (v := 10) hx hb d_Model_twice_32 (by decide) ?_
      refine lv_irem hx hb d_Model_twice_34 (by decide) ?_
      refine lv_topi (fun v34 e34 => ?_)
      have t34 : v34.toInt = (((2 * rdg f (399 - q) + cy) % 10 : Nat) : Int) := by rw [e34]; exact (q_irem t24 (show (10 : Int32).toInt = 10 by decide) (by omega)).trans (by omega)
      refine va_iast hx hb hK hP hD hS 1 0 rfl rfl (q_in t_x2 (by omega)) d_Model_twice_35 (fun H locs hP hD hS => ?_)
      rw [q_cl (k := 399 - q) (t_x2.trans (by omega))] at hP hD
      have hP : va_P (dC, dI) vwCl [(h0, .inr (8, [.int th, .int we, .int wm, .int wy, .int ra, .ref tA, .int tn, .ref oA, .int on, .ref rA, .int fi, .int la, .ref wA, .int wf, .int wl, .int lo, .int ov, .int un, .int aT, .int mi, .int ds, .ref dA, .int a0, .int xp, .ref iA, .int te])), (rA, .inl (cI, 400, .inl (upd k (399 - q) v34)))] H := hP
      have hD : va_D A [(h0, .inr (8, [.int th, .int we, .int wm, .int wy, .int ra, .ref tA, .int tn, .ref oA, .int on, .ref rA, .int fi, .int la, .ref wA, .int wf, .int wl, .int lo, .int ov, .int un, .int aT, .int mi, .int ds, .ref dA, .int a0, .int xp, .ref iA, .int te])), (rA, .inl (cI, 400, .inl (upd k (399 - q) v34)))] := hD
      refine lv_iload_n hx hb d_Model_twice_36 rfl (lv_at hl 0 rfl) ?_
      refine lv_bipush (v := 10) hx hb d_Model_twice_37 (by decide) ?_
      refine lv_idiv hx hb d_Model_twice_39 (by decide) ?_
      refine lv_topi (fun v39 e39 => ?_)
      have t39 : v39.toInt = (((2 * rdg f (399 - q) + cy) / 10 : Nat) : Int) := by rw [e39]; exact (q_idiv t24 (show (10 : Int32).toInt = 10 by decide) (by omega)).trans (by omega)
      refine lv_istore_n (lv' := [(1, .int v39), (3, .int v24), (2, .int x2), (0, .ref h0)]) hx hb d_Model_twice_40 rfl hl (by decide) rfl (fun ls hl => ?_)
      obtain ⟨v41, e41⟩ : ∃ y : Int32, y = x2 + (-1) := ⟨_, rfl⟩
      have t41 : v41.toInt = 399 - (q : Int) + (-1) := by rw [e41]; exact q_iadd t_x2 (show ((-1) : Int32).toInt = (-1) by decide) (by omega)
      refine lv_iinc (v := v41) (lv' := [(2, .int v41), (1, .int v39), (3, .int v24), (0, .ref h0)]) hx hb d_Model_twice_41 hl (k := 2) rfl (by rw [e41]; rfl) (by decide) rfl (fun ls hl => ?_)
      refine lv_goto (tgt := 7) hx hb d_Model_twice_44 (by decide) ?_
      exact ih (v39) (v41) ((2 * rdg f (399 - q) + cy) / 10) (q + 1) (upd k (399 - q) v34) H locs ls (by omega) ((t41).trans (by omega)) ((t39).trans (by omega)) (by omega) (by omega) (by omega) (by exact sv_step2 hv t34 (by omega)) (by intro j hj; rw [pk_un (by omega)]; exact hk j (by omega)) (by intro j h1 h2; rcases Nat.lt_or_ge j (400 - q) with h | h; rw [show j = 399 - q by omega, pk_us, t34]; exact ⟨by omega, by omega⟩; rw [pk_un (by omega)]; exact hkd j h h2) (by intro j h1 h2; rw [pk_un (by omega)]; exact hkz j h1 h2) (by intro h1 h2; rw [show n1 = 399 - q by omega, pk_us, t34]; have hf := hR6.2.2.2 h2; rw [show n1 = 399 - q by omega] at hf; omega) (va_Psub hP [0, 1] rfl) (hD.sub [0, 1] (by decide) rfl) hS (lv_sub hl [0, 1, 3] rfl)
set_option maxHeartbeats 4000000 in
set_option maxRecDepth 100000 in
theorem c_Model_twice (l : Launch) (dC : Nat → ClassId) (dI : Nat → Nat → Nat) (cI cB cJ : ClassId) (h0 : Nat) (th : Int32) (we : Int32) (wm : Int32) (wy : Int32) (ra : Int32) (tA : Nat) (tn : Int32) (oA : Nat) (on : Int32) (rA : Nat) (fi : Int32) (la : Int32) (wA : Nat) (wf : Int32) (wl : Int32) (lo : Int32) (ov : Int32) (un : Int32) (aT : Int32) (mi : Int32) (ds : Int32) (dA : Nat) (a0 : Int32) (xp : Int32) (iA : Nat) (te : Int32) (f : Nat → Int32) (n1 : Nat) (n2 : Nat) (hfi : fi.toInt = (n1 : Int)) (hla : la.toInt = (n2 : Int)) (hR : RWp f n1 n2) (hn1 : 1 ≤ n1) : Cv l dC dI cI cB cJ y_Model_twice w_Model_twice ({ frames := 0, cells := 0, slots := 0, locals := 0 } : Room) [.ref h0] [(h0, .inr (8, [.int th, .int we, .int wm, .int wy, .int ra, .ref tA, .int tn, .ref oA, .int on, .ref rA, .int fi, .int la, .ref wA, .int wf, .int wl, .int lo, .int ov, .int un, .int aT, .int mi, .int ds, .ref dA, .int a0, .int xp, .ref iA, .int te])), (rA, .inl (cI, 400, .inl f))] (fun (u : (Nat → Int32) × (Int32)) => ∃ nA : Nat, u.2.toInt = (nA : Int) ∧ (nA = n1 ∨ nA + 1 = n1) ∧ RWp u.1 nA n2 ∧ sv u.1 400 = 2 * sv f 400) (fun u : (Nat → Int32) × (Int32) => [(h0, .inr (8, [.int th, .int we, .int wm, .int wy, .int ra, .ref tA, .int tn, .ref oA, .int on, .ref rA, .int u.2, .int la, .ref wA, .int wf, .int wl, .int lo, .int ov, .int un, .int aT, .int mi, .int ds, .ref dA, .int a0, .int xp, .ref iA, .int te])), (rA, .inl (cI, 400, .inl u.1))]) := by
  refine Cv.intro (cc := b_Model_twice) (maxL := 4) (plainFor_of_name (by decide)) rfl (Nat.le_of_ble_eq_true rfl) ?_
  intro p e s m below meth c A ls C0 hin hA hP hD hS hl
  obtain ⟨hx, hb, hml, hown, hts, hr, hlocks, hK, hN⟩ := id C0
  obtain ⟨H, hH⟩ : ∃ H, H = s.heap := ⟨_, rfl⟩
  have hP : va_P (dC, dI) vwCl [(h0, .inr (8, [.int th, .int we, .int wm, .int wy, .int ra, .ref tA, .int tn, .ref oA, .int on, .ref rA, .int fi, .int la, .ref wA, .int wf, .int wl, .int lo, .int ov, .int un, .int aT, .int mi, .int ds, .ref dA, .int a0, .int xp, .ref iA, .int te])), (rA, .inl (cI, 400, .inl f))] s.heap := hP
  have hl : lv_has ls 4 [(0, .ref h0)] := hl
  suffices h : ∀ (H : Heap) (locs : List Loc), va_P (dC, dI) vwCl [(h0, .inr (8, [.int th, .int we, .int wm, .int wy, .int ra, .ref tA, .int tn, .ref oA, .int on, .ref rA, .int fi, .int la, .ref wA, .int wf, .int wl, .int lo, .int ov, .int un, .int aT, .int mi, .int ds, .ref dA, .int a0, .int xp, .ref iA, .int te])), (rA, .inl (cI, 400, .inl f))] H → va_D A [(h0, .inr (8, [.int th, .int we, .int wm, .int wy, .int ra, .ref tA, .int tn, .ref oA, .int on, .ref rA, .int fi, .int la, .ref wA, .int wf, .int wl, .int lo, .int ov, .int un, .int aT, .int mi, .int ds, .ref dA, .int a0, .int xp, .ref iA, .int te])), (rA, .inl (cI, 400, .inl f))] → va_S A s.heap H locs → W p l e ({ frames := 0, cells := 0, slots := 0, locals := 0 } : Room) s m ([.ref h0] : List Value).toArray below meth c H locs 0 0 (MQ below (va_Qv (fun (u : (Nat → Int32) × (Int32)) => ∃ nA : Nat, u.2.toInt = (nA : Int) ∧ (nA = n1 ∨ nA + 1 = n1) ∧ RWp u.1 nA n2 ∧ sv u.1 400 = 2 * sv f 400) (poG dC dI A (fun u : (Nat → Int32) × (Int32) => [(h0, .inr (8, [.int th, .int we, .int wm, .int wy, .int ra, .ref tA, .int tn, .ref oA, .int on, .ref rA, .int u.2, .int la, .ref wA, .int wf, .int wl, .int lo, .int ov, .int un, .int aT, .int mi, .int ds, .ref dA, .int a0, .int xp, .ref iA, .int te])), (rA, .inl (cI, 400, .inl u.1))])) A) ([.ref h0] : List Value).toArray s 0 0 A) (F0 m 0 ls []) from h _ _ hP hD hS
  clear hP hD hS hH H
  intro H locs hP hD hS
  have hR6 := hR.2.2.2
  refine lv_iconst (v := 0) hx hb d_Model_twice_0 (by decide) ?_
  refine lv_istore_n (lv' := [(1, .int 0), (0, .ref h0)]) hx hb d_Model_twice_1 rfl hl (by decide) rfl (fun ls hl => ?_)
  refine lv_aload_n hx hb d_Model_twice_2 rfl (lv_at hl 1 rfl) ?_
  refine va_get (D := (dC, dI)) (ci := 8) (v := .int la) (C := R_Model) (T := F_Model) (N := 26) hx hb hts u_Model hown hK hP 0 rfl rfl 11 (by decide) (hts _ m_574) (fun _ h9 => h9) rfl d_Model_twice_3 ?_
  refine lv_istore_n (lv' := [(2, .int la), (1, .int 0), (0, .ref h0)]) hx hb d_Model_twice_6 rfl hl (by decide) rfl (fun ls hl => ?_)
  have hs0 : sv f (399 - n2) = 0 := sv_zero (by omega) (fun j a b => rdg_0 (hR.2.2.1 j (by omega) b))
  exact L_Model_twice_7 (h0) (th) (we) (wm) (wy) (ra) (tA) (tn) (oA) (on) (rA) (fi) (la) (wA) (wf) (wl) (lo) (ov) (un) (aT) (mi) (ds) (dA) (a0) (xp) (iA) (te) (f) (n1) (n2) C0 hA (hfi) (hla) (hR) (hn1) _ (0) (la) (0) (399 - n2) (f) H locs ls (Nat.lt_succ_self _) (hla.trans (by omega)) (((show (0 : Int32).toInt = 0 by decide)).trans (by omega)) (by omega) (by omega) (by omega) (by omega) (by intro j hj; rfl) (by intro j h1 h2; exact hR.1 j h2) (by exact hR.2.2.1) (by intro h1 h2; omega) (va_Psub hP [0, 1] rfl) (hD.sub [0, 1] (by decide) rfl) hS (lv_sub hl [0, 1, 2] rfl)
set_option maxHeartbeats 4000000 in
set_option maxRecDepth 100000 in
theorem L_Model_half_72 {p : Program} {l : Launch} {e : Env} {s : State} {m : MethodId} {below : List Frame} {meth : Method} {c : Code} {dC : Nat → ClassId} {dI : Nat → Nat → Nat} {cI cB cJ : ClassId} {A : Nat → Prop} (h0 : Nat) (th : Int32) (we : Int32) (wm : Int32) (wy : Int32) (ra : Int32) (tA : Nat) (tn : Int32) (oA : Nat) (on : Int32) (rA : Nat) (fi : Int32) (la : Int32) (wA : Nat) (wf : Int32) (wl : Int32) (lo : Int32) (ov : Int32) (un : Int32) (aT : Int32) (mi : Int32) (ds : Int32) (dA : Nat) (a0 : Int32) (xp : Int32) (iA : Nat) (te : Int32) (f : Nat → Int32) (n1 : Nat) (n2 : Nat) (C0 : cx dC dI cI cB cJ R_Model b_Model_half 4 none p s m ([.ref h0] : List Value).toArray meth c) (hA : ∀ q : Nat, s.heap.size ≤ q → A q) (hfi : fi.toInt = (n1 : Int)) (hla : la.toInt = (n2 : Int)) (hR : RWp f n1 n2) (hn2 : n2 ≤ 398) : ∀ n : Nat, (∀ (k : Nat → Int32) (fi1 : Int32) (la1 : Int32) (n3 : Nat) (n4 : Nat) (H : Heap) (locs : List Loc) (ls : Array Slot), 60 - n3 < n → (fi1.toInt = (n3 : Int)) → (la1.toInt = (n4 : Int)) → (n1 ≤ n3) → (n4 = n2 ∨ n4 = n2 + 1) → (n3 ≤ 60) → (2 * sv k 400 = sv f 400) → (∀ j, j < 400 → 0 ≤ (k j).toInt ∧ (k j).toInt ≤ 9) → (∀ j, j < n3 → (k j).toInt = 0) → (∀ j, n4 < j → j < 400 → (k j).toInt = 0) → va_P (dC, dI) vwCl [(h0, .inr (8, [.int th, .int we, .int wm, .int wy, .int ra, .ref tA, .int tn, .ref oA, .int on, .ref rA, .int fi1, .int la1, .ref wA, .int wf, .int wl, .int lo, .int ov, .int un, .int aT, .int mi, .int ds, .ref dA, .int a0, .int xp, .ref iA, .int te])), (rA, .inl (cI, 400, .inl k))] H → va_D A [(h0, .inr (8, [.int th, .int we, .int wm, .int wy, .int ra, .ref tA, .int tn, .ref oA, .int on, .ref rA, .int fi1, .int la1, .ref wA, .int wf, .int wl, .int lo, .int ov, .int un, .int aT, .int mi, .int ds, .ref dA, .int a0, .int xp, .ref iA, .int te])), (rA, .inl (cI, 400, .inl k))] → va_S A s.heap H locs → lv_has ls 4 [(0, .ref h0)] → W p l e ({ frames := 0, cells := 0, slots := 0, locals := 0 } : Room) s m ([.ref h0] : List Value).toArray below meth c H locs 0 0 (MQ below (va_Qv (fun (u : (Nat → Int32) × (Int32) × (Int32)) => ∃ nA nB : Nat, u.2.1.toInt = (nA : Int) ∧ u.2.2.toInt = (nB : Int) ∧ n1 ≤ nA ∧ (nB = n2 ∨ nB = n2 + 1) ∧ RWp u.1 nA nB ∧ 2 * sv u.1 400 = sv f 400) (poG dC dI A (fun u : (Nat → Int32) × (Int32) × (Int32) => [(h0, .inr (8, [.int th, .int we, .int wm, .int wy, .int ra, .ref tA, .int tn, .ref oA, .int on, .ref rA, .int u.2.1, .int u.2.2, .ref wA, .int wf, .int wl, .int lo, .int ov, .int un, .int aT, .int mi, .int ds, .ref dA, .int a0, .int xp, .ref iA, .int te])), (rA, .inl (cI, 400, .inl u.1))])) A) ([.ref h0] : List Value).toArray s 0 0 A) (F0 m 72 ls [])) := by
  obtain ⟨hx, hb, hml, hown, hts, hr, hlocks, hK, hN⟩ := id C0
  intro n
  induction n with
  | zero => exact fun _ _ _ _ _ _ _ _ h0 _ _ _ _ _ _ _ _ _ _ _ _ _ => absurd h0 (Nat.not_lt_zero _)
  | succ n ih =>
    intro k fi1 la1 n3 n4 H locs ls hn9 t_fi1 t_la1 hn3 hn4 hn60 hv hkd hkz hkl hP hD hS hl
    have hR6 := hR.2.2.2
    refine lv_aload_n hx hb d_Model_half_72 rfl (lv_at hl 0 rfl) ?_
    refine va_get (D := (dC, dI)) (ci := 8) (v := .int fi1) (C := R_Model) (T := F_Model) (N := 26) hx hb hts u_Model hown hK hP 0 rfl rfl 10 (by decide) (hts _ m_573) (fun _ h9 => h9) rfl d_Model_half_73 ?_
    refine lv_bipush (v := 60) hx hb d_Model_half_76 (by decide) ?_
    refine lv_icmp_ge (tgt := 106) hx hb d_Model_half_78 (by decide) (fun b78 => ?_) (fun b78 => ?_)
    · skip
      rw [q_ile (show (60 : Int32).toInt = 60 by decide) t_fi1] at b78
      exact Cv.ret C0 (u := (k, fi1, la1)) (Nat.le_of_ble_eq_true rfl) (Nat.le_of_ble_eq_true rfl) (by show ∃ nA nB : Nat, fi1.toInt = (nA : Int) ∧ la1.toInt = (nB : Int) ∧ n1 ≤ nA ∧ (nB = n2 ∨ nB = n2 + 1) ∧ RWp k nA nB ∧ 2 * sv k 400 = sv f 400; exact ⟨n3, n4, t_fi1, t_la1, hn3, hn4, ⟨hkd, hkz, hkl, hn60, by omega, by omega, fun h => by omega⟩, hv⟩) hP hD hS [0, 1] (by decide) rfl d_Model_half_106
    · skip
      rw [q_ile (show (60 : Int32).toInt = 60 by decide) t_fi1] at b78
      refine lv_aload_n hx hb d_Model_half_81 rfl (lv_at hl 0 rfl) ?_
      refine va_get (D := (dC, dI)) (ci := 8) (v := .ref rA) (C := R_Model) (T := F_Model) (N := 26) hx hb hts u_Model hown hK hP 0 rfl rfl 9 (by decide) (hts _ m_572) (fun _ h9 => h9) rfl d_Model_half_82 ?_
      refine lv_aload_n hx hb d_Model_half_85 rfl (lv_at hl 0 rfl) ?_
      refine va_get (D := (dC, dI)) (ci := 8) (v := .int fi1) (C := R_Model) (T := F_Model) (N := 26) hx hb hts u_Model hown hK hP 0 rfl rfl 10 (by decide) (hts _ m_573) (fun _ h9 => h9) rfl d_Model_half_86 ?_
      refine va_iald hx hb hK hP 1 0 rfl rfl (q_in t_fi1 (by omega)) d_Model_half_89 ?_
      refine lv_topi (fun v89 e89 => ?_)
      rw [q_cl (k := n3) (t_fi1)] at e89
      have t89 : v89.toInt = (rdg k n3 : Int) := by rw [e89]; exact rdg_i (hkd n3 (by omega)).1
      refine lv_if_ne (tgt := 106) hx hb d_Model_half_90 (by decide) (fun b90 => ?_) (fun b90 => ?_)
      · skip
        rw [q_ieq t89 (show (0 : Int32).toInt = 0 by decide)] at b90
        exact Cv.ret C0 (u := (k, fi1, la1)) (Nat.le_of_ble_eq_true rfl) (Nat.le_of_ble_eq_true rfl) (by show ∃ nA nB : Nat, fi1.toInt = (nA : Int) ∧ la1.toInt = (nB : Int) ∧ n1 ≤ nA ∧ (nB = n2 ∨ nB = n2 + 1) ∧ RWp k nA nB ∧ 2 * sv k 400 = sv f 400; exact ⟨n3, n4, t_fi1, t_la1, hn3, hn4, ⟨hkd, hkz, hkl, hn60, by omega, by omega, fun _ h => b90 (by rw [rdg_0 h]; rfl)⟩, hv⟩) hP hD hS [0, 1] (by decide) rfl d_Model_half_106
      · skip
        rw [q_ieq t89 (show (0 : Int32).toInt = 0 by decide)] at b90
        refine lv_aload_n hx hb d_Model_half_93 rfl (lv_at hl 0 rfl) ?_
        refine lv_dup hx hb d_Model_half_94 rfl ?_
        refine va_get (D := (dC, dI)) (ci := 8) (v := .int fi1) (C := R_Model) (T := F_Model) (N := 26) hx hb hts u_Model hown hK hP 0 rfl rfl 10 (by decide) (hts _ m_573) (fun _ h9 => h9) rfl d_Model_half_95 ?_
        refine lv_iconst (v := 1) hx hb d_Model_half_98 (by decide) ?_
        refine lv_iadd hx hb d_Model_half_99 ?_
        refine lv_topi (fun v99 e99 => ?_)
        have t99 : v99.toInt = (n3 : Int) + 1 := by rw [e99]; exact q_iadd t_fi1 (show (1 : Int32).toInt = 1 by decide) (by omega)
        refine va_put (D := (dC, dI)) (ci := 8) (v := .int v99) (ty := .int) (C := R_Model) (T := F_Model) (N := 26) hx hb hts u_Model t_Model t_Model_ok n_Model hown hK hP hD hS 0 rfl rfl 10 (by decide) (hts _ m_573) (fun _ h9 => h9) rfl (by decide +kernel) rfl rfl (Nat.le_of_ble_eq_true rfl) d_Model_half_100 (fun H locs hP hD hS => ?_)
        have hP : va_P (dC, dI) vwCl [(h0, .inr (8, [.int th, .int we, .int wm, .int wy, .int ra, .ref tA, .int tn, .ref oA, .int on, .ref rA, .int v99, .int la1, .ref wA, .int wf, .int wl, .int lo, .int ov, .int un, .int aT, .int mi, .int ds, .ref dA, .int a0, .int xp, .ref iA, .int te])), (rA, .inl (cI, 400, .inl k))] H := hP
        have hD : va_D A [(h0, .inr (8, [.int th, .int we, .int wm, .int wy, .int ra, .ref tA, .int tn, .ref oA, .int on, .ref rA, .int v99, .int la1, .ref wA, .int wf, .int wl, .int lo, .int ov, .int un, .int aT, .int mi, .int ds, .ref dA, .int a0, .int xp, .ref iA, .int te])), (rA, .inl (cI, 400, .inl k))] := hD
        refine lv_goto (tgt := 72) hx hb d_Model_half_103 (by decide) ?_
        exact ih (k) (v99) (la1) (n3 + 1) (n4) H locs ls (by omega) (by exact t99.trans (by omega)) (by exact t_la1) (by omega) (by exact hn4) (by omega) (by exact hv) (by exact hkd) (by intro j hj; rcases Nat.lt_or_ge j n3 with h | h; exact hkz j h; rw [show j = n3 by omega, rdg_i (hkd n3 (by omega)).1]; omega) (by exact hkl) (va_Psub hP [0, 1] rfl) (hD.sub [0, 1] (by decide) rfl) hS (lv_sub hl [0] rfl)
set_option maxHeartbeats 4000000 in
set_option maxRecDepth 100000 in
theorem L_Model_half_7 {p : Program} {l : Launch} {e : Env} {s : State} {m : MethodId} {below : List Frame} {meth : Method} {c : Code} {dC : Nat → ClassId} {dI : Nat → Nat → Nat} {cI cB cJ : ClassId} {A : Nat → Prop} (h0 : Nat) (th : Int32) (we : Int32) (wm : Int32) (wy : Int32) (ra : Int32) (tA : Nat) (tn : Int32) (oA : Nat) (on : Int32) (rA : Nat) (fi : Int32) (la : Int32) (wA : Nat) (wf : Int32) (wl : Int32) (lo : Int32) (ov : Int32) (un : Int32) (aT : Int32) (mi : Int32) (ds : Int32) (dA : Nat) (a0 : Int32) (xp : Int32) (iA : Nat) (te : Int32) (f : Nat → Int32) (n1 : Nat) (n2 : Nat) (C0 : cx dC dI cI cB cJ R_Model b_Model_half 4 none p s m ([.ref h0] : List Value).toArray meth c) (hA : ∀ q : Nat, s.heap.size ≤ q → A q) (hfi : fi.toInt = (n1 : Int)) (hla : la.toInt = (n2 : Int)) (hR : RWp f n1 n2) (hn2 : n2 ≤ 398) : ∀ n : Nat, (∀ (x1 : Int32) (x2 : Int32) (cy : Nat) (i : Nat) (k : Nat → Int32) (H : Heap) (locs : List Loc) (ls : Array Slot), 500 - i < n → x2.toInt = (i : Int) → x1.toInt = (cy : Int) → (n1 ≤ i) → (i ≤ n2 + 2) → (cy ≤ 1) → (2 * pv k i + cy = pv f i) → (∀ j, i ≤ j → k j = f j) → (∀ j, j < i → 0 ≤ (k j).toInt ∧ (k j).toInt ≤ 9) → (∀ j, j < n1 → (k j).toInt = 0) → (i = n2 + 2 → cy = 0) → va_P (dC, dI) vwCl [(h0, .inr (8, [.int th, .int we, .int wm, .int wy, .int ra, .ref tA, .int tn, .ref oA, .int on, .ref rA, .int fi, .int la, .ref wA, .int wf, .int wl, .int lo, .int ov, .int un, .int aT, .int mi, .int ds, .ref dA, .int a0, .int xp, .ref iA, .int te])), (rA, .inl (cI, 400, .inl k))] H → va_D A [(h0, .inr (8, [.int th, .int we, .int wm, .int wy, .int ra, .ref tA, .int tn, .ref oA, .int on, .ref rA, .int fi, .int la, .ref wA, .int wf, .int wl, .int lo, .int ov, .int un, .int aT, .int mi, .int ds, .ref dA, .int a0, .int xp, .ref iA, .int te])), (rA, .inl (cI, 400, .inl k))] → va_S A s.heap H locs → lv_has ls 4 [(2, .int x2), (1, .int x1), (0, .ref h0)] → W p l e ({ frames := 0, cells := 0, slots := 0, locals := 0 } : Room) s m ([.ref h0] : List Value).toArray below meth c H locs 0 0 (MQ below (va_Qv (fun (u : (Nat → Int32) × (Int32) × (Int32)) => ∃ nA nB : Nat, u.2.1.toInt = (nA : Int) ∧ u.2.2.toInt = (nB : Int) ∧ n1 ≤ nA ∧ (nB = n2 ∨ nB = n2 + 1) ∧ RWp u.1 nA nB ∧ 2 * sv u.1 400 = sv f 400) (poG dC dI A (fun u : (Nat → Int32) × (Int32) × (Int32) => [(h0, .inr (8, [.int th, .int we, .int wm, .int wy, .int ra, .ref tA, .int tn, .ref oA, .int on, .ref rA, .int u.2.1, .int u.2.2, .ref wA, .int wf, .int wl, .int lo, .int ov, .int un, .int aT, .int mi, .int ds, .ref dA, .int a0, .int xp, .ref iA, .int te])), (rA, .inl (cI, 400, .inl u.1))])) A) ([.ref h0] : List Value).toArray s 0 0 A) (F0 m 7 ls [])) := by
  obtain ⟨hx, hb, hml, hown, hts, hr, hlocks, hK, hN⟩ := id C0
  intro n
  induction n with
  | zero => exact fun _ _ _ _ _ _ _ _ h0 _ _ _ _ _ _ _ _ _ _ _ _ _ _ => absurd h0 (Nat.not_lt_zero _)
  | succ n ih =>
    intro x1 x2 cy i k H locs ls hn9 t_x2 t_x1 hi1 hi2 hcy hv hk hkd hkz hc0 hP hD hS hl
    have r_x2 := q_r32 x2
    have r_x1 := q_r32 x1
    have hR6 := hR.2.2.2
    refine lv_iload_n hx hb d_Model_half_7 rfl (lv_at hl 0 rfl) ?_
    refine lv_aload_n hx hb d_Model_half_8 rfl (lv_at hl 2 rfl) ?_
    refine va_get (D := (dC, dI)) (ci := 8) (v := .int la) (C := R_Model) (T := F_Model) (N := 26) hx hb hts u_Model hown hK hP 0 rfl rfl 11 (by decide) (hts _ m_574) (fun _ h9 => h9) rfl d_Model_half_9 ?_
    refine lv_iconst (v := 1) hx hb d_Model_half_12 (by decide) ?_
    refine lv_iadd hx hb d_Model_half_13 ?_
    refine lv_topi (fun v13 e13 => ?_)
    have t13 : v13.toInt = (n2 : Int) + 1 := by rw [e13]; exact q_iadd hla (show (1 : Int32).toInt = 1 by decide) (by omega)
    refine lv_icmp_gt (tgt := 48) hx hb d_Model_half_14 (by decide) (fun b14 => ?_) (fun b14 => ?_)
    · skip
      rw [q_ilt t13 t_x2] at b14
      refine lv_aload_n hx hb d_Model_half_48 rfl (lv_at hl 2 rfl) ?_
      refine va_get (D := (dC, dI)) (ci := 8) (v := .ref rA) (C := R_Model) (T := F_Model) (N := 26) hx hb hts u_Model hown hK hP 0 rfl rfl 9 (by decide) (hts _ m_572) (fun _ h9 => h9) rfl d_Model_half_49 ?_
      refine lv_aload_n hx hb d_Model_half_52 rfl (lv_at hl 2 rfl) ?_
      refine va_get (D := (dC, dI)) (ci := 8) (v := .int la) (C := R_Model) (T := F_Model) (N := 26) hx hb hts u_Model hown hK hP 0 rfl rfl 11 (by decide) (hts _ m_574) (fun _ h9 => h9) rfl d_Model_half_53 ?_
      refine lv_iconst (v := 1) hx hb d_Model_half_56 (by decide) ?_
      refine lv_iadd hx hb d_Model_half_57 ?_
      refine lv_topi (fun v57 e57 => ?_)
      have t57 : v57.toInt = (n2 : Int) + 1 := by rw [e57]; exact q_iadd hla (show (1 : Int32).toInt = 1 by decide) (by omega)
      have hie : i = n2 + 2 := by omega
      have hcz := hc0 hie
      subst hcz
      subst hie
      refine va_iald hx hb hK hP 1 0 rfl rfl (q_in t57 (by omega)) d_Model_half_58 ?_
      refine lv_topi (fun v58 e58 => ?_)
      rw [q_cl (k := n2 + 1) (t57.trans (by omega))] at e58
      have t58 : v58.toInt = (rdg k (n2 + 1) : Int) := by rw [e58]; exact rdg_i (hkd (n2 + 1) (by omega)).1
      refine lv_if_le (tgt := 72) hx hb d_Model_half_59 (by decide) (fun b59 => ?_) (fun b59 => ?_)
      · skip
        rw [q_ile t58 (show (0 : Int32).toInt = 0 by decide)] at b59
        have hall : ∀ j, j < 400 → 0 ≤ (k j).toInt ∧ (k j).toInt ≤ 9 := fun j hj => (Nat.lt_or_ge j (n2 + 2)).elim (fun h => hkd j h) (fun h => by rw [hk j h]; exact hR.1 j hj)
        have hhv : 2 * sv k 400 = sv f 400 := by
          rw [sv_low (r := k) (m := 400 - (n2 + 2)) (by omega) (fun j a b => rdg_0 (by rw [hk j (by omega)]; exact hR.2.2.1 j (by omega) b)), sv_low (r := f) (m := 400 - (n2 + 2)) (by omega) (fun j a b => rdg_0 (hR.2.2.1 j (by omega) b)), show 400 - (400 - (n2 + 2)) = n2 + 2 by omega, ← hv]
          exact (Nat.mul_assoc 2 _ _).symm
        exact L_Model_half_72 (h0) (th) (we) (wm) (wy) (ra) (tA) (tn) (oA) (on) (rA) (fi) (la) (wA) (wf) (wl) (lo) (ov) (un) (aT) (mi) (ds) (dA) (a0) (xp) (iA) (te) (f) (n1) (n2) C0 hA (hfi) (hla) (hR) (hn2) _ (k) (fi) (la) (n1) (n2) H locs ls (Nat.lt_succ_self _) (by exact hfi) (by exact hla) (by omega) (by exact Or.inl rfl) (by exact hR6.1) (by exact hhv) (by exact hall) (by exact hkz) (by intro j h1 h2; rcases Nat.lt_or_ge j (n2 + 2) with h | h; rw [show j = n2 + 1 by omega, rdg_i (hkd (n2 + 1) (by omega)).1]; omega; rw [hk j h]; exact hR.2.2.1 j (by omega) h2) (va_Psub hP [0, 1] rfl) (hD.sub [0, 1] (by decide) rfl) hS (lv_sub hl [2] rfl)
      · skip
        rw [q_ile t58 (show (0 : Int32).toInt = 0 by decide)] at b59
        refine lv_aload_n hx hb d_Model_half_62 rfl (lv_at hl 2 rfl) ?_
        refine lv_dup hx hb d_Model_half_63 rfl ?_
        refine va_get (D := (dC, dI)) (ci := 8) (v := .int la) (C := R_Model) (T := F_Model) (N := 26) hx hb hts u_Model hown hK hP 0 rfl rfl 11 (by decide) (hts _ m_574) (fun _ h9 => h9) rfl d_Model_half_64 ?_
        refine lv_iconst (v := 1) hx hb d_Model_half_67 (by decide) ?_
        refine lv_iadd hx hb d_Model_half_68 ?_
        refine lv_topi (fun v68 e68 => ?_)
        have t68 : v68.toInt = (n2 : Int) + 1 := by rw [e68]; exact q_iadd hla (show (1 : Int32).toInt = 1 by decide) (by omega)
        refine va_put (D := (dC, dI)) (ci := 8) (v := .int v68) (ty := .int) (C := R_Model) (T := F_Model) (N := 26) hx hb hts u_Model t_Model t_Model_ok n_Model hown hK hP hD hS 0 rfl rfl 11 (by decide) (hts _ m_574) (fun _ h9 => h9) rfl (by decide +kernel) rfl rfl (Nat.le_of_ble_eq_true rfl) d_Model_half_69 (fun H locs hP hD hS => ?_)
        have hP : va_P (dC, dI) vwCl [(h0, .inr (8, [.int th, .int we, .int wm, .int wy, .int ra, .ref tA, .int tn, .ref oA, .int on, .ref rA, .int fi, .int v68, .ref wA, .int wf, .int wl, .int lo, .int ov, .int un, .int aT, .int mi, .int ds, .ref dA, .int a0, .int xp, .ref iA, .int te])), (rA, .inl (cI, 400, .inl k))] H := hP
        have hD : va_D A [(h0, .inr (8, [.int th, .int we, .int wm, .int wy, .int ra, .ref tA, .int tn, .ref oA, .int on, .ref rA, .int fi, .int v68, .ref wA, .int wf, .int wl, .int lo, .int ov, .int un, .int aT, .int mi, .int ds, .ref dA, .int a0, .int xp, .ref iA, .int te])), (rA, .inl (cI, 400, .inl k))] := hD
        have hall : ∀ j, j < 400 → 0 ≤ (k j).toInt ∧ (k j).toInt ≤ 9 := fun j hj => (Nat.lt_or_ge j (n2 + 2)).elim (fun h => hkd j h) (fun h => by rw [hk j h]; exact hR.1 j hj)
        have hhv : 2 * sv k 400 = sv f 400 := by
          rw [sv_low (r := k) (m := 400 - (n2 + 2)) (by omega) (fun j a b => rdg_0 (by rw [hk j (by omega)]; exact hR.2.2.1 j (by omega) b)), sv_low (r := f) (m := 400 - (n2 + 2)) (by omega) (fun j a b => rdg_0 (hR.2.2.1 j (by omega) b)), show 400 - (400 - (n2 + 2)) = n2 + 2 by omega, ← hv]
          exact (Nat.mul_assoc 2 _ _).symm
        exact L_Model_half_72 (h0) (th) (we) (wm) (wy) (ra) (tA) (tn) (oA) (on) (rA) (fi) (la) (wA) (wf) (wl) (lo) (ov) (un) (aT) (mi) (ds) (dA) (a0) (xp) (iA) (te) (f) (n1) (n2) C0 hA (hfi) (hla) (hR) (hn2) _ (k) (fi) (v68) (n1) (n2 + 1) H locs ls (Nat.lt_succ_self _) (by exact hfi) (by exact t68.trans (by omega)) (by omega) (by exact Or.inr rfl) (by exact hR6.1) (by exact hhv) (by exact hall) (by exact hkz) (by intro j h1 h2; rw [hk j (by omega)]; exact hR.2.2.1 j (by omega) h2) (va_Psub hP [0, 1] rfl) (hD.sub [0, 1] (by decide) rfl) hS (lv_sub hl [2] rfl)
    · skip
      rw [q_ilt t13 t_x2] at b14
      refine lv_bipush (v := 10) hx hb d_Model_half_17 (by decide) ?_
      refine lv_iload_n hx hb d_Model_half_19 rfl (lv_at hl 1 rfl) ?_
      refine lv_imul hx hb d_Model_half_20 ?_
      refine lv_topi (fun v20 e20 => ?_)
      have t20 : v20.toInt = 10 * (cy : Int) := by rw [e20]; exact q_imul (show (10 : Int32).toInt = 10 by decide) t_x1 (by omega)
      refine lv_aload_n hx hb d_Model_half_21 rfl (lv_at hl 2 rfl) ?_
      refine va_get (D := (dC, dI)) (ci := 8) (v := .ref rA) (C := R_Model) (T := F_Model) (N := 26) hx hb hts u_Model hown hK hP 0 rfl rfl 9 (by decide) (hts _ m_572) (fun _ h9 => h9) rfl d_Model_half_22 ?_
      refine lv_iload_n hx hb d_Model_half_25 rfl (lv_at hl 0 rfl) ?_
      refine va_iald hx hb hK hP 1 0 rfl rfl (q_in t_x2 (by omega)) d_Model_half_26 ?_
      refine lv_topi (fun v26 e26 => ?_)
      rw [q_cl (k := i) (t_x2)] at e26
      have t26 : v26.toInt = (rdg f i : Int) := by rw [e26, hk i (Nat.le_refl i)]; exact rdg_i (hR.1 _ (by omega)).1
      have hd9 := hR.1 i (by omega)
      have hd8 := rdg_i hd9.1
      refine lv_iadd hx hb d_Model_half_27 ?_
      refine lv_topi (fun v27 e27 => ?_)
      have t27 : v27.toInt = (10 * (cy : Int)) + (rdg f i : Int) := by rw [e27]; exact q_iadd t20 t26 (by omega)
      refine lv_istore_n (lv' := [(3, .int v27), (2, .int x2), (1, .int x1), (0, .ref h0)]) hx hb d_Model_half_28 rfl hl (by decide) rfl (fun ls hl => ?_)
      refine lv_aload_n hx hb d_Model_half_29 rfl (lv_at hl 3 rfl) ?_
      refine va_get (D := (dC, dI)) (ci := 8) (v := .ref rA) (C := R_Model) (T := F_Model) (N := 26) hx hb hts u_Model hown hK hP 0 rfl rfl 9 (by decide) (hts _ m_572) (fun _ h9 => h9) rfl d_Model_half_30 ?_
      refine lv_iload_n hx hb d_Model_half_33 rfl (lv_at hl 1 rfl) ?_
      refine lv_iload_n hx hb d_Model_half_34 rfl (lv_at hl 0 rfl) ?_
      refine lv_iconst (v := 2) hx hb d_Model_half_35 (by decide) ?_
      refine lv_idiv hx hb d_Model_half_36 (by decide) ?_
      refine lv_topi (fun v36 e36 => ?_)
      have t36 : v36.toInt = (((10 * cy + rdg f i) / 2 : Nat) : Int) := by rw [e36]; exact (q_idiv t27 (show (2 : Int32).toInt = 2 by decide) (by omega)).trans (by omega)
      refine va_iast hx hb hK hP hD hS 1 0 rfl rfl (q_in t_x2 (by omega)) d_Model_half_37 (fun H locs hP hD hS => ?_)
      rw [q_cl (k := i) (t_x2)] at hP hD
      have hP : va_P (dC, dI) vwCl [(h0, .inr (8, [.int th, .int we, .int wm, .int wy, .int ra, .ref tA, .int tn, .ref oA, .int on, .ref rA, .int fi, .int la, .ref wA, .int wf, .int wl, .int lo, .int ov, .int un, .int aT, .int mi, .int ds, .ref dA, .int a0, .int xp, .ref iA, .int te])), (rA, .inl (cI, 400, .inl (upd k i v36)))] H := hP
      have hD : va_D A [(h0, .inr (8, [.int th, .int we, .int wm, .int wy, .int ra, .ref tA, .int tn, .ref oA, .int on, .ref rA, .int fi, .int la, .ref wA, .int wf, .int wl, .int lo, .int ov, .int un, .int aT, .int mi, .int ds, .ref dA, .int a0, .int xp, .ref iA, .int te])), (rA, .inl (cI, 400, .inl (upd k i v36)))] := hD
      refine lv_iload_n hx hb d_Model_half_38 rfl (lv_at hl 0 rfl) ?_
      refine lv_iconst (v := 2) hx hb d_Model_half_39 (by decide) ?_
      refine lv_irem hx hb d_Model_half_40 (by decide) ?_
      refine lv_topi (fun v40 e40 => ?_)
      have t40 : v40.toInt = (((10 * cy + rdg f i) % 2 : Nat) : Int) := by rw [e40]; exact (q_irem t27 (show (2 : Int32).toInt = 2 by decide) (by omega)).trans (by omega)
      refine lv_istore_n (lv' := [(1, .int v40), (3, .int v27), (2, .int x2), (0, .ref h0)]) hx hb d_Model_half_41 rfl hl (by decide) rfl (fun ls hl => ?_)
      obtain ⟨v42, e42⟩ : ∃ y : Int32, y = x2 + 1 := ⟨_, rfl⟩
      have t42 : v42.toInt = (i : Int) + 1 := by rw [e42]; exact q_iadd t_x2 (show (1 : Int32).toInt = 1 by decide) (by omega)
      refine lv_iinc (v := v42) (lv' := [(2, .int v42), (1, .int v40), (3, .int v27), (0, .ref h0)]) hx hb d_Model_half_42 hl (k := 2) rfl (by rw [e42]; rfl) (by decide) rfl (fun ls hl => ?_)
      refine lv_goto (tgt := 7) hx hb d_Model_half_45 (by decide) ?_
      exact ih (v40) (v42) ((10 * cy + rdg f i) % 2) (i + 1) (upd k i v36) H locs ls (by omega) ((t42).trans (by omega)) ((t40).trans (by omega)) (by omega) (by omega) (by omega) (by exact pv_step2 hv t36) (by intro j hj; rw [pk_un (by omega)]; exact hk j (by omega)) (by intro j hj; rcases Nat.lt_or_ge j i with h | h; rw [pk_un (by omega)]; exact hkd j h; rw [show j = i by omega, pk_us, t36]; exact ⟨by omega, by omega⟩) (by intro j hj; rw [pk_un (by omega)]; exact hkz j hj) (by intro h; have h0 := rdg_0 (hR.2.2.1 i (by omega) (by omega)); omega) (va_Psub hP [0, 1] rfl) (hD.sub [0, 1] (by decide) rfl) hS (lv_sub hl [0, 1, 3] rfl)
set_option maxHeartbeats 4000000 in
set_option maxRecDepth 100000 in
theorem c_Model_half (l : Launch) (dC : Nat → ClassId) (dI : Nat → Nat → Nat) (cI cB cJ : ClassId) (h0 : Nat) (th : Int32) (we : Int32) (wm : Int32) (wy : Int32) (ra : Int32) (tA : Nat) (tn : Int32) (oA : Nat) (on : Int32) (rA : Nat) (fi : Int32) (la : Int32) (wA : Nat) (wf : Int32) (wl : Int32) (lo : Int32) (ov : Int32) (un : Int32) (aT : Int32) (mi : Int32) (ds : Int32) (dA : Nat) (a0 : Int32) (xp : Int32) (iA : Nat) (te : Int32) (f : Nat → Int32) (n1 : Nat) (n2 : Nat) (hfi : fi.toInt = (n1 : Int)) (hla : la.toInt = (n2 : Int)) (hR : RWp f n1 n2) (hn2 : n2 ≤ 398) : Cv l dC dI cI cB cJ y_Model_half w_Model_half ({ frames := 0, cells := 0, slots := 0, locals := 0 } : Room) [.ref h0] [(h0, .inr (8, [.int th, .int we, .int wm, .int wy, .int ra, .ref tA, .int tn, .ref oA, .int on, .ref rA, .int fi, .int la, .ref wA, .int wf, .int wl, .int lo, .int ov, .int un, .int aT, .int mi, .int ds, .ref dA, .int a0, .int xp, .ref iA, .int te])), (rA, .inl (cI, 400, .inl f))] (fun (u : (Nat → Int32) × (Int32) × (Int32)) => ∃ nA nB : Nat, u.2.1.toInt = (nA : Int) ∧ u.2.2.toInt = (nB : Int) ∧ n1 ≤ nA ∧ (nB = n2 ∨ nB = n2 + 1) ∧ RWp u.1 nA nB ∧ 2 * sv u.1 400 = sv f 400) (fun u : (Nat → Int32) × (Int32) × (Int32) => [(h0, .inr (8, [.int th, .int we, .int wm, .int wy, .int ra, .ref tA, .int tn, .ref oA, .int on, .ref rA, .int u.2.1, .int u.2.2, .ref wA, .int wf, .int wl, .int lo, .int ov, .int un, .int aT, .int mi, .int ds, .ref dA, .int a0, .int xp, .ref iA, .int te])), (rA, .inl (cI, 400, .inl u.1))]) := by
  refine Cv.intro (cc := b_Model_half) (maxL := 4) (plainFor_of_name (by decide)) rfl (Nat.le_of_ble_eq_true rfl) ?_
  intro p e s m below meth c A ls C0 hin hA hP hD hS hl
  obtain ⟨hx, hb, hml, hown, hts, hr, hlocks, hK, hN⟩ := id C0
  obtain ⟨H, hH⟩ : ∃ H, H = s.heap := ⟨_, rfl⟩
  have hP : va_P (dC, dI) vwCl [(h0, .inr (8, [.int th, .int we, .int wm, .int wy, .int ra, .ref tA, .int tn, .ref oA, .int on, .ref rA, .int fi, .int la, .ref wA, .int wf, .int wl, .int lo, .int ov, .int un, .int aT, .int mi, .int ds, .ref dA, .int a0, .int xp, .ref iA, .int te])), (rA, .inl (cI, 400, .inl f))] s.heap := hP
  have hl : lv_has ls 4 [(0, .ref h0)] := hl
  suffices h : ∀ (H : Heap) (locs : List Loc), va_P (dC, dI) vwCl [(h0, .inr (8, [.int th, .int we, .int wm, .int wy, .int ra, .ref tA, .int tn, .ref oA, .int on, .ref rA, .int fi, .int la, .ref wA, .int wf, .int wl, .int lo, .int ov, .int un, .int aT, .int mi, .int ds, .ref dA, .int a0, .int xp, .ref iA, .int te])), (rA, .inl (cI, 400, .inl f))] H → va_D A [(h0, .inr (8, [.int th, .int we, .int wm, .int wy, .int ra, .ref tA, .int tn, .ref oA, .int on, .ref rA, .int fi, .int la, .ref wA, .int wf, .int wl, .int lo, .int ov, .int un, .int aT, .int mi, .int ds, .ref dA, .int a0, .int xp, .ref iA, .int te])), (rA, .inl (cI, 400, .inl f))] → va_S A s.heap H locs → W p l e ({ frames := 0, cells := 0, slots := 0, locals := 0 } : Room) s m ([.ref h0] : List Value).toArray below meth c H locs 0 0 (MQ below (va_Qv (fun (u : (Nat → Int32) × (Int32) × (Int32)) => ∃ nA nB : Nat, u.2.1.toInt = (nA : Int) ∧ u.2.2.toInt = (nB : Int) ∧ n1 ≤ nA ∧ (nB = n2 ∨ nB = n2 + 1) ∧ RWp u.1 nA nB ∧ 2 * sv u.1 400 = sv f 400) (poG dC dI A (fun u : (Nat → Int32) × (Int32) × (Int32) => [(h0, .inr (8, [.int th, .int we, .int wm, .int wy, .int ra, .ref tA, .int tn, .ref oA, .int on, .ref rA, .int u.2.1, .int u.2.2, .ref wA, .int wf, .int wl, .int lo, .int ov, .int un, .int aT, .int mi, .int ds, .ref dA, .int a0, .int xp, .ref iA, .int te])), (rA, .inl (cI, 400, .inl u.1))])) A) ([.ref h0] : List Value).toArray s 0 0 A) (F0 m 0 ls []) from h _ _ hP hD hS
  clear hP hD hS hH H
  intro H locs hP hD hS
  have hR6 := hR.2.2.2
  refine lv_iconst (v := 0) hx hb d_Model_half_0 (by decide) ?_
  refine lv_istore_n (lv' := [(1, .int 0), (0, .ref h0)]) hx hb d_Model_half_1 rfl hl (by decide) rfl (fun ls hl => ?_)
  refine lv_aload_n hx hb d_Model_half_2 rfl (lv_at hl 1 rfl) ?_
  refine va_get (D := (dC, dI)) (ci := 8) (v := .int fi) (C := R_Model) (T := F_Model) (N := 26) hx hb hts u_Model hown hK hP 0 rfl rfl 10 (by decide) (hts _ m_573) (fun _ h9 => h9) rfl d_Model_half_3 ?_
  refine lv_istore_n (lv' := [(2, .int fi), (1, .int 0), (0, .ref h0)]) hx hb d_Model_half_6 rfl hl (by decide) rfl (fun ls hl => ?_)
  have hp0 : pv f n1 = 0 := pv_zero (fun j hj => rdg_0 (hR.2.1 j hj))
  exact L_Model_half_7 (h0) (th) (we) (wm) (wy) (ra) (tA) (tn) (oA) (on) (rA) (fi) (la) (wA) (wf) (wl) (lo) (ov) (un) (aT) (mi) (ds) (dA) (a0) (xp) (iA) (te) (f) (n1) (n2) C0 hA (hfi) (hla) (hR) (hn2) _ (0) (fi) (0) (n1) (f) H locs ls (Nat.lt_succ_self _) ((hfi).trans (by omega)) (((show (0 : Int32).toInt = 0 by decide)).trans (by omega)) (by omega) (by omega) (by omega) (by omega) (by intro j hj; rfl) (by intro j hj; exact hR.1 j (by omega)) (by exact hR.2.1) (by intro h; rfl) (va_Psub hP [0, 1] rfl) (hD.sub [0, 1] (by decide) rfl) hS (lv_sub hl [0, 1, 2] rfl)
