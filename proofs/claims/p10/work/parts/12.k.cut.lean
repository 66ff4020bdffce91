set_option maxHeartbeats 4000000 in
set_option maxRecDepth 100000 in
theorem L_Model_keepWhole_78 {p : Program} {l : Launch} {e : Env} {s : State} {m : MethodId} {below : List Frame} {meth : Method} {c : Code} {dC : Nat → ClassId} {dI : Nat → Nat → Nat} {cI cB cJ : ClassId} {A : Nat → Prop} (h0 : Nat) (th : Int32) (we : Int32) (wm : Int32) (wy : Int32) (ra : Int32) (tA : Nat) (tn : Int32) (oA : Nat) (on : Int32) (rA : Nat) (fi : Int32) (la : Int32) (wA : Nat) (wf : Int32) (wl : Int32) (lo : Int32) (ov : Int32) (un : Int32) (aT : Int32) (mi : Int32) (ds : Int32) (dA : Nat) (a0 : Int32) (xp : Int32) (iA : Nat) (te : Int32) (f : Nat → Int32) (n1 : Nat) (n2 : Nat) (fw : Nat → Int32) (C0 : cx dC dI cI cB cJ R_Model b_Model_keepWhole 2 none p s m ([.ref h0] : List Value).toArray meth c) (hA : ∀ q : Nat, s.heap.size ≤ q → A q) (hfi : fi.toInt = (n1 : Int)) (hla : la.toInt = (n2 : Int)) (hR : RWp f n1 n2) (hpos : 0 < sv f 400) : ∀ n : Nat, (∀ (k : Nat → Int32) (wf1 : Int32) (wl1 : Int32) (q1 : Nat) (q2 : Nat) (H : Heap) (locs : List Loc) (ls : Array Slot), q2 < n → (wf1.toInt = (q1 : Int)) → (wl1.toInt = (q2 : Int)) → (∀ j, j < 400 → k j = f j) → (∀ j, j < q1 → (f j).toInt = 0) → (¬ (f q1).toInt = 0) → (q1 ≤ q2) → (q2 ≤ 399) → (∀ j, q2 < j → j < 400 → (f j).toInt = 0) → va_P (dC, dI) vwCl [(h0, .inr (8, [.int th, .int we, .int wm, .int wy, .int ra, .ref tA, .int tn, .ref oA, .int on, .ref rA, .int fi, .int la, .ref wA, .int wf1, .int wl1, .int lo, .int ov, .int un, .int aT, .int mi, .int ds, .ref dA, .int a0, .int xp, .ref iA, .int te])), (rA, .inl (cI, 400, .inl f)), (wA, .inl (cI, 400, .inl k))] H → va_D A [(h0, .inr (8, [.int th, .int we, .int wm, .int wy, .int ra, .ref tA, .int tn, .ref oA, .int on, .ref rA, .int fi, .int la, .ref wA, .int wf1, .int wl1, .int lo, .int ov, .int un, .int aT, .int mi, .int ds, .ref dA, .int a0, .int xp, .ref iA, .int te])), (rA, .inl (cI, 400, .inl f)), (wA, .inl (cI, 400, .inl k))] → va_S A s.heap H locs → lv_has ls 2 [(0, .ref h0)] → W p l e ({ frames := 0, cells := 0, slots := 0, locals := 0 } : Room) s m ([.ref h0] : List Value).toArray below meth c H locs 0 0 (MQ below (va_Qv (fun (u : (Nat → Int32) × (Int32) × (Int32)) => ∃ q1 q2 : Nat, u.2.1.toInt = (q1 : Int) ∧ u.2.2.toInt = (q2 : Int) ∧ WHp u.1 q1 q2 ∧ sv u.1 400 = sv f 400) (poG dC dI A (fun u : (Nat → Int32) × (Int32) × (Int32) => [(h0, .inr (8, [.int th, .int we, .int wm, .int wy, .int ra, .ref tA, .int tn, .ref oA, .int on, .ref rA, .int fi, .int la, .ref wA, .int u.2.1, .int u.2.2, .int lo, .int ov, .int un, .int aT, .int mi, .int ds, .ref dA, .int a0, .int xp, .ref iA, .int te])), (rA, .inl (cI, 400, .inl f)), (wA, .inl (cI, 400, .inl u.1))])) A) ([.ref h0] : List Value).toArray s 0 0 A) (F0 m 78 ls [])) := by
  obtain ⟨hx, hb, hml, hown, hts, hr, hlocks, hK, hN⟩ := id C0
  intro n
  induction n with
  | zero => exact fun _ _ _ _ _ _ _ _ h0 _ _ _ _ _ _ _ _ _ _ _ _ => absurd h0 (Nat.not_lt_zero _)
  | succ n ih =>
    intro k wf1 wl1 q1 q2 H locs ls hn9 t_wf1 t_wl1 hk hz1 hq1 hq12 hq399 hz2 hP hD hS hl
    have hR6 := hR.2.2.2
    refine lv_aload_n hx hb d_Model_keepWhole_78 rfl (lv_at hl 0 rfl) ?_
    refine va_get (D := (dC, dI)) (ci := 8) (v := .int wl1) (C := R_Model) (T := F_Model) (N := 26) hx hb hts u_Model hown hK hP 0 rfl rfl 14 (by decide) (hts _ m_577) (fun _ h9 => h9) rfl d_Model_keepWhole_79 ?_
    refine lv_aload_n hx hb d_Model_keepWhole_82 rfl (lv_at hl 0 rfl) ?_
    refine va_get (D := (dC, dI)) (ci := 8) (v := .int wf1) (C := R_Model) (T := F_Model) (N := 26) hx hb hts u_Model hown hK hP 0 rfl rfl 13 (by decide) (hts _ m_576) (fun _ h9 => h9) rfl d_Model_keepWhole_83 ?_
    refine lv_icmp_le (tgt := 114) hx hb d_Model_keepWhole_86 (by decide) (fun b86 => ?_) (fun b86 => ?_)
    · skip
      rw [q_ile t_wl1 t_wf1] at b86
      exact Cv.ret C0 (u := (k, wf1, wl1)) (Nat.le_of_ble_eq_true rfl) (Nat.le_of_ble_eq_true rfl) (by show ∃ q1 q2 : Nat, wf1.toInt = (q1 : Int) ∧ wl1.toInt = (q2 : Int) ∧ WHp k q1 q2 ∧ sv k 400 = sv f 400; exact ⟨q1, q2, t_wf1, t_wl1, ⟨fun j hj => by rw [hk j hj]; exact hR.1 j hj, fun j hj => by rw [hk j (by omega)]; exact hz1 j hj, by rw [hk q1 (by omega)]; exact hq1, hq12, by omega, by rw [hk q2 (by omega)]; rw [show q2 = q1 by omega]; exact hq1, fun j h1 h2 => by rw [hk j h2]; exact hz2 j h1 h2⟩, sv_congr (Nat.le_refl _) (fun j _ hj => by unfold rdg; rw [hk j hj])⟩) hP hD hS [0, 1, 2] (by decide) rfl d_Model_keepWhole_114
    · skip
      rw [q_ile t_wl1 t_wf1] at b86
      refine lv_aload_n hx hb d_Model_keepWhole_89 rfl (lv_at hl 0 rfl) ?_
      refine va_get (D := (dC, dI)) (ci := 8) (v := .ref wA) (C := R_Model) (T := F_Model) (N := 26) hx hb hts u_Model hown hK hP 0 rfl rfl 12 (by decide) (hts _ m_575) (fun _ h9 => h9) rfl d_Model_keepWhole_90 ?_
      refine lv_aload_n hx hb d_Model_keepWhole_93 rfl (lv_at hl 0 rfl) ?_
      refine va_get (D := (dC, dI)) (ci := 8) (v := .int wl1) (C := R_Model) (T := F_Model) (N := 26) hx hb hts u_Model hown hK hP 0 rfl rfl 14 (by decide) (hts _ m_577) (fun _ h9 => h9) rfl d_Model_keepWhole_94 ?_
      refine va_iald hx hb hK hP 2 0 rfl rfl (q_in t_wl1 (by omega)) d_Model_keepWhole_97 ?_
      refine lv_topi (fun v97 e97 => ?_)
      rw [q_cl (k := q2) (t_wl1)] at e97
      have t97 : v97.toInt = (f q2).toInt := by rw [e97, hk q2 (by omega)]
      refine lv_if_ne (tgt := 114) hx hb d_Model_keepWhole_98 (by decide) (fun b98 => ?_) (fun b98 => ?_)
      · skip
        rw [q_ieq t97 (show (0 : Int32).toInt = 0 by decide)] at b98
        exact Cv.ret C0 (u := (k, wf1, wl1)) (Nat.le_of_ble_eq_true rfl) (Nat.le_of_ble_eq_true rfl) (by show ∃ q1 q2 : Nat, wf1.toInt = (q1 : Int) ∧ wl1.toInt = (q2 : Int) ∧ WHp k q1 q2 ∧ sv k 400 = sv f 400; exact ⟨q1, q2, t_wf1, t_wl1, ⟨fun j hj => by rw [hk j hj]; exact hR.1 j hj, fun j hj => by rw [hk j (by omega)]; exact hz1 j hj, by rw [hk q1 (by omega)]; exact hq1, hq12, by omega, by rw [hk q2 (by omega)]; exact b98, fun j h1 h2 => by rw [hk j h2]; exact hz2 j h1 h2⟩, sv_congr (Nat.le_refl _) (fun j _ hj => by unfold rdg; rw [hk j hj])⟩) hP hD hS [0, 1, 2] (by decide) rfl d_Model_keepWhole_114
      · skip
        rw [q_ieq t97 (show (0 : Int32).toInt = 0 by decide)] at b98
        refine lv_aload_n hx hb d_Model_keepWhole_101 rfl (lv_at hl 0 rfl) ?_
        refine lv_dup hx hb d_Model_keepWhole_102 rfl ?_
        refine va_get (D := (dC, dI)) (ci := 8) (v := .int wl1) (C := R_Model) (T := F_Model) (N := 26) hx hb hts u_Model hown hK hP 0 rfl rfl 14 (by decide) (hts _ m_577) (fun _ h9 => h9) rfl d_Model_keepWhole_103 ?_
        refine lv_iconst (v := 1) hx hb d_Model_keepWhole_106 (by decide) ?_
        refine lv_isub hx hb d_Model_keepWhole_107 ?_
        refine lv_topi (fun v107 e107 => ?_)
        have t107 : v107.toInt = (q2 : Int) - 1 := by rw [e107]; exact q_isub t_wl1 (show (1 : Int32).toInt = 1 by decide) (by omega)
        refine va_put (D := (dC, dI)) (ci := 8) (v := .int v107) (ty := .int) (C := R_Model) (T := F_Model) (N := 26) hx hb hts u_Model t_Model t_Model_ok n_Model hown hK hP hD hS 0 rfl rfl 14 (by decide) (hts _ m_577) (fun _ h9 => h9) rfl (by decide +kernel) rfl rfl (Nat.le_of_ble_eq_true rfl) d_Model_keepWhole_108 (fun H locs hP hD hS => ?_)
        have hP : va_P (dC, dI) vwCl [(h0, .inr (8, [.int th, .int we, .int wm, .int wy, .int ra, .ref tA, .int tn, .ref oA, .int on, .ref rA, .int fi, .int la, .ref wA, .int wf1, .int v107, .int lo, .int ov, .int un, .int aT, .int mi, .int ds, .ref dA, .int a0, .int xp, .ref iA, .int te])), (rA, .inl (cI, 400, .inl f)), (wA, .inl (cI, 400, .inl k))] H := hP
        have hD : va_D A [(h0, .inr (8, [.int th, .int we, .int wm, .int wy, .int ra, .ref tA, .int tn, .ref oA, .int on, .ref rA, .int fi, .int la, .ref wA, .int wf1, .int v107, .int lo, .int ov, .int un, .int aT, .int mi, .int ds, .ref dA, .int a0, .int xp, .ref iA, .int te])), (rA, .inl (cI, 400, .inl f)), (wA, .inl (cI, 400, .inl k))] := hD
        refine lv_goto (tgt := 78) hx hb d_Model_keepWhole_111 (by decide) ?_
        exact ih (k) (wf1) (v107) (q1) (q2 - 1) H locs ls (by omega) (by exact t_wf1) (by exact t107.trans (by omega)) (by exact hk) (by exact hz1) (by exact hq1) (by omega) (by omega) (by intro j h1 h2; rcases Nat.lt_or_ge q2 j with h | h; exact hz2 j h h2; rw [show j = q2 by omega]; exact b98) (va_Psub hP [0, 1, 2] rfl) (hD.sub [0, 1, 2] (by decide) rfl) hS (lv_sub hl [0] rfl)
set_option maxHeartbeats 4000000 in
set_option maxRecDepth 100000 in
theorem L_Model_keepWhole_35 {p : Program} {l : Launch} {e : Env} {s : State} {m : MethodId} {below : List Frame} {meth : Method} {c : Code} {dC : Nat → ClassId} {dI : Nat → Nat → Nat} {cI cB cJ : ClassId} {A : Nat → Prop} (h0 : Nat) (th : Int32) (we : Int32) (wm : Int32) (wy : Int32) (ra : Int32) (tA : Nat) (tn : Int32) (oA : Nat) (on : Int32) (rA : Nat) (fi : Int32) (la : Int32) (wA : Nat) (wf : Int32) (wl : Int32) (lo : Int32) (ov : Int32) (un : Int32) (aT : Int32) (mi : Int32) (ds : Int32) (dA : Nat) (a0 : Int32) (xp : Int32) (iA : Nat) (te : Int32) (f : Nat → Int32) (n1 : Nat) (n2 : Nat) (fw : Nat → Int32) (C0 : cx dC dI cI cB cJ R_Model b_Model_keepWhole 2 none p s m ([.ref h0] : List Value).toArray meth c) (hA : ∀ q : Nat, s.heap.size ≤ q → A q) (hfi : fi.toInt = (n1 : Int)) (hla : la.toInt = (n2 : Int)) (hR : RWp f n1 n2) (hpos : 0 < sv f 400) : ∀ n : Nat, (∀ (k : Nat → Int32) (wf1 : Int32) (q1 : Nat) (H : Heap) (locs : List Loc) (ls : Array Slot), 400 - q1 < n → (wf1.toInt = (q1 : Int)) → (∀ j, j < 400 → k j = f j) → (∀ j, j < q1 → (f j).toInt = 0) → (q1 ≤ 399) → va_P (dC, dI) vwCl [(h0, .inr (8, [.int th, .int we, .int wm, .int wy, .int ra, .ref tA, .int tn, .ref oA, .int on, .ref rA, .int fi, .int la, .ref wA, .int wf1, .int wl, .int lo, .int ov, .int un, .int aT, .int mi, .int ds, .ref dA, .int a0, .int xp, .ref iA, .int te])), (rA, .inl (cI, 400, .inl f)), (wA, .inl (cI, 400, .inl k))] H → va_D A [(h0, .inr (8, [.int th, .int we, .int wm, .int wy, .int ra, .ref tA, .int tn, .ref oA, .int on, .ref rA, .int fi, .int la, .ref wA, .int wf1, .int wl, .int lo, .int ov, .int un, .int aT, .int mi, .int ds, .ref dA, .int a0, .int xp, .ref iA, .int te])), (rA, .inl (cI, 400, .inl f)), (wA, .inl (cI, 400, .inl k))] → va_S A s.heap H locs → lv_has ls 2 [(0, .ref h0)] → W p l e ({ frames := 0, cells := 0, slots := 0, locals := 0 } : Room) s m ([.ref h0] : List Value).toArray below meth c H locs 0 0 (MQ below (va_Qv (fun (u : (Nat → Int32) × (Int32) × (Int32)) => ∃ q1 q2 : Nat, u.2.1.toInt = (q1 : Int) ∧ u.2.2.toInt = (q2 : Int) ∧ WHp u.1 q1 q2 ∧ sv u.1 400 = sv f 400) (poG dC dI A (fun u : (Nat → Int32) × (Int32) × (Int32) => [(h0, .inr (8, [.int th, .int we, .int wm, .int wy, .int ra, .ref tA, .int tn, .ref oA, .int on, .ref rA, .int fi, .int la, .ref wA, .int u.2.1, .int u.2.2, .int lo, .int ov, .int un, .int aT, .int mi, .int ds, .ref dA, .int a0, .int xp, .ref iA, .int te])), (rA, .inl (cI, 400, .inl f)), (wA, .inl (cI, 400, .inl u.1))])) A) ([.ref h0] : List Value).toArray s 0 0 A) (F0 m 35 ls [])) := by
  obtain ⟨hx, hb, hml, hown, hts, hr, hlocks, hK, hN⟩ := id C0
  intro n
  induction n with
  | zero => exact fun _ _ _ _ _ _ h0 _ _ _ _ _ _ _ _ => absurd h0 (Nat.not_lt_zero _)
  | succ n ih =>
    intro k wf1 q1 H locs ls hn9 t_wf1 hk hz1 hq399 hP hD hS hl
    have hR6 := hR.2.2.2
    refine lv_aload_n hx hb d_Model_keepWhole_35 rfl (lv_at hl 0 rfl) ?_
    refine va_get (D := (dC, dI)) (ci := 8) (v := .int wf1) (C := R_Model) (T := F_Model) (N := 26) hx hb hts u_Model hown hK hP 0 rfl rfl 13 (by decide) (hts _ m_576) (fun _ h9 => h9) rfl d_Model_keepWhole_36 ?_
    refine lv_sipush (v := 399) hx hb d_Model_keepWhole_39 (by decide) ?_
    refine lv_icmp_ge (tgt := 70) hx hb d_Model_keepWhole_42 (by decide) (fun b42 => ?_) (fun b42 => ?_)
    · skip
      rw [q_ile (show (399 : Int32).toInt = 399 by decide) t_wf1] at b42
      have hq1 : ¬ (f q1).toInt = 0 := fun h0 => by have h1 := sv_zero (r := f) (m := 400) (Nat.le_refl _) (fun j _ hj => rdg_0 ((Nat.lt_or_ge j q1).elim (fun h => hz1 j h) (fun h => by rw [show j = q1 by omega]; exact h0))); omega
      refine lv_aload_n hx hb d_Model_keepWhole_70 rfl (lv_at hl 0 rfl) ?_
      refine lv_aload_n hx hb d_Model_keepWhole_71 rfl (lv_at hl 0 rfl) ?_
      refine va_get (D := (dC, dI)) (ci := 8) (v := .int la) (C := R_Model) (T := F_Model) (N := 26) hx hb hts u_Model hown hK hP 0 rfl rfl 11 (by decide) (hts _ m_574) (fun _ h9 => h9) rfl d_Model_keepWhole_72 ?_
      refine va_put (D := (dC, dI)) (ci := 8) (v := .int la) (ty := .int) (C := R_Model) (T := F_Model) (N := 26) hx hb hts u_Model t_Model t_Model_ok n_Model hown hK hP hD hS 0 rfl rfl 14 (by decide) (hts _ m_577) (fun _ h9 => h9) rfl (by decide +kernel) rfl rfl (Nat.le_of_ble_eq_true rfl) d_Model_keepWhole_75 (fun H locs hP hD hS => ?_)
      have hP : va_P (dC, dI) vwCl [(h0, .inr (8, [.int th, .int we, .int wm, .int wy, .int ra, .ref tA, .int tn, .ref oA, .int on, .ref rA, .int fi, .int la, .ref wA, .int wf1, .int la, .int lo, .int ov, .int un, .int aT, .int mi, .int ds, .ref dA, .int a0, .int xp, .ref iA, .int te])), (rA, .inl (cI, 400, .inl f)), (wA, .inl (cI, 400, .inl k))] H := hP
      have hD : va_D A [(h0, .inr (8, [.int th, .int we, .int wm, .int wy, .int ra, .ref tA, .int tn, .ref oA, .int on, .ref rA, .int fi, .int la, .ref wA, .int wf1, .int la, .int lo, .int ov, .int un, .int aT, .int mi, .int ds, .ref dA, .int a0, .int xp, .ref iA, .int te])), (rA, .inl (cI, 400, .inl f)), (wA, .inl (cI, 400, .inl k))] := hD
      exact L_Model_keepWhole_78 (h0) (th) (we) (wm) (wy) (ra) (tA) (tn) (oA) (on) (rA) (fi) (la) (wA) (wf) (wl) (lo) (ov) (un) (aT) (mi) (ds) (dA) (a0) (xp) (iA) (te) (f) (n1) (n2) (fw) C0 hA (hfi) (hla) (hR) (hpos) _ (k) (wf1) (la) (q1) (n2) H locs ls (Nat.lt_succ_self _) (by exact t_wf1) (by exact hla) (by exact hk) (by exact hz1) (by exact hq1) (by exact Nat.le_of_not_lt (fun h => hq1 (hR.2.2.1 q1 h (by omega)))) (by omega) (by exact hR.2.2.1) (va_Psub hP [0, 1, 2] rfl) (hD.sub [0, 1, 2] (by decide) rfl) hS (lv_sub hl [0] rfl)
    · skip
      rw [q_ile (show (399 : Int32).toInt = 399 by decide) t_wf1] at b42
      refine lv_aload_n hx hb d_Model_keepWhole_45 rfl (lv_at hl 0 rfl) ?_
      refine va_get (D := (dC, dI)) (ci := 8) (v := .ref wA) (C := R_Model) (T := F_Model) (N := 26) hx hb hts u_Model hown hK hP 0 rfl rfl 12 (by decide) (hts _ m_575) (fun _ h9 => h9) rfl d_Model_keepWhole_46 ?_
      refine lv_aload_n hx hb d_Model_keepWhole_49 rfl (lv_at hl 0 rfl) ?_
      refine va_get (D := (dC, dI)) (ci := 8) (v := .int wf1) (C := R_Model) (T := F_Model) (N := 26) hx hb hts u_Model hown hK hP 0 rfl rfl 13 (by decide) (hts _ m_576) (fun _ h9 => h9) rfl d_Model_keepWhole_50 ?_
      refine va_iald hx hb hK hP 2 0 rfl rfl (q_in t_wf1 (by omega)) d_Model_keepWhole_53 ?_
      refine lv_topi (fun v53 e53 => ?_)
      rw [q_cl (k := q1) (t_wf1)] at e53
      have t53 : v53.toInt = (f q1).toInt := by rw [e53, hk q1 (by omega)]
      refine lv_if_ne (tgt := 70) hx hb d_Model_keepWhole_54 (by decide) (fun b54 => ?_) (fun b54 => ?_)
      · skip
        rw [q_ieq t53 (show (0 : Int32).toInt = 0 by decide)] at b54
        refine lv_aload_n hx hb d_Model_keepWhole_70 rfl (lv_at hl 0 rfl) ?_
        refine lv_aload_n hx hb d_Model_keepWhole_71 rfl (lv_at hl 0 rfl) ?_
        refine va_get (D := (dC, dI)) (ci := 8) (v := .int la) (C := R_Model) (T := F_Model) (N := 26) hx hb hts u_Model hown hK hP 0 rfl rfl 11 (by decide) (hts _ m_574) (fun _ h9 => h9) rfl d_Model_keepWhole_72 ?_
        refine va_put (D := (dC, dI)) (ci := 8) (v := .int la) (ty := .int) (C := R_Model) (T := F_Model) (N := 26) hx hb hts u_Model t_Model t_Model_ok n_Model hown hK hP hD hS 0 rfl rfl 14 (by decide) (hts _ m_577) (fun _ h9 => h9) rfl (by decide +kernel) rfl rfl (Nat.le_of_ble_eq_true rfl) d_Model_keepWhole_75 (fun H locs hP hD hS => ?_)
        have hP : va_P (dC, dI) vwCl [(h0, .inr (8, [.int th, .int we, .int wm, .int wy, .int ra, .ref tA, .int tn, .ref oA, .int on, .ref rA, .int fi, .int la, .ref wA, .int wf1, .int la, .int lo, .int ov, .int un, .int aT, .int mi, .int ds, .ref dA, .int a0, .int xp, .ref iA, .int te])), (rA, .inl (cI, 400, .inl f)), (wA, .inl (cI, 400, .inl k))] H := hP
        have hD : va_D A [(h0, .inr (8, [.int th, .int we, .int wm, .int wy, .int ra, .ref tA, .int tn, .ref oA, .int on, .ref rA, .int fi, .int la, .ref wA, .int wf1, .int la, .int lo, .int ov, .int un, .int aT, .int mi, .int ds, .ref dA, .int a0, .int xp, .ref iA, .int te])), (rA, .inl (cI, 400, .inl f)), (wA, .inl (cI, 400, .inl k))] := hD
        exact L_Model_keepWhole_78 (h0) (th) (we) (wm) (wy) (ra) (tA) (tn) (oA) (on) (rA) (fi) (la) (wA) (wf) (wl) (lo) (ov) (un) (aT) (mi) (ds) (dA) (a0) (xp) (iA) (te) (f) (n1) (n2) (fw) C0 hA (hfi) (hla) (hR) (hpos) _ (k) (wf1) (la) (q1) (n2) H locs ls (Nat.lt_succ_self _) (by exact t_wf1) (by exact hla) (by exact hk) (by exact hz1) (by exact b54) (by exact Nat.le_of_not_lt (fun h => b54 (hR.2.2.1 q1 h (by omega)))) (by omega) (by exact hR.2.2.1) (va_Psub hP [0, 1, 2] rfl) (hD.sub [0, 1, 2] (by decide) rfl) hS (lv_sub hl [0] rfl)
      · skip
        rw [q_ieq t53 (show (0 : Int32).toInt = 0 by decide)] at b54
        refine lv_aload_n hx hb d_Model_keepWhole_57 rfl (lv_at hl 0 rfl) ?_
        refine lv_dup hx hb d_Model_keepWhole_58 rfl ?_
        refine va_get (D := (dC, dI)) (ci := 8) (v := .int wf1) (C := R_Model) (T := F_Model) (N := 26) hx hb hts u_Model hown hK hP 0 rfl rfl 13 (by decide) (hts _ m_576) (fun _ h9 => h9) rfl d_Model_keepWhole_59 ?_
        refine lv_iconst (v := 1) hx hb d_Model_keepWhole_62 (by decide) ?_
        refine lv_iadd hx hb d_Model_keepWhole_63 ?_
        refine lv_topi (fun v63 e63 => ?_)
        have t63 : v63.toInt = (q1 : Int) + 1 := by rw [e63]; exact q_iadd t_wf1 (show (1 : Int32).toInt = 1 by decide) (by omega)
        refine va_put (D := (dC, dI)) (ci := 8) (v := .int v63) (ty := .int) (C := R_Model) (T := F_Model) (N := 26) hx hb hts u_Model t_Model t_Model_ok n_Model hown hK hP hD hS 0 rfl rfl 13 (by decide) (hts _ m_576) (fun _ h9 => h9) rfl (by decide +kernel) rfl rfl (Nat.le_of_ble_eq_true rfl) d_Model_keepWhole_64 (fun H locs hP hD hS => ?_)
        have hP : va_P (dC, dI) vwCl [(h0, .inr (8, [.int th, .int we, .int wm, .int wy, .int ra, .ref tA, .int tn, .ref oA, .int on, .ref rA, .int fi, .int la, .ref wA, .int v63, .int wl, .int lo, .int ov, .int un, .int aT, .int mi, .int ds, .ref dA, .int a0, .int xp, .ref iA, .int te])), (rA, .inl (cI, 400, .inl f)), (wA, .inl (cI, 400, .inl k))] H := hP
        have hD : va_D A [(h0, .inr (8, [.int th, .int we, .int wm, .int wy, .int ra, .ref tA, .int tn, .ref oA, .int on, .ref rA, .int fi, .int la, .ref wA, .int v63, .int wl, .int lo, .int ov, .int un, .int aT, .int mi, .int ds, .ref dA, .int a0, .int xp, .ref iA, .int te])), (rA, .inl (cI, 400, .inl f)), (wA, .inl (cI, 400, .inl k))] := hD
        refine lv_goto (tgt := 35) hx hb d_Model_keepWhole_67 (by decide) ?_
        exact ih (k) (v63) (q1 + 1) H locs ls (by omega) (by exact t63.trans (by omega)) (by exact hk) (by intro j hj; rcases Nat.lt_or_ge j q1 with h | h; exact hz1 j h; rw [show j = q1 by omega]; exact b54) (by omega) (va_Psub hP [0, 1, 2] rfl) (hD.sub [0, 1, 2] (by decide) rfl) hS (lv_sub hl [0] rfl)
set_option maxHeartbeats 4000000 in
set_option maxRecDepth 100000 in
theorem L_Model_keepWhole_2 {p : Program} {l : Launch} {e : Env} {s : State} {m : MethodId} {below : List Frame} {meth : Method} {c : Code} {dC : Nat → ClassId} {dI : Nat → Nat → Nat} {cI cB cJ : ClassId} {A : Nat → Prop} (h0 : Nat) (th : Int32) (we : Int32) (wm : Int32) (wy : Int32) (ra : Int32) (tA : Nat) (tn : Int32) (oA : Nat) (on : Int32) (rA : Nat) (fi : Int32) (la : Int32) (wA : Nat) (wf : Int32) (wl : Int32) (lo : Int32) (ov : Int32) (un : Int32) (aT : Int32) (mi : Int32) (ds : Int32) (dA : Nat) (a0 : Int32) (xp : Int32) (iA : Nat) (te : Int32) (f : Nat → Int32) (n1 : Nat) (n2 : Nat) (fw : Nat → Int32) (C0 : cx dC dI cI cB cJ R_Model b_Model_keepWhole 2 none p s m ([.ref h0] : List Value).toArray meth c) (hA : ∀ q : Nat, s.heap.size ≤ q → A q) (hfi : fi.toInt = (n1 : Int)) (hla : la.toInt = (n2 : Int)) (hR : RWp f n1 n2) (hpos : 0 < sv f 400) : ∀ n : Nat, (∀ (x1 : Int32) (i : Nat) (k : Nat → Int32) (H : Heap) (locs : List Loc) (ls : Array Slot), 400 - i < n → x1.toInt = (i : Int) → (i ≤ 400) → (∀ j, j < i → k j = f j) → va_P (dC, dI) vwCl [(h0, .inr (8, [.int th, .int we, .int wm, .int wy, .int ra, .ref tA, .int tn, .ref oA, .int on, .ref rA, .int fi, .int la, .ref wA, .int wf, .int wl, .int lo, .int ov, .int un, .int aT, .int mi, .int ds, .ref dA, .int a0, .int xp, .ref iA, .int te])), (rA, .inl (cI, 400, .inl f)), (wA, .inl (cI, 400, .inl k))] H → va_D A [(h0, .inr (8, [.int th, .int we, .int wm, .int wy, .int ra, .ref tA, .int tn, .ref oA, .int on, .ref rA, .int fi, .int la, .ref wA, .int wf, .int wl, .int lo, .int ov, .int un, .int aT, .int mi, .int ds, .ref dA, .int a0, .int xp, .ref iA, .int te])), (rA, .inl (cI, 400, .inl f)), (wA, .inl (cI, 400, .inl k))] → va_S A s.heap H locs → lv_has ls 2 [(1, .int x1), (0, .ref h0)] → W p l e ({ frames := 0, cells := 0, slots := 0, locals := 0 } : Room) s m ([.ref h0] : List Value).toArray below meth c H locs 0 0 (MQ below (va_Qv (fun (u : (Nat → Int32) × (Int32) × (Int32)) => ∃ q1 q2 : Nat, u.2.1.toInt = (q1 : Int) ∧ u.2.2.toInt = (q2 : Int) ∧ WHp u.1 q1 q2 ∧ sv u.1 400 = sv f 400) (poG dC dI A (fun u : (Nat → Int32) × (Int32) × (Int32) => [(h0, .inr (8, [.int th, .int we, .int wm, .int wy, .int ra, .ref tA, .int tn, .ref oA, .int on, .ref rA, .int fi, .int la, .ref wA, .int u.2.1, .int u.2.2, .int lo, .int ov, .int un, .int aT, .int mi, .int ds, .ref dA, .int a0, .int xp, .ref iA, .int te])), (rA, .inl (cI, 400, .inl f)), (wA, .inl (cI, 400, .inl u.1))])) A) ([.ref h0] : List Value).toArray s 0 0 A) (F0 m 2 ls [])) := by
  obtain ⟨hx, hb, hml, hown, hts, hr, hlocks, hK, hN⟩ := id C0
  intro n
  induction n with
  | zero => exact fun _ _ _ _ _ _ h0 _ _ _ _ _ _ _ => absurd h0 (Nat.not_lt_zero _)
  | succ n ih =>
    intro x1 i k H locs ls hn9 t_x1 hi hk hP hD hS hl
    have r_x1 := q_r32 x1
    have hR6 := hR.2.2.2
    refine lv_iload_n hx hb d_Model_keepWhole_2 rfl (lv_at hl 0 rfl) ?_
    refine lv_sipush (v := 400) hx hb d_Model_keepWhole_3 (by decide) ?_
    refine lv_icmp_ge (tgt := 27) hx hb d_Model_keepWhole_6 (by decide) (fun b6 => ?_) (fun b6 => ?_)
    · skip
      rw [q_ile (show (400 : Int32).toInt = 400 by decide) t_x1] at b6
      refine lv_aload_n hx hb d_Model_keepWhole_27 rfl (lv_at hl 1 rfl) ?_
      refine lv_aload_n hx hb d_Model_keepWhole_28 rfl (lv_at hl 1 rfl) ?_
      refine va_get (D := (dC, dI)) (ci := 8) (v := .int fi) (C := R_Model) (T := F_Model) (N := 26) hx hb hts u_Model hown hK hP 0 rfl rfl 10 (by decide) (hts _ m_573) (fun _ h9 => h9) rfl d_Model_keepWhole_29 ?_
      refine va_put (D := (dC, dI)) (ci := 8) (v := .int fi) (ty := .int) (C := R_Model) (T := F_Model) (N := 26) hx hb hts u_Model t_Model t_Model_ok n_Model hown hK hP hD hS 0 rfl rfl 13 (by decide) (hts _ m_576) (fun _ h9 => h9) rfl (by decide +kernel) rfl rfl (Nat.le_of_ble_eq_true rfl) d_Model_keepWhole_32 (fun H locs hP hD hS => ?_)
      have hP : va_P (dC, dI) vwCl [(h0, .inr (8, [.int th, .int we, .int wm, .int wy, .int ra, .ref tA, .int tn, .ref oA, .int on, .ref rA, .int fi, .int la, .ref wA, .int fi, .int wl, .int lo, .int ov, .int un, .int aT, .int mi, .int ds, .ref dA, .int a0, .int xp, .ref iA, .int te])), (rA, .inl (cI, 400, .inl f)), (wA, .inl (cI, 400, .inl k))] H := hP
      have hD : va_D A [(h0, .inr (8, [.int th, .int we, .int wm, .int wy, .int ra, .ref tA, .int tn, .ref oA, .int on, .ref rA, .int fi, .int la, .ref wA, .int fi, .int wl, .int lo, .int ov, .int un, .int aT, .int mi, .int ds, .ref dA, .int a0, .int xp, .ref iA, .int te])), (rA, .inl (cI, 400, .inl f)), (wA, .inl (cI, 400, .inl k))] := hD
      exact L_Model_keepWhole_35 (h0) (th) (we) (wm) (wy) (ra) (tA) (tn) (oA) (on) (rA) (fi) (la) (wA) (wf) (wl) (lo) (ov) (un) (aT) (mi) (ds) (dA) (a0) (xp) (iA) (te) (f) (n1) (n2) (fw) C0 hA (hfi) (hla) (hR) (hpos) _ (k) (fi) (n1) H locs ls (Nat.lt_succ_self _) (by exact hfi) (by intro j hj; exact hk j (by omega)) (by exact hR.2.1) (by omega) (va_Psub hP [0, 1, 2] rfl) (hD.sub [0, 1, 2] (by decide) rfl) hS (lv_sub hl [1] rfl)
    · skip
      rw [q_ile (show (400 : Int32).toInt = 400 by decide) t_x1] at b6
      refine lv_aload_n hx hb d_Model_keepWhole_9 rfl (lv_at hl 1 rfl) ?_
      refine va_get (D := (dC, dI)) (ci := 8) (v := .ref wA) (C := R_Model) (T := F_Model) (N := 26) hx hb hts u_Model hown hK hP 0 rfl rfl 12 (by decide) (hts _ m_575) (fun _ h9 => h9) rfl d_Model_keepWhole_10 ?_
      refine lv_iload_n hx hb d_Model_keepWhole_13 rfl (lv_at hl 0 rfl) ?_
      refine lv_aload_n hx hb d_Model_keepWhole_14 rfl (lv_at hl 1 rfl) ?_
      refine va_get (D := (dC, dI)) (ci := 8) (v := .ref rA) (C := R_Model) (T := F_Model) (N := 26) hx hb hts u_Model hown hK hP 0 rfl rfl 9 (by decide) (hts _ m_572) (fun _ h9 => h9) rfl d_Model_keepWhole_15 ?_
      refine lv_iload_n hx hb d_Model_keepWhole_18 rfl (lv_at hl 0 rfl) ?_
      refine va_iald hx hb hK hP 1 0 rfl rfl (q_in t_x1 (by omega)) d_Model_keepWhole_19 ?_
      refine lv_topi (fun v19 e19 => ?_)
      rw [q_cl (k := i) (t_x1)] at e19
      refine va_iast hx hb hK hP hD hS 2 0 rfl rfl (q_in t_x1 (by omega)) d_Model_keepWhole_20 (fun H locs hP hD hS => ?_)
      rw [q_cl (k := i) (t_x1)] at hP hD
      have hP : va_P (dC, dI) vwCl [(h0, .inr (8, [.int th, .int we, .int wm, .int wy, .int ra, .ref tA, .int tn, .ref oA, .int on, .ref rA, .int fi, .int la, .ref wA, .int wf, .int wl, .int lo, .int ov, .int un, .int aT, .int mi, .int ds, .ref dA, .int a0, .int xp, .ref iA, .int te])), (rA, .inl (cI, 400, .inl f)), (wA, .inl (cI, 400, .inl (upd k i v19)))] H := hP
      have hD : va_D A [(h0, .inr (8, [.int th, .int we, .int wm, .int wy, .int ra, .ref tA, .int tn, .ref oA, .int on, .ref rA, .int fi, .int la, .ref wA, .int wf, .int wl, .int lo, .int ov, .int un, .int aT, .int mi, .int ds, .ref dA, .int a0, .int xp, .ref iA, .int te])), (rA, .inl (cI, 400, .inl f)), (wA, .inl (cI, 400, .inl (upd k i v19)))] := hD
      obtain ⟨v21, e21⟩ : ∃ y : Int32, y = x1 + 1 := ⟨_, rfl⟩
      have t21 : v21.toInt = (i : Int) + 1 := by rw [e21]; exact q_iadd t_x1 (show (1 : Int32).toInt = 1 by decide) (by omega)
      refine lv_iinc (v := v21) (lv' := [(1, .int v21), (0, .ref h0)]) hx hb d_Model_keepWhole_21 hl (k := 0) rfl (by rw [e21]; rfl) (by decide) rfl (fun ls hl => ?_)
      refine lv_goto (tgt := 2) hx hb d_Model_keepWhole_24 (by decide) ?_
      exact ih (v21) (i + 1) (upd k i v19) H locs ls (by omega) ((t21).trans (by omega)) (by omega) (by intro j hj; rcases Nat.lt_or_ge j i with h | h; rw [pk_un (by omega)]; exact hk j h; rw [show j = i by omega, pk_us, e19]) (va_Psub hP [0, 1, 2] rfl) (hD.sub [0, 1, 2] (by decide) rfl) hS (lv_sub hl [0, 1] rfl)
set_option maxHeartbeats 4000000 in
set_option maxRecDepth 100000 in
theorem c_Model_keepWhole (l : Launch) (dC : Nat → ClassId) (dI : Nat → Nat → Nat) (cI cB cJ : ClassId) (h0 : Nat) (th : Int32) (we : Int32) (wm : Int32) (wy : Int32) (ra : Int32) (tA : Nat) (tn : Int32) (oA : Nat) (on : Int32) (rA : Nat) (fi : Int32) (la : Int32) (wA : Nat) (wf : Int32) (wl : Int32) (lo : Int32) (ov : Int32) (un : Int32) (aT : Int32) (mi : Int32) (ds : Int32) (dA : Nat) (a0 : Int32) (xp : Int32) (iA : Nat) (te : Int32) (f : Nat → Int32) (n1 : Nat) (n2 : Nat) (fw : Nat → Int32) (hfi : fi.toInt = (n1 : Int)) (hla : la.toInt = (n2 : Int)) (hR : RWp f n1 n2) (hpos : 0 < sv f 400) : Cv l dC dI cI cB cJ y_Model_keepWhole w_Model_keepWhole ({ frames := 0, cells := 0, slots := 0, locals := 0 } : Room) [.ref h0] [(h0, .inr (8, [.int th, .int we, .int wm, .int wy, .int ra, .ref tA, .int tn, .ref oA, .int on, .ref rA, .int fi, .int la, .ref wA, .int wf, .int wl, .int lo, .int ov, .int un, .int aT, .int mi, .int ds, .ref dA, .int a0, .int xp, .ref iA, .int te])), (rA, .inl (cI, 400, .inl f)), (wA, .inl (cI, 400, .inl fw))] (fun (u : (Nat → Int32) × (Int32) × (Int32)) => ∃ q1 q2 : Nat, u.2.1.toInt = (q1 : Int) ∧ u.2.2.toInt = (q2 : Int) ∧ WHp u.1 q1 q2 ∧ sv u.1 400 = sv f 400) (fun u : (Nat → Int32) × (Int32) × (Int32) => [(h0, .inr (8, [.int th, .int we, .int wm, .int wy, .int ra, .ref tA, .int tn, .ref oA, .int on, .ref rA, .int fi, .int la, .ref wA, .int u.2.1, .int u.2.2, .int lo, .int ov, .int un, .int aT, .int mi, .int ds, .ref dA, .int a0, .int xp, .ref iA, .int te])), (rA, .inl (cI, 400, .inl f)), (wA, .inl (cI, 400, .inl u.1))]) := by
  refine Cv.intro (cc := b_Model_keepWhole) (maxL := 2) (plainFor_of_name (by decide)) rfl (Nat.le_of_ble_eq_true rfl) ?_
  intro p e s m below meth c A ls C0 hin hA hP hD hS hl
  obtain ⟨hx, hb, hml, hown, hts, hr, hlocks, hK, hN⟩ := id C0
  obtain ⟨H, hH⟩ : ∃ H, H = s.heap := ⟨_, rfl⟩
  have hP : va_P (dC, dI) vwCl [(h0, .inr (8, [.int th, .int we, .int wm, .int wy, .int ra, .ref tA, .int tn, .ref oA, .int on, .ref rA, .int fi, .int la, .ref wA, .int wf, .int wl, .int lo, .int ov, .int un, .int aT, .int mi, .int ds, .ref dA, .int a0, .int xp, .ref iA, .int te])), (rA, .inl (cI, 400, .inl f)), (wA, .inl (cI, 400, .inl fw))] s.heap := hP
  have hl : lv_has ls 2 [(0, .ref h0)] := hl
  suffices h : ∀ (H : Heap) (locs : List Loc), va_P (dC, dI) vwCl [(h0, .inr (8, [.int th, .int we, .int wm, .int wy, .int ra, .ref tA, .int tn, .ref oA, .int on, .ref rA, .int fi, .int la, .ref wA, .int wf, .int wl, .int lo, .int ov, .int un, .int aT, .int mi, .int ds, .ref dA, .int a0, .int xp, .ref iA, .int te])), (rA, .inl (cI, 400, .inl f)), (wA, .inl (cI, 400, .inl fw))] H → va_D A [(h0, .inr (8, [.int th, .int we, .int wm, .int wy, .int ra, .ref tA, .int tn, .ref oA, .int on, .ref rA, .int fi, .int la, .ref wA, .int wf, .int wl, .int lo, .int ov, .int un, .int aT, .int mi, .int ds, .ref dA, .int a0, .int xp, .ref iA, .int te])), (rA, .inl (cI, 400, .inl f)), (wA, .inl (cI, 400, .inl fw))] → va_S A s.heap H locs → W p l e ({ frames := 0, cells := 0, slots := 0, locals := 0 } : Room) s m ([.ref h0] : List Value).toArray below meth c H locs 0 0 (MQ below (va_Qv (fun (u : (Nat → Int32) × (Int32) × (Int32)) => ∃ q1 q2 : Nat, u.2.1.toInt = (q1 : Int) ∧ u.2.2.toInt = (q2 : Int) ∧ WHp u.1 q1 q2 ∧ sv u.1 400 = sv f 400) (poG dC dI A (fun u : (Nat → Int32) × (Int32) × (Int32) => [(h0, .inr (8, [.int th, .int we, .int wm, .int wy, .int ra, .ref tA, .int tn, .ref oA, .int on, .ref rA, .int fi, .int la, .ref wA, .int u.2.1, .int u.2.2, .int lo, .int ov, .int un, .int aT, .int mi, .int ds, .ref dA, .int a0, .int xp, .ref iA, .int te])), (rA, .inl (cI, 400, .inl f)), (wA, .inl (cI, 400, .inl u.1))])) A) ([.ref h0] : List Value).toArray s 0 0 A) (F0 m 0 ls []) from h _ _ hP hD hS
  clear hP hD hS hH H
  intro H locs hP hD hS
  have hR6 := hR.2.2.2
  refine lv_iconst (v := 0) hx hb d_Model_keepWhole_0 (by decide) ?_
  refine lv_istore_n (lv' := [(1, .int 0), (0, .ref h0)]) hx hb d_Model_keepWhole_1 rfl hl (by decide) rfl (fun ls hl => ?_)
  exact L_Model_keepWhole_2 (h0) (th) (we) (wm) (wy) (ra) (tA) (tn) (oA) (on) (rA) (fi) (la) (wA) (wf) (wl) (lo) (ov) (un) (aT) (mi) (ds) (dA) (a0) (xp) (iA) (te) (f) (n1) (n2) (fw) C0 hA (hfi) (hla) (hR) (hpos) _ (0) (0) (fw) H locs ls (Nat.lt_succ_self _) (((show (0 : Int32).toInt = 0 by decide)).trans (by omega)) (by omega) (by intro j hj; omega) (va_Psub hP [0, 1, 2] rfl) (hD.sub [0, 1, 2] (by decide) rfl) hS (lv_sub hl [0, 1] rfl)
set_option maxHeartbeats 4000000 in
set_option maxRecDepth 100000 in
theorem L_Model_cut_50 {p : Program} {l : Launch} {e : Env} {s : State} {m : MethodId} {below : List Frame} {meth : Method} {c : Code} {dC : Nat → ClassId} {dI : Nat → Nat → Nat} {cI cB cJ : ClassId} {A : Nat → Prop} (h0 : Nat) (th : Int32) (we : Int32) (wm : Int32) (wy : Int32) (ra : Int32) (tA : Nat) (tn : Int32) (oA : Nat) (on : Int32) (rA : Nat) (fi : Int32) (la : Int32) (wA : Nat) (wf : Int32) (wl : Int32) (lo : Int32) (ov : Int32) (un : Int32) (aT : Int32) (mi : Int32) (ds : Int32) (dA : Nat) (a0 : Int32) (xp : Int32) (iA : Nat) (te : Int32) (fw : Nat → Int32) (ft : Nat → Int32) (x : Int32) (y : Int32) (nn : Nat) (q1 : Nat) (q2 : Nat) (C0 : cx dC dI cI cB cJ R_Model b_Model_cut 4 none p s m ([.ref h0, .int x, .int y] : List Value).toArray meth c) (hA : ∀ q : Nat, s.heap.size ≤ q → A q) (hwf : wf.toInt = (q1 : Int)) (hnn : x.toInt = (nn : Int)) (hn1 : 1 ≤ nn) (hn99 : nn ≤ 99) (hqn : q1 + nn ≤ 400) (hW : WHp fw q1 q2) : ∀ n : Nat, (∀ (x3 : Int32) (j9 : Nat) (k : Nat → Int32) (te1 : Int32) (H : Heap) (locs : List Loc) (ls : Array Slot), j9 < n → x3.toInt = (j9 : Int) - 1 → (te1.toInt = 60 - (q1 : Int)) → (j9 ≤ nn) → (∀ j, j < j9 → k j = fw (q1 + j)) → (∀ j, j9 ≤ j → j < nn → (k j).toInt = 0 ∧ (fw (q1 + j)).toInt = 9) → (¬ y = 0) → va_P (dC, dI) vwCl [(h0, .inr (8, [.int th, .int we, .int wm, .int wy, .int ra, .ref tA, .int tn, .ref oA, .int on, .ref rA, .int fi, .int la, .ref wA, .int wf, .int wl, .int lo, .int ov, .int un, .int aT, .int mi, .int ds, .ref dA, .int a0, .int xp, .ref iA, .int te1])), (wA, .inl (cI, 400, .inl fw)), (iA, .inl (cI, 200, .inl k))] H → va_D A [(h0, .inr (8, [.int th, .int we, .int wm, .int wy, .int ra, .ref tA, .int tn, .ref oA, .int on, .ref rA, .int fi, .int la, .ref wA, .int wf, .int wl, .int lo, .int ov, .int un, .int aT, .int mi, .int ds, .ref dA, .int a0, .int xp, .ref iA, .int te1])), (wA, .inl (cI, 400, .inl fw)), (iA, .inl (cI, 200, .inl k))] → va_S A s.heap H locs → lv_has ls 4 [(3, .int x3), (0, .ref h0)] → W p l e ({ frames := 0, cells := 0, slots := 0, locals := 0 } : Room) s m ([.ref h0, .int x, .int y] : List Value).toArray below meth c H locs 0 0 (MQ below (va_Qv (fun (u : (Nat → Int32) × (Int32)) => CUTp fw u.1 q1 nn y u.2.toInt) (poG dC dI A (fun u : (Nat → Int32) × (Int32) => [(h0, .inr (8, [.int th, .int we, .int wm, .int wy, .int ra, .ref tA, .int tn, .ref oA, .int on, .ref rA, .int fi, .int la, .ref wA, .int wf, .int wl, .int lo, .int ov, .int un, .int aT, .int mi, .int ds, .ref dA, .int a0, .int xp, .ref iA, .int u.2])), (wA, .inl (cI, 400, .inl fw)), (iA, .inl (cI, 200, .inl u.1))])) A) ([.ref h0, .int x, .int y] : List Value).toArray s 0 0 A) (F0 m 50 ls [])) := by
  obtain ⟨hx, hb, hml, hown, hts, hr, hlocks, hK, hN⟩ := id C0
  intro n
  induction n with
  | zero => exact fun _ _ _ _ _ _ _ h0 _ _ _ _ _ _ _ _ _ _ => absurd h0 (Nat.not_lt_zero _)
  | succ n ih =>
    intro x3 j9 k te1 H locs ls hn9 t_x3 t_te1 hj9 hk hk2 hy hP hD hS hl
    have r_x3 := q_r32 x3
    refine lv_iload_n hx hb d_Model_cut_50 rfl (lv_at hl 0 rfl) ?_
    refine lv_if_lt (tgt := 78) hx hb d_Model_cut_51 (by decide) (fun b51 => ?_) (fun b51 => ?_)
    · skip
      rw [q_ilt t_x3 (show (0 : Int32).toInt = 0 by decide)] at b51
      refine lv_iload_n hx hb d_Model_cut_78 rfl (lv_at hl 0 rfl) ?_
      refine lv_if_lt (tgt := 95) hx hb d_Model_cut_79 (by decide) (fun b79 => ?_) (fun b79 => ?_)
      · skip
        rw [q_ilt t_x3 (show (0 : Int32).toInt = 0 by decide)] at b79
        refine lv_aload_n hx hb d_Model_cut_95 rfl (lv_at hl 1 rfl) ?_
        refine va_get (D := (dC, dI)) (ci := 8) (v := .ref iA) (C := R_Model) (T := F_Model) (N := 26) hx hb hts u_Model hown hK hP 0 rfl rfl 24 (by decide) (hts _ m_587) (fun _ h9 => h9) rfl d_Model_cut_96 ?_
        refine lv_iconst (v := 0) hx hb d_Model_cut_99 (by decide) ?_
        refine lv_iconst (v := 1) hx hb d_Model_cut_100 (by decide) ?_
        refine va_iast hx hb hK hP hD hS 2 0 rfl rfl (q_in (show (0 : Int32).toInt = 0 by decide) (by omega)) d_Model_cut_101 (fun H locs hP hD hS => ?_)
        rw [q_cl (k := 0) ((show (0 : Int32).toInt = 0 by decide))] at hP hD
        have hP : va_P (dC, dI) vwCl [(h0, .inr (8, [.int th, .int we, .int wm, .int wy, .int ra, .ref tA, .int tn, .ref oA, .int on, .ref rA, .int fi, .int la, .ref wA, .int wf, .int wl, .int lo, .int ov, .int un, .int aT, .int mi, .int ds, .ref dA, .int a0, .int xp, .ref iA, .int te1])), (wA, .inl (cI, 400, .inl fw)), (iA, .inl (cI, 200, .inl (upd k 0 1)))] H := hP
        have hD : va_D A [(h0, .inr (8, [.int th, .int we, .int wm, .int wy, .int ra, .ref tA, .int tn, .ref oA, .int on, .ref rA, .int fi, .int la, .ref wA, .int wf, .int wl, .int lo, .int ov, .int un, .int aT, .int mi, .int ds, .ref dA, .int a0, .int xp, .ref iA, .int te1])), (wA, .inl (cI, 400, .inl fw)), (iA, .inl (cI, 200, .inl (upd k 0 1)))] := hD
        refine lv_aload_n hx hb d_Model_cut_102 rfl (lv_at hl 1 rfl) ?_
        refine lv_dup hx hb d_Model_cut_103 rfl ?_
        refine va_get (D := (dC, dI)) (ci := 8) (v := .int te1) (C := R_Model) (T := F_Model) (N := 26) hx hb hts u_Model hown hK hP 0 rfl rfl 25 (by decide) (hts _ m_588) (fun _ h9 => h9) rfl d_Model_cut_104 ?_
        refine lv_iconst (v := 1) hx hb d_Model_cut_107 (by decide) ?_
        refine lv_iadd hx hb d_Model_cut_108 ?_
        refine lv_topi (fun v108 e108 => ?_)
        have t108 : v108.toInt = (60 - (q1 : Int)) + 1 := by rw [e108]; exact q_iadd t_te1 (show (1 : Int32).toInt = 1 by decide) (by omega)
        refine va_put (D := (dC, dI)) (ci := 8) (v := .int v108) (ty := .int) (C := R_Model) (T := F_Model) (N := 26) hx hb hts u_Model t_Model t_Model_ok n_Model hown hK hP hD hS 0 rfl rfl 25 (by decide) (hts _ m_588) (fun _ h9 => h9) rfl (by decide +kernel) rfl rfl (Nat.le_of_ble_eq_true rfl) d_Model_cut_109 (fun H locs hP hD hS => ?_)
        have hP : va_P (dC, dI) vwCl [(h0, .inr (8, [.int th, .int we, .int wm, .int wy, .int ra, .ref tA, .int tn, .ref oA, .int on, .ref rA, .int fi, .int la, .ref wA, .int wf, .int wl, .int lo, .int ov, .int un, .int aT, .int mi, .int ds, .ref dA, .int a0, .int xp, .ref iA, .int v108])), (wA, .inl (cI, 400, .inl fw)), (iA, .inl (cI, 200, .inl (upd k 0 1)))] H := hP
        have hD : va_D A [(h0, .inr (8, [.int th, .int we, .int wm, .int wy, .int ra, .ref tA, .int tn, .ref oA, .int on, .ref rA, .int fi, .int la, .ref wA, .int wf, .int wl, .int lo, .int ov, .int un, .int aT, .int mi, .int ds, .ref dA, .int a0, .int xp, .ref iA, .int v108])), (wA, .inl (cI, 400, .inl fw)), (iA, .inl (cI, 200, .inl (upd k 0 1)))] := hD
        exact Cv.ret C0 (u := (upd k 0 1, v108)) (Nat.le_of_ble_eq_true rfl) (Nat.le_of_ble_eq_true rfl) (by show CUTp fw (upd k 0 1) q1 nn y v108.toInt; exact CUT_9 hW hn1 hqn hy (fun j hj => hk2 j (by omega) hj) (t108.trans (by omega))) hP hD hS [0, 1, 2] (by decide) rfl d_Model_cut_112
      · skip
        rw [q_ilt t_x3 (show (0 : Int32).toInt = 0 by decide)] at b79
        exact absurd b79 (by omega)
    · skip
      rw [q_ilt t_x3 (show (0 : Int32).toInt = 0 by decide)] at b51
      have hw9 := hW.1 (q1 + (j9 - 1)) (by omega)
      refine lv_aload_n hx hb d_Model_cut_54 rfl (lv_at hl 1 rfl) ?_
      refine va_get (D := (dC, dI)) (ci := 8) (v := .ref iA) (C := R_Model) (T := F_Model) (N := 26) hx hb hts u_Model hown hK hP 0 rfl rfl 24 (by decide) (hts _ m_587) (fun _ h9 => h9) rfl d_Model_cut_55 ?_
      refine lv_iload_n hx hb d_Model_cut_58 rfl (lv_at hl 0 rfl) ?_
      refine va_iald hx hb hK hP 2 0 rfl rfl (q_in t_x3 (by omega)) d_Model_cut_59 ?_
      refine lv_topi (fun v59 e59 => ?_)
      rw [q_cl (k := j9 - 1) (t_x3.trans (by omega))] at e59
      have t59 : v59.toInt = (fw (q1 + (j9 - 1))).toInt := by rw [e59, hk _ (by omega)]
      refine lv_bipush (v := 9) hx hb d_Model_cut_60 (by decide) ?_
      refine lv_icmp_ne (tgt := 78) hx hb d_Model_cut_62 (by decide) (fun b62 => ?_) (fun b62 => ?_)
      · skip
        rw [q_ieq t59 (show (9 : Int32).toInt = 9 by decide)] at b62
        refine lv_iload_n hx hb d_Model_cut_78 rfl (lv_at hl 0 rfl) ?_
        refine lv_if_lt (tgt := 95) hx hb d_Model_cut_79 (by decide) (fun b79 => ?_) (fun b79 => ?_)
        · skip
          rw [q_ilt t_x3 (show (0 : Int32).toInt = 0 by decide)] at b79
          exact absurd b79 (by omega)
        · skip
          rw [q_ilt t_x3 (show (0 : Int32).toInt = 0 by decide)] at b79
          refine lv_aload_n hx hb d_Model_cut_82 rfl (lv_at hl 1 rfl) ?_
          refine va_get (D := (dC, dI)) (ci := 8) (v := .ref iA) (C := R_Model) (T := F_Model) (N := 26) hx hb hts u_Model hown hK hP 0 rfl rfl 24 (by decide) (hts _ m_587) (fun _ h9 => h9) rfl d_Model_cut_83 ?_
          refine lv_iload_n hx hb d_Model_cut_86 rfl (lv_at hl 0 rfl) ?_
          refine lv_dup2_11 hx hb d_Model_cut_87 rfl rfl ?_
          refine va_iald hx hb hK hP 2 0 rfl rfl (q_in t_x3 (by omega)) d_Model_cut_88 ?_
          refine lv_topi (fun v88 e88 => ?_)
          rw [q_cl (k := j9 - 1) (t_x3.trans (by omega))] at e88
          have t88 : v88.toInt = (fw (q1 + (j9 - 1))).toInt := by rw [e88, hk _ (by omega)]
          refine lv_iconst (v := 1) hx hb d_Model_cut_89 (by decide) ?_
          refine lv_iadd hx hb d_Model_cut_90 ?_
          refine lv_topi (fun v90 e90 => ?_)
          have t90 : v90.toInt = ((fw (q1 + (j9 - 1))).toInt) + 1 := by rw [e90]; exact q_iadd t88 (show (1 : Int32).toInt = 1 by decide) (by omega)
          refine va_iast hx hb hK hP hD hS 2 0 rfl rfl (q_in t_x3 (by omega)) d_Model_cut_91 (fun H locs hP hD hS => ?_)
          rw [q_cl (k := j9 - 1) (t_x3.trans (by omega))] at hP hD
          have hP : va_P (dC, dI) vwCl [(h0, .inr (8, [.int th, .int we, .int wm, .int wy, .int ra, .ref tA, .int tn, .ref oA, .int on, .ref rA, .int fi, .int la, .ref wA, .int wf, .int wl, .int lo, .int ov, .int un, .int aT, .int mi, .int ds, .ref dA, .int a0, .int xp, .ref iA, .int te1])), (wA, .inl (cI, 400, .inl fw)), (iA, .inl (cI, 200, .inl (upd k (j9 - 1) v90)))] H := hP
          have hD : va_D A [(h0, .inr (8, [.int th, .int we, .int wm, .int wy, .int ra, .ref tA, .int tn, .ref oA, .int on, .ref rA, .int fi, .int la, .ref wA, .int wf, .int wl, .int lo, .int ov, .int un, .int aT, .int mi, .int ds, .ref dA, .int a0, .int xp, .ref iA, .int te1])), (wA, .inl (cI, 400, .inl fw)), (iA, .inl (cI, 200, .inl (upd k (j9 - 1) v90)))] := hD
          refine lv_goto (tgt := 112) hx hb d_Model_cut_92 (by decide) ?_
          exact Cv.ret C0 (u := (upd k (j9 - 1) v90, te1)) (Nat.le_of_ble_eq_true rfl) (Nat.le_of_ble_eq_true rfl) (by show CUTp fw (upd k (j9 - 1) v90) q1 nn y te1.toInt; exact CUT_1 hW hqn hy (by omega) hj9 hk hk2 b62 t90 t_te1) hP hD hS [0, 1, 2] (by decide) rfl d_Model_cut_112
      · skip
        rw [q_ieq t59 (show (9 : Int32).toInt = 9 by decide)] at b62
        refine lv_aload_n hx hb d_Model_cut_65 rfl (lv_at hl 1 rfl) ?_
        refine va_get (D := (dC, dI)) (ci := 8) (v := .ref iA) (C := R_Model) (T := F_Model) (N := 26) hx hb hts u_Model hown hK hP 0 rfl rfl 24 (by decide) (hts _ m_587) (fun _ h9 => h9) rfl d_Model_cut_66 ?_
        refine lv_iload_n hx hb d_Model_cut_69 rfl (lv_at hl 0 rfl) ?_
        refine lv_iconst (v := 0) hx hb d_Model_cut_70 (by decide) ?_
        refine va_iast hx hb hK hP hD hS 2 0 rfl rfl (q_in t_x3 (by omega)) d_Model_cut_71 (fun H locs hP hD hS => ?_)
        rw [q_cl (k := j9 - 1) (t_x3.trans (by omega))] at hP hD
        have hP : va_P (dC, dI) vwCl [(h0, .inr (8, [.int th, .int we, .int wm, .int wy, .int ra, .ref tA, .int tn, .ref oA, .int on, .ref rA, .int fi, .int la, .ref wA, .int wf, .int wl, .int lo, .int ov, .int un, .int aT, .int mi, .int ds, .ref dA, .int a0, .int xp, .ref iA, .int te1])), (wA, .inl (cI, 400, .inl fw)), (iA, .inl (cI, 200, .inl (upd k (j9 - 1) 0)))] H := hP
        have hD : va_D A [(h0, .inr (8, [.int th, .int we, .int wm, .int wy, .int ra, .ref tA, .int tn, .ref oA, .int on, .ref rA, .int fi, .int la, .ref wA, .int wf, .int wl, .int lo, .int ov, .int un, .int aT, .int mi, .int ds, .ref dA, .int a0, .int xp, .ref iA, .int te1])), (wA, .inl (cI, 400, .inl fw)), (iA, .inl (cI, 200, .inl (upd k (j9 - 1) 0)))] := hD
        obtain ⟨v72, e72⟩ : ∃ y : Int32, y = x3 + (-1) := ⟨_, rfl⟩
        have t72 : v72.toInt = (j9 : Int) - 1 + (-1) := by rw [e72]; exact q_iadd t_x3 (show ((-1) : Int32).toInt = (-1) by decide) (by omega)
        refine lv_iinc (v := v72) (lv' := [(3, .int v72), (0, .ref h0)]) hx hb d_Model_cut_72 hl (k := 0) rfl (by rw [e72]; rfl) (by decide) rfl (fun ls hl => ?_)
        refine lv_goto (tgt := 50) hx hb d_Model_cut_75 (by decide) ?_
        exact ih (v72) (j9 - 1) (upd k (j9 - 1) 0) (te1) H locs ls (by omega) ((t72).trans (by omega)) (by exact t_te1) (by omega) (by intro j hj; rw [pk_un (by omega)]; exact hk j (by omega)) (by intro j h1 h2; rcases Nat.lt_or_ge j j9 with h | h; rw [show j = j9 - 1 by omega, pk_us]; exact ⟨rfl, b62⟩; rw [pk_un (by omega)]; exact hk2 j h h2) (by exact hy) (va_Psub hP [0, 1, 2] rfl) (hD.sub [0, 1, 2] (by decide) rfl) hS (lv_sub hl [0, 1] rfl)
set_option maxHeartbeats 4000000 in
set_option maxRecDepth 100000 in
theorem L_Model_cut_13 {p : Program} {l : Launch} {e : Env} {s : State} {m : MethodId} {below : List Frame} {meth : Method} {c : Code} {dC : Nat → ClassId} {dI : Nat → Nat → Nat} {cI cB cJ : ClassId} {A : Nat → Prop} (h0 : Nat) (th : Int32) (we : Int32) (wm : Int32) (wy : Int32) (ra : Int32) (tA : Nat) (tn : Int32) (oA : Nat) (on : Int32) (rA : Nat) (fi : Int32) (la : Int32) (wA : Nat) (wf : Int32) (wl : Int32) (lo : Int32) (ov : Int32) (un : Int32) (aT : Int32) (mi : Int32) (ds : Int32) (dA : Nat) (a0 : Int32) (xp : Int32) (iA : Nat) (te : Int32) (fw : Nat → Int32) (ft : Nat → Int32) (x : Int32) (y : Int32) (nn : Nat) (q1 : Nat) (q2 : Nat) (C0 : cx dC dI cI cB cJ R_Model b_Model_cut 4 none p s m ([.ref h0, .int x, .int y] : List Value).toArray meth c) (hA : ∀ q : Nat, s.heap.size ≤ q → A q) (hwf : wf.toInt = (q1 : Int)) (hnn : x.toInt = (nn : Int)) (hn1 : 1 ≤ nn) (hn99 : nn ≤ 99) (hqn : q1 + nn ≤ 400) (hW : WHp fw q1 q2) : ∀ n : Nat, (∀ (x3 : Int32) (i : Nat) (k : Nat → Int32) (te1 : Int32) (H : Heap) (locs : List Loc) (ls : Array Slot), nn - i < n → x3.toInt = (i : Int) → x.toInt = (nn : Int) → (te1.toInt = 60 - (q1 : Int)) → (i ≤ nn) → (∀ j, j < i → k j = fw (q1 + j)) → va_P (dC, dI) vwCl [(h0, .inr (8, [.int th, .int we, .int wm, .int wy, .int ra, .ref tA, .int tn, .ref oA, .int on, .ref rA, .int fi, .int la, .ref wA, .int wf, .int wl, .int lo, .int ov, .int un, .int aT, .int mi, .int ds, .ref dA, .int a0, .int xp, .ref iA, .int te1])), (wA, .inl (cI, 400, .inl fw)), (iA, .inl (cI, 200, .inl k))] H → va_D A [(h0, .inr (8, [.int th, .int we, .int wm, .int wy, .int ra, .ref tA, .int tn, .ref oA, .int on, .ref rA, .int fi, .int la, .ref wA, .int wf, .int wl, .int lo, .int ov, .int un, .int aT, .int mi, .int ds, .ref dA, .int a0, .int xp, .ref iA, .int te1])), (wA, .inl (cI, 400, .inl fw)), (iA, .inl (cI, 200, .inl k))] → va_S A s.heap H locs → lv_has ls 4 [(3, .int x3), (2, .int y), (1, .int x), (0, .ref h0)] → W p l e ({ frames := 0, cells := 0, slots := 0, locals := 0 } : Room) s m ([.ref h0, .int x, .int y] : List Value).toArray below meth c H locs 0 0 (MQ below (va_Qv (fun (u : (Nat → Int32) × (Int32)) => CUTp fw u.1 q1 nn y u.2.toInt) (poG dC dI A (fun u : (Nat → Int32) × (Int32) => [(h0, .inr (8, [.int th, .int we, .int wm, .int wy, .int ra, .ref tA, .int tn, .ref oA, .int on, .ref rA, .int fi, .int la, .ref wA, .int wf, .int wl, .int lo, .int ov, .int un, .int aT, .int mi, .int ds, .ref dA, .int a0, .int xp, .ref iA, .int u.2])), (wA, .inl (cI, 400, .inl fw)), (iA, .inl (cI, 200, .inl u.1))])) A) ([.ref h0, .int x, .int y] : List Value).toArray s 0 0 A) (F0 m 13 ls [])) := by
  obtain ⟨hx, hb, hml, hown, hts, hr, hlocks, hK, hN⟩ := id C0
  intro n
  induction n with
  | zero => exact fun _ _ _ _ _ _ _ h0 _ _ _ _ _ _ _ _ _ => absurd h0 (Nat.not_lt_zero _)
  | succ n ih =>
    intro x3 i k te1 H locs ls hn9 t_x3 t_x t_te1 hi hk hP hD hS hl
    have r_x3 := q_r32 x3
    have r_x := q_r32 x
    refine lv_iload_n hx hb d_Model_cut_13 rfl (lv_at hl 0 rfl) ?_
    refine lv_iload_n hx hb d_Model_cut_14 rfl (lv_at hl 2 rfl) ?_
    refine lv_icmp_ge (tgt := 41) hx hb d_Model_cut_15 (by decide) (fun b15 => ?_) (fun b15 => ?_)
    · skip
      rw [q_ile t_x t_x3] at b15
      refine lv_iload_n hx hb d_Model_cut_41 rfl (lv_at hl 1 rfl) ?_
      refine lv_if_ne (tgt := 46) hx hb d_Model_cut_42 (by decide) (fun b42 => ?_) (fun b42 => ?_)
      · skip
        refine lv_iload_n hx hb d_Model_cut_46 rfl (lv_at hl 2 rfl) ?_
        refine lv_iconst (v := 1) hx hb d_Model_cut_47 (by decide) ?_
        refine lv_isub hx hb d_Model_cut_48 ?_
        refine lv_topi (fun v48 e48 => ?_)
        have t48 : v48.toInt = (nn : Int) - 1 := by rw [e48]; exact q_isub t_x (show (1 : Int32).toInt = 1 by decide) (by omega)
        refine lv_istore_n (lv' := [(3, .int v48), (2, .int y), (1, .int x), (0, .ref h0)]) hx hb d_Model_cut_49 rfl hl (by decide) rfl (fun ls hl => ?_)
        exact L_Model_cut_50 (h0) (th) (we) (wm) (wy) (ra) (tA) (tn) (oA) (on) (rA) (fi) (la) (wA) (wf) (wl) (lo) (ov) (un) (aT) (mi) (ds) (dA) (a0) (xp) (iA) (te) (fw) (ft) (x) (y) (nn) (q1) (q2) C0 hA (hwf) (hnn) (hn1) (hn99) (hqn) (hW) _ (v48) (nn) (k) (te1) H locs ls (Nat.lt_succ_self _) ((t48).trans (by omega)) (by exact t_te1) (by omega) (by intro j hj; exact hk j (by omega)) (by intro j h1 h2; omega) (by exact b42) (va_Psub hP [0, 1, 2] rfl) (hD.sub [0, 1, 2] (by decide) rfl) hS (lv_sub hl [0, 3] rfl)
      · skip
        exact Cv.ret C0 (u := (k, te1)) (Nat.le_of_ble_eq_true rfl) (Nat.le_of_ble_eq_true rfl) (by show CUTp fw k q1 nn y te1.toInt; rw [b42]; exact CUT_0 hW hn1 hqn (fun j hj => hk j (by omega)) t_te1) hP hD hS [0, 1, 2] (by decide) rfl d_Model_cut_45
    · skip
      rw [q_ile t_x t_x3] at b15
      refine lv_aload_n hx hb d_Model_cut_18 rfl (lv_at hl 3 rfl) ?_
      refine va_get (D := (dC, dI)) (ci := 8) (v := .ref iA) (C := R_Model) (T := F_Model) (N := 26) hx hb hts u_Model hown hK hP 0 rfl rfl 24 (by decide) (hts _ m_587) (fun _ h9 => h9) rfl d_Model_cut_19 ?_
      refine lv_iload_n hx hb d_Model_cut_22 rfl (lv_at hl 0 rfl) ?_
      refine lv_aload_n hx hb d_Model_cut_23 rfl (lv_at hl 3 rfl) ?_
      refine va_get (D := (dC, dI)) (ci := 8) (v := .ref wA) (C := R_Model) (T := F_Model) (N := 26) hx hb hts u_Model hown hK hP 0 rfl rfl 12 (by decide) (hts _ m_575) (fun _ h9 => h9) rfl d_Model_cut_24 ?_
      refine lv_aload_n hx hb d_Model_cut_27 rfl (lv_at hl 3 rfl) ?_
      refine va_get (D := (dC, dI)) (ci := 8) (v := .int wf) (C := R_Model) (T := F_Model) (N := 26) hx hb hts u_Model hown hK hP 0 rfl rfl 13 (by decide) (hts _ m_576) (fun _ h9 => h9) rfl d_Model_cut_28 ?_
      refine lv_iload_n hx hb d_Model_cut_31 rfl (lv_at hl 0 rfl) ?_
      refine lv_iadd hx hb d_Model_cut_32 ?_
      refine lv_topi (fun v32 e32 => ?_)
      have t32 : v32.toInt = (q1 : Int) + (i : Int) := by rw [e32]; exact q_iadd hwf t_x3 (by omega)
      refine va_iald hx hb hK hP 1 0 rfl rfl (q_in t32 (by omega)) d_Model_cut_33 ?_
      refine lv_topi (fun v33 e33 => ?_)
      rw [q_cl (k := q1 + i) (t32.trans (by omega))] at e33
      refine va_iast hx hb hK hP hD hS 2 0 rfl rfl (q_in t_x3 (by omega)) d_Model_cut_34 (fun H locs hP hD hS => ?_)
      rw [q_cl (k := i) (t_x3)] at hP hD
      have hP : va_P (dC, dI) vwCl [(h0, .inr (8, [.int th, .int we, .int wm, .int wy, .int ra, .ref tA, .int tn, .ref oA, .int on, .ref rA, .int fi, .int la, .ref wA, .int wf, .int wl, .int lo, .int ov, .int un, .int aT, .int mi, .int ds, .ref dA, .int a0, .int xp, .ref iA, .int te1])), (wA, .inl (cI, 400, .inl fw)), (iA, .inl (cI, 200, .inl (upd k i v33)))] H := hP
      have hD : va_D A [(h0, .inr (8, [.int th, .int we, .int wm, .int wy, .int ra, .ref tA, .int tn, .ref oA, .int on, .ref rA, .int fi, .int la, .ref wA, .int wf, .int wl, .int lo, .int ov, .int un, .int aT, .int mi, .int ds, .ref dA, .int a0, .int xp, .ref iA, .int te1])), (wA, .inl (cI, 400, .inl fw)), (iA, .inl (cI, 200, .inl (upd k i v33)))] := hD
      obtain ⟨v35, e35⟩ : ∃ y : Int32, y = x3 + 1 := ⟨_, rfl⟩
      have t35 : v35.toInt = (i : Int) + 1 := by rw [e35]; exact q_iadd t_x3 (show (1 : Int32).toInt = 1 by decide) (by omega)
      refine lv_iinc (v := v35) (lv' := [(3, .int v35), (2, .int y), (1, .int x), (0, .ref h0)]) hx hb d_Model_cut_35 hl (k := 0) rfl (by rw [e35]; rfl) (by decide) rfl (fun ls hl => ?_)
      refine lv_goto (tgt := 13) hx hb d_Model_cut_38 (by decide) ?_
      exact ih (v35) (i + 1) (upd k i v33) (te1) H locs ls (by omega) ((t35).trans (by omega)) ((t_x).trans (by omega)) (by exact t_te1) (by omega) (by intro j hj; rcases Nat.lt_or_ge j i with h | h; rw [pk_un (by omega)]; exact hk j h; rw [show j = i by omega, pk_us, e33]) (va_Psub hP [0, 1, 2] rfl) (hD.sub [0, 1, 2] (by decide) rfl) hS (lv_sub hl [0, 1, 2, 3] rfl)
set_option maxHeartbeats 4000000 in
set_option maxRecDepth 100000 in
theorem c_Model_cut (l : Launch) (dC : Nat → ClassId) (dI : Nat → Nat → Nat) (cI cB cJ : ClassId) (h0 : Nat) (th : Int32) (we : Int32) (wm : Int32) (wy : Int32) (ra : Int32) (tA : Nat) (tn : Int32) (oA : Nat) (on : Int32) (rA : Nat) (fi : Int32) (la : Int32) (wA : Nat) (wf : Int32) (wl : Int32) (lo : Int32) (ov : Int32) (un : Int32) (aT : Int32) (mi : Int32) (ds : Int32) (dA : Nat) (a0 : Int32) (xp : Int32) (iA : Nat) (te : Int32) (fw : Nat → Int32) (ft : Nat → Int32) (x : Int32) (y : Int32) (nn : Nat) (q1 : Nat) (q2 : Nat) (hwf : wf.toInt = (q1 : Int)) (hnn : x.toInt = (nn : Int)) (hn1 : 1 ≤ nn) (hn99 : nn ≤ 99) (hqn : q1 + nn ≤ 400) (hW : WHp fw q1 q2) : Cv l dC dI cI cB cJ y_Model_cut w_Model_cut ({ frames := 0, cells := 0, slots := 0, locals := 0 } : Room) [.ref h0, .int x, .int y] [(h0, .inr (8, [.int th, .int we, .int wm, .int wy, .int ra, .ref tA, .int tn, .ref oA, .int on, .ref rA, .int fi, .int la, .ref wA, .int wf, .int wl, .int lo, .int ov, .int un, .int aT, .int mi, .int ds, .ref dA, .int a0, .int xp, .ref iA, .int te])), (wA, .inl (cI, 400, .inl fw)), (iA, .inl (cI, 200, .inl ft))] (fun (u : (Nat → Int32) × (Int32)) => CUTp fw u.1 q1 nn y u.2.toInt) (fun u : (Nat → Int32) × (Int32) => [(h0, .inr (8, [.int th, .int we, .int wm, .int wy, .int ra, .ref tA, .int tn, .ref oA, .int on, .ref rA, .int fi, .int la, .ref wA, .int wf, .int wl, .int lo, .int ov, .int un, .int aT, .int mi, .int ds, .ref dA, .int a0, .int xp, .ref iA, .int u.2])), (wA, .inl (cI, 400, .inl fw)), (iA, .inl (cI, 200, .inl u.1))]) := by
  refine Cv.intro (cc := b_Model_cut) (maxL := 4) (plainFor_of_name (by decide)) rfl (Nat.le_of_ble_eq_true rfl) ?_
  intro p e s m below meth c A ls C0 hin hA hP hD hS hl
  obtain ⟨hx, hb, hml, hown, hts, hr, hlocks, hK, hN⟩ := id C0
  obtain ⟨H, hH⟩ : ∃ H, H = s.heap := ⟨_, rfl⟩
  have hP : va_P (dC, dI) vwCl [(h0, .inr (8, [.int th, .int we, .int wm, .int wy, .int ra, .ref tA, .int tn, .ref oA, .int on, .ref rA, .int fi, .int la, .ref wA, .int wf, .int wl, .int lo, .int ov, .int un, .int aT, .int mi, .int ds, .ref dA, .int a0, .int xp, .ref iA, .int te])), (wA, .inl (cI, 400, .inl fw)), (iA, .inl (cI, 200, .inl ft))] s.heap := hP
  have hl : lv_has ls 4 [(0, .ref h0), (1, .int x), (2, .int y)] := hl
  have r_x := q_r32 x
  suffices h : ∀ (H : Heap) (locs : List Loc), va_P (dC, dI) vwCl [(h0, .inr (8, [.int th, .int we, .int wm, .int wy, .int ra, .ref tA, .int tn, .ref oA, .int on, .ref rA, .int fi, .int la, .ref wA, .int wf, .int wl, .int lo, .int ov, .int un, .int aT, .int mi, .int ds, .ref dA, .int a0, .int xp, .ref iA, .int te])), (wA, .inl (cI, 400, .inl fw)), (iA, .inl (cI, 200, .inl ft))] H → va_D A [(h0, .inr (8, [.int th, .int we, .int wm, .int wy, .int ra, .ref tA, .int tn, .ref oA, .int on, .ref rA, .int fi, .int la, .ref wA, .int wf, .int wl, .int lo, .int ov, .int un, .int aT, .int mi, .int ds, .ref dA, .int a0, .int xp, .ref iA, .int te])), (wA, .inl (cI, 400, .inl fw)), (iA, .inl (cI, 200, .inl ft))] → va_S A s.heap H locs → W p l e ({ frames := 0, cells := 0, slots := 0, locals := 0 } : Room) s m ([.ref h0, .int x, .int y] : List Value).toArray below meth c H locs 0 0 (MQ below (va_Qv (fun (u : (Nat → Int32) × (Int32)) => CUTp fw u.1 q1 nn y u.2.toInt) (poG dC dI A (fun u : (Nat → Int32) × (Int32) => [(h0, .inr (8, [.int th, .int we, .int wm, .int wy, .int ra, .ref tA, .int tn, .ref oA, .int on, .ref rA, .int fi, .int la, .ref wA, .int wf, .int wl, .int lo, .int ov, .int un, .int aT, .int mi, .int ds, .ref dA, .int a0, .int xp, .ref iA, .int u.2])), (wA, .inl (cI, 400, .inl fw)), (iA, .inl (cI, 200, .inl u.1))])) A) ([.ref h0, .int x, .int y] : List Value).toArray s 0 0 A) (F0 m 0 ls []) from h _ _ hP hD hS
  clear hP hD hS hH H
  intro H locs hP hD hS
  refine lv_aload_n hx hb d_Model_cut_0 rfl (lv_at hl 0 rfl) ?_
  refine lv_bipush (v := 60) hx hb d_Model_cut_1 (by decide) ?_
  refine lv_aload_n hx hb d_Model_cut_3 rfl (lv_at hl 0 rfl) ?_
  refine va_get (D := (dC, dI)) (ci := 8) (v := .int wf) (C := R_Model) (T := F_Model) (N := 26) hx hb hts u_Model hown hK hP 0 rfl rfl 13 (by decide) (hts _ m_576) (fun _ h9 => h9) rfl d_Model_cut_4 ?_
  refine lv_isub hx hb d_Model_cut_7 ?_
  refine lv_topi (fun v7 e7 => ?_)
  have t7 : v7.toInt = 60 - (q1 : Int) := by rw [e7]; exact q_isub (show (60 : Int32).toInt = 60 by decide) hwf (by omega)
  refine va_put (D := (dC, dI)) (ci := 8) (v := .int v7) (ty := .int) (C := R_Model) (T := F_Model) (N := 26) hx hb hts u_Model t_Model t_Model_ok n_Model hown hK hP hD hS 0 rfl rfl 25 (by decide) (hts _ m_588) (fun _ h9 => h9) rfl (by decide +kernel) rfl rfl (Nat.le_of_ble_eq_true rfl) d_Model_cut_8 (fun H locs hP hD hS => ?_)
  have hP : va_P (dC, dI) vwCl [(h0, .inr (8, [.int th, .int we, .int wm, .int wy, .int ra, .ref tA, .int tn, .ref oA, .int on, .ref rA, .int fi, .int la, .ref wA, .int wf, .int wl, .int lo, .int ov, .int un, .int aT, .int mi, .int ds, .ref dA, .int a0, .int xp, .ref iA, .int v7])), (wA, .inl (cI, 400, .inl fw)), (iA, .inl (cI, 200, .inl ft))] H := hP
  have hD : va_D A [(h0, .inr (8, [.int th, .int we, .int wm, .int wy, .int ra, .ref tA, .int tn, .ref oA, .int on, .ref rA, .int fi, .int la, .ref wA, .int wf, .int wl, .int lo, .int ov, .int un, .int aT, .int mi, .int ds, .ref dA, .int a0, .int xp, .ref iA, .int v7])), (wA, .inl (cI, 400, .inl fw)), (iA, .inl (cI, 200, .inl ft))] := hD
  refine lv_iconst (v := 0) hx hb d_Model_cut_11 (by decide) ?_
  refine lv_istore_n (lv' := [(3, .int 0), (0, .ref h0), (1, .int x), (2, .int y)]) hx hb d_Model_cut_12 rfl hl (by decide) rfl (fun ls hl => ?_)
  exact L_Model_cut_13 (h0) (th) (we) (wm) (wy) (ra) (tA) (tn) (oA) (on) (rA) (fi) (la) (wA) (wf) (wl) (lo) (ov) (un) (aT) (mi) (ds) (dA) (a0) (xp) (iA) (te) (fw) (ft) (x) (y) (nn) (q1) (q2) C0 hA (hwf) (hnn) (hn1) (hn99) (hqn) (hW) _ (0) (0) (ft) (v7) H locs ls (Nat.lt_succ_self _) (((show (0 : Int32).toInt = 0 by decide)).trans (by omega)) ((hnn).trans (by omega)) (by exact t7) (by omega) (by intro j hj; omega) (va_Psub hP [0, 1, 2] rfl) (hD.sub [0, 1, 2] (by decide) rfl) hS (lv_sub hl [0, 3, 2, 1] rfl)
set_option maxHeartbeats 4000000 in
set_option maxRecDepth 100000 in
theorem L_Model_comesBack_7 {p : Program} {l : Launch} {e : Env} {s : State} {m : MethodId} {below : List Frame} {meth : Method} {c : Code} {dC : Nat → ClassId} {dI : Nat → Nat → Nat} {cI cB cJ : ClassId} {A : Nat → Prop} (h0 : Nat) (th : Int32) (we : Int32) (wm : Int32) (wy : Int32) (ra : Int32) (tA : Nat) (tn : Int32) (oA : Nat) (on : Int32) (rA : Nat) (fi : Int32) (la : Int32) (wA : Nat) (wf : Int32) (wl : Int32) (lo : Int32) (ov : Int32) (un : Int32) (aT : Int32) (mi : Int32) (ds : Int32) (dA : Nat) (a0 : Int32) (xp : Int32) (iA : Nat) (te : Int32) (E : Nat) (M : Nat) (fr : Nat → Int32) (ft : Nat → Int32) (x : Int32) (nn : Nat) (zq : Int64) (Z : Nat) (tz : Nat) (C0 : cx dC dI cI cB cJ R_Model b_Model_comesBack 5 (some .boolean) p s m ([.ref h0, .int x, .long zq] : List Value).toArray meth c) (hA : ∀ q : Nat, s.heap.size ≤ q → A q) (hL : LY we wm E M) (hnn : x.toInt = (nn : Int)) (hn1 : 1 ≤ nn) (hn99 : nn ≤ 99) (hdg : ∀ j, j < nn → 0 ≤ (ft j).toInt ∧ (ft j).toInt ≤ 9) (ht0 : 1 ≤ (ft 0).toInt) (hte : te.toInt = (tz : Int) - 70) (htz1 : 20 ≤ tz) (htz2 : tz ≤ 115) (hZ : zq.toInt = (Z : Int)) (hZi : Z < iz E M) : ∀ n : Nat, (∀ (x4 : Int32) (i : Nat) (k : Nat → Int32) (fi1 : Int32) (la1 : Int32) (n3 : Nat) (n4 : Nat) (H : Heap) (locs : List Loc) (ls : Array Slot), nn - i < n → x4.toInt = (i : Int) → zq.toInt = (Z : Int) → x.toInt = (nn : Int) → (fi1.toInt = (n3 : Int)) → (la1.toInt = (n4 : Int)) → (RWp k n3 n4) → (sv k 400 = pv ft i * 10 ^ (270 + tz - i)) → (∀ j, 130 - tz + i ≤ j → j < 400 → (k j).toInt = 0) → (1 ≤ n3) → (n4 ≤ 240) → (i ≤ nn) → va_P (dC, dI) vwCl [(h0, .inr (8, [.int th, .int we, .int wm, .int wy, .int ra, .ref tA, .int tn, .ref oA, .int on, .ref rA, .int fi1, .int la1, .ref wA, .int wf, .int wl, .int lo, .int ov, .int un, .int aT, .int mi, .int ds, .ref dA, .int a0, .int xp, .ref iA, .int te])), (rA, .inl (cI, 400, .inl k)), (iA, .inl (cI, 200, .inl ft))] H → va_D A [(h0, .inr (8, [.int th, .int we, .int wm, .int wy, .int ra, .ref tA, .int tn, .ref oA, .int on, .ref rA, .int fi1, .int la1, .ref wA, .int wf, .int wl, .int lo, .int ov, .int un, .int aT, .int mi, .int ds, .ref dA, .int a0, .int xp, .ref iA, .int te])), (rA, .inl (cI, 400, .inl k)), (iA, .inl (cI, 200, .inl ft))] → va_S A s.heap H locs → lv_has ls 5 [(4, .int x4), (2, .long zq), (1, .int x), (0, .ref h0)] → W p l e ({ frames := 3, cells := 0, slots := 0, locals := 85 } : Room) s m ([.ref h0, .int x, .long zq] : List Value).toArray below meth c H locs 0 0 (MQ below (va_Qi (fun (r : Int32) (u : (Nat → Int32) × (Int32) × (Int32) × (Int32) × (Int32) × (Int32)) => ∃ (Z1 : Nat) (ix ty : Prop), RS (pv ft nn * 10 ^ (270 + tz - nn)) (10 ^ 339) E M 0 (¬ (0 : Int32) = 0) Z1 ix ty ∧ ((r = 1 ∧ Z1 = Z) ∨ (r = 0 ∧ ¬ Z1 = Z))) (poG dC dI A (fun u : (Nat → Int32) × (Int32) × (Int32) × (Int32) × (Int32) × (Int32) => [(h0, .inr (8, [.int th, .int we, .int wm, .int wy, .int ra, .ref tA, .int tn, .ref oA, .int on, .ref rA, .int u.2.1, .int u.2.2.1, .ref wA, .int wf, .int wl, .int u.2.2.2.1, .int u.2.2.2.2.2, .int u.2.2.2.2.1, .int aT, .int mi, .int ds, .ref dA, .int a0, .int xp, .ref iA, .int te])), (rA, .inl (cI, 400, .inl u.1)), (iA, .inl (cI, 200, .inl ft))])) A) ([.ref h0, .int x, .long zq] : List Value).toArray s 0 0 A) (F0 m 7 ls [])) := by
  obtain ⟨hx, hb, hml, hown, hts, hr, hlocks, hK, hN⟩ := id C0
  intro n
  induction n with
  | zero => exact fun _ _ _ _ _ _ _ _ _ _ h0 _ _ _ _ _ _ _ _ _ _ _ _ _ _ _ => absurd h0 (Nat.not_lt_zero _)
  | succ n ih =>
    intro x4 i k fi1 la1 n3 n4 H locs ls hn9 t_x4 t_zq t_x t_fi1 t_la1 hRk hv hkz hn3 hn4 hin9 hP hD hS hl
    have r_x4 := q_r32 x4
    have r_zq := q_r64 zq
    have r_x := q_r32 x
    obtain ⟨he, hm, hE1, hE2, hM1, hM2⟩ := id hL
    have hbz := p_bias hE1 hE2
    have hem := p_em hE1 hE2 hM1 hM2
    have hiz := iz_sb E M
    have hpm := p_m hM2
    have hpm1 := pw_p M
    have hpe := p_e hE1 hE2
    refine lv_iload hx hb d_Model_comesBack_7 (lv_at hl 0 rfl) ?_
    refine lv_iload_n hx hb d_Model_comesBack_9 rfl (lv_at hl 2 rfl) ?_
    refine lv_icmp_ge (tgt := 40) hx hb d_Model_comesBack_10 (by decide) (fun b10 => ?_) (fun b10 => ?_)
    · skip
      rw [q_ile t_x t_x4] at b10
      have hie : nn = i := by omega
      subst hie
      have hsv : sv k 400 = pv ft nn * 10 ^ (270 + tz - nn) := hv
      have hD0 : 0 < pv ft nn := by have h1 := pv_dn (g := ft) (z := 0) (n := nn) (by omega) ⟨by omega, by omega⟩; have h2 := p10 (nn - 1 - 0); omega
      have hup : pv ft nn < 10 ^ nn := pv_lt (k := ft) (n3 := 0) (fun j hj => by omega) (by omega) (fun j hj => by have := hdg j hj; unfold rdg; omega)
      refine lv_aload_n hx hb d_Model_comesBack_40 rfl (lv_at hl 3 rfl) ?_
      refine lv_iconst (v := 0) hx hb d_Model_comesBack_41 (by decide) ?_
      refine lv_iconst (v := 0) hx hb d_Model_comesBack_42 (by decide) ?_
      refine callV_l (wr := [(iA, .inl (cI, 200, .inl ft))]) C0 (c_Model_rounded l dC dI cI cB cJ (h0) (th) (we) (wm) (wy) (ra) (tA) (tn) (oA) (on) (rA) (fi1) (la1) (wA) (wf) (wl) (lo) (ov) (un) (aT) (mi) (ds) (dA) (a0) (xp) (iA) (te) (E) (M) (k) (n3) (n4) ((0 : Int32)) ((0 : Int32)) (by exact hL) (by exact t_fi1) (by exact t_la1) (by exact hRk) (by decide) (by rw [hsv]; exact Nat.mul_pos hD0 (p10 _)) (by rw [hsv]; exact big_lim hup (by omega)) (by exact hn3) (by exact hn4)) (cwV 2 hts (gV m_681 m_682 m_30 m_55 m_683) rfl rfl rfl (by decide +kernel) ⟨Nat.le_of_ble_eq_true rfl, Nat.le_of_ble_eq_true rfl⟩) 8 rfl rfl 0 rfl hP hD hS hA [0, 1] [2] rfl rfl (by decide) (by decide) (by decide) rfl hl.1 rfl (Nat.le_of_ble_eq_true rfl) d_Model_comesBack_43 ⟨Nat.le_of_ble_eq_true rfl, Nat.le_of_ble_eq_true rfl⟩ (fun r43 u43 H locs hw9 hP hD hS => ?_)
      obtain ⟨k43, fi143, la143, lo143, un143, ov143⟩ := u43
      have h43 : ∃ (Z : Nat) (ix ty : Prop), RS (sv k 400) (10 ^ 339) E M (0 : Int32).toInt (¬ (0 : Int32) = 0) Z ix ty ∧ RR E M (0 : Int32).toInt (¬ (0 : Int32) = 0) Z ix ty r43.toInt lo143 ov143 un143 := hw9
      have hP : va_P (dC, dI) vwCl [(iA, .inl (cI, 200, .inl ft)), (h0, .inr (8, [.int th, .int we, .int wm, .int wy, .int ra, .ref tA, .int tn, .ref oA, .int on, .ref rA, .int fi143, .int la143, .ref wA, .int wf, .int wl, .int lo143, .int ov143, .int un143, .int aT, .int mi, .int ds, .ref dA, .int a0, .int xp, .ref iA, .int te])), (rA, .inl (cI, 400, .inl k43))] H := hP
      have hD : va_D A [(iA, .inl (cI, 200, .inl ft)), (h0, .inr (8, [.int th, .int we, .int wm, .int wy, .int ra, .ref tA, .int tn, .ref oA, .int on, .ref rA, .int fi143, .int la143, .ref wA, .int wf, .int wl, .int lo143, .int ov143, .int un143, .int aT, .int mi, .int ds, .ref dA, .int a0, .int xp, .ref iA, .int te])), (rA, .inl (cI, 400, .inl k43))] := hD
      rw [show (0 : Int32).toInt = 0 by decide, hsv] at h43
      obtain ⟨Z1, ix, ty, hrs, hrr⟩ := h43
      have hpz := PK_z hZi hrr.1
      have t43 : r43.toInt = r43.toInt := rfl
      refine lv_lload_n hx hb d_Model_comesBack_46 rfl (lv_at hl 1 rfl) ?_
      refine W.lcmp hx hb d_Model_comesBack_47 ?_
      refine lv_if_ne (tgt := 55) hx hb d_Model_comesBack_48 (by decide) (fun b48 => ?_) (fun b48 => ?_)
      · skip
        rw [q_cmp_eq t43 t_zq] at b48
        refine lv_iconst (v := 0) hx hb d_Model_comesBack_55 (by decide) ?_
        exact Cz.ret C0 (v := 0) (u := (k43, fi143, la143, lo143, un143, ov143)) (by rfl) (Nat.le_of_ble_eq_true rfl) (Nat.le_of_ble_eq_true rfl) (by show ∃ (Z1 : Nat) (ix ty : Prop), RS (pv ft nn * 10 ^ (270 + tz - nn)) (10 ^ 339) E M 0 (¬ (0 : Int32) = 0) Z1 ix ty ∧ (((0 : Int32) = 1 ∧ Z1 = Z) ∨ ((0 : Int32) = 0 ∧ ¬ Z1 = Z)); exact ⟨Z1, ix, ty, hrs, Or.inr ⟨rfl, fun h => b48 (hpz.mpr h)⟩⟩) hP hD hS [1, 2, 0] (by decide) rfl d_Model_comesBack_56
      · skip
        rw [q_cmp_eq t43 t_zq] at b48
        refine lv_iconst (v := 1) hx hb d_Model_comesBack_51 (by decide) ?_
        refine lv_goto (tgt := 56) hx hb d_Model_comesBack_52 (by decide) ?_
        exact Cz.ret C0 (v := 1) (u := (k43, fi143, la143, lo143, un143, ov143)) (by rfl) (Nat.le_of_ble_eq_true rfl) (Nat.le_of_ble_eq_true rfl) (by show ∃ (Z1 : Nat) (ix ty : Prop), RS (pv ft nn * 10 ^ (270 + tz - nn)) (10 ^ 339) E M 0 (¬ (0 : Int32) = 0) Z1 ix ty ∧ (((1 : Int32) = 1 ∧ Z1 = Z) ∨ ((1 : Int32) = 0 ∧ ¬ Z1 = Z)); exact ⟨Z1, ix, ty, hrs, Or.inl ⟨rfl, hpz.mp b48⟩⟩) hP hD hS [1, 2, 0] (by decide) rfl d_Model_comesBack_56
    · skip
      rw [q_ile t_x t_x4] at b10
      have hd9 := hdg i (by omega)
      have hd8 := rdg_i hd9.1
      refine lv_aload_n hx hb d_Model_comesBack_13 rfl (lv_at hl 3 rfl) ?_
      refine lv_bipush (v := 60) hx hb d_Model_comesBack_14 (by decide) ?_
      refine lv_aload_n hx hb d_Model_comesBack_16 rfl (lv_at hl 3 rfl) ?_
      refine va_get (D := (dC, dI)) (ci := 8) (v := .int te) (C := R_Model) (T := F_Model) (N := 26) hx hb hts u_Model hown hK hP 0 rfl rfl 25 (by decide) (hts _ m_588) (fun _ h9 => h9) rfl d_Model_comesBack_17 ?_
      refine lv_isub hx hb d_Model_comesBack_20 ?_
      refine lv_topi (fun v20 e20 => ?_)
      have t20 : v20.toInt = 60 - ((tz : Int) - 70) := by rw [e20]; exact q_isub (show (60 : Int32).toInt = 60 by decide) hte (by omega)
      refine lv_iload hx hb d_Model_comesBack_21 (lv_at hl 0 rfl) ?_
      refine lv_iadd hx hb d_Model_comesBack_23 ?_
      refine lv_topi (fun v23 e23 => ?_)
      have t23 : v23.toInt = (60 - ((tz : Int) - 70)) + (i : Int) := by rw [e23]; exact q_iadd t20 t_x4 (by omega)
      refine lv_aload_n hx hb d_Model_comesBack_24 rfl (lv_at hl 3 rfl) ?_
      refine va_get (D := (dC, dI)) (ci := 8) (v := .ref iA) (C := R_Model) (T := F_Model) (N := 26) hx hb hts u_Model hown hK hP 0 rfl rfl 24 (by decide) (hts _ m_587) (fun _ h9 => h9) rfl d_Model_comesBack_25 ?_
      refine lv_iload hx hb d_Model_comesBack_28 (lv_at hl 0 rfl) ?_
      refine va_iald hx hb hK hP 2 0 rfl rfl (q_in t_x4 (by omega)) d_Model_comesBack_30 ?_
      refine lv_topi (fun v30 e30 => ?_)
      rw [q_cl (k := i) (t_x4)] at e30
      have t30 : v30.toInt = (rdg ft i : Int) := by rw [e30]; exact rdg_i (hdg i (by omega)).1
      refine callV_v (wr := [(iA, .inl (cI, 200, .inl ft))]) C0 (c_Model_dig l dC dI cI cB cJ (h0) (th) (we) (wm) (wy) (ra) (tA) (tn) (oA) (on) (rA) (fi1) (la1) (wA) (wf) (wl) (lo) (ov) (un) (aT) (mi) (ds) (dA) (a0) (xp) (iA) (te) (k) (n3) (n4) (v23) (v30) (130 - tz + i) (rdg ft i) (by exact t_fi1) (by exact t_la1) (by exact hRk) (by exact t23.trans (by omega)) (by omega) (by exact t30) (by omega) (by exact hkz _ (Nat.le_refl _) (by omega))) (cwV 2 hts (gV m_678 m_679 m_29 m_55 m_680) rfl rfl rfl (by decide +kernel) ⟨Nat.le_of_ble_eq_true rfl, Nat.le_of_ble_eq_true rfl⟩) 8 rfl rfl 0 rfl hP hD hS hA [0, 1] [2] rfl rfl (by decide) (by decide) (by decide) rfl hl.1 rfl (Nat.le_of_ble_eq_true rfl) d_Model_comesBack_31 ⟨Nat.le_of_ble_eq_true rfl, Nat.le_of_ble_eq_true rfl⟩ (fun u31 H locs hw9 hP hD hS => ?_)
      obtain ⟨k31, fi131, la131⟩ := u31
      have h31 : ∃ nA nB : Nat, fi131.toInt = (nA : Int) ∧ la131.toInt = (nB : Int) ∧ RWp k31 nA nB ∧ sv k31 400 = sv k 400 + (rdg ft i) * 10 ^ (399 - (130 - tz + i)) ∧ min n3 (130 - tz + i) ≤ nA ∧ nB ≤ max n4 (130 - tz + i) ∧ (∀ j, j ≠ (130 - tz + i) → k31 j = k j) := hw9
      have hP : va_P (dC, dI) vwCl [(iA, .inl (cI, 200, .inl ft)), (h0, .inr (8, [.int th, .int we, .int wm, .int wy, .int ra, .ref tA, .int tn, .ref oA, .int on, .ref rA, .int fi131, .int la131, .ref wA, .int wf, .int wl, .int lo, .int ov, .int un, .int aT, .int mi, .int ds, .ref dA, .int a0, .int xp, .ref iA, .int te])), (rA, .inl (cI, 400, .inl k31))] H := hP
      have hD : va_D A [(iA, .inl (cI, 200, .inl ft)), (h0, .inr (8, [.int th, .int we, .int wm, .int wy, .int ra, .ref tA, .int tn, .ref oA, .int on, .ref rA, .int fi131, .int la131, .ref wA, .int wf, .int wl, .int lo, .int ov, .int un, .int aT, .int mi, .int ds, .ref dA, .int a0, .int xp, .ref iA, .int te])), (rA, .inl (cI, 400, .inl k31))] := hD
      obtain ⟨n5, n6, t5, t6, hR31, hv31, h5, h6, hko⟩ := h31
      obtain ⟨v34, e34⟩ : ∃ y : Int32, y = x4 + 1 := ⟨_, rfl⟩
      have t34 : v34.toInt = (i : Int) + 1 := by rw [e34]; exact q_iadd t_x4 (show (1 : Int32).toInt = 1 by decide) (by omega)
      refine lv_iinc (v := v34) (lv' := [(4, .int v34), (2, .long zq), (1, .int x), (0, .ref h0)]) hx hb d_Model_comesBack_34 hl (k := 0) rfl (by rw [e34]; rfl) (by decide) rfl (fun ls hl => ?_)
      refine lv_goto (tgt := 7) hx hb d_Model_comesBack_37 (by decide) ?_
      exact ih (v34) (i + 1) (k31) (fi131) (la131) (n5) (n6) H locs ls (by omega) ((t34).trans (by omega)) ((t_zq).trans (by omega)) ((t_x).trans (by omega)) (by exact t5) (by exact t6) (by exact hR31) (by rw [hv31, hv]; exact pv_scale (e := 269 + tz - i) (by omega) (by omega) (by omega)) (by intro j h1 h2; rw [hko j (by omega)]; exact hkz j (by omega) h2) (by omega) (by omega) (by omega) (va_Psub hP [1, 2, 0] rfl) (hD.sub [1, 2, 0] (by decide) rfl) hS (lv_sub hl [0, 1, 2, 3] rfl)
set_option maxHeartbeats 4000000 in
set_option maxRecDepth 100000 in
theorem c_Model_comesBack (l : Launch) (dC : Nat → ClassId) (dI : Nat → Nat → Nat) (cI cB cJ : ClassId) (h0 : Nat) (th : Int32) (we : Int32) (wm : Int32) (wy : Int32) (ra : Int32) (tA : Nat) (tn : Int32) (oA : Nat) (on : Int32) (rA : Nat) (fi : Int32) (la : Int32) (wA : Nat) (wf : Int32) (wl : Int32) (lo : Int32) (ov : Int32) (un : Int32) (aT : Int32) (mi : Int32) (ds : Int32) (dA : Nat) (a0 : Int32) (xp : Int32) (iA : Nat) (te : Int32) (E : Nat) (M : Nat) (fr : Nat → Int32) (ft : Nat → Int32) (x : Int32) (nn : Nat) (zq : Int64) (Z : Nat) (tz : Nat) (hL : LY we wm E M) (hnn : x.toInt = (nn : Int)) (hn1 : 1 ≤ nn) (hn99 : nn ≤ 99) (hdg : ∀ j, j < nn → 0 ≤ (ft j).toInt ∧ (ft j).toInt ≤ 9) (ht0 : 1 ≤ (ft 0).toInt) (hte : te.toInt = (tz : Int) - 70) (htz1 : 20 ≤ tz) (htz2 : tz ≤ 115) (hZ : zq.toInt = (Z : Int)) (hZi : Z < iz E M) : Ci l dC dI cI cB cJ y_Model_comesBack w_Model_comesBack ({ frames := 3, cells := 0, slots := 0, locals := 85 } : Room) [.ref h0, .int x, .long zq] [(h0, .inr (8, [.int th, .int we, .int wm, .int wy, .int ra, .ref tA, .int tn, .ref oA, .int on, .ref rA, .int fi, .int la, .ref wA, .int wf, .int wl, .int lo, .int ov, .int un, .int aT, .int mi, .int ds, .ref dA, .int a0, .int xp, .ref iA, .int te])), (rA, .inl (cI, 400, .inl fr)), (iA, .inl (cI, 200, .inl ft))] (fun (r : Int32) (u : (Nat → Int32) × (Int32) × (Int32) × (Int32) × (Int32) × (Int32)) => ∃ (Z1 : Nat) (ix ty : Prop), RS (pv ft nn * 10 ^ (270 + tz - nn)) (10 ^ 339) E M 0 (¬ (0 : Int32) = 0) Z1 ix ty ∧ ((r = 1 ∧ Z1 = Z) ∨ (r = 0 ∧ ¬ Z1 = Z))) (fun u : (Nat → Int32) × (Int32) × (Int32) × (Int32) × (Int32) × (Int32) => [(h0, .inr (8, [.int th, .int we, .int wm, .int wy, .int ra, .ref tA, .int tn, .ref oA, .int on, .ref rA, .int u.2.1, .int u.2.2.1, .ref wA, .int wf, .int wl, .int u.2.2.2.1, .int u.2.2.2.2.2, .int u.2.2.2.2.1, .int aT, .int mi, .int ds, .ref dA, .int a0, .int xp, .ref iA, .int te])), (rA, .inl (cI, 400, .inl u.1)), (iA, .inl (cI, 200, .inl ft))]) := by
  refine Ci.intro (cc := b_Model_comesBack) (maxL := 5) (plainFor_of_name (by decide)) rfl (Nat.le_of_ble_eq_true rfl) ?_
  intro p e s m below meth c A ls C0 hin hA hP hD hS hl
  obtain ⟨hx, hb, hml, hown, hts, hr, hlocks, hK, hN⟩ := id C0
  obtain ⟨H, hH⟩ : ∃ H, H = s.heap := ⟨_, rfl⟩
  have hP : va_P (dC, dI) vwCl [(h0, .inr (8, [.int th, .int we, .int wm, .int wy, .int ra, .ref tA, .int tn, .ref oA, .int on, .ref rA, .int fi, .int la, .ref wA, .int wf, .int wl, .int lo, .int ov, .int un, .int aT, .int mi, .int ds, .ref dA, .int a0, .int xp, .ref iA, .int te])), (rA, .inl (cI, 400, .inl fr)), (iA, .inl (cI, 200, .inl ft))] s.heap := hP
  have hl : lv_has ls 5 [(0, .ref h0), (1, .int x), (2, .long zq)] := hl
  have r_x := q_r32 x
  have r_zq := q_r64 zq
  suffices h : ∀ (H : Heap) (locs : List Loc), va_P (dC, dI) vwCl [(h0, .inr (8, [.int th, .int we, .int wm, .int wy, .int ra, .ref tA, .int tn, .ref oA, .int on, .ref rA, .int fi, .int la, .ref wA, .int wf, .int wl, .int lo, .int ov, .int un, .int aT, .int mi, .int ds, .ref dA, .int a0, .int xp, .ref iA, .int te])), (rA, .inl (cI, 400, .inl fr)), (iA, .inl (cI, 200, .inl ft))] H → va_D A [(h0, .inr (8, [.int th, .int we, .int wm, .int wy, .int ra, .ref tA, .int tn, .ref oA, .int on, .ref rA, .int fi, .int la, .ref wA, .int wf, .int wl, .int lo, .int ov, .int un, .int aT, .int mi, .int ds, .ref dA, .int a0, .int xp, .ref iA, .int te])), (rA, .inl (cI, 400, .inl fr)), (iA, .inl (cI, 200, .inl ft))] → va_S A s.heap H locs → W p l e ({ frames := 3, cells := 0, slots := 0, locals := 85 } : Room) s m ([.ref h0, .int x, .long zq] : List Value).toArray below meth c H locs 0 0 (MQ below (va_Qi (fun (r : Int32) (u : (Nat → Int32) × (Int32) × (Int32) × (Int32) × (Int32) × (Int32)) => ∃ (Z1 : Nat) (ix ty : Prop), RS (pv ft nn * 10 ^ (270 + tz - nn)) (10 ^ 339) E M 0 (¬ (0 : Int32) = 0) Z1 ix ty ∧ ((r = 1 ∧ Z1 = Z) ∨ (r = 0 ∧ ¬ Z1 = Z))) (poG dC dI A (fun u : (Nat → Int32) × (Int32) × (Int32) × (Int32) × (Int32) × (Int32) => [(h0, .inr (8, [.int th, .int we, .int wm, .int wy, .int ra, .ref tA, .int tn, .ref oA, .int on, .ref rA, .int u.2.1, .int u.2.2.1, .ref wA, .int wf, .int wl, .int u.2.2.2.1, .int u.2.2.2.2.2, .int u.2.2.2.2.1, .int aT, .int mi, .int ds, .ref dA, .int a0, .int xp, .ref iA, .int te])), (rA, .inl (cI, 400, .inl u.1)), (iA, .inl (cI, 200, .inl ft))])) A) ([.ref h0, .int x, .long zq] : List Value).toArray s 0 0 A) (F0 m 0 ls []) from h _ _ hP hD hS
  clear hP hD hS hH H
  intro H locs hP hD hS
  obtain ⟨he, hm, hE1, hE2, hM1, hM2⟩ := id hL
  have hbz := p_bias hE1 hE2
  have hem := p_em hE1 hE2 hM1 hM2
  have hiz := iz_sb E M
  have hpm := p_m hM2
  have hpm1 := pw_p M
  have hpe := p_e hE1 hE2
  refine lv_aload_n hx hb d_Model_comesBack_0 rfl (lv_at hl 0 rfl) ?_
  refine callV_v (wr := [(iA, .inl (cI, 200, .inl ft))]) C0 (c_Model_wipe l dC dI cI cB cJ (h0) (th) (we) (wm) (wy) (ra) (tA) (tn) (oA) (on) (rA) (fi) (la) (wA) (wf) (wl) (lo) (ov) (un) (aT) (mi) (ds) (dA) (a0) (xp) (iA) (te) (fr)) (cwV 0 hts (gV m_675 m_676 m_28 m_55 m_677) rfl rfl rfl (by decide +kernel) ⟨Nat.le_of_ble_eq_true rfl, Nat.le_of_ble_eq_true rfl⟩) 8 rfl rfl 0 rfl hP hD hS hA [0, 1] [2] rfl rfl (by decide) (by decide) (by decide) rfl hl.1 rfl (Nat.le_of_ble_eq_true rfl) d_Model_comesBack_1 ⟨Nat.le_of_ble_eq_true rfl, Nat.le_of_ble_eq_true rfl⟩ (fun k1 H locs hw9 hP hD hS => ?_)
  have h1 : (∀ j, j < 400 → k1 j = 0) := hw9
  have hP : va_P (dC, dI) vwCl [(iA, .inl (cI, 200, .inl ft)), (h0, .inr (8, [.int th, .int we, .int wm, .int wy, .int ra, .ref tA, .int tn, .ref oA, .int on, .ref rA, .int 60, .int 60, .ref wA, .int wf, .int wl, .int lo, .int ov, .int un, .int aT, .int mi, .int ds, .ref dA, .int a0, .int xp, .ref iA, .int te])), (rA, .inl (cI, 400, .inl k1))] H := hP
  have hD : va_D A [(iA, .inl (cI, 200, .inl ft)), (h0, .inr (8, [.int th, .int we, .int wm, .int wy, .int ra, .ref tA, .int tn, .ref oA, .int on, .ref rA, .int 60, .int 60, .ref wA, .int wf, .int wl, .int lo, .int ov, .int un, .int aT, .int mi, .int ds, .ref dA, .int a0, .int xp, .ref iA, .int te])), (rA, .inl (cI, 400, .inl k1))] := hD
  have hwp := wiped h1
  refine lv_iconst (v := 0) hx hb d_Model_comesBack_4 (by decide) ?_
  refine lv_istore (lv' := [(4, .int 0), (0, .ref h0), (1, .int x), (2, .long zq)]) hx hb d_Model_comesBack_5 hl (by decide) rfl (fun ls hl => ?_)
  exact L_Model_comesBack_7 (h0) (th) (we) (wm) (wy) (ra) (tA) (tn) (oA) (on) (rA) (fi) (la) (wA) (wf) (wl) (lo) (ov) (un) (aT) (mi) (ds) (dA) (a0) (xp) (iA) (te) (E) (M) (fr) (ft) (x) (nn) (zq) (Z) (tz) C0 hA (hL) (hnn) (hn1) (hn99) (hdg) (ht0) (hte) (htz1) (htz2) (hZ) (hZi) _ (0) (0) (k1) (60) (60) (60) (60) H locs ls (Nat.lt_succ_self _) (((show (0 : Int32).toInt = 0 by decide)).trans (by omega)) ((hZ).trans (by omega)) ((hnn).trans (by omega)) (by decide) (by decide) (by exact hwp.1) (by rw [hwp.2]; exact (Nat.zero_mul _).symm) (by intro j h1_ h2_; rw [h1 j h2_]; rfl) (by omega) (by omega) (by omega) (va_Psub hP [1, 2, 0] rfl) (hD.sub [1, 2, 0] (by decide) rfl) hS (lv_sub hl [0, 3, 2, 1] rfl)
set_option maxHeartbeats 4000000 in
set_option maxRecDepth 100000 in
theorem c_Model_beside (l : Launch) (dC : Nat → ClassId) (dI : Nat → Nat → Nat) (cI cB cJ : ClassId) (h0 : Nat) (th : Int32) (we : Int32) (wm : Int32) (wy : Int32) (ra : Int32) (tA : Nat) (tn : Int32) (oA : Nat) (on : Int32) (rA : Nat) (fi : Int32) (la : Int32) (wA : Nat) (wf : Int32) (wl : Int32) (lo : Int32) (ov : Int32) (un : Int32) (aT : Int32) (mi : Int32) (ds : Int32) (dA : Nat) (a0 : Int32) (xp : Int32) (iA : Nat) (te : Int32) (fw : Nat → Int32) (x : Int32) (nn : Nat) (q1 : Nat) (q2 : Nat) (hwf : wf.toInt = (q1 : Int)) (hwl : wl.toInt = (q2 : Int)) (hnn : x.toInt = (nn : Int)) (hqn : q1 + nn < 400) (hW : WHp fw q1 q2) : Ci l dC dI cI cB cJ y_Model_beside w_Model_beside ({ frames := 0, cells := 0, slots := 0, locals := 0 } : Room) [.ref h0, .int x] [(h0, .inr (8, [.int th, .int we, .int wm, .int wy, .int ra, .ref tA, .int tn, .ref oA, .int on, .ref rA, .int fi, .int la, .ref wA, .int wf, .int wl, .int lo, .int ov, .int un, .int aT, .int mi, .int ds, .ref dA, .int a0, .int xp, .ref iA, .int te])), (wA, .inl (cI, 400, .inl fw))] (fun (r : Int32) (u : Unit) => (1 ≤ r.toInt ∧ 10 ^ (400 - (q1 + nn)) < 2 * sv fw (400 - (q1 + nn))) ∨ (r.toInt < 1 ∧ ¬ 10 ^ (400 - (q1 + nn)) < 2 * sv fw (400 - (q1 + nn)))) (fun u : Unit => [(h0, .inr (8, [.int th, .int we, .int wm, .int wy, .int ra, .ref tA, .int tn, .ref oA, .int on, .ref rA, .int fi, .int la, .ref wA, .int wf, .int wl, .int lo, .int ov, .int un, .int aT, .int mi, .int ds, .ref dA, .int a0, .int xp, .ref iA, .int te])), (wA, .inl (cI, 400, .inl fw))]) := by
  refine Ci.intro (cc := b_Model_beside) (maxL := 4) (plainFor_of_name (by decide)) rfl (Nat.le_of_ble_eq_true rfl) ?_
  intro p e s m below meth c A ls C0 hin hA hP hD hS hl
  obtain ⟨hx, hb, hml, hown, hts, hr, hlocks, hK, hN⟩ := id C0
  obtain ⟨H, hH⟩ : ∃ H, H = s.heap := ⟨_, rfl⟩
  have hP : va_P (dC, dI) vwCl [(h0, .inr (8, [.int th, .int we, .int wm, .int wy, .int ra, .ref tA, .int tn, .ref oA, .int on, .ref rA, .int fi, .int la, .ref wA, .int wf, .int wl, .int lo, .int ov, .int un, .int aT, .int mi, .int ds, .ref dA, .int a0, .int xp, .ref iA, .int te])), (wA, .inl (cI, 400, .inl fw))] s.heap := hP
  have hl : lv_has ls 4 [(0, .ref h0), (1, .int x)] := hl
  have r_x := q_r32 x
  suffices h : ∀ (H : Heap) (locs : List Loc), va_P (dC, dI) vwCl [(h0, .inr (8, [.int th, .int we, .int wm, .int wy, .int ra, .ref tA, .int tn, .ref oA, .int on, .ref rA, .int fi, .int la, .ref wA, .int wf, .int wl, .int lo, .int ov, .int un, .int aT, .int mi, .int ds, .ref dA, .int a0, .int xp, .ref iA, .int te])), (wA, .inl (cI, 400, .inl fw))] H → va_D A [(h0, .inr (8, [.int th, .int we, .int wm, .int wy, .int ra, .ref tA, .int tn, .ref oA, .int on, .ref rA, .int fi, .int la, .ref wA, .int wf, .int wl, .int lo, .int ov, .int un, .int aT, .int mi, .int ds, .ref dA, .int a0, .int xp, .ref iA, .int te])), (wA, .inl (cI, 400, .inl fw))] → va_S A s.heap H locs → W p l e ({ frames := 0, cells := 0, slots := 0, locals := 0 } : Room) s m ([.ref h0, .int x] : List Value).toArray below meth c H locs 0 0 (MQ below (va_Qi (fun (r : Int32) (u : Unit) => (1 ≤ r.toInt ∧ 10 ^ (400 - (q1 + nn)) < 2 * sv fw (400 - (q1 + nn))) ∨ (r.toInt < 1 ∧ ¬ 10 ^ (400 - (q1 + nn)) < 2 * sv fw (400 - (q1 + nn)))) (poG dC dI A (fun u : Unit => [(h0, .inr (8, [.int th, .int we, .int wm, .int wy, .int ra, .ref tA, .int tn, .ref oA, .int on, .ref rA, .int fi, .int la, .ref wA, .int wf, .int wl, .int lo, .int ov, .int un, .int aT, .int mi, .int ds, .ref dA, .int a0, .int xp, .ref iA, .int te])), (wA, .inl (cI, 400, .inl fw))])) A) ([.ref h0, .int x] : List Value).toArray s 0 0 A) (F0 m 0 ls []) from h _ _ hP hD hS
  clear hP hD hS hH H
  intro H locs hP hD hS
  have hbd := BSD_of hW hqn
  have hq4 := hW.2.2.2.2.1
  refine lv_aload_n hx hb d_Model_beside_0 rfl (lv_at hl 0 rfl) ?_
  refine va_get (D := (dC, dI)) (ci := 8) (v := .ref wA) (C := R_Model) (T := F_Model) (N := 26) hx hb hts u_Model hown hK hP 0 rfl rfl 12 (by decide) (hts _ m_575) (fun _ h9 => h9) rfl d_Model_beside_1 ?_
  refine lv_aload_n hx hb d_Model_beside_4 rfl (lv_at hl 0 rfl) ?_
  refine va_get (D := (dC, dI)) (ci := 8) (v := .int wf) (C := R_Model) (T := F_Model) (N := 26) hx hb hts u_Model hown hK hP 0 rfl rfl 13 (by decide) (hts _ m_576) (fun _ h9 => h9) rfl d_Model_beside_5 ?_
  refine lv_iload_n hx hb d_Model_beside_8 rfl (lv_at hl 1 rfl) ?_
  refine lv_iadd hx hb d_Model_beside_9 ?_
  refine lv_topi (fun v9 e9 => ?_)
  have t9 : v9.toInt = (q1 : Int) + (nn : Int) := by rw [e9]; exact q_iadd hwf hnn (by omega)
  refine va_iald hx hb hK hP 1 0 rfl rfl (q_in t9 (by omega)) d_Model_beside_10 ?_
  refine lv_topi (fun v10 e10 => ?_)
  rw [q_cl (k := q1 + nn) (t9.trans (by omega))] at e10
  have t10 : v10.toInt = (fw (q1 + nn)).toInt := by rw [e10]
  refine lv_istore_n (lv' := [(2, .int v10), (0, .ref h0), (1, .int x)]) hx hb d_Model_beside_11 rfl hl (by decide) rfl (fun ls hl => ?_)
  refine lv_aload_n hx hb d_Model_beside_12 rfl (lv_at hl 1 rfl) ?_
  refine va_get (D := (dC, dI)) (ci := 8) (v := .int wl) (C := R_Model) (T := F_Model) (N := 26) hx hb hts u_Model hown hK hP 0 rfl rfl 14 (by decide) (hts _ m_577) (fun _ h9 => h9) rfl d_Model_beside_13 ?_
  refine lv_aload_n hx hb d_Model_beside_16 rfl (lv_at hl 1 rfl) ?_
  refine va_get (D := (dC, dI)) (ci := 8) (v := .int wf) (C := R_Model) (T := F_Model) (N := 26) hx hb hts u_Model hown hK hP 0 rfl rfl 13 (by decide) (hts _ m_576) (fun _ h9 => h9) rfl d_Model_beside_17 ?_
  refine lv_iload_n hx hb d_Model_beside_20 rfl (lv_at hl 2 rfl) ?_
  refine lv_iadd hx hb d_Model_beside_21 ?_
  refine lv_topi (fun v21 e21 => ?_)
  have t21 : v21.toInt = (q1 : Int) + (nn : Int) := by rw [e21]; exact q_iadd hwf hnn (by omega)
  refine lv_icmp_le (tgt := 29) hx hb d_Model_beside_22 (by decide) (fun b22 => ?_) (fun b22 => ?_)
  · skip
    rw [q_ile hwl t21] at b22
    refine lv_iconst (v := 0) hx hb d_Model_beside_29 (by decide) ?_
    refine lv_istore_n (lv' := [(3, .int 0), (2, .int v10), (0, .ref h0), (1, .int x)]) hx hb d_Model_beside_30 rfl hl (by decide) rfl (fun ls hl => ?_)
    refine lv_iload_n hx hb d_Model_beside_31 rfl (lv_at hl 1 rfl) ?_
    refine lv_iconst (v := 5) hx hb d_Model_beside_32 (by decide) ?_
    refine lv_icmp_gt (tgt := 45) hx hb d_Model_beside_33 (by decide) (fun b33 => ?_) (fun b33 => ?_)
    · skip
      rw [q_ilt (show (5 : Int32).toInt = 5 by decide) t10] at b33
      refine lv_iconst (v := 1) hx hb d_Model_beside_45 (by decide) ?_
      refine lv_goto (tgt := 59) hx hb d_Model_beside_46 (by decide) ?_
      exact Ci.ret C0 (v := 1) (u := ()) (Nat.le_of_ble_eq_true rfl) (Nat.le_of_ble_eq_true rfl) (by show (1 ≤ (1 : Int32).toInt ∧ 10 ^ (400 - (q1 + nn)) < 2 * sv fw (400 - (q1 + nn))) ∨ ((1 : Int32).toInt < 1 ∧ ¬ 10 ^ (400 - (q1 + nn)) < 2 * sv fw (400 - (q1 + nn))); exact Or.inl ⟨by decide, hbd.mpr (Or.inl (by omega))⟩) hP hD hS [0, 1] (by decide) rfl d_Model_beside_59
    · skip
      rw [q_ilt (show (5 : Int32).toInt = 5 by decide) t10] at b33
      refine lv_iload_n hx hb d_Model_beside_36 rfl (lv_at hl 1 rfl) ?_
      refine lv_iconst (v := 5) hx hb d_Model_beside_37 (by decide) ?_
      refine lv_icmp_ne (tgt := 49) hx hb d_Model_beside_38 (by decide) (fun b38 => ?_) (fun b38 => ?_)
      · skip
        rw [q_ieq t10 (show (5 : Int32).toInt = 5 by decide)] at b38
        refine lv_iload_n hx hb d_Model_beside_49 rfl (lv_at hl 1 rfl) ?_
        refine lv_iconst (v := 5) hx hb d_Model_beside_50 (by decide) ?_
        refine lv_icmp_ne (tgt := 58) hx hb d_Model_beside_51 (by decide) (fun b51 => ?_) (fun b51 => ?_)
        · skip
          rw [q_ieq t10 (show (5 : Int32).toInt = 5 by decide)] at b51
          refine lv_iconst (v := (-1)) hx hb d_Model_beside_58 (by decide) ?_
          exact Ci.ret C0 (v := (-1)) (u := ()) (Nat.le_of_ble_eq_true rfl) (Nat.le_of_ble_eq_true rfl) (by show (1 ≤ (((-1) : Int32)).toInt ∧ 10 ^ (400 - (q1 + nn)) < 2 * sv fw (400 - (q1 + nn))) ∨ ((((-1) : Int32)).toInt < 1 ∧ ¬ 10 ^ (400 - (q1 + nn)) < 2 * sv fw (400 - (q1 + nn))); exact Or.inr ⟨by decide, fun h => by have := hbd.mp h; omega⟩) hP hD hS [0, 1] (by decide) rfl d_Model_beside_59
        · skip
          rw [q_ieq t10 (show (5 : Int32).toInt = 5 by decide)] at b51
          exact absurd b51 (by omega)
      · skip
        rw [q_ieq t10 (show (5 : Int32).toInt = 5 by decide)] at b38
        refine lv_iload_n hx hb d_Model_beside_41 rfl (lv_at hl 0 rfl) ?_
        refine lv_if_eq (tgt := 49) hx hb d_Model_beside_42 (by decide) (fun b42 => ?_) (fun b42 => ?_)
        · skip
          rw [q_ieq (show (0 : Int32).toInt = 0 by decide) (show (0 : Int32).toInt = 0 by decide)] at b42
          refine lv_iload_n hx hb d_Model_beside_49 rfl (lv_at hl 1 rfl) ?_
          refine lv_iconst (v := 5) hx hb d_Model_beside_50 (by decide) ?_
          refine lv_icmp_ne (tgt := 58) hx hb d_Model_beside_51 (by decide) (fun b51 => ?_) (fun b51 => ?_)
          · skip
            rw [q_ieq t10 (show (5 : Int32).toInt = 5 by decide)] at b51
            exact absurd b51 (by omega)
          · skip
            rw [q_ieq t10 (show (5 : Int32).toInt = 5 by decide)] at b51
            refine lv_iconst (v := 0) hx hb d_Model_beside_54 (by decide) ?_
            refine lv_goto (tgt := 59) hx hb d_Model_beside_55 (by decide) ?_
            exact Ci.ret C0 (v := 0) (u := ()) (Nat.le_of_ble_eq_true rfl) (Nat.le_of_ble_eq_true rfl) (by show (1 ≤ (0 : Int32).toInt ∧ 10 ^ (400 - (q1 + nn)) < 2 * sv fw (400 - (q1 + nn))) ∨ ((0 : Int32).toInt < 1 ∧ ¬ 10 ^ (400 - (q1 + nn)) < 2 * sv fw (400 - (q1 + nn))); exact Or.inr ⟨by decide, fun h => by have := hbd.mp h; omega⟩) hP hD hS [0, 1] (by decide) rfl d_Model_beside_59
        · skip
          rw [q_ieq (show (0 : Int32).toInt = 0 by decide) (show (0 : Int32).toInt = 0 by decide)] at b42
          exact absurd b42 (by omega)
  · skip
    rw [q_ile hwl t21] at b22
    refine lv_iconst (v := 1) hx hb d_Model_beside_25 (by decide) ?_
    refine lv_goto (tgt := 30) hx hb d_Model_beside_26 (by decide) ?_
    refine lv_istore_n (lv' := [(3, .int 1), (2, .int v10), (0, .ref h0), (1, .int x)]) hx hb d_Model_beside_30 rfl hl (by decide) rfl (fun ls hl => ?_)
    refine lv_iload_n hx hb d_Model_beside_31 rfl (lv_at hl 1 rfl) ?_
    refine lv_iconst (v := 5) hx hb d_Model_beside_32 (by decide) ?_
    refine lv_icmp_gt (tgt := 45) hx hb d_Model_beside_33 (by decide) (fun b33 => ?_) (fun b33 => ?_)
    · skip
      rw [q_ilt (show (5 : Int32).toInt = 5 by decide) t10] at b33
      refine lv_iconst (v := 1) hx hb d_Model_beside_45 (by decide) ?_
      refine lv_goto (tgt := 59) hx hb d_Model_beside_46 (by decide) ?_
      exact Ci.ret C0 (v := 1) (u := ()) (Nat.le_of_ble_eq_true rfl) (Nat.le_of_ble_eq_true rfl) (by show (1 ≤ (1 : Int32).toInt ∧ 10 ^ (400 - (q1 + nn)) < 2 * sv fw (400 - (q1 + nn))) ∨ ((1 : Int32).toInt < 1 ∧ ¬ 10 ^ (400 - (q1 + nn)) < 2 * sv fw (400 - (q1 + nn))); exact Or.inl ⟨by decide, hbd.mpr (Or.inl (by omega))⟩) hP hD hS [0, 1] (by decide) rfl d_Model_beside_59
    · skip
      rw [q_ilt (show (5 : Int32).toInt = 5 by decide) t10] at b33
      refine lv_iload_n hx hb d_Model_beside_36 rfl (lv_at hl 1 rfl) ?_
      refine lv_iconst (v := 5) hx hb d_Model_beside_37 (by decide) ?_
      refine lv_icmp_ne (tgt := 49) hx hb d_Model_beside_38 (by decide) (fun b38 => ?_) (fun b38 => ?_)
      · skip
        rw [q_ieq t10 (show (5 : Int32).toInt = 5 by decide)] at b38
        refine lv_iload_n hx hb d_Model_beside_49 rfl (lv_at hl 1 rfl) ?_
        refine lv_iconst (v := 5) hx hb d_Model_beside_50 (by decide) ?_
        refine lv_icmp_ne (tgt := 58) hx hb d_Model_beside_51 (by decide) (fun b51 => ?_) (fun b51 => ?_)
        · skip
          rw [q_ieq t10 (show (5 : Int32).toInt = 5 by decide)] at b51
          refine lv_iconst (v := (-1)) hx hb d_Model_beside_58 (by decide) ?_
          exact Ci.ret C0 (v := (-1)) (u := ()) (Nat.le_of_ble_eq_true rfl) (Nat.le_of_ble_eq_true rfl) (by show (1 ≤ (((-1) : Int32)).toInt ∧ 10 ^ (400 - (q1 + nn)) < 2 * sv fw (400 - (q1 + nn))) ∨ ((((-1) : Int32)).toInt < 1 ∧ ¬ 10 ^ (400 - (q1 + nn)) < 2 * sv fw (400 - (q1 + nn))); exact Or.inr ⟨by decide, fun h => by have := hbd.mp h; omega⟩) hP hD hS [0, 1] (by decide) rfl d_Model_beside_59
        · skip
          rw [q_ieq t10 (show (5 : Int32).toInt = 5 by decide)] at b51
          exact absurd b51 (by omega)
      · skip
        rw [q_ieq t10 (show (5 : Int32).toInt = 5 by decide)] at b38
        refine lv_iload_n hx hb d_Model_beside_41 rfl (lv_at hl 0 rfl) ?_
        refine lv_if_eq (tgt := 49) hx hb d_Model_beside_42 (by decide) (fun b42 => ?_) (fun b42 => ?_)
        · skip
          rw [q_ieq (show (1 : Int32).toInt = 1 by decide) (show (0 : Int32).toInt = 0 by decide)] at b42
          exact absurd b42 (by omega)
        · skip
          rw [q_ieq (show (1 : Int32).toInt = 1 by decide) (show (0 : Int32).toInt = 0 by decide)] at b42
          refine lv_iconst (v := 1) hx hb d_Model_beside_45 (by decide) ?_
          refine lv_goto (tgt := 59) hx hb d_Model_beside_46 (by decide) ?_
          exact Ci.ret C0 (v := 1) (u := ()) (Nat.le_of_ble_eq_true rfl) (Nat.le_of_ble_eq_true rfl) (by show (1 ≤ (1 : Int32).toInt ∧ 10 ^ (400 - (q1 + nn)) < 2 * sv fw (400 - (q1 + nn))) ∨ ((1 : Int32).toInt < 1 ∧ ¬ 10 ^ (400 - (q1 + nn)) < 2 * sv fw (400 - (q1 + nn))); exact Or.inl ⟨by decide, hbd.mpr (Or.inr ⟨by omega, by omega⟩)⟩) hP hD hS [0, 1] (by decide) rfl d_Model_beside_59
