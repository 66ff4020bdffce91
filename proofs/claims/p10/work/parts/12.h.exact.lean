set_option maxHeartbeats 4000000 in
set_option maxRecDepth 100000 in
theorem L_Model_spread_125 {p : Program} {l : Launch} {e : Env} {s : State} {m : MethodId} {below : List Frame} {meth : Method} {c : Code} {dC : Nat → ClassId} {dI : Nat → Nat → Nat} {cI cB cJ : ClassId} {A : Nat → Prop} (h0 : Nat) (th : Int32) (we : Int32) (wm : Int32) (wy : Int32) (ra : Int32) (tA : Nat) (tn : Int32) (oA : Nat) (on : Int32) (rA : Nat) (fi : Int32) (la : Int32) (wA : Nat) (wf : Int32) (wl : Int32) (lo : Int32) (ov : Int32) (un : Int32) (aT : Int32) (mi : Int32) (ds : Int32) (dA : Nat) (a0 : Int32) (xp : Int32) (iA : Nat) (te : Int32) (E : Nat) (M : Nat) (f : Nat → Int32) (zq : Int64) (Z : Nat) (C0 : cx dC dI cI cB cJ R_Model b_Model_spread 10 none p s m ([.ref h0, .long zq] : List Value).toArray meth c) (hA : ∀ q : Nat, s.heap.size ≤ q → A q) (hL : LY we wm E M) (hZ : zq.toInt = (Z : Int)) (hZi : Z < iz E M) : ∀ n : Nat, (∀ (x6 : Int32) (x9 : Int32) (i : Nat) (k : Nat → Int32) (fi1 : Int32) (la1 : Int32) (n3 : Nat) (n4 : Nat) (H : Heap) (locs : List Loc) (ls : Array Slot), (-(pwr E M Z)).toNat - i < n → x9.toInt = -(i : Int) → x6.toInt = pwr E M Z → (fi1.toInt = (n3 : Int)) → (la1.toInt = (n4 : Int)) → (RWp k n3 n4) → (sv k 400 * 2 ^ i = sgf M Z * 10 ^ 339 * 2 ^ (pwr E M Z).toNat) → (i ≤ (-(pwr E M Z)).toNat) → (n4 ≤ 60 + i) → va_P (dC, dI) vwCl [(h0, .inr (8, [.int th, .int we, .int wm, .int wy, .int ra, .ref tA, .int tn, .ref oA, .int on, .ref rA, .int fi1, .int la1, .ref wA, .int wf, .int wl, .int lo, .int ov, .int un, .int aT, .int mi, .int ds, .ref dA, .int a0, .int xp, .ref iA, .int te])), (rA, .inl (cI, 400, .inl k))] H → va_D A [(h0, .inr (8, [.int th, .int we, .int wm, .int wy, .int ra, .ref tA, .int tn, .ref oA, .int on, .ref rA, .int fi1, .int la1, .ref wA, .int wf, .int wl, .int lo, .int ov, .int un, .int aT, .int mi, .int ds, .ref dA, .int a0, .int xp, .ref iA, .int te])), (rA, .inl (cI, 400, .inl k))] → va_S A s.heap H locs → lv_has ls 10 [(9, .int x9), (6, .int x6), (0, .ref h0)] → W p l e ({ frames := 1, cells := 0, slots := 0, locals := 23 } : Room) s m ([.ref h0, .long zq] : List Value).toArray below meth c H locs 0 0 (MQ below (va_Qv (fun (u : (Nat → Int32) × (Int32) × (Int32)) => ∃ n3 n4 : Nat, u.2.1.toInt = (n3 : Int) ∧ u.2.2.toInt = (n4 : Int) ∧ RWp u.1 n3 n4 ∧ SPV E M Z (sv u.1 400) ∧ n4 ≤ 60 + (-(pwr E M Z)).toNat) (poG dC dI A (fun u : (Nat → Int32) × (Int32) × (Int32) => [(h0, .inr (8, [.int th, .int we, .int wm, .int wy, .int ra, .ref tA, .int tn, .ref oA, .int on, .ref rA, .int u.2.1, .int u.2.2, .ref wA, .int wf, .int wl, .int lo, .int ov, .int un, .int aT, .int mi, .int ds, .ref dA, .int a0, .int xp, .ref iA, .int te])), (rA, .inl (cI, 400, .inl u.1))])) A) ([.ref h0, .long zq] : List Value).toArray s 0 0 A) (F0 m 125 ls [])) := by
  obtain ⟨hx, hb, hml, hown, hts, hr, hlocks, hK, hN⟩ := id C0
  intro n
  induction n with
  | zero => exact fun _ _ _ _ _ _ _ _ _ _ _ h0 _ _ _ _ _ _ _ _ _ _ _ _ => absurd h0 (Nat.not_lt_zero _)
  | succ n ih =>
    intro x6 x9 i k fi1 la1 n3 n4 H locs ls hn9 t_x9 t_x6 t_fi1 t_la1 hRk hv hip hn4 hP hD hS hl
    have r_x9 := q_r32 x9
    have r_x6 := q_r32 x6
    obtain ⟨he, hm, hE1, hE2, hM1, hM2⟩ := id hL
    have hbz := p_bias hE1 hE2
    have hem := p_em hE1 hE2 hM1 hM2
    have hiz := iz_sb E M
    have hpm := p_m hM2
    have hpm1 := pw_p M
    have hpe := p_e hE1 hE2
    have hbs := bsE_r hE1 hE2
    have hZs : Z < sb E M := by omega
    have hex := ex_lt hZs
    have hfz := fz_lt M Z
    have hpw := pwr_b E M Z
    have hpr := pwr_r hE1 hE2 hM1 hM2 hZs
    have hsg := sgf_lt (M := M) (Z := Z) hM2
    refine lv_iload hx hb d_Model_spread_125 (lv_at hl 0 rfl) ?_
    refine lv_iload hx hb d_Model_spread_127 (lv_at hl 1 rfl) ?_
    refine lv_icmp_le (tgt := 142) hx hb d_Model_spread_129 (by decide) (fun b129 => ?_) (fun b129 => ?_)
    · skip
      rw [q_ile t_x9 t_x6] at b129
      exact Cv.ret C0 (u := (k, fi1, la1)) (Nat.le_of_ble_eq_true rfl) (Nat.le_of_ble_eq_true rfl) (by show ∃ n3 n4 : Nat, fi1.toInt = (n3 : Int) ∧ la1.toInt = (n4 : Int) ∧ RWp k n3 n4 ∧ SPV E M Z (sv k 400) ∧ n4 ≤ 60 + (-(pwr E M Z)).toNat; exact ⟨n3, n4, t_fi1, t_la1, hRk, by (unfold SPV; rw [show (-(pwr E M Z)).toNat = i by omega]; exact hv), by omega⟩) hP hD hS [0, 1] (by decide) rfl d_Model_spread_142
    · skip
      rw [q_ile t_x9 t_x6] at b129
      refine lv_aload_n hx hb d_Model_spread_132 rfl (lv_at hl 2 rfl) ?_
      refine callV_v (wr := []) C0 (c_Model_half l dC dI cI cB cJ (h0) (th) (we) (wm) (wy) (ra) (tA) (tn) (oA) (on) (rA) (fi1) (la1) (wA) (wf) (wl) (lo) (ov) (un) (aT) (mi) (ds) (dA) (a0) (xp) (iA) (te) (k) (n3) (n4) (by exact t_fi1) (by exact t_la1) (by exact hRk) (by omega)) (cwV 0 hts (gV m_687 m_688 m_32 m_55 m_689) rfl rfl rfl (by decide +kernel) ⟨Nat.le_of_ble_eq_true rfl, Nat.le_of_ble_eq_true rfl⟩) 8 rfl rfl 0 rfl hP hD hS hA [0, 1] [] rfl rfl (by decide) (by decide) (by decide) rfl hl.1 rfl (Nat.le_of_ble_eq_true rfl) d_Model_spread_133 ⟨Nat.le_of_ble_eq_true rfl, Nat.le_of_ble_eq_true rfl⟩ (fun u133 H locs hw9 hP hD hS => ?_)
      obtain ⟨k133, fi1133, la1133⟩ := u133
      have h133 : ∃ nA nB : Nat, fi1133.toInt = (nA : Int) ∧ la1133.toInt = (nB : Int) ∧ n3 ≤ nA ∧ (nB = n4 ∨ nB = n4 + 1) ∧ RWp k133 nA nB ∧ 2 * sv k133 400 = sv k 400 := hw9
      have hP : va_P (dC, dI) vwCl [(h0, .inr (8, [.int th, .int we, .int wm, .int wy, .int ra, .ref tA, .int tn, .ref oA, .int on, .ref rA, .int fi1133, .int la1133, .ref wA, .int wf, .int wl, .int lo, .int ov, .int un, .int aT, .int mi, .int ds, .ref dA, .int a0, .int xp, .ref iA, .int te])), (rA, .inl (cI, 400, .inl k133))] H := hP
      have hD : va_D A [(h0, .inr (8, [.int th, .int we, .int wm, .int wy, .int ra, .ref tA, .int tn, .ref oA, .int on, .ref rA, .int fi1133, .int la1133, .ref wA, .int wf, .int wl, .int lo, .int ov, .int un, .int aT, .int mi, .int ds, .ref dA, .int a0, .int xp, .ref iA, .int te])), (rA, .inl (cI, 400, .inl k133))] := hD
      obtain ⟨n5, n6, t5, t6, h5, h6, hR133, hv133⟩ := h133
      obtain ⟨v136, e136⟩ : ∃ y : Int32, y = x9 + (-1) := ⟨_, rfl⟩
      have t136 : v136.toInt = -(i : Int) + (-1) := by rw [e136]; exact q_iadd t_x9 (show ((-1) : Int32).toInt = (-1) by decide) (by omega)
      refine lv_iinc (v := v136) (lv' := [(9, .int v136), (6, .int x6), (0, .ref h0)]) hx hb d_Model_spread_136 hl (k := 0) rfl (by rw [e136]; rfl) (by decide) rfl (fun ls hl => ?_)
      refine lv_goto (tgt := 125) hx hb d_Model_spread_139 (by decide) ?_
      exact ih (x6) (v136) (i + 1) (k133) (fi1133) (la1133) (n5) (n6) H locs ls (by omega) ((t136).trans (by omega)) ((t_x6).trans (by omega)) (by exact t5) (by exact t6) (by exact hR133) (by exact hf_sp hv hv133) (by omega) (by omega) (va_Psub hP [0, 1] rfl) (hD.sub [0, 1] (by decide) rfl) hS (lv_sub hl [0, 1, 2] rfl)
set_option maxHeartbeats 4000000 in
set_option maxRecDepth 100000 in
theorem L_Model_spread_105 {p : Program} {l : Launch} {e : Env} {s : State} {m : MethodId} {below : List Frame} {meth : Method} {c : Code} {dC : Nat → ClassId} {dI : Nat → Nat → Nat} {cI cB cJ : ClassId} {A : Nat → Prop} (h0 : Nat) (th : Int32) (we : Int32) (wm : Int32) (wy : Int32) (ra : Int32) (tA : Nat) (tn : Int32) (oA : Nat) (on : Int32) (rA : Nat) (fi : Int32) (la : Int32) (wA : Nat) (wf : Int32) (wl : Int32) (lo : Int32) (ov : Int32) (un : Int32) (aT : Int32) (mi : Int32) (ds : Int32) (dA : Nat) (a0 : Int32) (xp : Int32) (iA : Nat) (te : Int32) (E : Nat) (M : Nat) (f : Nat → Int32) (zq : Int64) (Z : Nat) (C0 : cx dC dI cI cB cJ R_Model b_Model_spread 10 none p s m ([.ref h0, .long zq] : List Value).toArray meth c) (hA : ∀ q : Nat, s.heap.size ≤ q → A q) (hL : LY we wm E M) (hZ : zq.toInt = (Z : Int)) (hZi : Z < iz E M) : ∀ n : Nat, (∀ (x6 : Int32) (x9 : Int32) (i : Nat) (k : Nat → Int32) (fi1 : Int32) (la1 : Int32) (n3 : Nat) (H : Heap) (locs : List Loc) (ls : Array Slot), (pwr E M Z).toNat - i < n → x9.toInt = (i : Int) → x6.toInt = pwr E M Z → (fi1.toInt = (n3 : Int)) → (la1.toInt = 60) → (RWp k n3 60) → (sv k 400 = sgf M Z * 10 ^ 339 * 2 ^ i) → (i ≤ (pwr E M Z).toNat) → va_P (dC, dI) vwCl [(h0, .inr (8, [.int th, .int we, .int wm, .int wy, .int ra, .ref tA, .int tn, .ref oA, .int on, .ref rA, .int fi1, .int la1, .ref wA, .int wf, .int wl, .int lo, .int ov, .int un, .int aT, .int mi, .int ds, .ref dA, .int a0, .int xp, .ref iA, .int te])), (rA, .inl (cI, 400, .inl k))] H → va_D A [(h0, .inr (8, [.int th, .int we, .int wm, .int wy, .int ra, .ref tA, .int tn, .ref oA, .int on, .ref rA, .int fi1, .int la1, .ref wA, .int wf, .int wl, .int lo, .int ov, .int un, .int aT, .int mi, .int ds, .ref dA, .int a0, .int xp, .ref iA, .int te])), (rA, .inl (cI, 400, .inl k))] → va_S A s.heap H locs → lv_has ls 10 [(9, .int x9), (6, .int x6), (0, .ref h0)] → W p l e ({ frames := 1, cells := 0, slots := 0, locals := 23 } : Room) s m ([.ref h0, .long zq] : List Value).toArray below meth c H locs 0 0 (MQ below (va_Qv (fun (u : (Nat → Int32) × (Int32) × (Int32)) => ∃ n3 n4 : Nat, u.2.1.toInt = (n3 : Int) ∧ u.2.2.toInt = (n4 : Int) ∧ RWp u.1 n3 n4 ∧ SPV E M Z (sv u.1 400) ∧ n4 ≤ 60 + (-(pwr E M Z)).toNat) (poG dC dI A (fun u : (Nat → Int32) × (Int32) × (Int32) => [(h0, .inr (8, [.int th, .int we, .int wm, .int wy, .int ra, .ref tA, .int tn, .ref oA, .int on, .ref rA, .int u.2.1, .int u.2.2, .ref wA, .int wf, .int wl, .int lo, .int ov, .int un, .int aT, .int mi, .int ds, .ref dA, .int a0, .int xp, .ref iA, .int te])), (rA, .inl (cI, 400, .inl u.1))])) A) ([.ref h0, .long zq] : List Value).toArray s 0 0 A) (F0 m 105 ls [])) := by
  obtain ⟨hx, hb, hml, hown, hts, hr, hlocks, hK, hN⟩ := id C0
  intro n
  induction n with
  | zero => exact fun _ _ _ _ _ _ _ _ _ _ h0 _ _ _ _ _ _ _ _ _ _ _ => absurd h0 (Nat.not_lt_zero _)
  | succ n ih =>
    intro x6 x9 i k fi1 la1 n3 H locs ls hn9 t_x9 t_x6 t_fi1 t_la1 hRk hv hip hP hD hS hl
    have r_x9 := q_r32 x9
    have r_x6 := q_r32 x6
    obtain ⟨he, hm, hE1, hE2, hM1, hM2⟩ := id hL
    have hbz := p_bias hE1 hE2
    have hem := p_em hE1 hE2 hM1 hM2
    have hiz := iz_sb E M
    have hpm := p_m hM2
    have hpm1 := pw_p M
    have hpe := p_e hE1 hE2
    have hbs := bsE_r hE1 hE2
    have hZs : Z < sb E M := by omega
    have hex := ex_lt hZs
    have hfz := fz_lt M Z
    have hpw := pwr_b E M Z
    have hpr := pwr_r hE1 hE2 hM1 hM2 hZs
    have hsg := sgf_lt (M := M) (Z := Z) hM2
    refine lv_iload hx hb d_Model_spread_105 (lv_at hl 0 rfl) ?_
    refine lv_iload hx hb d_Model_spread_107 (lv_at hl 1 rfl) ?_
    refine lv_icmp_ge (tgt := 122) hx hb d_Model_spread_109 (by decide) (fun b109 => ?_) (fun b109 => ?_)
    · skip
      rw [q_ile t_x6 t_x9] at b109
      refine lv_iconst (v := 0) hx hb d_Model_spread_122 (by decide) ?_
      refine lv_istore (lv' := [(9, .int 0), (6, .int x6), (0, .ref h0)]) hx hb d_Model_spread_123 hl (by decide) rfl (fun ls hl => ?_)
      exact L_Model_spread_125 (h0) (th) (we) (wm) (wy) (ra) (tA) (tn) (oA) (on) (rA) (fi) (la) (wA) (wf) (wl) (lo) (ov) (un) (aT) (mi) (ds) (dA) (a0) (xp) (iA) (te) (E) (M) (f) (zq) (Z) C0 hA (hL) (hZ) (hZi) _ (x6) (0) (0) (k) (fi1) (la1) (n3) (60) H locs ls (Nat.lt_succ_self _) (((show (0 : Int32).toInt = 0 by decide)).trans (by omega)) ((t_x6).trans (by omega)) (by exact t_fi1) (by exact t_la1.trans rfl) (by exact hRk) (by rw [Nat.pow_zero, Nat.mul_one, hv, show i = (pwr E M Z).toNat by omega]) (by omega) (by omega) (va_Psub hP [0, 1] rfl) (hD.sub [0, 1] (by decide) rfl) hS (lv_sub hl [0, 1, 2] rfl)
    · skip
      rw [q_ile t_x6 t_x9] at b109
      have hsl := sp_lim (Z := Z) hM2 (i := i) (by omega)
      rw [← hv] at hsl
      have hn3 := n3_ge hRk hsl (by omega)
      refine lv_aload_n hx hb d_Model_spread_112 rfl (lv_at hl 2 rfl) ?_
      refine callV_v (wr := []) C0 (c_Model_twice l dC dI cI cB cJ (h0) (th) (we) (wm) (wy) (ra) (tA) (tn) (oA) (on) (rA) (fi1) (la1) (wA) (wf) (wl) (lo) (ov) (un) (aT) (mi) (ds) (dA) (a0) (xp) (iA) (te) (k) (n3) ((60 : Nat)) (by exact t_fi1) (by exact t_la1.trans rfl) (by exact hRk) (by omega)) (cwV 0 hts (gV m_690 m_691 m_33 m_55 m_692) rfl rfl rfl (by decide +kernel) ⟨Nat.le_of_ble_eq_true rfl, Nat.le_of_ble_eq_true rfl⟩) 8 rfl rfl 0 rfl hP hD hS hA [0, 1] [] rfl rfl (by decide) (by decide) (by decide) rfl hl.1 rfl (Nat.le_of_ble_eq_true rfl) d_Model_spread_113 ⟨Nat.le_of_ble_eq_true rfl, Nat.le_of_ble_eq_true rfl⟩ (fun u113 H locs hw9 hP hD hS => ?_)
      obtain ⟨k113, fi1113⟩ := u113
      have h113 : ∃ nA : Nat, fi1113.toInt = (nA : Int) ∧ (nA = n3 ∨ nA + 1 = n3) ∧ RWp k113 nA (60 : Nat) ∧ sv k113 400 = 2 * sv k 400 := hw9
      have hP : va_P (dC, dI) vwCl [(h0, .inr (8, [.int th, .int we, .int wm, .int wy, .int ra, .ref tA, .int tn, .ref oA, .int on, .ref rA, .int fi1113, .int la1, .ref wA, .int wf, .int wl, .int lo, .int ov, .int un, .int aT, .int mi, .int ds, .ref dA, .int a0, .int xp, .ref iA, .int te])), (rA, .inl (cI, 400, .inl k113))] H := hP
      have hD : va_D A [(h0, .inr (8, [.int th, .int we, .int wm, .int wy, .int ra, .ref tA, .int tn, .ref oA, .int on, .ref rA, .int fi1113, .int la1, .ref wA, .int wf, .int wl, .int lo, .int ov, .int un, .int aT, .int mi, .int ds, .ref dA, .int a0, .int xp, .ref iA, .int te])), (rA, .inl (cI, 400, .inl k113))] := hD
      obtain ⟨n5, t5, h5, hR113, hv113⟩ := h113
      obtain ⟨v116, e116⟩ : ∃ y : Int32, y = x9 + 1 := ⟨_, rfl⟩
      have t116 : v116.toInt = (i : Int) + 1 := by rw [e116]; exact q_iadd t_x9 (show (1 : Int32).toInt = 1 by decide) (by omega)
      refine lv_iinc (v := v116) (lv' := [(9, .int v116), (6, .int x6), (0, .ref h0)]) hx hb d_Model_spread_116 hl (k := 0) rfl (by rw [e116]; rfl) (by decide) rfl (fun ls hl => ?_)
      refine lv_goto (tgt := 105) hx hb d_Model_spread_119 (by decide) ?_
      exact ih (x6) (v116) (i + 1) (k113) (fi1113) (la1) (n5) H locs ls (by omega) ((t116).trans (by omega)) ((t_x6).trans (by omega)) (by exact t5) (by exact t_la1) (by exact hR113) (by exact tw_sp hv hv113) (by omega) (va_Psub hP [0, 1] rfl) (hD.sub [0, 1] (by decide) rfl) hS (lv_sub hl [0, 1, 2] rfl)
set_option maxHeartbeats 4000000 in
set_option maxRecDepth 100000 in
theorem L_Model_spread_68 {p : Program} {l : Launch} {e : Env} {s : State} {m : MethodId} {below : List Frame} {meth : Method} {c : Code} {dC : Nat → ClassId} {dI : Nat → Nat → Nat} {cI cB cJ : ClassId} {A : Nat → Prop} (h0 : Nat) (th : Int32) (we : Int32) (wm : Int32) (wy : Int32) (ra : Int32) (tA : Nat) (tn : Int32) (oA : Nat) (on : Int32) (rA : Nat) (fi : Int32) (la : Int32) (wA : Nat) (wf : Int32) (wl : Int32) (lo : Int32) (ov : Int32) (un : Int32) (aT : Int32) (mi : Int32) (ds : Int32) (dA : Nat) (a0 : Int32) (xp : Int32) (iA : Nat) (te : Int32) (E : Nat) (M : Nat) (f : Nat → Int32) (zq : Int64) (Z : Nat) (C0 : cx dC dI cI cB cJ R_Model b_Model_spread 10 none p s m ([.ref h0, .long zq] : List Value).toArray meth c) (hA : ∀ q : Nat, s.heap.size ≤ q → A q) (hL : LY we wm E M) (hZ : zq.toInt = (Z : Int)) (hZi : Z < iz E M) : ∀ n : Nat, (∀ (x6 : Int32) (x9 : Int32) (c9 : Nat) (lft : Int64) (lf : Nat) (k : Nat → Int32) (fi1 : Int32) (la1 : Int32) (n3 : Nat) (H : Heap) (locs : List Loc) (ls : Array Slot), lf < n → x9.toInt = 60 - (c9 : Int) → lft.toInt = (lf : Int) → x6.toInt = pwr E M Z → (fi1.toInt = (n3 : Int)) → (la1.toInt = 60) → (RWp k n3 60) → (sv k 400 + lf * 10 ^ (339 + c9) = sgf M Z * 10 ^ 339) → (∀ j, j + c9 ≤ 60 → (k j).toInt = 0) → (c9 ≤ 8) → (lf < 10 ^ (8 - c9)) → va_P (dC, dI) vwCl [(h0, .inr (8, [.int th, .int we, .int wm, .int wy, .int ra, .ref tA, .int tn, .ref oA, .int on, .ref rA, .int fi1, .int la1, .ref wA, .int wf, .int wl, .int lo, .int ov, .int un, .int aT, .int mi, .int ds, .ref dA, .int a0, .int xp, .ref iA, .int te])), (rA, .inl (cI, 400, .inl k))] H → va_D A [(h0, .inr (8, [.int th, .int we, .int wm, .int wy, .int ra, .ref tA, .int tn, .ref oA, .int on, .ref rA, .int fi1, .int la1, .ref wA, .int wf, .int wl, .int lo, .int ov, .int un, .int aT, .int mi, .int ds, .ref dA, .int a0, .int xp, .ref iA, .int te])), (rA, .inl (cI, 400, .inl k))] → va_S A s.heap H locs → lv_has ls 10 [(9, .int x9), (7, .long lft), (6, .int x6), (0, .ref h0)] → W p l e ({ frames := 1, cells := 0, slots := 0, locals := 23 } : Room) s m ([.ref h0, .long zq] : List Value).toArray below meth c H locs 0 0 (MQ below (va_Qv (fun (u : (Nat → Int32) × (Int32) × (Int32)) => ∃ n3 n4 : Nat, u.2.1.toInt = (n3 : Int) ∧ u.2.2.toInt = (n4 : Int) ∧ RWp u.1 n3 n4 ∧ SPV E M Z (sv u.1 400) ∧ n4 ≤ 60 + (-(pwr E M Z)).toNat) (poG dC dI A (fun u : (Nat → Int32) × (Int32) × (Int32) => [(h0, .inr (8, [.int th, .int we, .int wm, .int wy, .int ra, .ref tA, .int tn, .ref oA, .int on, .ref rA, .int u.2.1, .int u.2.2, .ref wA, .int wf, .int wl, .int lo, .int ov, .int un, .int aT, .int mi, .int ds, .ref dA, .int a0, .int xp, .ref iA, .int te])), (rA, .inl (cI, 400, .inl u.1))])) A) ([.ref h0, .long zq] : List Value).toArray s 0 0 A) (F0 m 68 ls [])) := by
  obtain ⟨hx, hb, hml, hown, hts, hr, hlocks, hK, hN⟩ := id C0
  intro n
  induction n with
  | zero => exact fun _ _ _ _ _ _ _ _ _ _ _ _ h0 _ _ _ _ _ _ _ _ _ _ _ _ _ _ => absurd h0 (Nat.not_lt_zero _)
  | succ n ih =>
    intro x6 x9 c9 lft lf k fi1 la1 n3 H locs ls hn9 t_x9 t_lft t_x6 t_fi1 t_la1 hRk hv hkz hc8 hlf hP hD hS hl
    have r_x9 := q_r32 x9
    have r_lft := q_r64 lft
    have r_x6 := q_r32 x6
    obtain ⟨he, hm, hE1, hE2, hM1, hM2⟩ := id hL
    have hbz := p_bias hE1 hE2
    have hem := p_em hE1 hE2 hM1 hM2
    have hiz := iz_sb E M
    have hpm := p_m hM2
    have hpm1 := pw_p M
    have hpe := p_e hE1 hE2
    have hbs := bsE_r hE1 hE2
    have hZs : Z < sb E M := by omega
    have hex := ex_lt hZs
    have hfz := fz_lt M Z
    have hpw := pwr_b E M Z
    have hpr := pwr_r hE1 hE2 hM1 hM2 hZs
    have hsg := sgf_lt (M := M) (Z := Z) hM2
    refine lv_lload hx hb d_Model_spread_68 (lv_at hl 1 rfl) ?_
    refine lv_lconst (v := 0) hx hb d_Model_spread_70 (by decide) ?_
    refine W.lcmp hx hb d_Model_spread_71 ?_
    refine lv_if_le (tgt := 102) hx hb d_Model_spread_72 (by decide) (fun b72 => ?_) (fun b72 => ?_)
    · skip
      rw [q_cmp_le t_lft (show (0 : Int64).toInt = 0 by decide)] at b72
      refine lv_iconst (v := 0) hx hb d_Model_spread_102 (by decide) ?_
      refine lv_istore (lv' := [(9, .int 0), (7, .long lft), (6, .int x6), (0, .ref h0)]) hx hb d_Model_spread_103 hl (by decide) rfl (fun ls hl => ?_)
      exact L_Model_spread_105 (h0) (th) (we) (wm) (wy) (ra) (tA) (tn) (oA) (on) (rA) (fi) (la) (wA) (wf) (wl) (lo) (ov) (un) (aT) (mi) (ds) (dA) (a0) (xp) (iA) (te) (E) (M) (f) (zq) (Z) C0 hA (hL) (hZ) (hZi) _ (x6) (0) (0) (k) (fi1) (la1) (n3) H locs ls (Nat.lt_succ_self _) (((show (0 : Int32).toInt = 0 by decide)).trans (by omega)) ((t_x6).trans (by omega)) (by exact t_fi1) (by exact t_la1) (by exact hRk) (by rw [Nat.pow_zero, Nat.mul_one, ← hv, show lf = 0 by omega, Nat.zero_mul, Nat.add_zero]) (by omega) (va_Psub hP [0, 1] rfl) (hD.sub [0, 1] (by decide) rfl) hS (lv_sub hl [0, 2, 3] rfl)
    · skip
      rw [q_cmp_le t_lft (show (0 : Int64).toInt = 0 by decide)] at b72
      have hc7 := ld_end hc8 hlf (by omega)
      refine lv_aload_n hx hb d_Model_spread_75 rfl (lv_at hl 3 rfl) ?_
      refine lv_iload hx hb d_Model_spread_76 (lv_at hl 0 rfl) ?_
      refine lv_lload hx hb d_Model_spread_78 (lv_at hl 1 rfl) ?_
      refine lv_ldc2 (v := 10) hx hb hown (hts _ m_718) d_Model_spread_80 ?_
      refine lv_lrem hx hb d_Model_spread_83 (by decide) ?_
      refine lv_topl (fun v83 e83 => ?_)
      have t83 : v83.toInt = ((lf % 10 : Nat) : Int) := by rw [e83]; exact (q_lrem t_lft (show (10 : Int64).toInt = 10 by decide) (by omega)).trans (by omega)
      refine lv_l2i hx hb d_Model_spread_84 rfl ?_
      refine lv_topi (fun v84 e84 => ?_)
      have t84 : v84.toInt = ((lf % 10 : Nat) : Int) := by rw [e84]; exact q_l2i t83 (by omega)
      refine callV_v (wr := []) C0 (c_Model_dig l dC dI cI cB cJ (h0) (th) (we) (wm) (wy) (ra) (tA) (tn) (oA) (on) (rA) (fi1) (la1) (wA) (wf) (wl) (lo) (ov) (un) (aT) (mi) (ds) (dA) (a0) (xp) (iA) (te) (k) (n3) ((60 : Nat)) (x9) (v84) (60 - c9) (lf % 10) (by exact t_fi1) (by exact t_la1.trans rfl) (by exact hRk) (by exact t_x9.trans (by omega)) (by omega) (by exact t84) (by omega) (by exact hkz _ (by omega))) (cwV 2 hts (gV m_678 m_679 m_29 m_55 m_680) rfl rfl rfl (by decide +kernel) ⟨Nat.le_of_ble_eq_true rfl, Nat.le_of_ble_eq_true rfl⟩) 8 rfl rfl 0 rfl hP hD hS hA [0, 1] [] rfl rfl (by decide) (by decide) (by decide) rfl hl.1 rfl (Nat.le_of_ble_eq_true rfl) d_Model_spread_85 ⟨Nat.le_of_ble_eq_true rfl, Nat.le_of_ble_eq_true rfl⟩ (fun u85 H locs hw9 hP hD hS => ?_)
      obtain ⟨k85, fi185, la185⟩ := u85
      have h85 : ∃ nA nB : Nat, fi185.toInt = (nA : Int) ∧ la185.toInt = (nB : Int) ∧ RWp k85 nA nB ∧ sv k85 400 = sv k 400 + (lf % 10) * 10 ^ (399 - (60 - c9)) ∧ min n3 (60 - c9) ≤ nA ∧ nB ≤ max (60 : Nat) (60 - c9) ∧ (∀ j, j ≠ (60 - c9) → k85 j = k j) := hw9
      have hP : va_P (dC, dI) vwCl [(h0, .inr (8, [.int th, .int we, .int wm, .int wy, .int ra, .ref tA, .int tn, .ref oA, .int on, .ref rA, .int fi185, .int la185, .ref wA, .int wf, .int wl, .int lo, .int ov, .int un, .int aT, .int mi, .int ds, .ref dA, .int a0, .int xp, .ref iA, .int te])), (rA, .inl (cI, 400, .inl k85))] H := hP
      have hD : va_D A [(h0, .inr (8, [.int th, .int we, .int wm, .int wy, .int ra, .ref tA, .int tn, .ref oA, .int on, .ref rA, .int fi185, .int la185, .ref wA, .int wf, .int wl, .int lo, .int ov, .int un, .int aT, .int mi, .int ds, .ref dA, .int a0, .int xp, .ref iA, .int te])), (rA, .inl (cI, 400, .inl k85))] := hD
      obtain ⟨n5, n6, t5, t6, hR85, hv85, h5, h6, hko⟩ := h85
      have h660 : n6 = 60 := by have := hR85.2.2.2.2.1; omega
      subst h660
      refine lv_lload hx hb d_Model_spread_88 (lv_at hl 1 rfl) ?_
      refine lv_ldc2 (v := 10) hx hb hown (hts _ m_718) d_Model_spread_90 ?_
      refine lv_ldiv hx hb d_Model_spread_93 (by decide) ?_
      refine lv_topl (fun v93 e93 => ?_)
      have t93 : v93.toInt = ((lf / 10 : Nat) : Int) := by rw [e93]; exact (q_ldiv t_lft (show (10 : Int64).toInt = 10 by decide) (by omega)).trans (by omega)
      refine lv_lstore (lv' := [(7, .long v93), (9, .int x9), (6, .int x6), (0, .ref h0)]) hx hb d_Model_spread_94 hl (by decide) rfl (fun ls hl => ?_)
      obtain ⟨v96, e96⟩ : ∃ y : Int32, y = x9 + (-1) := ⟨_, rfl⟩
      have t96 : v96.toInt = 60 - (c9 : Int) + (-1) := by rw [e96]; exact q_iadd t_x9 (show ((-1) : Int32).toInt = (-1) by decide) (by omega)
      refine lv_iinc (v := v96) (lv' := [(9, .int v96), (7, .long v93), (6, .int x6), (0, .ref h0)]) hx hb d_Model_spread_96 hl (k := 1) rfl (by rw [e96]; rfl) (by decide) rfl (fun ls hl => ?_)
      refine lv_goto (tgt := 68) hx hb d_Model_spread_99 (by decide) ?_
      exact ih (x6) (v96) (c9 + 1) (v93) (lf / 10) (k85) (fi185) (la185) (n5) H locs ls (by omega) ((t96).trans (by omega)) ((t93).trans (by omega)) ((t_x6).trans (by omega)) (by exact t5) (by exact t6.trans rfl) (by exact hR85) (by rw [hv85, show 399 - (60 - c9) = 339 + c9 by omega, show 339 + (c9 + 1) = 339 + c9 + 1 by omega]; exact ld_step hv) (by intro j hj; rw [hko j (by omega)]; exact hkz j (by omega)) (by omega) (by exact ld_lt hc7 hlf) (va_Psub hP [0, 1] rfl) (hD.sub [0, 1] (by decide) rfl) hS (lv_sub hl [0, 1, 2, 3] rfl)
set_option maxHeartbeats 4000000 in
set_option maxRecDepth 100000 in
theorem L_Model_spread_60 {p : Program} {l : Launch} {e : Env} {s : State} {m : MethodId} {below : List Frame} {meth : Method} {c : Code} {dC : Nat → ClassId} {dI : Nat → Nat → Nat} {cI cB cJ : ClassId} {A : Nat → Prop} (h0 : Nat) (th : Int32) (we : Int32) (wm : Int32) (wy : Int32) (ra : Int32) (tA : Nat) (tn : Int32) (oA : Nat) (on : Int32) (rA : Nat) (fi : Int32) (la : Int32) (wA : Nat) (wf : Int32) (wl : Int32) (lo : Int32) (ov : Int32) (un : Int32) (aT : Int32) (mi : Int32) (ds : Int32) (dA : Nat) (a0 : Int32) (xp : Int32) (iA : Nat) (te : Int32) (E : Nat) (M : Nat) (f : Nat → Int32) (zq : Int64) (Z : Nat) (C0 : cx dC dI cI cB cJ R_Model b_Model_spread 10 none p s m ([.ref h0, .long zq] : List Value).toArray meth c) (hA : ∀ q : Nat, s.heap.size ≤ q → A q) (hL : LY we wm E M) (hZ : zq.toInt = (Z : Int)) (hZi : Z < iz E M) : (∀ (x6 : Int32) (m4 : Int64) (k : Nat → Int32) (H : Heap) (locs : List Loc) (ls : Array Slot), x6.toInt = pwr E M Z → m4.toInt = (sgf M Z : Int) → (∀ j, j < 400 → k j = 0) → va_P (dC, dI) vwCl [(h0, .inr (8, [.int th, .int we, .int wm, .int wy, .int ra, .ref tA, .int tn, .ref oA, .int on, .ref rA, .int 60, .int 60, .ref wA, .int wf, .int wl, .int lo, .int ov, .int un, .int aT, .int mi, .int ds, .ref dA, .int a0, .int xp, .ref iA, .int te])), (rA, .inl (cI, 400, .inl k))] H → va_D A [(h0, .inr (8, [.int th, .int we, .int wm, .int wy, .int ra, .ref tA, .int tn, .ref oA, .int on, .ref rA, .int 60, .int 60, .ref wA, .int wf, .int wl, .int lo, .int ov, .int un, .int aT, .int mi, .int ds, .ref dA, .int a0, .int xp, .ref iA, .int te])), (rA, .inl (cI, 400, .inl k))] → va_S A s.heap H locs → lv_has ls 10 [(6, .int x6), (4, .long m4), (0, .ref h0)] → W p l e ({ frames := 1, cells := 0, slots := 0, locals := 23 } : Room) s m ([.ref h0, .long zq] : List Value).toArray below meth c H locs 0 0 (MQ below (va_Qv (fun (u : (Nat → Int32) × (Int32) × (Int32)) => ∃ n3 n4 : Nat, u.2.1.toInt = (n3 : Int) ∧ u.2.2.toInt = (n4 : Int) ∧ RWp u.1 n3 n4 ∧ SPV E M Z (sv u.1 400) ∧ n4 ≤ 60 + (-(pwr E M Z)).toNat) (poG dC dI A (fun u : (Nat → Int32) × (Int32) × (Int32) => [(h0, .inr (8, [.int th, .int we, .int wm, .int wy, .int ra, .ref tA, .int tn, .ref oA, .int on, .ref rA, .int u.2.1, .int u.2.2, .ref wA, .int wf, .int wl, .int lo, .int ov, .int un, .int aT, .int mi, .int ds, .ref dA, .int a0, .int xp, .ref iA, .int te])), (rA, .inl (cI, 400, .inl u.1))])) A) ([.ref h0, .long zq] : List Value).toArray s 0 0 A) (F0 m 60 ls [])) := by
  obtain ⟨hx, hb, hml, hown, hts, hr, hlocks, hK, hN⟩ := id C0
  intro x6 m4 k H locs ls t_x6 t_m4 hk0 hP hD hS hl
  have r_x6 := q_r32 x6
  have r_m4 := q_r64 m4
  obtain ⟨he, hm, hE1, hE2, hM1, hM2⟩ := id hL
  have hbz := p_bias hE1 hE2
  have hem := p_em hE1 hE2 hM1 hM2
  have hiz := iz_sb E M
  have hpm := p_m hM2
  have hpm1 := pw_p M
  have hpe := p_e hE1 hE2
  have hbs := bsE_r hE1 hE2
  have hZs : Z < sb E M := by omega
  have hex := ex_lt hZs
  have hfz := fz_lt M Z
  have hpw := pwr_b E M Z
  have hpr := pwr_r hE1 hE2 hM1 hM2 hZs
  have hsg := sgf_lt (M := M) (Z := Z) hM2
  refine lv_lload hx hb d_Model_spread_60 (lv_at hl 1 rfl) ?_
  refine lv_lstore (lv' := [(7, .long m4), (6, .int x6), (4, .long m4), (0, .ref h0)]) hx hb d_Model_spread_62 hl (by decide) rfl (fun ls hl => ?_)
  refine lv_bipush (v := 60) hx hb d_Model_spread_64 (by decide) ?_
  refine lv_istore (lv' := [(9, .int 60), (7, .long m4), (6, .int x6), (4, .long m4), (0, .ref h0)]) hx hb d_Model_spread_66 hl (by decide) rfl (fun ls hl => ?_)
  have hwp := wiped hk0
  exact L_Model_spread_68 (h0) (th) (we) (wm) (wy) (ra) (tA) (tn) (oA) (on) (rA) (fi) (la) (wA) (wf) (wl) (lo) (ov) (un) (aT) (mi) (ds) (dA) (a0) (xp) (iA) (te) (E) (M) (f) (zq) (Z) C0 hA (hL) (hZ) (hZi) _ (x6) (60) (0) (m4) (sgf M Z) (k) (60) (60) (60) H locs ls (Nat.lt_succ_self _) (((show (60 : Int32).toInt = 60 by decide)).trans (by omega)) ((t_m4).trans (by omega)) ((t_x6).trans (by omega)) (by decide) (by decide) (by exact hwp.1) (by rw [hwp.2, Nat.zero_add, Nat.add_zero]) (by intro j hj; rw [hk0 j (by omega)]; rfl) (by omega) (by omega) (va_Psub hP [0, 1] rfl) (hD.sub [0, 1] (by decide) rfl) hS (lv_sub hl [0, 1, 2, 4] rfl)
set_option maxHeartbeats 4000000 in
set_option maxRecDepth 100000 in
theorem c_Model_spread (l : Launch) (dC : Nat → ClassId) (dI : Nat → Nat → Nat) (cI cB cJ : ClassId) (h0 : Nat) (th : Int32) (we : Int32) (wm : Int32) (wy : Int32) (ra : Int32) (tA : Nat) (tn : Int32) (oA : Nat) (on : Int32) (rA : Nat) (fi : Int32) (la : Int32) (wA : Nat) (wf : Int32) (wl : Int32) (lo : Int32) (ov : Int32) (un : Int32) (aT : Int32) (mi : Int32) (ds : Int32) (dA : Nat) (a0 : Int32) (xp : Int32) (iA : Nat) (te : Int32) (E : Nat) (M : Nat) (f : Nat → Int32) (zq : Int64) (Z : Nat) (hL : LY we wm E M) (hZ : zq.toInt = (Z : Int)) (hZi : Z < iz E M) : Cv l dC dI cI cB cJ y_Model_spread w_Model_spread ({ frames := 1, cells := 0, slots := 0, locals := 23 } : Room) [.ref h0, .long zq] [(h0, .inr (8, [.int th, .int we, .int wm, .int wy, .int ra, .ref tA, .int tn, .ref oA, .int on, .ref rA, .int fi, .int la, .ref wA, .int wf, .int wl, .int lo, .int ov, .int un, .int aT, .int mi, .int ds, .ref dA, .int a0, .int xp, .ref iA, .int te])), (rA, .inl (cI, 400, .inl f))] (fun (u : (Nat → Int32) × (Int32) × (Int32)) => ∃ n3 n4 : Nat, u.2.1.toInt = (n3 : Int) ∧ u.2.2.toInt = (n4 : Int) ∧ RWp u.1 n3 n4 ∧ SPV E M Z (sv u.1 400) ∧ n4 ≤ 60 + (-(pwr E M Z)).toNat) (fun u : (Nat → Int32) × (Int32) × (Int32) => [(h0, .inr (8, [.int th, .int we, .int wm, .int wy, .int ra, .ref tA, .int tn, .ref oA, .int on, .ref rA, .int u.2.1, .int u.2.2, .ref wA, .int wf, .int wl, .int lo, .int ov, .int un, .int aT, .int mi, .int ds, .ref dA, .int a0, .int xp, .ref iA, .int te])), (rA, .inl (cI, 400, .inl u.1))]) := by
  refine Cv.intro (cc := b_Model_spread) (maxL := 10) (plainFor_of_name (by decide)) rfl (Nat.le_of_ble_eq_true rfl) ?_
  intro p e s m below meth c A ls C0 hin hA hP hD hS hl
  obtain ⟨hx, hb, hml, hown, hts, hr, hlocks, hK, hN⟩ := id C0
  obtain ⟨H, hH⟩ : ∃ H, H = s.heap := ⟨_, rfl⟩
  have hP : va_P (dC, dI) vwCl [(h0, .inr (8, [.int th, .int we, .int wm, .int wy, .int ra, .ref tA, .int tn, .ref oA, .int on, .ref rA, .int fi, .int la, .ref wA, .int wf, .int wl, .int lo, .int ov, .int un, .int aT, .int mi, .int ds, .ref dA, .int a0, .int xp, .ref iA, .int te])), (rA, .inl (cI, 400, .inl f))] s.heap := hP
  have hl : lv_has ls 10 [(0, .ref h0), (1, .long zq)] := hl
  have r_zq := q_r64 zq
  suffices h : ∀ (H : Heap) (locs : List Loc), va_P (dC, dI) vwCl [(h0, .inr (8, [.int th, .int we, .int wm, .int wy, .int ra, .ref tA, .int tn, .ref oA, .int on, .ref rA, .int fi, .int la, .ref wA, .int wf, .int wl, .int lo, .int ov, .int un, .int aT, .int mi, .int ds, .ref dA, .int a0, .int xp, .ref iA, .int te])), (rA, .inl (cI, 400, .inl f))] H → va_D A [(h0, .inr (8, [.int th, .int we, .int wm, .int wy, .int ra, .ref tA, .int tn, .ref oA, .int on, .ref rA, .int fi, .int la, .ref wA, .int wf, .int wl, .int lo, .int ov, .int un, .int aT, .int mi, .int ds, .ref dA, .int a0, .int xp, .ref iA, .int te])), (rA, .inl (cI, 400, .inl f))] → va_S A s.heap H locs → W p l e ({ frames := 1, cells := 0, slots := 0, locals := 23 } : Room) s m ([.ref h0, .long zq] : List Value).toArray below meth c H locs 0 0 (MQ below (va_Qv (fun (u : (Nat → Int32) × (Int32) × (Int32)) => ∃ n3 n4 : Nat, u.2.1.toInt = (n3 : Int) ∧ u.2.2.toInt = (n4 : Int) ∧ RWp u.1 n3 n4 ∧ SPV E M Z (sv u.1 400) ∧ n4 ≤ 60 + (-(pwr E M Z)).toNat) (poG dC dI A (fun u : (Nat → Int32) × (Int32) × (Int32) => [(h0, .inr (8, [.int th, .int we, .int wm, .int wy, .int ra, .ref tA, .int tn, .ref oA, .int on, .ref rA, .int u.2.1, .int u.2.2, .ref wA, .int wf, .int wl, .int lo, .int ov, .int un, .int aT, .int mi, .int ds, .ref dA, .int a0, .int xp, .ref iA, .int te])), (rA, .inl (cI, 400, .inl u.1))])) A) ([.ref h0, .long zq] : List Value).toArray s 0 0 A) (F0 m 0 ls []) from h _ _ hP hD hS
  clear hP hD hS hH H
  intro H locs hP hD hS
  obtain ⟨he, hm, hE1, hE2, hM1, hM2⟩ := id hL
  have hbz := p_bias hE1 hE2
  have hem := p_em hE1 hE2 hM1 hM2
  have hiz := iz_sb E M
  have hpm := p_m hM2
  have hpm1 := pw_p M
  have hpe := p_e hE1 hE2
  have hbs := bsE_r hE1 hE2
  have hZs : Z < sb E M := by omega
  have hex := ex_lt hZs
  have hfz := fz_lt M Z
  have hpw := pwr_b E M Z
  have hpr := pwr_r hE1 hE2 hM1 hM2 hZs
  have hsg := sgf_lt (M := M) (Z := Z) hM2
  refine lv_aload_n hx hb d_Model_spread_0 rfl (lv_at hl 0 rfl) ?_
  refine callV_v (wr := []) C0 (c_Model_wipe l dC dI cI cB cJ (h0) (th) (we) (wm) (wy) (ra) (tA) (tn) (oA) (on) (rA) (fi) (la) (wA) (wf) (wl) (lo) (ov) (un) (aT) (mi) (ds) (dA) (a0) (xp) (iA) (te) (f)) (cwV 0 hts (gV m_675 m_676 m_28 m_55 m_677) rfl rfl rfl (by decide +kernel) ⟨Nat.le_of_ble_eq_true rfl, Nat.le_of_ble_eq_true rfl⟩) 8 rfl rfl 0 rfl hP hD hS hA [0, 1] [] rfl rfl (by decide) (by decide) (by decide) rfl hl.1 rfl (Nat.le_of_ble_eq_true rfl) d_Model_spread_1 ⟨Nat.le_of_ble_eq_true rfl, Nat.le_of_ble_eq_true rfl⟩ (fun k1 H locs hw9 hP hD hS => ?_)
  have h1 : (∀ j, j < 400 → k1 j = 0) := hw9
  have hP : va_P (dC, dI) vwCl [(h0, .inr (8, [.int th, .int we, .int wm, .int wy, .int ra, .ref tA, .int tn, .ref oA, .int on, .ref rA, .int 60, .int 60, .ref wA, .int wf, .int wl, .int lo, .int ov, .int un, .int aT, .int mi, .int ds, .ref dA, .int a0, .int xp, .ref iA, .int te])), (rA, .inl (cI, 400, .inl k1))] H := hP
  have hD : va_D A [(h0, .inr (8, [.int th, .int we, .int wm, .int wy, .int ra, .ref tA, .int tn, .ref oA, .int on, .ref rA, .int 60, .int 60, .ref wA, .int wf, .int wl, .int lo, .int ov, .int un, .int aT, .int mi, .int ds, .ref dA, .int a0, .int xp, .ref iA, .int te])), (rA, .inl (cI, 400, .inl k1))] := hD
  refine lv_lload_n hx hb d_Model_spread_4 rfl (lv_at hl 1 rfl) ?_
  refine lv_aload_n hx hb d_Model_spread_5 rfl (lv_at hl 0 rfl) ?_
  refine va_get (D := (dC, dI)) (ci := 8) (v := .int wm) (C := R_Model) (T := F_Model) (N := 26) hx hb hts u_Model hown hK hP 0 rfl rfl 2 (by decide) (hts _ m_565) (fun _ h9 => h9) rfl d_Model_spread_6 ?_
  refine lv_lshr hx hb d_Model_spread_9 rfl ?_
  refine lv_topl (fun v9 e9 => ?_)
  have t9 : v9.toInt = ((ex M Z : Nat) : Int) := by rw [e9]; exact q_lshr hZ hm (by omega)
  refine lv_l2i hx hb d_Model_spread_10 rfl ?_
  refine lv_topi (fun v10 e10 => ?_)
  have t10 : v10.toInt = ((ex M Z : Nat) : Int) := by rw [e10]; exact q_l2i t9 (by omega)
  refine lv_istore_n (lv' := [(3, .int v10), (0, .ref h0), (1, .long zq)]) hx hb d_Model_spread_11 rfl hl (by decide) rfl (fun ls hl => ?_)
  refine lv_lload_n hx hb d_Model_spread_12 rfl (lv_at hl 2 rfl) ?_
  refine lv_lconst (v := 1) hx hb d_Model_spread_13 (by decide) ?_
  refine lv_aload_n hx hb d_Model_spread_14 rfl (lv_at hl 1 rfl) ?_
  refine va_get (D := (dC, dI)) (ci := 8) (v := .int wm) (C := R_Model) (T := F_Model) (N := 26) hx hb hts u_Model hown hK hP 0 rfl rfl 2 (by decide) (hts _ m_565) (fun _ h9 => h9) rfl d_Model_spread_15 ?_
  refine lv_lshl hx hb d_Model_spread_18 rfl ?_
  refine lv_topl (fun v18 e18 => ?_)
  have t18 : v18.toInt = ((2 ^ M : Nat) : Int) := by rw [e18, ← Nat.one_mul (2 ^ M)]; exact q_lshl (a := 1) (by decide) hm (by omega) (by omega)
  refine lv_lconst (v := 1) hx hb d_Model_spread_19 (by decide) ?_
  refine lv_lsub hx hb d_Model_spread_20 ?_
  refine lv_topl (fun v20 e20 => ?_)
  have t20 : v20.toInt = (((2 ^ M : Nat) : Int)) - 1 := by rw [e20]; exact q_lsub t18 (show (1 : Int64).toInt = 1 by decide) (by omega)
  refine lv_land hx hb d_Model_spread_21 ?_
  refine lv_topl (fun v21 e21 => ?_)
  have t21 : v21.toInt = ((fz M Z : Nat) : Int) := by rw [e21]; exact q_land (k := M) hZ (t20.trans (by omega))
  refine lv_iload_n hx hb d_Model_spread_22 rfl (lv_at hl 0 rfl) ?_
  refine lv_if_le (tgt := 35) hx hb d_Model_spread_23 (by decide) (fun b23 => ?_) (fun b23 => ?_)
  · skip
    rw [q_ile t10 (show (0 : Int32).toInt = 0 by decide)] at b23
    refine lv_lconst (v := 0) hx hb d_Model_spread_35 (by decide) ?_
    refine lv_ladd hx hb d_Model_spread_36 ?_
    refine lv_topl (fun v36 e36 => ?_)
    have t36 : v36.toInt = (((fz M Z : Nat) : Int)) + 0 := by rw [e36]; exact q_ladd t21 (show (0 : Int64).toInt = 0 by decide) (by omega)
    refine lv_lstore (lv' := [(4, .long v36), (3, .int v10), (0, .ref h0), (1, .long zq)]) hx hb d_Model_spread_37 hl (by decide) rfl (fun ls hl => ?_)
    refine lv_iload_n hx hb d_Model_spread_39 rfl (lv_at hl 1 rfl) ?_
    refine lv_if_le (tgt := 47) hx hb d_Model_spread_40 (by decide) (fun b40 => ?_) (fun b40 => ?_)
    · skip
      rw [q_ile t10 (show (0 : Int32).toInt = 0 by decide)] at b40
      refine lv_iconst (v := 1) hx hb d_Model_spread_47 (by decide) ?_
      refine lv_aload_n hx hb d_Model_spread_48 rfl (lv_at hl 2 rfl) ?_
      refine callV_i (wr := [(rA, .inl (cI, 400, .inl k1))]) C0 (c_Model_bias l dC dI cI cB cJ (h0) (th) (we) (wm) (wy) (ra) (tA) (tn) (oA) (on) (rA) ((60 : Int32)) ((60 : Int32)) (wA) (wf) (wl) (lo) (ov) (un) (aT) (mi) (ds) (dA) (a0) (xp) (iA) (te) (E) (M) (by exact hL)) (cwV 0 hts (gV m_669 m_670 m_26 m_55 m_671) rfl rfl rfl (by decide +kernel) ⟨Nat.le_of_ble_eq_true rfl, Nat.le_of_ble_eq_true rfl⟩) 8 rfl rfl 0 rfl hP hD hS hA [0] [1] rfl rfl (by decide) (by decide) (by decide) rfl hl.1 rfl (Nat.le_of_ble_eq_true rfl) d_Model_spread_49 ⟨Nat.le_of_ble_eq_true rfl, Nat.le_of_ble_eq_true rfl⟩ (fun r49 u49 H locs hw9 hP hD hS => ?_)
      have h49 : r49.toInt = ((2 ^ (E - 1) - 1 : Nat) : Int) := hw9
      have hP : va_P (dC, dI) vwCl [(rA, .inl (cI, 400, .inl k1)), (h0, .inr (8, [.int th, .int we, .int wm, .int wy, .int ra, .ref tA, .int tn, .ref oA, .int on, .ref rA, .int 60, .int 60, .ref wA, .int wf, .int wl, .int lo, .int ov, .int un, .int aT, .int mi, .int ds, .ref dA, .int a0, .int xp, .ref iA, .int te]))] H := hP
      have hD : va_D A [(rA, .inl (cI, 400, .inl k1)), (h0, .inr (8, [.int th, .int we, .int wm, .int wy, .int ra, .ref tA, .int tn, .ref oA, .int on, .ref rA, .int 60, .int 60, .ref wA, .int wf, .int wl, .int lo, .int ov, .int un, .int aT, .int mi, .int ds, .ref dA, .int a0, .int xp, .ref iA, .int te]))] := hD
      have t49 : r49.toInt = (bsE E : Int) := h49
      refine lv_isub hx hb d_Model_spread_52 ?_
      refine lv_topi (fun v52 e52 => ?_)
      have t52 : v52.toInt = 1 - (bsE E : Int) := by rw [e52]; exact q_isub (show (1 : Int32).toInt = 1 by decide) t49 (by omega)
      refine lv_aload_n hx hb d_Model_spread_53 rfl (lv_at hl 2 rfl) ?_
      refine va_get (D := (dC, dI)) (ci := 8) (v := .int wm) (C := R_Model) (T := F_Model) (N := 26) hx hb hts u_Model hown hK hP 1 rfl rfl 2 (by decide) (hts _ m_565) (fun _ h9 => h9) rfl d_Model_spread_54 ?_
      refine lv_isub hx hb d_Model_spread_57 ?_
      refine lv_topi (fun v57 e57 => ?_)
      have t57 : v57.toInt = (1 - (bsE E : Int)) - (M : Int) := by rw [e57]; exact q_isub t52 hm (by omega)
      refine lv_istore (lv' := [(6, .int v57), (4, .long v36), (3, .int v10), (0, .ref h0), (1, .long zq)]) hx hb d_Model_spread_58 hl (by decide) rfl (fun ls hl => ?_)
      exact L_Model_spread_60 (h0) (th) (we) (wm) (wy) (ra) (tA) (tn) (oA) (on) (rA) (fi) (la) (wA) (wf) (wl) (lo) (ov) (un) (aT) (mi) (ds) (dA) (a0) (xp) (iA) (te) (E) (M) (f) (zq) (Z) C0 hA (hL) (hZ) (hZi) (v57) (v36) (k1) H locs ls (t57.trans (by omega)) (t36.trans (by rw [sgf_0 (by omega)]; omega)) (by exact h1) (va_Psub hP [1, 0] rfl) (hD.sub [1, 0] (by decide) rfl) hS (lv_sub hl [0, 1, 3] rfl)
    · skip
      rw [q_ile t10 (show (0 : Int32).toInt = 0 by decide)] at b40
      exact absurd b40 (by omega)
  · skip
    rw [q_ile t10 (show (0 : Int32).toInt = 0 by decide)] at b23
    refine lv_lconst (v := 1) hx hb d_Model_spread_26 (by decide) ?_
    refine lv_aload_n hx hb d_Model_spread_27 rfl (lv_at hl 1 rfl) ?_
    refine va_get (D := (dC, dI)) (ci := 8) (v := .int wm) (C := R_Model) (T := F_Model) (N := 26) hx hb hts u_Model hown hK hP 0 rfl rfl 2 (by decide) (hts _ m_565) (fun _ h9 => h9) rfl d_Model_spread_28 ?_
    refine lv_lshl hx hb d_Model_spread_31 rfl ?_
    refine lv_topl (fun v31 e31 => ?_)
    have t31 : v31.toInt = ((2 ^ M : Nat) : Int) := by rw [e31, ← Nat.one_mul (2 ^ M)]; exact q_lshl (a := 1) (by decide) hm (by omega) (by omega)
    refine lv_goto (tgt := 36) hx hb d_Model_spread_32 (by decide) ?_
    refine lv_ladd hx hb d_Model_spread_36 ?_
    refine lv_topl (fun v36 e36 => ?_)
    have t36 : v36.toInt = (((fz M Z : Nat) : Int)) + (((2 ^ M : Nat) : Int)) := by rw [e36]; exact q_ladd t21 t31 (by omega)
    refine lv_lstore (lv' := [(4, .long v36), (3, .int v10), (0, .ref h0), (1, .long zq)]) hx hb d_Model_spread_37 hl (by decide) rfl (fun ls hl => ?_)
    refine lv_iload_n hx hb d_Model_spread_39 rfl (lv_at hl 1 rfl) ?_
    refine lv_if_le (tgt := 47) hx hb d_Model_spread_40 (by decide) (fun b40 => ?_) (fun b40 => ?_)
    · skip
      rw [q_ile t10 (show (0 : Int32).toInt = 0 by decide)] at b40
      exact absurd b40 (by omega)
    · skip
      rw [q_ile t10 (show (0 : Int32).toInt = 0 by decide)] at b40
      refine lv_iload_n hx hb d_Model_spread_43 rfl (lv_at hl 1 rfl) ?_
      refine lv_goto (tgt := 48) hx hb d_Model_spread_44 (by decide) ?_
      refine lv_aload_n hx hb d_Model_spread_48 rfl (lv_at hl 2 rfl) ?_
      refine callV_i (wr := [(rA, .inl (cI, 400, .inl k1))]) C0 (c_Model_bias l dC dI cI cB cJ (h0) (th) (we) (wm) (wy) (ra) (tA) (tn) (oA) (on) (rA) ((60 : Int32)) ((60 : Int32)) (wA) (wf) (wl) (lo) (ov) (un) (aT) (mi) (ds) (dA) (a0) (xp) (iA) (te) (E) (M) (by exact hL)) (cwV 0 hts (gV m_669 m_670 m_26 m_55 m_671) rfl rfl rfl (by decide +kernel) ⟨Nat.le_of_ble_eq_true rfl, Nat.le_of_ble_eq_true rfl⟩) 8 rfl rfl 0 rfl hP hD hS hA [0] [1] rfl rfl (by decide) (by decide) (by decide) rfl hl.1 rfl (Nat.le_of_ble_eq_true rfl) d_Model_spread_49 ⟨Nat.le_of_ble_eq_true rfl, Nat.le_of_ble_eq_true rfl⟩ (fun r49 u49 H locs hw9 hP hD hS => ?_)
      have h49 : r49.toInt = ((2 ^ (E - 1) - 1 : Nat) : Int) := hw9
      have hP : va_P (dC, dI) vwCl [(rA, .inl (cI, 400, .inl k1)), (h0, .inr (8, [.int th, .int we, .int wm, .int wy, .int ra, .ref tA, .int tn, .ref oA, .int on, .ref rA, .int 60, .int 60, .ref wA, .int wf, .int wl, .int lo, .int ov, .int un, .int aT, .int mi, .int ds, .ref dA, .int a0, .int xp, .ref iA, .int te]))] H := hP
      have hD : va_D A [(rA, .inl (cI, 400, .inl k1)), (h0, .inr (8, [.int th, .int we, .int wm, .int wy, .int ra, .ref tA, .int tn, .ref oA, .int on, .ref rA, .int 60, .int 60, .ref wA, .int wf, .int wl, .int lo, .int ov, .int un, .int aT, .int mi, .int ds, .ref dA, .int a0, .int xp, .ref iA, .int te]))] := hD
      have t49 : r49.toInt = (bsE E : Int) := h49
      refine lv_isub hx hb d_Model_spread_52 ?_
      refine lv_topi (fun v52 e52 => ?_)
      have t52 : v52.toInt = (((ex M Z : Nat) : Int)) - (bsE E : Int) := by rw [e52]; exact q_isub t10 t49 (by omega)
      refine lv_aload_n hx hb d_Model_spread_53 rfl (lv_at hl 2 rfl) ?_
      refine va_get (D := (dC, dI)) (ci := 8) (v := .int wm) (C := R_Model) (T := F_Model) (N := 26) hx hb hts u_Model hown hK hP 1 rfl rfl 2 (by decide) (hts _ m_565) (fun _ h9 => h9) rfl d_Model_spread_54 ?_
      refine lv_isub hx hb d_Model_spread_57 ?_
      refine lv_topi (fun v57 e57 => ?_)
      have t57 : v57.toInt = ((((ex M Z : Nat) : Int)) - (bsE E : Int)) - (M : Int) := by rw [e57]; exact q_isub t52 hm (by omega)
      refine lv_istore (lv' := [(6, .int v57), (4, .long v36), (3, .int v10), (0, .ref h0), (1, .long zq)]) hx hb d_Model_spread_58 hl (by decide) rfl (fun ls hl => ?_)
      exact L_Model_spread_60 (h0) (th) (we) (wm) (wy) (ra) (tA) (tn) (oA) (on) (rA) (fi) (la) (wA) (wf) (wl) (lo) (ov) (un) (aT) (mi) (ds) (dA) (a0) (xp) (iA) (te) (E) (M) (f) (zq) (Z) C0 hA (hL) (hZ) (hZi) (v57) (v36) (k1) H locs ls (t57.trans (by omega)) (t36.trans (by rw [sgf_1 (by omega)]; omega)) (by exact h1) (va_Psub hP [1, 0] rfl) (hD.sub [1, 0] (by decide) rfl) hS (lv_sub hl [0, 1, 3] rfl)
set_option maxHeartbeats 4000000 in
set_option maxRecDepth 100000 in
theorem c_Model_isStrange (l : Launch) (dC : Nat → ClassId) (dI : Nat → Nat → Nat) (cI cB cJ : ClassId) (h0 : Nat) (th : Int32) (we : Int32) (wm : Int32) (wy : Int32) (ra : Int32) (tA : Nat) (tn : Int32) (oA : Nat) (on : Int32) (rA : Nat) (fi : Int32) (la : Int32) (wA : Nat) (wf : Int32) (wl : Int32) (lo : Int32) (ov : Int32) (un : Int32) (aT : Int32) (mi : Int32) (ds : Int32) (dA : Nat) (a0 : Int32) (xp : Int32) (iA : Nat) (te : Int32) (E : Nat) (M : Nat) (f : Nat → Int32) (x : Int64) (hL : LY we wm E M) (hpat : isPat E M x.toInt) : Ci l dC dI cI cB cJ y_Model_isStrange w_Model_isStrange ({ frames := 2, cells := 0, slots := 0, locals := 44 } : Room) [.ref h0, .long x] [(h0, .inr (8, [.int th, .int we, .int wm, .int wy, .int ra, .ref tA, .int tn, .ref oA, .int on, .ref rA, .int fi, .int la, .ref wA, .int wf, .int wl, .int lo, .int ov, .int un, .int aT, .int mi, .int ds, .ref dA, .int a0, .int xp, .ref iA, .int te])), (oA, .inl (cI, 300, .inl f))] (fun (r : Int32) (u : (Nat → Int32) × (Int32)) => (r = 0 ∧ szo E M x.toInt.toNat < iz E M ∧ TL u.1 u.2 (sgW E M x.toInt)) ∨ (r = 1 ∧ iz E M ≤ szo E M x.toInt.toNat ∧ TL u.1 u.2 (nfW E M x.toInt))) (fun u : (Nat → Int32) × (Int32) => [(h0, .inr (8, [.int th, .int we, .int wm, .int wy, .int ra, .ref tA, .int tn, .ref oA, .int u.2, .ref rA, .int fi, .int la, .ref wA, .int wf, .int wl, .int lo, .int ov, .int un, .int aT, .int mi, .int ds, .ref dA, .int a0, .int xp, .ref iA, .int te])), (oA, .inl (cI, 300, .inl u.1))]) := by
  refine Ci.intro (cc := b_Model_isStrange) (maxL := 5) (plainFor_of_name (by decide)) rfl (Nat.le_of_ble_eq_true rfl) ?_
  intro p e s m below meth c A ls C0 hin hA hP hD hS hl
  obtain ⟨hx, hb, hml, hown, hts, hr, hlocks, hK, hN⟩ := id C0
  obtain ⟨H, hH⟩ : ∃ H, H = s.heap := ⟨_, rfl⟩
  have hP : va_P (dC, dI) vwCl [(h0, .inr (8, [.int th, .int we, .int wm, .int wy, .int ra, .ref tA, .int tn, .ref oA, .int on, .ref rA, .int fi, .int la, .ref wA, .int wf, .int wl, .int lo, .int ov, .int un, .int aT, .int mi, .int ds, .ref dA, .int a0, .int xp, .ref iA, .int te])), (oA, .inl (cI, 300, .inl f))] s.heap := hP
  have hl : lv_has ls 5 [(0, .ref h0), (1, .long x)] := hl
  have r_x := q_r64 x
  suffices h : ∀ (H : Heap) (locs : List Loc), va_P (dC, dI) vwCl [(h0, .inr (8, [.int th, .int we, .int wm, .int wy, .int ra, .ref tA, .int tn, .ref oA, .int on, .ref rA, .int fi, .int la, .ref wA, .int wf, .int wl, .int lo, .int ov, .int un, .int aT, .int mi, .int ds, .ref dA, .int a0, .int xp, .ref iA, .int te])), (oA, .inl (cI, 300, .inl f))] H → va_D A [(h0, .inr (8, [.int th, .int we, .int wm, .int wy, .int ra, .ref tA, .int tn, .ref oA, .int on, .ref rA, .int fi, .int la, .ref wA, .int wf, .int wl, .int lo, .int ov, .int un, .int aT, .int mi, .int ds, .ref dA, .int a0, .int xp, .ref iA, .int te])), (oA, .inl (cI, 300, .inl f))] → va_S A s.heap H locs → W p l e ({ frames := 2, cells := 0, slots := 0, locals := 44 } : Room) s m ([.ref h0, .long x] : List Value).toArray below meth c H locs 0 0 (MQ below (va_Qi (fun (r : Int32) (u : (Nat → Int32) × (Int32)) => (r = 0 ∧ szo E M x.toInt.toNat < iz E M ∧ TL u.1 u.2 (sgW E M x.toInt)) ∨ (r = 1 ∧ iz E M ≤ szo E M x.toInt.toNat ∧ TL u.1 u.2 (nfW E M x.toInt))) (poG dC dI A (fun u : (Nat → Int32) × (Int32) => [(h0, .inr (8, [.int th, .int we, .int wm, .int wy, .int ra, .ref tA, .int tn, .ref oA, .int u.2, .ref rA, .int fi, .int la, .ref wA, .int wf, .int wl, .int lo, .int ov, .int un, .int aT, .int mi, .int ds, .ref dA, .int a0, .int xp, .ref iA, .int te])), (oA, .inl (cI, 300, .inl u.1))])) A) ([.ref h0, .long x] : List Value).toArray s 0 0 A) (F0 m 0 ls []) from h _ _ hP hD hS
  clear hP hD hS hH H
  intro H locs hP hD hS
  obtain ⟨he, hm, hE1, hE2, hM1, hM2⟩ := id hL
  have hbz := p_bias hE1 hE2
  have hem := p_em hE1 hE2 hM1 hM2
  have hiz := iz_sb E M
  have hpm := p_m hM2
  have hpm1 := pw_p M
  have hpe := p_e hE1 hE2
  refine lv_aload_n hx hb d_Model_isStrange_0 rfl (lv_at hl 0 rfl) ?_
  refine lv_iconst (v := 0) hx hb d_Model_isStrange_1 (by decide) ?_
  refine va_put (D := (dC, dI)) (ci := 8) (v := .int 0) (ty := .int) (C := R_Model) (T := F_Model) (N := 26) hx hb hts u_Model t_Model t_Model_ok n_Model hown hK hP hD hS 0 rfl rfl 8 (by decide) (hts _ m_571) (fun _ h9 => h9) rfl (by decide +kernel) rfl rfl (Nat.le_of_ble_eq_true rfl) d_Model_isStrange_2 (fun H locs hP hD hS => ?_)
  have hP : va_P (dC, dI) vwCl [(h0, .inr (8, [.int th, .int we, .int wm, .int wy, .int ra, .ref tA, .int tn, .ref oA, .int 0, .ref rA, .int fi, .int la, .ref wA, .int wf, .int wl, .int lo, .int ov, .int un, .int aT, .int mi, .int ds, .ref dA, .int a0, .int xp, .ref iA, .int te])), (oA, .inl (cI, 300, .inl f))] H := hP
  have hD : va_D A [(h0, .inr (8, [.int th, .int we, .int wm, .int wy, .int ra, .ref tA, .int tn, .ref oA, .int 0, .ref rA, .int fi, .int la, .ref wA, .int wf, .int wl, .int lo, .int ov, .int un, .int aT, .int mi, .int ds, .ref dA, .int a0, .int xp, .ref iA, .int te])), (oA, .inl (cI, 300, .inl f))] := hD
  refine lv_aload_n hx hb d_Model_isStrange_5 rfl (lv_at hl 0 rfl) ?_
  refine lv_lload_n hx hb d_Model_isStrange_6 rfl (lv_at hl 1 rfl) ?_
  refine callV_l (wr := [(oA, .inl (cI, 300, .inl f))]) C0 (c_Model_sizeOf l dC dI cI cB cJ (h0) (th) (we) (wm) (wy) (ra) (tA) (tn) (oA) ((0 : Int32)) (rA) (fi) (la) (wA) (wf) (wl) (lo) (ov) (un) (aT) (mi) (ds) (dA) (a0) (xp) (iA) (te) (E) (M) (x) (x.toInt.toNat) (by exact hL) (by exact (Int.toNat_of_nonneg hpat.1).symm)) (cwV 1 hts (gV m_706 m_707 m_37 m_55 m_708) rfl rfl rfl (by decide +kernel) ⟨Nat.le_of_ble_eq_true rfl, Nat.le_of_ble_eq_true rfl⟩) 8 rfl rfl 0 rfl hP hD hS hA [0] [1] rfl rfl (by decide) (by decide) (by decide) rfl hl.1 rfl (Nat.le_of_ble_eq_true rfl) d_Model_isStrange_7 ⟨Nat.le_of_ble_eq_true rfl, Nat.le_of_ble_eq_true rfl⟩ (fun r7 u7 H locs hw9 hP hD hS => ?_)
  have h7 : r7.toInt = ((szo E M x.toInt.toNat : Nat) : Int) := hw9
  have hP : va_P (dC, dI) vwCl [(oA, .inl (cI, 300, .inl f)), (h0, .inr (8, [.int th, .int we, .int wm, .int wy, .int ra, .ref tA, .int tn, .ref oA, .int 0, .ref rA, .int fi, .int la, .ref wA, .int wf, .int wl, .int lo, .int ov, .int un, .int aT, .int mi, .int ds, .ref dA, .int a0, .int xp, .ref iA, .int te]))] H := hP
  have hD : va_D A [(oA, .inl (cI, 300, .inl f)), (h0, .inr (8, [.int th, .int we, .int wm, .int wy, .int ra, .ref tA, .int tn, .ref oA, .int 0, .ref rA, .int fi, .int la, .ref wA, .int wf, .int wl, .int lo, .int ov, .int un, .int aT, .int mi, .int ds, .ref dA, .int a0, .int xp, .ref iA, .int te]))] := hD
  have t7 : r7.toInt = ((szo E M x.toInt.toNat : Nat) : Int) := h7
  refine lv_lstore_n (lv' := [(3, .long r7), (0, .ref h0), (1, .long x)]) hx hb d_Model_isStrange_10 rfl hl (by decide) rfl (fun ls hl => ?_)
  refine lv_lload_n hx hb d_Model_isStrange_11 rfl (lv_at hl 0 rfl) ?_
  refine lv_aload_n hx hb d_Model_isStrange_12 rfl (lv_at hl 1 rfl) ?_
  refine callV_l (wr := [(oA, .inl (cI, 300, .inl f))]) C0 (c_Model_beyond l dC dI cI cB cJ (h0) (th) (we) (wm) (wy) (ra) (tA) (tn) (oA) ((0 : Int32)) (rA) (fi) (la) (wA) (wf) (wl) (lo) (ov) (un) (aT) (mi) (ds) (dA) (a0) (xp) (iA) (te) (E) (M) (by exact hL)) (cwV 0 hts (gV m_672 m_673 m_27 m_55 m_674) rfl rfl rfl (by decide +kernel) ⟨Nat.le_of_ble_eq_true rfl, Nat.le_of_ble_eq_true rfl⟩) 8 rfl rfl 0 rfl hP hD hS hA [1] [0] rfl rfl (by decide) (by decide) (by decide) rfl hl.1 rfl (Nat.le_of_ble_eq_true rfl) d_Model_isStrange_13 ⟨Nat.le_of_ble_eq_true rfl, Nat.le_of_ble_eq_true rfl⟩ (fun r13 u13 H locs hw9 hP hD hS => ?_)
  have h13 : r13.toInt = ((iz E M : Nat) : Int) := hw9
  have hP : va_P (dC, dI) vwCl [(oA, .inl (cI, 300, .inl f)), (h0, .inr (8, [.int th, .int we, .int wm, .int wy, .int ra, .ref tA, .int tn, .ref oA, .int 0, .ref rA, .int fi, .int la, .ref wA, .int wf, .int wl, .int lo, .int ov, .int un, .int aT, .int mi, .int ds, .ref dA, .int a0, .int xp, .ref iA, .int te]))] H := hP
  have hD : va_D A [(oA, .inl (cI, 300, .inl f)), (h0, .inr (8, [.int th, .int we, .int wm, .int wy, .int ra, .ref tA, .int tn, .ref oA, .int 0, .ref rA, .int fi, .int la, .ref wA, .int wf, .int wl, .int lo, .int ov, .int un, .int aT, .int mi, .int ds, .ref dA, .int a0, .int xp, .ref iA, .int te]))] := hD
  have t13 : r13.toInt = ((iz E M : Nat) : Int) := h13
  refine W.lcmp hx hb d_Model_isStrange_16 ?_
  refine lv_if_ge (tgt := 36) hx hb d_Model_isStrange_17 (by decide) (fun b17 => ?_) (fun b17 => ?_)
  · skip
    rw [q_cmp_ge t7 t13] at b17
    refine lv_lload_n hx hb d_Model_isStrange_36 rfl (lv_at hl 0 rfl) ?_
    refine lv_aload_n hx hb d_Model_isStrange_37 rfl (lv_at hl 1 rfl) ?_
    refine callV_l (wr := [(oA, .inl (cI, 300, .inl f))]) C0 (c_Model_beyond l dC dI cI cB cJ (h0) (th) (we) (wm) (wy) (ra) (tA) (tn) (oA) ((0 : Int32)) (rA) (fi) (la) (wA) (wf) (wl) (lo) (ov) (un) (aT) (mi) (ds) (dA) (a0) (xp) (iA) (te) (E) (M) (by exact hL)) (cwV 0 hts (gV m_672 m_673 m_27 m_55 m_674) rfl rfl rfl (by decide +kernel) ⟨Nat.le_of_ble_eq_true rfl, Nat.le_of_ble_eq_true rfl⟩) 8 rfl rfl 0 rfl hP hD hS hA [1] [0] rfl rfl (by decide) (by decide) (by decide) rfl hl.1 rfl (Nat.le_of_ble_eq_true rfl) d_Model_isStrange_38 ⟨Nat.le_of_ble_eq_true rfl, Nat.le_of_ble_eq_true rfl⟩ (fun r38 u38 H locs hw9 hP hD hS => ?_)
    have h38 : r38.toInt = ((iz E M : Nat) : Int) := hw9
    have hP : va_P (dC, dI) vwCl [(oA, .inl (cI, 300, .inl f)), (h0, .inr (8, [.int th, .int we, .int wm, .int wy, .int ra, .ref tA, .int tn, .ref oA, .int 0, .ref rA, .int fi, .int la, .ref wA, .int wf, .int wl, .int lo, .int ov, .int un, .int aT, .int mi, .int ds, .ref dA, .int a0, .int xp, .ref iA, .int te]))] H := hP
    have hD : va_D A [(oA, .inl (cI, 300, .inl f)), (h0, .inr (8, [.int th, .int we, .int wm, .int wy, .int ra, .ref tA, .int tn, .ref oA, .int 0, .ref rA, .int fi, .int la, .ref wA, .int wf, .int wl, .int lo, .int ov, .int un, .int aT, .int mi, .int ds, .ref dA, .int a0, .int xp, .ref iA, .int te]))] := hD
    have t38 : r38.toInt = ((iz E M : Nat) : Int) := h38
    refine W.lcmp hx hb d_Model_isStrange_41 ?_
    refine lv_if_le (tgt := 65) hx hb d_Model_isStrange_42 (by decide) (fun b42 => ?_) (fun b42 => ?_)
    · skip
      rw [q_cmp_le t7 t38] at b42
      refine lv_aload_n hx hb d_Model_isStrange_65 rfl (lv_at hl 1 rfl) ?_
      refine lv_lload_n hx hb d_Model_isStrange_66 rfl (lv_at hl 2 rfl) ?_
      refine callV_i (wr := [(oA, .inl (cI, 300, .inl f))]) C0 (c_Model_isBelow l dC dI cI cB cJ (h0) (th) (we) (wm) (wy) (ra) (tA) (tn) (oA) ((0 : Int32)) (rA) (fi) (la) (wA) (wf) (wl) (lo) (ov) (un) (aT) (mi) (ds) (dA) (a0) (xp) (iA) (te) (E) (M) (x) (x.toInt.toNat) (by exact hL) (by exact (Int.toNat_of_nonneg hpat.1).symm)) (cwV 1 hts (gV m_709 m_710 m_38 m_55 m_711) rfl rfl rfl (by decide +kernel) ⟨Nat.le_of_ble_eq_true rfl, Nat.le_of_ble_eq_true rfl⟩) 8 rfl rfl 0 rfl hP hD hS hA [1] [0] rfl rfl (by decide) (by decide) (by decide) rfl hl.1 rfl (Nat.le_of_ble_eq_true rfl) d_Model_isStrange_67 ⟨Nat.le_of_ble_eq_true rfl, Nat.le_of_ble_eq_true rfl⟩ (fun r67 u67 H locs hw9 hP hD hS => ?_)
      have h67 : r67 = if szo E M x.toInt.toNat = x.toInt.toNat then 0 else 1 := hw9
      have hP : va_P (dC, dI) vwCl [(oA, .inl (cI, 300, .inl f)), (h0, .inr (8, [.int th, .int we, .int wm, .int wy, .int ra, .ref tA, .int tn, .ref oA, .int 0, .ref rA, .int fi, .int la, .ref wA, .int wf, .int wl, .int lo, .int ov, .int un, .int aT, .int mi, .int ds, .ref dA, .int a0, .int xp, .ref iA, .int te]))] H := hP
      have hD : va_D A [(oA, .inl (cI, 300, .inl f)), (h0, .inr (8, [.int th, .int we, .int wm, .int wy, .int ra, .ref tA, .int tn, .ref oA, .int 0, .ref rA, .int fi, .int la, .ref wA, .int wf, .int wl, .int lo, .int ov, .int un, .int aT, .int mi, .int ds, .ref dA, .int a0, .int xp, .ref iA, .int te]))] := hD
      refine lv_if_eq (tgt := 79) hx hb d_Model_isStrange_70 (by decide) (fun b70 => ?_) (fun b70 => ?_)
      · skip
        refine lv_aload_n hx hb d_Model_isStrange_79 rfl (lv_at hl 1 rfl) ?_
        refine lv_bipush (v := 105) hx hb d_Model_isStrange_80 (by decide) ?_
        refine callV_v (wr := []) C0 (c_Model_say l dC dI cI cB cJ (h0) (th) (we) (wm) (wy) (ra) (tA) (tn) (oA) ((0 : Int32)) (rA) (fi) (la) (wA) (wf) (wl) (lo) (ov) (un) (aT) (mi) (ds) (dA) (a0) (xp) (iA) (te) (f) (([] : List Nat)) ((105 : Int32)) ((105 : Nat)) (by exact TL_nil f) (by decide) (by decide)) (cwV 1 hts (gV m_712 m_713 m_39 m_55 m_714) rfl rfl rfl (by decide +kernel) ⟨Nat.le_of_ble_eq_true rfl, Nat.le_of_ble_eq_true rfl⟩) 8 rfl rfl 0 rfl hP hD hS hA [1, 0] [] rfl rfl (by decide) (by decide) (by decide) rfl hl.1 rfl (Nat.le_of_ble_eq_true rfl) d_Model_isStrange_82 ⟨Nat.le_of_ble_eq_true rfl, Nat.le_of_ble_eq_true rfl⟩ (fun u82 H locs hw9 hP hD hS => ?_)
        obtain ⟨k82, on182⟩ := u82
        have h82 : TL k82 on182 (([] : List Nat) ++ [(105 : Nat)]) := hw9
        have hP : va_P (dC, dI) vwCl [(h0, .inr (8, [.int th, .int we, .int wm, .int wy, .int ra, .ref tA, .int tn, .ref oA, .int on182, .ref rA, .int fi, .int la, .ref wA, .int wf, .int wl, .int lo, .int ov, .int un, .int aT, .int mi, .int ds, .ref dA, .int a0, .int xp, .ref iA, .int te])), (oA, .inl (cI, 300, .inl k82))] H := hP
        have hD : va_D A [(h0, .inr (8, [.int th, .int we, .int wm, .int wy, .int ra, .ref tA, .int tn, .ref oA, .int on182, .ref rA, .int fi, .int la, .ref wA, .int wf, .int wl, .int lo, .int ov, .int un, .int aT, .int mi, .int ds, .ref dA, .int a0, .int xp, .ref iA, .int te])), (oA, .inl (cI, 300, .inl k82))] := hD
        refine lv_aload_n hx hb d_Model_isStrange_85 rfl (lv_at hl 1 rfl) ?_
        refine lv_bipush (v := 110) hx hb d_Model_isStrange_86 (by decide) ?_
        refine callV_v (wr := []) C0 (c_Model_say l dC dI cI cB cJ (h0) (th) (we) (wm) (wy) (ra) (tA) (tn) (oA) (on182) (rA) (fi) (la) (wA) (wf) (wl) (lo) (ov) (un) (aT) (mi) (ds) (dA) (a0) (xp) (iA) (te) (k82) ((([] : List Nat) ++ [105])) ((110 : Int32)) ((110 : Nat)) (by exact h82) (by decide) (by decide)) (cwV 1 hts (gV m_712 m_713 m_39 m_55 m_714) rfl rfl rfl (by decide +kernel) ⟨Nat.le_of_ble_eq_true rfl, Nat.le_of_ble_eq_true rfl⟩) 8 rfl rfl 0 rfl hP hD hS hA [0, 1] [] rfl rfl (by decide) (by decide) (by decide) rfl hl.1 rfl (Nat.le_of_ble_eq_true rfl) d_Model_isStrange_88 ⟨Nat.le_of_ble_eq_true rfl, Nat.le_of_ble_eq_true rfl⟩ (fun u88 H locs hw9 hP hD hS => ?_)
        obtain ⟨k88, on188⟩ := u88
        have h88 : TL k88 on188 (((([] : List Nat) ++ [105])) ++ [(110 : Nat)]) := hw9
        have hP : va_P (dC, dI) vwCl [(h0, .inr (8, [.int th, .int we, .int wm, .int wy, .int ra, .ref tA, .int tn, .ref oA, .int on188, .ref rA, .int fi, .int la, .ref wA, .int wf, .int wl, .int lo, .int ov, .int un, .int aT, .int mi, .int ds, .ref dA, .int a0, .int xp, .ref iA, .int te])), (oA, .inl (cI, 300, .inl k88))] H := hP
        have hD : va_D A [(h0, .inr (8, [.int th, .int we, .int wm, .int wy, .int ra, .ref tA, .int tn, .ref oA, .int on188, .ref rA, .int fi, .int la, .ref wA, .int wf, .int wl, .int lo, .int ov, .int un, .int aT, .int mi, .int ds, .ref dA, .int a0, .int xp, .ref iA, .int te])), (oA, .inl (cI, 300, .inl k88))] := hD
        refine lv_aload_n hx hb d_Model_isStrange_91 rfl (lv_at hl 1 rfl) ?_
        refine lv_bipush (v := 102) hx hb d_Model_isStrange_92 (by decide) ?_
        refine callV_v (wr := []) C0 (c_Model_say l dC dI cI cB cJ (h0) (th) (we) (wm) (wy) (ra) (tA) (tn) (oA) (on188) (rA) (fi) (la) (wA) (wf) (wl) (lo) (ov) (un) (aT) (mi) (ds) (dA) (a0) (xp) (iA) (te) (k88) (((([] : List Nat) ++ [105]) ++ [110])) ((102 : Int32)) ((102 : Nat)) (by exact h88) (by decide) (by decide)) (cwV 1 hts (gV m_712 m_713 m_39 m_55 m_714) rfl rfl rfl (by decide +kernel) ⟨Nat.le_of_ble_eq_true rfl, Nat.le_of_ble_eq_true rfl⟩) 8 rfl rfl 0 rfl hP hD hS hA [0, 1] [] rfl rfl (by decide) (by decide) (by decide) rfl hl.1 rfl (Nat.le_of_ble_eq_true rfl) d_Model_isStrange_94 ⟨Nat.le_of_ble_eq_true rfl, Nat.le_of_ble_eq_true rfl⟩ (fun u94 H locs hw9 hP hD hS => ?_)
        obtain ⟨k94, on194⟩ := u94
        have h94 : TL k94 on194 ((((([] : List Nat) ++ [105]) ++ [110])) ++ [(102 : Nat)]) := hw9
        have hP : va_P (dC, dI) vwCl [(h0, .inr (8, [.int th, .int we, .int wm, .int wy, .int ra, .ref tA, .int tn, .ref oA, .int on194, .ref rA, .int fi, .int la, .ref wA, .int wf, .int wl, .int lo, .int ov, .int un, .int aT, .int mi, .int ds, .ref dA, .int a0, .int xp, .ref iA, .int te])), (oA, .inl (cI, 300, .inl k94))] H := hP
        have hD : va_D A [(h0, .inr (8, [.int th, .int we, .int wm, .int wy, .int ra, .ref tA, .int tn, .ref oA, .int on194, .ref rA, .int fi, .int la, .ref wA, .int wf, .int wl, .int lo, .int ov, .int un, .int aT, .int mi, .int ds, .ref dA, .int a0, .int xp, .ref iA, .int te])), (oA, .inl (cI, 300, .inl k94))] := hD
        refine lv_iconst (v := 1) hx hb d_Model_isStrange_97 (by decide) ?_
        exact Cz.ret C0 (v := 1) (u := (k94, on194)) (by rfl) (Nat.le_of_ble_eq_true rfl) (Nat.le_of_ble_eq_true rfl) (by show ((1 : Int32) = 0 ∧ szo E M x.toInt.toNat < iz E M ∧ TL k94 on194 (sgW E M x.toInt)) ∨ ((1 : Int32) = 1 ∧ iz E M ≤ szo E M x.toInt.toNat ∧ TL k94 on194 (nfW E M x.toInt)); exact Or.inr ⟨rfl, by omega, by rw [nfW, if_pos (by omega), if_neg (isB_0 hpat h67 b70)]; exact h94⟩) hP hD hS [0, 1] (by decide) rfl d_Model_isStrange_98
      · skip
        refine lv_aload_n hx hb d_Model_isStrange_73 rfl (lv_at hl 1 rfl) ?_
        refine lv_bipush (v := 45) hx hb d_Model_isStrange_74 (by decide) ?_
        refine callV_v (wr := []) C0 (c_Model_say l dC dI cI cB cJ (h0) (th) (we) (wm) (wy) (ra) (tA) (tn) (oA) ((0 : Int32)) (rA) (fi) (la) (wA) (wf) (wl) (lo) (ov) (un) (aT) (mi) (ds) (dA) (a0) (xp) (iA) (te) (f) (([] : List Nat)) ((45 : Int32)) ((45 : Nat)) (by exact TL_nil f) (by decide) (by decide)) (cwV 1 hts (gV m_712 m_713 m_39 m_55 m_714) rfl rfl rfl (by decide +kernel) ⟨Nat.le_of_ble_eq_true rfl, Nat.le_of_ble_eq_true rfl⟩) 8 rfl rfl 0 rfl hP hD hS hA [1, 0] [] rfl rfl (by decide) (by decide) (by decide) rfl hl.1 rfl (Nat.le_of_ble_eq_true rfl) d_Model_isStrange_76 ⟨Nat.le_of_ble_eq_true rfl, Nat.le_of_ble_eq_true rfl⟩ (fun u76 H locs hw9 hP hD hS => ?_)
        obtain ⟨k76, on176⟩ := u76
        have h76 : TL k76 on176 (([] : List Nat) ++ [(45 : Nat)]) := hw9
        have hP : va_P (dC, dI) vwCl [(h0, .inr (8, [.int th, .int we, .int wm, .int wy, .int ra, .ref tA, .int tn, .ref oA, .int on176, .ref rA, .int fi, .int la, .ref wA, .int wf, .int wl, .int lo, .int ov, .int un, .int aT, .int mi, .int ds, .ref dA, .int a0, .int xp, .ref iA, .int te])), (oA, .inl (cI, 300, .inl k76))] H := hP
        have hD : va_D A [(h0, .inr (8, [.int th, .int we, .int wm, .int wy, .int ra, .ref tA, .int tn, .ref oA, .int on176, .ref rA, .int fi, .int la, .ref wA, .int wf, .int wl, .int lo, .int ov, .int un, .int aT, .int mi, .int ds, .ref dA, .int a0, .int xp, .ref iA, .int te])), (oA, .inl (cI, 300, .inl k76))] := hD
        refine lv_aload_n hx hb d_Model_isStrange_79 rfl (lv_at hl 1 rfl) ?_
        refine lv_bipush (v := 105) hx hb d_Model_isStrange_80 (by decide) ?_
        refine callV_v (wr := []) C0 (c_Model_say l dC dI cI cB cJ (h0) (th) (we) (wm) (wy) (ra) (tA) (tn) (oA) (on176) (rA) (fi) (la) (wA) (wf) (wl) (lo) (ov) (un) (aT) (mi) (ds) (dA) (a0) (xp) (iA) (te) (k76) ((([] : List Nat) ++ [45])) ((105 : Int32)) ((105 : Nat)) (by exact h76) (by decide) (by decide)) (cwV 1 hts (gV m_712 m_713 m_39 m_55 m_714) rfl rfl rfl (by decide +kernel) ⟨Nat.le_of_ble_eq_true rfl, Nat.le_of_ble_eq_true rfl⟩) 8 rfl rfl 0 rfl hP hD hS hA [0, 1] [] rfl rfl (by decide) (by decide) (by decide) rfl hl.1 rfl (Nat.le_of_ble_eq_true rfl) d_Model_isStrange_82 ⟨Nat.le_of_ble_eq_true rfl, Nat.le_of_ble_eq_true rfl⟩ (fun u82 H locs hw9 hP hD hS => ?_)
        obtain ⟨k82, on182⟩ := u82
        have h82 : TL k82 on182 (((([] : List Nat) ++ [45])) ++ [(105 : Nat)]) := hw9
        have hP : va_P (dC, dI) vwCl [(h0, .inr (8, [.int th, .int we, .int wm, .int wy, .int ra, .ref tA, .int tn, .ref oA, .int on182, .ref rA, .int fi, .int la, .ref wA, .int wf, .int wl, .int lo, .int ov, .int un, .int aT, .int mi, .int ds, .ref dA, .int a0, .int xp, .ref iA, .int te])), (oA, .inl (cI, 300, .inl k82))] H := hP
        have hD : va_D A [(h0, .inr (8, [.int th, .int we, .int wm, .int wy, .int ra, .ref tA, .int tn, .ref oA, .int on182, .ref rA, .int fi, .int la, .ref wA, .int wf, .int wl, .int lo, .int ov, .int un, .int aT, .int mi, .int ds, .ref dA, .int a0, .int xp, .ref iA, .int te])), (oA, .inl (cI, 300, .inl k82))] := hD
        refine lv_aload_n hx hb d_Model_isStrange_85 rfl (lv_at hl 1 rfl) ?_
        refine lv_bipush (v := 110) hx hb d_Model_isStrange_86 (by decide) ?_
        refine callV_v (wr := []) C0 (c_Model_say l dC dI cI cB cJ (h0) (th) (we) (wm) (wy) (ra) (tA) (tn) (oA) (on182) (rA) (fi) (la) (wA) (wf) (wl) (lo) (ov) (un) (aT) (mi) (ds) (dA) (a0) (xp) (iA) (te) (k82) (((([] : List Nat) ++ [45]) ++ [105])) ((110 : Int32)) ((110 : Nat)) (by exact h82) (by decide) (by decide)) (cwV 1 hts (gV m_712 m_713 m_39 m_55 m_714) rfl rfl rfl (by decide +kernel) ⟨Nat.le_of_ble_eq_true rfl, Nat.le_of_ble_eq_true rfl⟩) 8 rfl rfl 0 rfl hP hD hS hA [0, 1] [] rfl rfl (by decide) (by decide) (by decide) rfl hl.1 rfl (Nat.le_of_ble_eq_true rfl) d_Model_isStrange_88 ⟨Nat.le_of_ble_eq_true rfl, Nat.le_of_ble_eq_true rfl⟩ (fun u88 H locs hw9 hP hD hS => ?_)
        obtain ⟨k88, on188⟩ := u88
        have h88 : TL k88 on188 ((((([] : List Nat) ++ [45]) ++ [105])) ++ [(110 : Nat)]) := hw9
        have hP : va_P (dC, dI) vwCl [(h0, .inr (8, [.int th, .int we, .int wm, .int wy, .int ra, .ref tA, .int tn, .ref oA, .int on188, .ref rA, .int fi, .int la, .ref wA, .int wf, .int wl, .int lo, .int ov, .int un, .int aT, .int mi, .int ds, .ref dA, .int a0, .int xp, .ref iA, .int te])), (oA, .inl (cI, 300, .inl k88))] H := hP
        have hD : va_D A [(h0, .inr (8, [.int th, .int we, .int wm, .int wy, .int ra, .ref tA, .int tn, .ref oA, .int on188, .ref rA, .int fi, .int la, .ref wA, .int wf, .int wl, .int lo, .int ov, .int un, .int aT, .int mi, .int ds, .ref dA, .int a0, .int xp, .ref iA, .int te])), (oA, .inl (cI, 300, .inl k88))] := hD
        refine lv_aload_n hx hb d_Model_isStrange_91 rfl (lv_at hl 1 rfl) ?_
        refine lv_bipush (v := 102) hx hb d_Model_isStrange_92 (by decide) ?_
        refine callV_v (wr := []) C0 (c_Model_say l dC dI cI cB cJ (h0) (th) (we) (wm) (wy) (ra) (tA) (tn) (oA) (on188) (rA) (fi) (la) (wA) (wf) (wl) (lo) (ov) (un) (aT) (mi) (ds) (dA) (a0) (xp) (iA) (te) (k88) ((((([] : List Nat) ++ [45]) ++ [105]) ++ [110])) ((102 : Int32)) ((102 : Nat)) (by exact h88) (by decide) (by decide)) (cwV 1 hts (gV m_712 m_713 m_39 m_55 m_714) rfl rfl rfl (by decide +kernel) ⟨Nat.le_of_ble_eq_true rfl, Nat.le_of_ble_eq_true rfl⟩) 8 rfl rfl 0 rfl hP hD hS hA [0, 1] [] rfl rfl (by decide) (by decide) (by decide) rfl hl.1 rfl (Nat.le_of_ble_eq_true rfl) d_Model_isStrange_94 ⟨Nat.le_of_ble_eq_true rfl, Nat.le_of_ble_eq_true rfl⟩ (fun u94 H locs hw9 hP hD hS => ?_)
        obtain ⟨k94, on194⟩ := u94
        have h94 : TL k94 on194 (((((([] : List Nat) ++ [45]) ++ [105]) ++ [110])) ++ [(102 : Nat)]) := hw9
        have hP : va_P (dC, dI) vwCl [(h0, .inr (8, [.int th, .int we, .int wm, .int wy, .int ra, .ref tA, .int tn, .ref oA, .int on194, .ref rA, .int fi, .int la, .ref wA, .int wf, .int wl, .int lo, .int ov, .int un, .int aT, .int mi, .int ds, .ref dA, .int a0, .int xp, .ref iA, .int te])), (oA, .inl (cI, 300, .inl k94))] H := hP
        have hD : va_D A [(h0, .inr (8, [.int th, .int we, .int wm, .int wy, .int ra, .ref tA, .int tn, .ref oA, .int on194, .ref rA, .int fi, .int la, .ref wA, .int wf, .int wl, .int lo, .int ov, .int un, .int aT, .int mi, .int ds, .ref dA, .int a0, .int xp, .ref iA, .int te])), (oA, .inl (cI, 300, .inl k94))] := hD
        refine lv_iconst (v := 1) hx hb d_Model_isStrange_97 (by decide) ?_
        exact Cz.ret C0 (v := 1) (u := (k94, on194)) (by rfl) (Nat.le_of_ble_eq_true rfl) (Nat.le_of_ble_eq_true rfl) (by show ((1 : Int32) = 0 ∧ szo E M x.toInt.toNat < iz E M ∧ TL k94 on194 (sgW E M x.toInt)) ∨ ((1 : Int32) = 1 ∧ iz E M ≤ szo E M x.toInt.toNat ∧ TL k94 on194 (nfW E M x.toInt)); exact Or.inr ⟨rfl, by omega, by rw [nfW, if_pos (by omega), if_pos (isB_1 hpat h67 b70)]; exact h94⟩) hP hD hS [0, 1] (by decide) rfl d_Model_isStrange_98
    · skip
      rw [q_cmp_le t7 t38] at b42
      refine lv_aload_n hx hb d_Model_isStrange_45 rfl (lv_at hl 1 rfl) ?_
      refine lv_bipush (v := 110) hx hb d_Model_isStrange_46 (by decide) ?_
      refine callV_v (wr := []) C0 (c_Model_say l dC dI cI cB cJ (h0) (th) (we) (wm) (wy) (ra) (tA) (tn) (oA) ((0 : Int32)) (rA) (fi) (la) (wA) (wf) (wl) (lo) (ov) (un) (aT) (mi) (ds) (dA) (a0) (xp) (iA) (te) (f) (([] : List Nat)) ((110 : Int32)) ((110 : Nat)) (by exact TL_nil f) (by decide) (by decide)) (cwV 1 hts (gV m_712 m_713 m_39 m_55 m_714) rfl rfl rfl (by decide +kernel) ⟨Nat.le_of_ble_eq_true rfl, Nat.le_of_ble_eq_true rfl⟩) 8 rfl rfl 0 rfl hP hD hS hA [1, 0] [] rfl rfl (by decide) (by decide) (by decide) rfl hl.1 rfl (Nat.le_of_ble_eq_true rfl) d_Model_isStrange_48 ⟨Nat.le_of_ble_eq_true rfl, Nat.le_of_ble_eq_true rfl⟩ (fun u48 H locs hw9 hP hD hS => ?_)
      obtain ⟨k48, on148⟩ := u48
      have h48 : TL k48 on148 (([] : List Nat) ++ [(110 : Nat)]) := hw9
      have hP : va_P (dC, dI) vwCl [(h0, .inr (8, [.int th, .int we, .int wm, .int wy, .int ra, .ref tA, .int tn, .ref oA, .int on148, .ref rA, .int fi, .int la, .ref wA, .int wf, .int wl, .int lo, .int ov, .int un, .int aT, .int mi, .int ds, .ref dA, .int a0, .int xp, .ref iA, .int te])), (oA, .inl (cI, 300, .inl k48))] H := hP
      have hD : va_D A [(h0, .inr (8, [.int th, .int we, .int wm, .int wy, .int ra, .ref tA, .int tn, .ref oA, .int on148, .ref rA, .int fi, .int la, .ref wA, .int wf, .int wl, .int lo, .int ov, .int un, .int aT, .int mi, .int ds, .ref dA, .int a0, .int xp, .ref iA, .int te])), (oA, .inl (cI, 300, .inl k48))] := hD
      refine lv_aload_n hx hb d_Model_isStrange_51 rfl (lv_at hl 1 rfl) ?_
      refine lv_bipush (v := 97) hx hb d_Model_isStrange_52 (by decide) ?_
      refine callV_v (wr := []) C0 (c_Model_say l dC dI cI cB cJ (h0) (th) (we) (wm) (wy) (ra) (tA) (tn) (oA) (on148) (rA) (fi) (la) (wA) (wf) (wl) (lo) (ov) (un) (aT) (mi) (ds) (dA) (a0) (xp) (iA) (te) (k48) ((([] : List Nat) ++ [110])) ((97 : Int32)) ((97 : Nat)) (by exact h48) (by decide) (by decide)) (cwV 1 hts (gV m_712 m_713 m_39 m_55 m_714) rfl rfl rfl (by decide +kernel) ⟨Nat.le_of_ble_eq_true rfl, Nat.le_of_ble_eq_true rfl⟩) 8 rfl rfl 0 rfl hP hD hS hA [0, 1] [] rfl rfl (by decide) (by decide) (by decide) rfl hl.1 rfl (Nat.le_of_ble_eq_true rfl) d_Model_isStrange_54 ⟨Nat.le_of_ble_eq_true rfl, Nat.le_of_ble_eq_true rfl⟩ (fun u54 H locs hw9 hP hD hS => ?_)
      obtain ⟨k54, on154⟩ := u54
      have h54 : TL k54 on154 (((([] : List Nat) ++ [110])) ++ [(97 : Nat)]) := hw9
      have hP : va_P (dC, dI) vwCl [(h0, .inr (8, [.int th, .int we, .int wm, .int wy, .int ra, .ref tA, .int tn, .ref oA, .int on154, .ref rA, .int fi, .int la, .ref wA, .int wf, .int wl, .int lo, .int ov, .int un, .int aT, .int mi, .int ds, .ref dA, .int a0, .int xp, .ref iA, .int te])), (oA, .inl (cI, 300, .inl k54))] H := hP
      have hD : va_D A [(h0, .inr (8, [.int th, .int we, .int wm, .int wy, .int ra, .ref tA, .int tn, .ref oA, .int on154, .ref rA, .int fi, .int la, .ref wA, .int wf, .int wl, .int lo, .int ov, .int un, .int aT, .int mi, .int ds, .ref dA, .int a0, .int xp, .ref iA, .int te])), (oA, .inl (cI, 300, .inl k54))] := hD
      refine lv_aload_n hx hb d_Model_isStrange_57 rfl (lv_at hl 1 rfl) ?_
      refine lv_bipush (v := 110) hx hb d_Model_isStrange_58 (by decide) ?_
      refine callV_v (wr := []) C0 (c_Model_say l dC dI cI cB cJ (h0) (th) (we) (wm) (wy) (ra) (tA) (tn) (oA) (on154) (rA) (fi) (la) (wA) (wf) (wl) (lo) (ov) (un) (aT) (mi) (ds) (dA) (a0) (xp) (iA) (te) (k54) (((([] : List Nat) ++ [110]) ++ [97])) ((110 : Int32)) ((110 : Nat)) (by exact h54) (by decide) (by decide)) (cwV 1 hts (gV m_712 m_713 m_39 m_55 m_714) rfl rfl rfl (by decide +kernel) ⟨Nat.le_of_ble_eq_true rfl, Nat.le_of_ble_eq_true rfl⟩) 8 rfl rfl 0 rfl hP hD hS hA [0, 1] [] rfl rfl (by decide) (by decide) (by decide) rfl hl.1 rfl (Nat.le_of_ble_eq_true rfl) d_Model_isStrange_60 ⟨Nat.le_of_ble_eq_true rfl, Nat.le_of_ble_eq_true rfl⟩ (fun u60 H locs hw9 hP hD hS => ?_)
      obtain ⟨k60, on160⟩ := u60
      have h60 : TL k60 on160 ((((([] : List Nat) ++ [110]) ++ [97])) ++ [(110 : Nat)]) := hw9
      have hP : va_P (dC, dI) vwCl [(h0, .inr (8, [.int th, .int we, .int wm, .int wy, .int ra, .ref tA, .int tn, .ref oA, .int on160, .ref rA, .int fi, .int la, .ref wA, .int wf, .int wl, .int lo, .int ov, .int un, .int aT, .int mi, .int ds, .ref dA, .int a0, .int xp, .ref iA, .int te])), (oA, .inl (cI, 300, .inl k60))] H := hP
      have hD : va_D A [(h0, .inr (8, [.int th, .int we, .int wm, .int wy, .int ra, .ref tA, .int tn, .ref oA, .int on160, .ref rA, .int fi, .int la, .ref wA, .int wf, .int wl, .int lo, .int ov, .int un, .int aT, .int mi, .int ds, .ref dA, .int a0, .int xp, .ref iA, .int te])), (oA, .inl (cI, 300, .inl k60))] := hD
      refine lv_iconst (v := 1) hx hb d_Model_isStrange_63 (by decide) ?_
      exact Cz.ret C0 (v := 1) (u := (k60, on160)) (by rfl) (Nat.le_of_ble_eq_true rfl) (Nat.le_of_ble_eq_true rfl) (by show ((1 : Int32) = 0 ∧ szo E M x.toInt.toNat < iz E M ∧ TL k60 on160 (sgW E M x.toInt)) ∨ ((1 : Int32) = 1 ∧ iz E M ≤ szo E M x.toInt.toNat ∧ TL k60 on160 (nfW E M x.toInt)); exact Or.inr ⟨rfl, by omega, by rw [nfW, if_neg (by omega)]; exact h60⟩) hP hD hS [0, 1] (by decide) rfl d_Model_isStrange_64
  · skip
    rw [q_cmp_ge t7 t13] at b17
    refine lv_aload_n hx hb d_Model_isStrange_20 rfl (lv_at hl 1 rfl) ?_
    refine lv_lload_n hx hb d_Model_isStrange_21 rfl (lv_at hl 2 rfl) ?_
    refine callV_i (wr := [(oA, .inl (cI, 300, .inl f))]) C0 (c_Model_isBelow l dC dI cI cB cJ (h0) (th) (we) (wm) (wy) (ra) (tA) (tn) (oA) ((0 : Int32)) (rA) (fi) (la) (wA) (wf) (wl) (lo) (ov) (un) (aT) (mi) (ds) (dA) (a0) (xp) (iA) (te) (E) (M) (x) (x.toInt.toNat) (by exact hL) (by exact (Int.toNat_of_nonneg hpat.1).symm)) (cwV 1 hts (gV m_709 m_710 m_38 m_55 m_711) rfl rfl rfl (by decide +kernel) ⟨Nat.le_of_ble_eq_true rfl, Nat.le_of_ble_eq_true rfl⟩) 8 rfl rfl 0 rfl hP hD hS hA [1] [0] rfl rfl (by decide) (by decide) (by decide) rfl hl.1 rfl (Nat.le_of_ble_eq_true rfl) d_Model_isStrange_22 ⟨Nat.le_of_ble_eq_true rfl, Nat.le_of_ble_eq_true rfl⟩ (fun r22 u22 H locs hw9 hP hD hS => ?_)
    have h22 : r22 = if szo E M x.toInt.toNat = x.toInt.toNat then 0 else 1 := hw9
    have hP : va_P (dC, dI) vwCl [(oA, .inl (cI, 300, .inl f)), (h0, .inr (8, [.int th, .int we, .int wm, .int wy, .int ra, .ref tA, .int tn, .ref oA, .int 0, .ref rA, .int fi, .int la, .ref wA, .int wf, .int wl, .int lo, .int ov, .int un, .int aT, .int mi, .int ds, .ref dA, .int a0, .int xp, .ref iA, .int te]))] H := hP
    have hD : va_D A [(oA, .inl (cI, 300, .inl f)), (h0, .inr (8, [.int th, .int we, .int wm, .int wy, .int ra, .ref tA, .int tn, .ref oA, .int 0, .ref rA, .int fi, .int la, .ref wA, .int wf, .int wl, .int lo, .int ov, .int un, .int aT, .int mi, .int ds, .ref dA, .int a0, .int xp, .ref iA, .int te]))] := hD
    refine lv_if_eq (tgt := 34) hx hb d_Model_isStrange_25 (by decide) (fun b25 => ?_) (fun b25 => ?_)
    · skip
      refine lv_iconst (v := 0) hx hb d_Model_isStrange_34 (by decide) ?_
      exact Cz.ret C0 (v := 0) (u := (f, 0)) (by rfl) (Nat.le_of_ble_eq_true rfl) (Nat.le_of_ble_eq_true rfl) (by show ((0 : Int32) = 0 ∧ szo E M x.toInt.toNat < iz E M ∧ TL f (0 : Int32) (sgW E M x.toInt)) ∨ ((0 : Int32) = 1 ∧ iz E M ≤ szo E M x.toInt.toNat ∧ TL f (0 : Int32) (nfW E M x.toInt)); exact Or.inl ⟨rfl, by omega, by rw [sgW, if_neg (isB_0 hpat h22 b25)]; exact TL_nil f⟩) hP hD hS [1, 0] (by decide) rfl d_Model_isStrange_35
    · skip
      refine lv_aload_n hx hb d_Model_isStrange_28 rfl (lv_at hl 1 rfl) ?_
      refine lv_bipush (v := 45) hx hb d_Model_isStrange_29 (by decide) ?_
      refine callV_v (wr := []) C0 (c_Model_say l dC dI cI cB cJ (h0) (th) (we) (wm) (wy) (ra) (tA) (tn) (oA) ((0 : Int32)) (rA) (fi) (la) (wA) (wf) (wl) (lo) (ov) (un) (aT) (mi) (ds) (dA) (a0) (xp) (iA) (te) (f) (([] : List Nat)) ((45 : Int32)) ((45 : Nat)) (by exact TL_nil f) (by decide) (by decide)) (cwV 1 hts (gV m_712 m_713 m_39 m_55 m_714) rfl rfl rfl (by decide +kernel) ⟨Nat.le_of_ble_eq_true rfl, Nat.le_of_ble_eq_true rfl⟩) 8 rfl rfl 0 rfl hP hD hS hA [1, 0] [] rfl rfl (by decide) (by decide) (by decide) rfl hl.1 rfl (Nat.le_of_ble_eq_true rfl) d_Model_isStrange_31 ⟨Nat.le_of_ble_eq_true rfl, Nat.le_of_ble_eq_true rfl⟩ (fun u31 H locs hw9 hP hD hS => ?_)
      obtain ⟨k31, on131⟩ := u31
      have h31 : TL k31 on131 (([] : List Nat) ++ [(45 : Nat)]) := hw9
      have hP : va_P (dC, dI) vwCl [(h0, .inr (8, [.int th, .int we, .int wm, .int wy, .int ra, .ref tA, .int tn, .ref oA, .int on131, .ref rA, .int fi, .int la, .ref wA, .int wf, .int wl, .int lo, .int ov, .int un, .int aT, .int mi, .int ds, .ref dA, .int a0, .int xp, .ref iA, .int te])), (oA, .inl (cI, 300, .inl k31))] H := hP
      have hD : va_D A [(h0, .inr (8, [.int th, .int we, .int wm, .int wy, .int ra, .ref tA, .int tn, .ref oA, .int on131, .ref rA, .int fi, .int la, .ref wA, .int wf, .int wl, .int lo, .int ov, .int un, .int aT, .int mi, .int ds, .ref dA, .int a0, .int xp, .ref iA, .int te])), (oA, .inl (cI, 300, .inl k31))] := hD
      refine lv_iconst (v := 0) hx hb d_Model_isStrange_34 (by decide) ?_
      exact Cz.ret C0 (v := 0) (u := (k31, on131)) (by rfl) (Nat.le_of_ble_eq_true rfl) (Nat.le_of_ble_eq_true rfl) (by show ((0 : Int32) = 0 ∧ szo E M x.toInt.toNat < iz E M ∧ TL k31 on131 (sgW E M x.toInt)) ∨ ((0 : Int32) = 1 ∧ iz E M ≤ szo E M x.toInt.toNat ∧ TL k31 on131 (nfW E M x.toInt)); exact Or.inl ⟨rfl, by omega, by rw [sgW, if_pos (isB_1 hpat h22 b25)]; exact h31⟩) hP hD hS [0, 1] (by decide) rfl d_Model_isStrange_35
set_option maxHeartbeats 4000000 in
set_option maxRecDepth 100000 in
theorem L_Model_exact_123 {p : Program} {l : Launch} {e : Env} {s : State} {m : MethodId} {below : List Frame} {meth : Method} {c : Code} {dC : Nat → ClassId} {dI : Nat → Nat → Nat} {cI cB cJ : ClassId} {A : Nat → Prop} (h0 : Nat) (th : Int32) (we : Int32) (wm : Int32) (wy : Int32) (ra : Int32) (tA : Nat) (tn : Int32) (oA : Nat) (on : Int32) (rA : Nat) (fi : Int32) (la : Int32) (wA : Nat) (wf : Int32) (wl : Int32) (lo : Int32) (ov : Int32) (un : Int32) (aT : Int32) (mi : Int32) (ds : Int32) (dA : Nat) (a0 : Int32) (xp : Int32) (iA : Nat) (te : Int32) (E : Nat) (M : Nat) (fo : Nat → Int32) (fr : Nat → Int32) (x : Int64) (C0 : cx dC dI cI cB cJ R_Model b_Model_exact 4 (some .int) p s m ([.ref h0, .long x] : List Value).toArray meth c) (hA : ∀ q : Nat, s.heap.size ≤ q → A q) (hL : LY we wm E M) : ∀ n : Nat, (∀ (x3 : Int32) (c9 : Nat) (ko : Nat → Int32) (on1 : Int32) (k : Nat → Int32) (fi1 : Int32) (la1 : Int32) (n3 : Nat) (n4 : Nat) (wq : List Nat) (H : Heap) (locs : List Loc) (ls : Array Slot), n4 - 60 - c9 < n → x3.toInt = ((61 + c9 : Nat) : Int) → (fi1.toInt = (n3 : Int)) → (la1.toInt = (n4 : Int)) → (RWp k n3 n4) → (SPV E M (szo E M x.toInt.toNat) (sv k 400)) → (13 ≤ n3) → (n4 ≤ 209) → (n4 + 1 - n3 ≤ 157) → (szo E M x.toInt.toNat < iz E M) → (isPat E M x.toInt) → (TL ko on1 (wq ++ dl k 61 c9)) → (60 < n4 → ¬ (k n4).toInt = 0) → ((n4 = 60 ∧ wq = sgW E M x.toInt ++ dl k n3 (61 - n3)) ∨ (60 < n4 ∧ wq = sgW E M x.toInt ++ dl k n3 (61 - n3) ++ [46])) → (c9 ≤ n4 - 60) → (wq.length ≤ 63 - n3) → va_P (dC, dI) vwCl [(h0, .inr (8, [.int 0, .int we, .int wm, .int wy, .int ra, .ref tA, .int tn, .ref oA, .int on1, .ref rA, .int fi1, .int la1, .ref wA, .int wf, .int wl, .int lo, .int ov, .int un, .int aT, .int mi, .int ds, .ref dA, .int a0, .int xp, .ref iA, .int te])), (oA, .inl (cI, 300, .inl ko)), (rA, .inl (cI, 400, .inl k))] H → va_D A [(h0, .inr (8, [.int 0, .int we, .int wm, .int wy, .int ra, .ref tA, .int tn, .ref oA, .int on1, .ref rA, .int fi1, .int la1, .ref wA, .int wf, .int wl, .int lo, .int ov, .int un, .int aT, .int mi, .int ds, .ref dA, .int a0, .int xp, .ref iA, .int te])), (oA, .inl (cI, 300, .inl ko)), (rA, .inl (cI, 400, .inl k))] → va_S A s.heap H locs → lv_has ls 4 [(3, .int x3), (0, .ref h0)] → W p l e ({ frames := 3, cells := 0, slots := 0, locals := 68 } : Room) s m ([.ref h0, .long x] : List Value).toArray below meth c H locs 0 0 (MQ below (va_Qi (fun (r : Int32) (u : (Int32) × (Nat → Int32) × (Int32) × (Nat → Int32) × (Int32) × (Int32)) => (isPat E M x.toInt ∧ u.1 = 0 ∧ ∃ w : List Nat, TL u.2.1 u.2.2.1 w ∧ r.toInt = (w.length : Int) ∧ EXW E M x.toInt w) ∨ (¬ isPat E M x.toInt ∧ u.1 = 1 ∧ r = 0 ∧ u.2.1 = fo ∧ u.2.2.1 = on)) (poG dC dI A (fun u : (Int32) × (Nat → Int32) × (Int32) × (Nat → Int32) × (Int32) × (Int32) => [(h0, .inr (8, [.int u.1, .int we, .int wm, .int wy, .int ra, .ref tA, .int tn, .ref oA, .int u.2.2.1, .ref rA, .int u.2.2.2.2.1, .int u.2.2.2.2.2, .ref wA, .int wf, .int wl, .int lo, .int ov, .int un, .int aT, .int mi, .int ds, .ref dA, .int a0, .int xp, .ref iA, .int te])), (oA, .inl (cI, 300, .inl u.2.1)), (rA, .inl (cI, 400, .inl u.2.2.2.1))])) A) ([.ref h0, .long x] : List Value).toArray s 0 0 A) (F0 m 123 ls [])) := by
  obtain ⟨hx, hb, hml, hown, hts, hr, hlocks, hK, hN⟩ := id C0
  intro n
  induction n with
  | zero => exact fun _ _ _ _ _ _ _ _ _ _ _ _ _ h0 _ _ _ _ _ _ _ _ _ _ _ _ _ _ _ _ _ _ _ => absurd h0 (Nat.not_lt_zero _)
  | succ n ih =>
    intro x3 c9 ko on1 k fi1 la1 n3 n4 wq H locs ls hn9 t_x3 t_fi1 t_la1 hRk hsp hn13 hn209 hn157 hzi hpat hTL hlast hwq hc9 hwl hP hD hS hl
    have r_x3 := q_r32 x3
    obtain ⟨he, hm, hE1, hE2, hM1, hM2⟩ := id hL
    have hbz := p_bias hE1 hE2
    have hem := p_em hE1 hE2 hM1 hM2
    have hiz := iz_sb E M
    have hpm := p_m hM2
    have hpm1 := pw_p M
    have hpe := p_e hE1 hE2
    have hsl := sgW_len E M x.toInt
    refine lv_iload_n hx hb d_Model_exact_123 rfl (lv_at hl 0 rfl) ?_
    refine lv_aload_n hx hb d_Model_exact_124 rfl (lv_at hl 1 rfl) ?_
    refine va_get (D := (dC, dI)) (ci := 8) (v := .int la1) (C := R_Model) (T := F_Model) (N := 26) hx hb hts u_Model hown hK hP 0 rfl rfl 11 (by decide) (hts _ m_574) (fun _ h9 => h9) rfl d_Model_exact_125 ?_
    refine lv_icmp_gt (tgt := 150) hx hb d_Model_exact_128 (by decide) (fun b128 => ?_) (fun b128 => ?_)
    · skip
      rw [q_ilt t_la1 t_x3] at b128
      refine lv_aload_n hx hb d_Model_exact_150 rfl (lv_at hl 1 rfl) ?_
      refine va_get (D := (dC, dI)) (ci := 8) (v := .int on1) (C := R_Model) (T := F_Model) (N := 26) hx hb hts u_Model hown hK hP 0 rfl rfl 8 (by decide) (hts _ m_571) (fun _ h9 => h9) rfl d_Model_exact_151 ?_
      exact Ci.ret C0 (v := on1) (u := (0, ko, on1, k, fi1, la1)) (Nat.le_of_ble_eq_true rfl) (Nat.le_of_ble_eq_true rfl) (by show (isPat E M x.toInt ∧ (0 : Int32) = 0 ∧ ∃ w : List Nat, TL ko on1 w ∧ on1.toInt = (w.length : Int) ∧ EXW E M x.toInt w) ∨ (¬ isPat E M x.toInt ∧ (0 : Int32) = 1 ∧ on1 = 0 ∧ ko = fo ∧ on1 = on); exact Or.inl ⟨hpat, rfl, EX_fin hE1 hE2 hM1 hM2 hzi hRk hsp hlast hn13 hn209 hn157 hwq (by rw [show n4 - 60 = c9 by omega]; exact hTL)⟩) hP hD hS [0, 1, 2] (by decide) rfl d_Model_exact_154
    · skip
      rw [q_ilt t_la1 t_x3] at b128
      refine lv_aload_n hx hb d_Model_exact_131 rfl (lv_at hl 1 rfl) ?_
      refine lv_bipush (v := 48) hx hb d_Model_exact_132 (by decide) ?_
      refine lv_aload_n hx hb d_Model_exact_134 rfl (lv_at hl 1 rfl) ?_
      refine va_get (D := (dC, dI)) (ci := 8) (v := .ref rA) (C := R_Model) (T := F_Model) (N := 26) hx hb hts u_Model hown hK hP 0 rfl rfl 9 (by decide) (hts _ m_572) (fun _ h9 => h9) rfl d_Model_exact_135 ?_
      refine lv_iload_n hx hb d_Model_exact_138 rfl (lv_at hl 0 rfl) ?_
      have hd9 := RWp_9 hRk (show 61 + c9 < 400 by omega)
      refine va_iald hx hb hK hP 2 0 rfl rfl (q_in t_x3 (by omega)) d_Model_exact_139 ?_
      refine lv_topi (fun v139 e139 => ?_)
      rw [q_cl (k := 61 + c9) (t_x3)] at e139
      have t139 : v139.toInt = (rdg k (61 + c9) : Int) := by rw [e139]; exact rdg_i (hRk.1 _ (by omega)).1
      refine lv_iadd hx hb d_Model_exact_140 ?_
      refine lv_topi (fun v140 e140 => ?_)
      have t140 : v140.toInt = 48 + ((rdg k (61 + c9) : Int)) := by rw [e140]; exact q_iadd (show (48 : Int32).toInt = 48 by decide) t139 (by omega)
      refine callV_v (wr := [(rA, .inl (cI, 400, .inl k))]) C0 (c_Model_say l dC dI cI cB cJ (h0) ((0 : Int32)) (we) (wm) (wy) (ra) (tA) (tn) (oA) (on1) (rA) (fi1) (la1) (wA) (wf) (wl) (lo) (ov) (un) (aT) (mi) (ds) (dA) (a0) (xp) (iA) (te) (ko) (wq ++ dl k 61 c9) (v140) (48 + rdg k (61 + c9)) (by exact hTL) (by exact t140.trans (by omega)) (by rw [List.length_append, dl_len]; omega)) (cwV 1 hts (gV m_712 m_713 m_39 m_55 m_714) rfl rfl rfl (by decide +kernel) ⟨Nat.le_of_ble_eq_true rfl, Nat.le_of_ble_eq_true rfl⟩) 8 rfl rfl 0 rfl hP hD hS hA [0, 1] [2] rfl rfl (by decide) (by decide) (by decide) rfl hl.1 rfl (Nat.le_of_ble_eq_true rfl) d_Model_exact_141 ⟨Nat.le_of_ble_eq_true rfl, Nat.le_of_ble_eq_true rfl⟩ (fun u141 H locs hw9 hP hD hS => ?_)
      obtain ⟨k141, on1141⟩ := u141
      have h141 : TL k141 on1141 ((wq ++ dl k 61 c9) ++ [(48 + rdg k (61 + c9))]) := hw9
      have hP : va_P (dC, dI) vwCl [(rA, .inl (cI, 400, .inl k)), (h0, .inr (8, [.int 0, .int we, .int wm, .int wy, .int ra, .ref tA, .int tn, .ref oA, .int on1141, .ref rA, .int fi1, .int la1, .ref wA, .int wf, .int wl, .int lo, .int ov, .int un, .int aT, .int mi, .int ds, .ref dA, .int a0, .int xp, .ref iA, .int te])), (oA, .inl (cI, 300, .inl k141))] H := hP
      have hD : va_D A [(rA, .inl (cI, 400, .inl k)), (h0, .inr (8, [.int 0, .int we, .int wm, .int wy, .int ra, .ref tA, .int tn, .ref oA, .int on1141, .ref rA, .int fi1, .int la1, .ref wA, .int wf, .int wl, .int lo, .int ov, .int un, .int aT, .int mi, .int ds, .ref dA, .int a0, .int xp, .ref iA, .int te])), (oA, .inl (cI, 300, .inl k141))] := hD
      obtain ⟨v144, e144⟩ : ∃ y : Int32, y = x3 + 1 := ⟨_, rfl⟩
      have t144 : v144.toInt = ((61 + c9 : Nat) : Int) + 1 := by rw [e144]; exact q_iadd t_x3 (show (1 : Int32).toInt = 1 by decide) (by omega)
      refine lv_iinc (v := v144) (lv' := [(3, .int v144), (0, .ref h0)]) hx hb d_Model_exact_144 hl (k := 0) rfl (by rw [e144]; rfl) (by decide) rfl (fun ls hl => ?_)
      refine lv_goto (tgt := 123) hx hb d_Model_exact_147 (by decide) ?_
      exact ih (v144) (c9 + 1) (k141) (on1141) (k) (fi1) (la1) (n3) (n4) (wq) H locs ls (by omega) ((t144).trans (by omega)) (by exact t_fi1) (by exact t_la1) (by exact hRk) (by exact hsp) (by exact hn13) (by exact hn209) (by exact hn157) (by exact hzi) (by exact hpat) (by rw [show dl k 61 (c9 + 1) = dl k 61 c9 ++ [48 + rdg k (61 + c9)] from rfl, ← List.append_assoc]; exact h141) (by exact hlast) (by exact hwq) (by omega) (by exact hwl) (va_Psub hP [1, 2, 0] rfl) (hD.sub [1, 2, 0] (by decide) rfl) hS (lv_sub hl [0, 1] rfl)
set_option maxHeartbeats 4000000 in
set_option maxRecDepth 100000 in
theorem L_Model_exact_105 {p : Program} {l : Launch} {e : Env} {s : State} {m : MethodId} {below : List Frame} {meth : Method} {c : Code} {dC : Nat → ClassId} {dI : Nat → Nat → Nat} {cI cB cJ : ClassId} {A : Nat → Prop} (h0 : Nat) (th : Int32) (we : Int32) (wm : Int32) (wy : Int32) (ra : Int32) (tA : Nat) (tn : Int32) (oA : Nat) (on : Int32) (rA : Nat) (fi : Int32) (la : Int32) (wA : Nat) (wf : Int32) (wl : Int32) (lo : Int32) (ov : Int32) (un : Int32) (aT : Int32) (mi : Int32) (ds : Int32) (dA : Nat) (a0 : Int32) (xp : Int32) (iA : Nat) (te : Int32) (E : Nat) (M : Nat) (fo : Nat → Int32) (fr : Nat → Int32) (x : Int64) (C0 : cx dC dI cI cB cJ R_Model b_Model_exact 4 (some .int) p s m ([.ref h0, .long x] : List Value).toArray meth c) (hA : ∀ q : Nat, s.heap.size ≤ q → A q) (hL : LY we wm E M) : (∀ (ko : Nat → Int32) (on1 : Int32) (k : Nat → Int32) (fi1 : Int32) (la1 : Int32) (n3 : Nat) (n4 : Nat) (H : Heap) (locs : List Loc) (ls : Array Slot), (fi1.toInt = (n3 : Int)) → (la1.toInt = (n4 : Int)) → (RWp k n3 n4) → (SPV E M (szo E M x.toInt.toNat) (sv k 400)) → (13 ≤ n3) → (n4 ≤ 209) → (n4 + 1 - n3 ≤ 157) → (szo E M x.toInt.toNat < iz E M) → (isPat E M x.toInt) → (TL ko on1 (sgW E M x.toInt ++ dl k n3 (61 - n3))) → (60 < n4 → ¬ (k n4).toInt = 0) → va_P (dC, dI) vwCl [(h0, .inr (8, [.int 0, .int we, .int wm, .int wy, .int ra, .ref tA, .int tn, .ref oA, .int on1, .ref rA, .int fi1, .int la1, .ref wA, .int wf, .int wl, .int lo, .int ov, .int un, .int aT, .int mi, .int ds, .ref dA, .int a0, .int xp, .ref iA, .int te])), (oA, .inl (cI, 300, .inl ko)), (rA, .inl (cI, 400, .inl k))] H → va_D A [(h0, .inr (8, [.int 0, .int we, .int wm, .int wy, .int ra, .ref tA, .int tn, .ref oA, .int on1, .ref rA, .int fi1, .int la1, .ref wA, .int wf, .int wl, .int lo, .int ov, .int un, .int aT, .int mi, .int ds, .ref dA, .int a0, .int xp, .ref iA, .int te])), (oA, .inl (cI, 300, .inl ko)), (rA, .inl (cI, 400, .inl k))] → va_S A s.heap H locs → lv_has ls 4 [(0, .ref h0)] → W p l e ({ frames := 3, cells := 0, slots := 0, locals := 68 } : Room) s m ([.ref h0, .long x] : List Value).toArray below meth c H locs 0 0 (MQ below (va_Qi (fun (r : Int32) (u : (Int32) × (Nat → Int32) × (Int32) × (Nat → Int32) × (Int32) × (Int32)) => (isPat E M x.toInt ∧ u.1 = 0 ∧ ∃ w : List Nat, TL u.2.1 u.2.2.1 w ∧ r.toInt = (w.length : Int) ∧ EXW E M x.toInt w) ∨ (¬ isPat E M x.toInt ∧ u.1 = 1 ∧ r = 0 ∧ u.2.1 = fo ∧ u.2.2.1 = on)) (poG dC dI A (fun u : (Int32) × (Nat → Int32) × (Int32) × (Nat → Int32) × (Int32) × (Int32) => [(h0, .inr (8, [.int u.1, .int we, .int wm, .int wy, .int ra, .ref tA, .int tn, .ref oA, .int u.2.2.1, .ref rA, .int u.2.2.2.2.1, .int u.2.2.2.2.2, .ref wA, .int wf, .int wl, .int lo, .int ov, .int un, .int aT, .int mi, .int ds, .ref dA, .int a0, .int xp, .ref iA, .int te])), (oA, .inl (cI, 300, .inl u.2.1)), (rA, .inl (cI, 400, .inl u.2.2.2.1))])) A) ([.ref h0, .long x] : List Value).toArray s 0 0 A) (F0 m 105 ls [])) := by
  obtain ⟨hx, hb, hml, hown, hts, hr, hlocks, hK, hN⟩ := id C0
  intro ko on1 k fi1 la1 n3 n4 H locs ls t_fi1 t_la1 hRk hsp hn13 hn209 hn157 hzi hpat hTL hlast hP hD hS hl
  obtain ⟨he, hm, hE1, hE2, hM1, hM2⟩ := id hL
  have hbz := p_bias hE1 hE2
  have hem := p_em hE1 hE2 hM1 hM2
  have hiz := iz_sb E M
  have hpm := p_m hM2
  have hpm1 := pw_p M
  have hpe := p_e hE1 hE2
  have hsl := sgW_len E M x.toInt
  refine lv_aload_n hx hb d_Model_exact_105 rfl (lv_at hl 0 rfl) ?_
  refine va_get (D := (dC, dI)) (ci := 8) (v := .int la1) (C := R_Model) (T := F_Model) (N := 26) hx hb hts u_Model hown hK hP 0 rfl rfl 11 (by decide) (hts _ m_574) (fun _ h9 => h9) rfl d_Model_exact_106 ?_
  refine lv_bipush (v := 60) hx hb d_Model_exact_109 (by decide) ?_
  refine lv_icmp_le (tgt := 120) hx hb d_Model_exact_111 (by decide) (fun b111 => ?_) (fun b111 => ?_)
  · skip
    rw [q_ile t_la1 (show (60 : Int32).toInt = 60 by decide)] at b111
    refine lv_bipush (v := 61) hx hb d_Model_exact_120 (by decide) ?_
    refine lv_istore_n (lv' := [(3, .int 61), (0, .ref h0)]) hx hb d_Model_exact_122 rfl hl (by decide) rfl (fun ls hl => ?_)
    exact L_Model_exact_123 (h0) (th) (we) (wm) (wy) (ra) (tA) (tn) (oA) (on) (rA) (fi) (la) (wA) (wf) (wl) (lo) (ov) (un) (aT) (mi) (ds) (dA) (a0) (xp) (iA) (te) (E) (M) (fo) (fr) (x) C0 hA (hL) _ (61) (0) (ko) (on1) (k) (fi1) (la1) (n3) (n4) (sgW E M x.toInt ++ dl k n3 (61 - n3)) H locs ls (Nat.lt_succ_self _) (((show (61 : Int32).toInt = 61 by decide)).trans (by omega)) (by exact t_fi1) (by exact t_la1) (by exact hRk) (by exact hsp) (by exact hn13) (by exact hn209) (by exact hn157) (by exact hzi) (by exact hpat) (by exact (List.append_nil (sgW E M x.toInt ++ dl k n3 (61 - n3))).symm ▸ hTL) (by exact hlast) (by exact Or.inl ⟨by have := hRk.2.2.2.2.1; omega, rfl⟩) (by omega) (by have := hRk.2.2.2.1; rw [List.length_append, dl_len]; omega) (va_Psub hP [0, 1, 2] rfl) (hD.sub [0, 1, 2] (by decide) rfl) hS (lv_sub hl [0, 1] rfl)
  · skip
    rw [q_ile t_la1 (show (60 : Int32).toInt = 60 by decide)] at b111
    refine lv_aload_n hx hb d_Model_exact_114 rfl (lv_at hl 0 rfl) ?_
    refine lv_bipush (v := 46) hx hb d_Model_exact_115 (by decide) ?_
    refine callV_v (wr := [(rA, .inl (cI, 400, .inl k))]) C0 (c_Model_say l dC dI cI cB cJ (h0) ((0 : Int32)) (we) (wm) (wy) (ra) (tA) (tn) (oA) (on1) (rA) (fi1) (la1) (wA) (wf) (wl) (lo) (ov) (un) (aT) (mi) (ds) (dA) (a0) (xp) (iA) (te) (ko) (sgW E M x.toInt ++ dl k n3 (61 - n3)) ((46 : Int32)) ((46 : Nat)) (by exact hTL) (by decide) (by rw [List.length_append, dl_len]; omega)) (cwV 1 hts (gV m_712 m_713 m_39 m_55 m_714) rfl rfl rfl (by decide +kernel) ⟨Nat.le_of_ble_eq_true rfl, Nat.le_of_ble_eq_true rfl⟩) 8 rfl rfl 0 rfl hP hD hS hA [0, 1] [2] rfl rfl (by decide) (by decide) (by decide) rfl hl.1 rfl (Nat.le_of_ble_eq_true rfl) d_Model_exact_117 ⟨Nat.le_of_ble_eq_true rfl, Nat.le_of_ble_eq_true rfl⟩ (fun u117 H locs hw9 hP hD hS => ?_)
    obtain ⟨k117, on1117⟩ := u117
    have h117 : TL k117 on1117 ((sgW E M x.toInt ++ dl k n3 (61 - n3)) ++ [(46 : Nat)]) := hw9
    have hP : va_P (dC, dI) vwCl [(rA, .inl (cI, 400, .inl k)), (h0, .inr (8, [.int 0, .int we, .int wm, .int wy, .int ra, .ref tA, .int tn, .ref oA, .int on1117, .ref rA, .int fi1, .int la1, .ref wA, .int wf, .int wl, .int lo, .int ov, .int un, .int aT, .int mi, .int ds, .ref dA, .int a0, .int xp, .ref iA, .int te])), (oA, .inl (cI, 300, .inl k117))] H := hP
    have hD : va_D A [(rA, .inl (cI, 400, .inl k)), (h0, .inr (8, [.int 0, .int we, .int wm, .int wy, .int ra, .ref tA, .int tn, .ref oA, .int on1117, .ref rA, .int fi1, .int la1, .ref wA, .int wf, .int wl, .int lo, .int ov, .int un, .int aT, .int mi, .int ds, .ref dA, .int a0, .int xp, .ref iA, .int te])), (oA, .inl (cI, 300, .inl k117))] := hD
    refine lv_bipush (v := 61) hx hb d_Model_exact_120 (by decide) ?_
    refine lv_istore_n (lv' := [(3, .int 61), (0, .ref h0)]) hx hb d_Model_exact_122 rfl hl (by decide) rfl (fun ls hl => ?_)
    exact L_Model_exact_123 (h0) (th) (we) (wm) (wy) (ra) (tA) (tn) (oA) (on) (rA) (fi) (la) (wA) (wf) (wl) (lo) (ov) (un) (aT) (mi) (ds) (dA) (a0) (xp) (iA) (te) (E) (M) (fo) (fr) (x) C0 hA (hL) _ (61) (0) (k117) (on1117) (k) (fi1) (la1) (n3) (n4) (sgW E M x.toInt ++ dl k n3 (61 - n3) ++ [46]) H locs ls (Nat.lt_succ_self _) (((show (61 : Int32).toInt = 61 by decide)).trans (by omega)) (by exact t_fi1) (by exact t_la1) (by exact hRk) (by exact hsp) (by exact hn13) (by exact hn209) (by exact hn157) (by exact hzi) (by exact hpat) (by exact (List.append_nil (sgW E M x.toInt ++ dl k n3 (61 - n3) ++ [46])).symm ▸ h117) (by exact hlast) (by exact Or.inr ⟨by omega, rfl⟩) (by omega) (by have := hRk.2.2.2.1; rw [List.length_append, List.length_append, dl_len, List.length_singleton]; omega) (va_Psub hP [1, 2, 0] rfl) (hD.sub [1, 2, 0] (by decide) rfl) hS (lv_sub hl [0, 1] rfl)
set_option maxHeartbeats 4000000 in
set_option maxRecDepth 100000 in
theorem L_Model_exact_71 {p : Program} {l : Launch} {e : Env} {s : State} {m : MethodId} {below : List Frame} {meth : Method} {c : Code} {dC : Nat → ClassId} {dI : Nat → Nat → Nat} {cI cB cJ : ClassId} {A : Nat → Prop} (h0 : Nat) (th : Int32) (we : Int32) (wm : Int32) (wy : Int32) (ra : Int32) (tA : Nat) (tn : Int32) (oA : Nat) (on : Int32) (rA : Nat) (fi : Int32) (la : Int32) (wA : Nat) (wf : Int32) (wl : Int32) (lo : Int32) (ov : Int32) (un : Int32) (aT : Int32) (mi : Int32) (ds : Int32) (dA : Nat) (a0 : Int32) (xp : Int32) (iA : Nat) (te : Int32) (E : Nat) (M : Nat) (fo : Nat → Int32) (fr : Nat → Int32) (x : Int64) (C0 : cx dC dI cI cB cJ R_Model b_Model_exact 4 (some .int) p s m ([.ref h0, .long x] : List Value).toArray meth c) (hA : ∀ q : Nat, s.heap.size ≤ q → A q) (hL : LY we wm E M) : ∀ n : Nat, (∀ (ko : Nat → Int32) (on1 : Int32) (k : Nat → Int32) (fi1 : Int32) (la1 : Int32) (n3 : Nat) (n4 : Nat) (H : Heap) (locs : List Loc) (ls : Array Slot), n4 < n → (fi1.toInt = (n3 : Int)) → (la1.toInt = (n4 : Int)) → (RWp k n3 n4) → (SPV E M (szo E M x.toInt.toNat) (sv k 400)) → (13 ≤ n3) → (n4 ≤ 209) → (n4 + 1 - n3 ≤ 157) → (szo E M x.toInt.toNat < iz E M) → (isPat E M x.toInt) → (TL ko on1 (sgW E M x.toInt ++ dl k n3 (61 - n3))) → va_P (dC, dI) vwCl [(h0, .inr (8, [.int 0, .int we, .int wm, .int wy, .int ra, .ref tA, .int tn, .ref oA, .int on1, .ref rA, .int fi1, .int la1, .ref wA, .int wf, .int wl, .int lo, .int ov, .int un, .int aT, .int mi, .int ds, .ref dA, .int a0, .int xp, .ref iA, .int te])), (oA, .inl (cI, 300, .inl ko)), (rA, .inl (cI, 400, .inl k))] H → va_D A [(h0, .inr (8, [.int 0, .int we, .int wm, .int wy, .int ra, .ref tA, .int tn, .ref oA, .int on1, .ref rA, .int fi1, .int la1, .ref wA, .int wf, .int wl, .int lo, .int ov, .int un, .int aT, .int mi, .int ds, .ref dA, .int a0, .int xp, .ref iA, .int te])), (oA, .inl (cI, 300, .inl ko)), (rA, .inl (cI, 400, .inl k))] → va_S A s.heap H locs → lv_has ls 4 [(0, .ref h0)] → W p l e ({ frames := 3, cells := 0, slots := 0, locals := 68 } : Room) s m ([.ref h0, .long x] : List Value).toArray below meth c H locs 0 0 (MQ below (va_Qi (fun (r : Int32) (u : (Int32) × (Nat → Int32) × (Int32) × (Nat → Int32) × (Int32) × (Int32)) => (isPat E M x.toInt ∧ u.1 = 0 ∧ ∃ w : List Nat, TL u.2.1 u.2.2.1 w ∧ r.toInt = (w.length : Int) ∧ EXW E M x.toInt w) ∨ (¬ isPat E M x.toInt ∧ u.1 = 1 ∧ r = 0 ∧ u.2.1 = fo ∧ u.2.2.1 = on)) (poG dC dI A (fun u : (Int32) × (Nat → Int32) × (Int32) × (Nat → Int32) × (Int32) × (Int32) => [(h0, .inr (8, [.int u.1, .int we, .int wm, .int wy, .int ra, .ref tA, .int tn, .ref oA, .int u.2.2.1, .ref rA, .int u.2.2.2.2.1, .int u.2.2.2.2.2, .ref wA, .int wf, .int wl, .int lo, .int ov, .int un, .int aT, .int mi, .int ds, .ref dA, .int a0, .int xp, .ref iA, .int te])), (oA, .inl (cI, 300, .inl u.2.1)), (rA, .inl (cI, 400, .inl u.2.2.2.1))])) A) ([.ref h0, .long x] : List Value).toArray s 0 0 A) (F0 m 71 ls [])) := by
  obtain ⟨hx, hb, hml, hown, hts, hr, hlocks, hK, hN⟩ := id C0
  intro n
  induction n with
  | zero => exact fun _ _ _ _ _ _ _ _ _ _ h0 _ _ _ _ _ _ _ _ _ _ _ _ _ _ => absurd h0 (Nat.not_lt_zero _)
  | succ n ih =>
    intro ko on1 k fi1 la1 n3 n4 H locs ls hn9 t_fi1 t_la1 hRk hsp hn13 hn209 hn157 hzi hpat hTL hP hD hS hl
    obtain ⟨he, hm, hE1, hE2, hM1, hM2⟩ := id hL
    have hbz := p_bias hE1 hE2
    have hem := p_em hE1 hE2 hM1 hM2
    have hiz := iz_sb E M
    have hpm := p_m hM2
    have hpm1 := pw_p M
    have hpe := p_e hE1 hE2
    have hsl := sgW_len E M x.toInt
    refine lv_aload_n hx hb d_Model_exact_71 rfl (lv_at hl 0 rfl) ?_
    refine va_get (D := (dC, dI)) (ci := 8) (v := .int la1) (C := R_Model) (T := F_Model) (N := 26) hx hb hts u_Model hown hK hP 0 rfl rfl 11 (by decide) (hts _ m_574) (fun _ h9 => h9) rfl d_Model_exact_72 ?_
    refine lv_bipush (v := 60) hx hb d_Model_exact_75 (by decide) ?_
    refine lv_icmp_le (tgt := 105) hx hb d_Model_exact_77 (by decide) (fun b77 => ?_) (fun b77 => ?_)
    · skip
      rw [q_ile t_la1 (show (60 : Int32).toInt = 60 by decide)] at b77
      exact L_Model_exact_105 (h0) (th) (we) (wm) (wy) (ra) (tA) (tn) (oA) (on) (rA) (fi) (la) (wA) (wf) (wl) (lo) (ov) (un) (aT) (mi) (ds) (dA) (a0) (xp) (iA) (te) (E) (M) (fo) (fr) (x) C0 hA (hL) (ko) (on1) (k) (fi1) (la1) (n3) (n4) H locs ls (by exact t_fi1) (by exact t_la1) (by exact hRk) (by exact hsp) (by exact hn13) (by exact hn209) (by exact hn157) (by exact hzi) (by exact hpat) (by exact hTL) (by intro h; omega) (va_Psub hP [0, 1, 2] rfl) (hD.sub [0, 1, 2] (by decide) rfl) hS (lv_sub hl [0] rfl)
    · skip
      rw [q_ile t_la1 (show (60 : Int32).toInt = 60 by decide)] at b77
      refine lv_aload_n hx hb d_Model_exact_80 rfl (lv_at hl 0 rfl) ?_
      refine va_get (D := (dC, dI)) (ci := 8) (v := .ref rA) (C := R_Model) (T := F_Model) (N := 26) hx hb hts u_Model hown hK hP 0 rfl rfl 9 (by decide) (hts _ m_572) (fun _ h9 => h9) rfl d_Model_exact_81 ?_
      refine lv_aload_n hx hb d_Model_exact_84 rfl (lv_at hl 0 rfl) ?_
      refine va_get (D := (dC, dI)) (ci := 8) (v := .int la1) (C := R_Model) (T := F_Model) (N := 26) hx hb hts u_Model hown hK hP 0 rfl rfl 11 (by decide) (hts _ m_574) (fun _ h9 => h9) rfl d_Model_exact_85 ?_
      refine va_iald hx hb hK hP 2 0 rfl rfl (q_in t_la1 (by omega)) d_Model_exact_88 ?_
      refine lv_topi (fun v88 e88 => ?_)
      rw [q_cl (k := n4) (t_la1)] at e88
      have t88 : v88.toInt = (k n4).toInt := by rw [e88]
      refine lv_if_ne (tgt := 105) hx hb d_Model_exact_89 (by decide) (fun b89 => ?_) (fun b89 => ?_)
      · skip
        rw [q_ieq t88 (show (0 : Int32).toInt = 0 by decide)] at b89
        exact L_Model_exact_105 (h0) (th) (we) (wm) (wy) (ra) (tA) (tn) (oA) (on) (rA) (fi) (la) (wA) (wf) (wl) (lo) (ov) (un) (aT) (mi) (ds) (dA) (a0) (xp) (iA) (te) (E) (M) (fo) (fr) (x) C0 hA (hL) (ko) (on1) (k) (fi1) (la1) (n3) (n4) H locs ls (by exact t_fi1) (by exact t_la1) (by exact hRk) (by exact hsp) (by exact hn13) (by exact hn209) (by exact hn157) (by exact hzi) (by exact hpat) (by exact hTL) (by intro h; exact b89) (va_Psub hP [0, 1, 2] rfl) (hD.sub [0, 1, 2] (by decide) rfl) hS (lv_sub hl [0] rfl)
      · skip
        rw [q_ieq t88 (show (0 : Int32).toInt = 0 by decide)] at b89
        refine lv_aload_n hx hb d_Model_exact_92 rfl (lv_at hl 0 rfl) ?_
        refine lv_dup hx hb d_Model_exact_93 rfl ?_
        refine va_get (D := (dC, dI)) (ci := 8) (v := .int la1) (C := R_Model) (T := F_Model) (N := 26) hx hb hts u_Model hown hK hP 0 rfl rfl 11 (by decide) (hts _ m_574) (fun _ h9 => h9) rfl d_Model_exact_94 ?_
        refine lv_iconst (v := 1) hx hb d_Model_exact_97 (by decide) ?_
        refine lv_isub hx hb d_Model_exact_98 ?_
        refine lv_topi (fun v98 e98 => ?_)
        have t98 : v98.toInt = (n4 : Int) - 1 := by rw [e98]; exact q_isub t_la1 (show (1 : Int32).toInt = 1 by decide) (by omega)
        refine va_put (D := (dC, dI)) (ci := 8) (v := .int v98) (ty := .int) (C := R_Model) (T := F_Model) (N := 26) hx hb hts u_Model t_Model t_Model_ok n_Model hown hK hP hD hS 0 rfl rfl 11 (by decide) (hts _ m_574) (fun _ h9 => h9) rfl (by decide +kernel) rfl rfl (Nat.le_of_ble_eq_true rfl) d_Model_exact_99 (fun H locs hP hD hS => ?_)
        have hP : va_P (dC, dI) vwCl [(h0, .inr (8, [.int 0, .int we, .int wm, .int wy, .int ra, .ref tA, .int tn, .ref oA, .int on1, .ref rA, .int fi1, .int v98, .ref wA, .int wf, .int wl, .int lo, .int ov, .int un, .int aT, .int mi, .int ds, .ref dA, .int a0, .int xp, .ref iA, .int te])), (oA, .inl (cI, 300, .inl ko)), (rA, .inl (cI, 400, .inl k))] H := hP
        have hD : va_D A [(h0, .inr (8, [.int 0, .int we, .int wm, .int wy, .int ra, .ref tA, .int tn, .ref oA, .int on1, .ref rA, .int fi1, .int v98, .ref wA, .int wf, .int wl, .int lo, .int ov, .int un, .int aT, .int mi, .int ds, .ref dA, .int a0, .int xp, .ref iA, .int te])), (oA, .inl (cI, 300, .inl ko)), (rA, .inl (cI, 400, .inl k))] := hD
        refine lv_goto (tgt := 71) hx hb d_Model_exact_102 (by decide) ?_
        exact ih (ko) (on1) (k) (fi1) (v98) (n3) (n4 - 1) H locs ls (by omega) (by exact t_fi1) (by exact t98.trans (by omega)) (by exact RWp_trim hRk (by omega) b89) (by exact hsp) (by exact hn13) (by omega) (by omega) (by exact hzi) (by exact hpat) (by exact hTL) (va_Psub hP [0, 1, 2] rfl) (hD.sub [0, 1, 2] (by decide) rfl) hS (lv_sub hl [0] rfl)
set_option maxHeartbeats 4000000 in
set_option maxRecDepth 100000 in
theorem L_Model_exact_46 {p : Program} {l : Launch} {e : Env} {s : State} {m : MethodId} {below : List Frame} {meth : Method} {c : Code} {dC : Nat → ClassId} {dI : Nat → Nat → Nat} {cI cB cJ : ClassId} {A : Nat → Prop} (h0 : Nat) (th : Int32) (we : Int32) (wm : Int32) (wy : Int32) (ra : Int32) (tA : Nat) (tn : Int32) (oA : Nat) (on : Int32) (rA : Nat) (fi : Int32) (la : Int32) (wA : Nat) (wf : Int32) (wl : Int32) (lo : Int32) (ov : Int32) (un : Int32) (aT : Int32) (mi : Int32) (ds : Int32) (dA : Nat) (a0 : Int32) (xp : Int32) (iA : Nat) (te : Int32) (E : Nat) (M : Nat) (fo : Nat → Int32) (fr : Nat → Int32) (x : Int64) (C0 : cx dC dI cI cB cJ R_Model b_Model_exact 4 (some .int) p s m ([.ref h0, .long x] : List Value).toArray meth c) (hA : ∀ q : Nat, s.heap.size ≤ q → A q) (hL : LY we wm E M) : ∀ n : Nat, (∀ (x3 : Int32) (c9 : Nat) (ko : Nat → Int32) (on1 : Int32) (k : Nat → Int32) (fi1 : Int32) (la1 : Int32) (n3 : Nat) (n4 : Nat) (H : Heap) (locs : List Loc) (ls : Array Slot), 62 - (n3 + c9) < n → x3.toInt = ((n3 + c9 : Nat) : Int) → (fi1.toInt = (n3 : Int)) → (la1.toInt = (n4 : Int)) → (RWp k n3 n4) → (SPV E M (szo E M x.toInt.toNat) (sv k 400)) → (13 ≤ n3) → (n4 ≤ 209) → (n4 + 1 - n3 ≤ 157) → (szo E M x.toInt.toNat < iz E M) → (isPat E M x.toInt) → (TL ko on1 (sgW E M x.toInt ++ dl k n3 c9)) → (n3 + c9 ≤ 61) → va_P (dC, dI) vwCl [(h0, .inr (8, [.int 0, .int we, .int wm, .int wy, .int ra, .ref tA, .int tn, .ref oA, .int on1, .ref rA, .int fi1, .int la1, .ref wA, .int wf, .int wl, .int lo, .int ov, .int un, .int aT, .int mi, .int ds, .ref dA, .int a0, .int xp, .ref iA, .int te])), (oA, .inl (cI, 300, .inl ko)), (rA, .inl (cI, 400, .inl k))] H → va_D A [(h0, .inr (8, [.int 0, .int we, .int wm, .int wy, .int ra, .ref tA, .int tn, .ref oA, .int on1, .ref rA, .int fi1, .int la1, .ref wA, .int wf, .int wl, .int lo, .int ov, .int un, .int aT, .int mi, .int ds, .ref dA, .int a0, .int xp, .ref iA, .int te])), (oA, .inl (cI, 300, .inl ko)), (rA, .inl (cI, 400, .inl k))] → va_S A s.heap H locs → lv_has ls 4 [(3, .int x3), (0, .ref h0)] → W p l e ({ frames := 3, cells := 0, slots := 0, locals := 68 } : Room) s m ([.ref h0, .long x] : List Value).toArray below meth c H locs 0 0 (MQ below (va_Qi (fun (r : Int32) (u : (Int32) × (Nat → Int32) × (Int32) × (Nat → Int32) × (Int32) × (Int32)) => (isPat E M x.toInt ∧ u.1 = 0 ∧ ∃ w : List Nat, TL u.2.1 u.2.2.1 w ∧ r.toInt = (w.length : Int) ∧ EXW E M x.toInt w) ∨ (¬ isPat E M x.toInt ∧ u.1 = 1 ∧ r = 0 ∧ u.2.1 = fo ∧ u.2.2.1 = on)) (poG dC dI A (fun u : (Int32) × (Nat → Int32) × (Int32) × (Nat → Int32) × (Int32) × (Int32) => [(h0, .inr (8, [.int u.1, .int we, .int wm, .int wy, .int ra, .ref tA, .int tn, .ref oA, .int u.2.2.1, .ref rA, .int u.2.2.2.2.1, .int u.2.2.2.2.2, .ref wA, .int wf, .int wl, .int lo, .int ov, .int un, .int aT, .int mi, .int ds, .ref dA, .int a0, .int xp, .ref iA, .int te])), (oA, .inl (cI, 300, .inl u.2.1)), (rA, .inl (cI, 400, .inl u.2.2.2.1))])) A) ([.ref h0, .long x] : List Value).toArray s 0 0 A) (F0 m 46 ls [])) := by
  obtain ⟨hx, hb, hml, hown, hts, hr, hlocks, hK, hN⟩ := id C0
  intro n
  induction n with
  | zero => exact fun _ _ _ _ _ _ _ _ _ _ _ _ h0 _ _ _ _ _ _ _ _ _ _ _ _ _ _ _ _ => absurd h0 (Nat.not_lt_zero _)
  | succ n ih =>
    intro x3 c9 ko on1 k fi1 la1 n3 n4 H locs ls hn9 t_x3 t_fi1 t_la1 hRk hsp hn13 hn209 hn157 hzi hpat hTL hc61 hP hD hS hl
    have r_x3 := q_r32 x3
    obtain ⟨he, hm, hE1, hE2, hM1, hM2⟩ := id hL
    have hbz := p_bias hE1 hE2
    have hem := p_em hE1 hE2 hM1 hM2
    have hiz := iz_sb E M
    have hpm := p_m hM2
    have hpm1 := pw_p M
    have hpe := p_e hE1 hE2
    have hsl := sgW_len E M x.toInt
    refine lv_iload_n hx hb d_Model_exact_46 rfl (lv_at hl 0 rfl) ?_
    refine lv_bipush (v := 60) hx hb d_Model_exact_47 (by decide) ?_
    refine lv_icmp_gt (tgt := 71) hx hb d_Model_exact_49 (by decide) (fun b49 => ?_) (fun b49 => ?_)
    · skip
      rw [q_ilt (show (60 : Int32).toInt = 60 by decide) t_x3] at b49
      exact L_Model_exact_71 (h0) (th) (we) (wm) (wy) (ra) (tA) (tn) (oA) (on) (rA) (fi) (la) (wA) (wf) (wl) (lo) (ov) (un) (aT) (mi) (ds) (dA) (a0) (xp) (iA) (te) (E) (M) (fo) (fr) (x) C0 hA (hL) _ (ko) (on1) (k) (fi1) (la1) (n3) (n4) H locs ls (Nat.lt_succ_self _) (by exact t_fi1) (by exact t_la1) (by exact hRk) (by exact hsp) (by exact hn13) (by exact hn209) (by exact hn157) (by exact hzi) (by exact hpat) (by rw [show 61 - n3 = c9 by omega]; exact hTL) (va_Psub hP [0, 1, 2] rfl) (hD.sub [0, 1, 2] (by decide) rfl) hS (lv_sub hl [1] rfl)
    · skip
      rw [q_ilt (show (60 : Int32).toInt = 60 by decide) t_x3] at b49
      refine lv_aload_n hx hb d_Model_exact_52 rfl (lv_at hl 1 rfl) ?_
      refine lv_bipush (v := 48) hx hb d_Model_exact_53 (by decide) ?_
      refine lv_aload_n hx hb d_Model_exact_55 rfl (lv_at hl 1 rfl) ?_
      refine va_get (D := (dC, dI)) (ci := 8) (v := .ref rA) (C := R_Model) (T := F_Model) (N := 26) hx hb hts u_Model hown hK hP 0 rfl rfl 9 (by decide) (hts _ m_572) (fun _ h9 => h9) rfl d_Model_exact_56 ?_
      refine lv_iload_n hx hb d_Model_exact_59 rfl (lv_at hl 0 rfl) ?_
      have hd9 := RWp_9 hRk (show n3 + c9 < 400 by omega)
      refine va_iald hx hb hK hP 2 0 rfl rfl (q_in t_x3 (by omega)) d_Model_exact_60 ?_
      refine lv_topi (fun v60 e60 => ?_)
      rw [q_cl (k := n3 + c9) (t_x3)] at e60
      have t60 : v60.toInt = (rdg k (n3 + c9) : Int) := by rw [e60]; exact rdg_i (hRk.1 _ (by omega)).1
      refine lv_iadd hx hb d_Model_exact_61 ?_
      refine lv_topi (fun v61 e61 => ?_)
      have t61 : v61.toInt = 48 + ((rdg k (n3 + c9) : Int)) := by rw [e61]; exact q_iadd (show (48 : Int32).toInt = 48 by decide) t60 (by omega)
      refine callV_v (wr := [(rA, .inl (cI, 400, .inl k))]) C0 (c_Model_say l dC dI cI cB cJ (h0) ((0 : Int32)) (we) (wm) (wy) (ra) (tA) (tn) (oA) (on1) (rA) (fi1) (la1) (wA) (wf) (wl) (lo) (ov) (un) (aT) (mi) (ds) (dA) (a0) (xp) (iA) (te) (ko) (sgW E M x.toInt ++ dl k n3 c9) (v61) (48 + rdg k (n3 + c9)) (by exact hTL) (by exact t61.trans (by omega)) (by rw [List.length_append, dl_len]; omega)) (cwV 1 hts (gV m_712 m_713 m_39 m_55 m_714) rfl rfl rfl (by decide +kernel) ⟨Nat.le_of_ble_eq_true rfl, Nat.le_of_ble_eq_true rfl⟩) 8 rfl rfl 0 rfl hP hD hS hA [0, 1] [2] rfl rfl (by decide) (by decide) (by decide) rfl hl.1 rfl (Nat.le_of_ble_eq_true rfl) d_Model_exact_62 ⟨Nat.le_of_ble_eq_true rfl, Nat.le_of_ble_eq_true rfl⟩ (fun u62 H locs hw9 hP hD hS => ?_)
      obtain ⟨k62, on162⟩ := u62
      have h62 : TL k62 on162 ((sgW E M x.toInt ++ dl k n3 c9) ++ [(48 + rdg k (n3 + c9))]) := hw9
      have hP : va_P (dC, dI) vwCl [(rA, .inl (cI, 400, .inl k)), (h0, .inr (8, [.int 0, .int we, .int wm, .int wy, .int ra, .ref tA, .int tn, .ref oA, .int on162, .ref rA, .int fi1, .int la1, .ref wA, .int wf, .int wl, .int lo, .int ov, .int un, .int aT, .int mi, .int ds, .ref dA, .int a0, .int xp, .ref iA, .int te])), (oA, .inl (cI, 300, .inl k62))] H := hP
      have hD : va_D A [(rA, .inl (cI, 400, .inl k)), (h0, .inr (8, [.int 0, .int we, .int wm, .int wy, .int ra, .ref tA, .int tn, .ref oA, .int on162, .ref rA, .int fi1, .int la1, .ref wA, .int wf, .int wl, .int lo, .int ov, .int un, .int aT, .int mi, .int ds, .ref dA, .int a0, .int xp, .ref iA, .int te])), (oA, .inl (cI, 300, .inl k62))] := hD
      obtain ⟨v65, e65⟩ : ∃ y : Int32, y = x3 + 1 := ⟨_, rfl⟩
      have t65 : v65.toInt = ((n3 + c9 : Nat) : Int) + 1 := by rw [e65]; exact q_iadd t_x3 (show (1 : Int32).toInt = 1 by decide) (by omega)
      refine lv_iinc (v := v65) (lv' := [(3, .int v65), (0, .ref h0)]) hx hb d_Model_exact_65 hl (k := 0) rfl (by rw [e65]; rfl) (by decide) rfl (fun ls hl => ?_)
      refine lv_goto (tgt := 46) hx hb d_Model_exact_68 (by decide) ?_
      exact ih (v65) (c9 + 1) (k62) (on162) (k) (fi1) (la1) (n3) (n4) H locs ls (by omega) ((t65).trans (by omega)) (by exact t_fi1) (by exact t_la1) (by exact hRk) (by exact hsp) (by exact hn13) (by exact hn209) (by exact hn157) (by exact hzi) (by exact hpat) (by rw [show dl k n3 (c9 + 1) = dl k n3 c9 ++ [48 + rdg k (n3 + c9)] from rfl, ← List.append_assoc]; exact h62) (by omega) (va_Psub hP [1, 2, 0] rfl) (hD.sub [1, 2, 0] (by decide) rfl) hS (lv_sub hl [0, 1] rfl)
set_option maxHeartbeats 4000000 in
set_option maxRecDepth 100000 in
theorem c_Model_exact (l : Launch) (dC : Nat → ClassId) (dI : Nat → Nat → Nat) (cI cB cJ : ClassId) (h0 : Nat) (th : Int32) (we : Int32) (wm : Int32) (wy : Int32) (ra : Int32) (tA : Nat) (tn : Int32) (oA : Nat) (on : Int32) (rA : Nat) (fi : Int32) (la : Int32) (wA : Nat) (wf : Int32) (wl : Int32) (lo : Int32) (ov : Int32) (un : Int32) (aT : Int32) (mi : Int32) (ds : Int32) (dA : Nat) (a0 : Int32) (xp : Int32) (iA : Nat) (te : Int32) (E : Nat) (M : Nat) (fo : Nat → Int32) (fr : Nat → Int32) (x : Int64) (hL : LY we wm E M) : Ci l dC dI cI cB cJ y_Model_exact w_Model_exact ({ frames := 3, cells := 0, slots := 0, locals := 68 } : Room) [.ref h0, .long x] [(h0, .inr (8, [.int th, .int we, .int wm, .int wy, .int ra, .ref tA, .int tn, .ref oA, .int on, .ref rA, .int fi, .int la, .ref wA, .int wf, .int wl, .int lo, .int ov, .int un, .int aT, .int mi, .int ds, .ref dA, .int a0, .int xp, .ref iA, .int te])), (oA, .inl (cI, 300, .inl fo)), (rA, .inl (cI, 400, .inl fr))] (fun (r : Int32) (u : (Int32) × (Nat → Int32) × (Int32) × (Nat → Int32) × (Int32) × (Int32)) => (isPat E M x.toInt ∧ u.1 = 0 ∧ ∃ w : List Nat, TL u.2.1 u.2.2.1 w ∧ r.toInt = (w.length : Int) ∧ EXW E M x.toInt w) ∨ (¬ isPat E M x.toInt ∧ u.1 = 1 ∧ r = 0 ∧ u.2.1 = fo ∧ u.2.2.1 = on)) (fun u : (Int32) × (Nat → Int32) × (Int32) × (Nat → Int32) × (Int32) × (Int32) => [(h0, .inr (8, [.int u.1, .int we, .int wm, .int wy, .int ra, .ref tA, .int tn, .ref oA, .int u.2.2.1, .ref rA, .int u.2.2.2.2.1, .int u.2.2.2.2.2, .ref wA, .int wf, .int wl, .int lo, .int ov, .int un, .int aT, .int mi, .int ds, .ref dA, .int a0, .int xp, .ref iA, .int te])), (oA, .inl (cI, 300, .inl u.2.1)), (rA, .inl (cI, 400, .inl u.2.2.2.1))]) := by
  refine Ci.intro (cc := b_Model_exact) (maxL := 4) (plainFor_of_name (by decide)) rfl (Nat.le_of_ble_eq_true rfl) ?_
  intro p e s m below meth c A ls C0 hin hA hP hD hS hl
  obtain ⟨hx, hb, hml, hown, hts, hr, hlocks, hK, hN⟩ := id C0
  obtain ⟨H, hH⟩ : ∃ H, H = s.heap := ⟨_, rfl⟩
  have hP : va_P (dC, dI) vwCl [(h0, .inr (8, [.int th, .int we, .int wm, .int wy, .int ra, .ref tA, .int tn, .ref oA, .int on, .ref rA, .int fi, .int la, .ref wA, .int wf, .int wl, .int lo, .int ov, .int un, .int aT, .int mi, .int ds, .ref dA, .int a0, .int xp, .ref iA, .int te])), (oA, .inl (cI, 300, .inl fo)), (rA, .inl (cI, 400, .inl fr))] s.heap := hP
  have hl : lv_has ls 4 [(0, .ref h0), (1, .long x)] := hl
  have r_x := q_r64 x
  suffices h : ∀ (H : Heap) (locs : List Loc), va_P (dC, dI) vwCl [(h0, .inr (8, [.int th, .int we, .int wm, .int wy, .int ra, .ref tA, .int tn, .ref oA, .int on, .ref rA, .int fi, .int la, .ref wA, .int wf, .int wl, .int lo, .int ov, .int un, .int aT, .int mi, .int ds, .ref dA, .int a0, .int xp, .ref iA, .int te])), (oA, .inl (cI, 300, .inl fo)), (rA, .inl (cI, 400, .inl fr))] H → va_D A [(h0, .inr (8, [.int th, .int we, .int wm, .int wy, .int ra, .ref tA, .int tn, .ref oA, .int on, .ref rA, .int fi, .int la, .ref wA, .int wf, .int wl, .int lo, .int ov, .int un, .int aT, .int mi, .int ds, .ref dA, .int a0, .int xp, .ref iA, .int te])), (oA, .inl (cI, 300, .inl fo)), (rA, .inl (cI, 400, .inl fr))] → va_S A s.heap H locs → W p l e ({ frames := 3, cells := 0, slots := 0, locals := 68 } : Room) s m ([.ref h0, .long x] : List Value).toArray below meth c H locs 0 0 (MQ below (va_Qi (fun (r : Int32) (u : (Int32) × (Nat → Int32) × (Int32) × (Nat → Int32) × (Int32) × (Int32)) => (isPat E M x.toInt ∧ u.1 = 0 ∧ ∃ w : List Nat, TL u.2.1 u.2.2.1 w ∧ r.toInt = (w.length : Int) ∧ EXW E M x.toInt w) ∨ (¬ isPat E M x.toInt ∧ u.1 = 1 ∧ r = 0 ∧ u.2.1 = fo ∧ u.2.2.1 = on)) (poG dC dI A (fun u : (Int32) × (Nat → Int32) × (Int32) × (Nat → Int32) × (Int32) × (Int32) => [(h0, .inr (8, [.int u.1, .int we, .int wm, .int wy, .int ra, .ref tA, .int tn, .ref oA, .int u.2.2.1, .ref rA, .int u.2.2.2.2.1, .int u.2.2.2.2.2, .ref wA, .int wf, .int wl, .int lo, .int ov, .int un, .int aT, .int mi, .int ds, .ref dA, .int a0, .int xp, .ref iA, .int te])), (oA, .inl (cI, 300, .inl u.2.1)), (rA, .inl (cI, 400, .inl u.2.2.2.1))])) A) ([.ref h0, .long x] : List Value).toArray s 0 0 A) (F0 m 0 ls []) from h _ _ hP hD hS
  clear hP hD hS hH H
  intro H locs hP hD hS
  obtain ⟨he, hm, hE1, hE2, hM1, hM2⟩ := id hL
  have hbz := p_bias hE1 hE2
  have hem := p_em hE1 hE2 hM1 hM2
  have hiz := iz_sb E M
  have hpm := p_m hM2
  have hpm1 := pw_p M
  have hpe := p_e hE1 hE2
  have hsl := sgW_len E M x.toInt
  refine lv_aload_n hx hb d_Model_exact_0 rfl (lv_at hl 0 rfl) ?_
  refine lv_lload_n hx hb d_Model_exact_1 rfl (lv_at hl 1 rfl) ?_
  refine callV_i (wr := [(oA, .inl (cI, 300, .inl fo)), (rA, .inl (cI, 400, .inl fr))]) C0 (c_Model_isPattern l dC dI cI cB cJ (h0) (th) (we) (wm) (wy) (ra) (tA) (tn) (oA) (on) (rA) (fi) (la) (wA) (wf) (wl) (lo) (ov) (un) (aT) (mi) (ds) (dA) (a0) (xp) (iA) (te) (E) (M) (x) (by exact hL)) (cwV 1 hts (gV m_700 m_701 m_35 m_55 m_702) rfl rfl rfl (by decide +kernel) ⟨Nat.le_of_ble_eq_true rfl, Nat.le_of_ble_eq_true rfl⟩) 8 rfl rfl 0 rfl hP hD hS hA [0] [1, 2] rfl rfl (by decide) (by decide) (by decide) rfl hl.1 rfl (Nat.le_of_ble_eq_true rfl) d_Model_exact_2 ⟨Nat.le_of_ble_eq_true rfl, Nat.le_of_ble_eq_true rfl⟩ (fun r2 u2 H locs hw9 hP hD hS => ?_)
  have h2 : r2 = if isPat E M x.toInt then 1 else 0 := hw9
  have hP : va_P (dC, dI) vwCl [(oA, .inl (cI, 300, .inl fo)), (rA, .inl (cI, 400, .inl fr)), (h0, .inr (8, [.int th, .int we, .int wm, .int wy, .int ra, .ref tA, .int tn, .ref oA, .int on, .ref rA, .int fi, .int la, .ref wA, .int wf, .int wl, .int lo, .int ov, .int un, .int aT, .int mi, .int ds, .ref dA, .int a0, .int xp, .ref iA, .int te]))] H := hP
  have hD : va_D A [(oA, .inl (cI, 300, .inl fo)), (rA, .inl (cI, 400, .inl fr)), (h0, .inr (8, [.int th, .int we, .int wm, .int wy, .int ra, .ref tA, .int tn, .ref oA, .int on, .ref rA, .int fi, .int la, .ref wA, .int wf, .int wl, .int lo, .int ov, .int un, .int aT, .int mi, .int ds, .ref dA, .int a0, .int xp, .ref iA, .int te]))] := hD
  refine lv_if_ne (tgt := 14) hx hb d_Model_exact_5 (by decide) (fun b5 => ?_) (fun b5 => ?_)
  · skip
    have hpat : isPat E M x.toInt := Decidable.byContradiction fun h => b5 (by rw [h2]; exact if_neg h)
    refine lv_aload_n hx hb d_Model_exact_14 rfl (lv_at hl 0 rfl) ?_
    refine lv_iconst (v := 0) hx hb d_Model_exact_15 (by decide) ?_
    refine va_put (D := (dC, dI)) (ci := 8) (v := .int 0) (ty := .int) (C := R_Model) (T := F_Model) (N := 26) hx hb hts u_Model t_Model t_Model_ok n_Model hown hK hP hD hS 2 rfl rfl 0 (by decide) (hts _ m_563) (fun _ h9 => h9) rfl (by decide +kernel) rfl rfl (Nat.le_of_ble_eq_true rfl) d_Model_exact_16 (fun H locs hP hD hS => ?_)
    have hP : va_P (dC, dI) vwCl [(oA, .inl (cI, 300, .inl fo)), (rA, .inl (cI, 400, .inl fr)), (h0, .inr (8, [.int 0, .int we, .int wm, .int wy, .int ra, .ref tA, .int tn, .ref oA, .int on, .ref rA, .int fi, .int la, .ref wA, .int wf, .int wl, .int lo, .int ov, .int un, .int aT, .int mi, .int ds, .ref dA, .int a0, .int xp, .ref iA, .int te]))] H := hP
    have hD : va_D A [(oA, .inl (cI, 300, .inl fo)), (rA, .inl (cI, 400, .inl fr)), (h0, .inr (8, [.int 0, .int we, .int wm, .int wy, .int ra, .ref tA, .int tn, .ref oA, .int on, .ref rA, .int fi, .int la, .ref wA, .int wf, .int wl, .int lo, .int ov, .int un, .int aT, .int mi, .int ds, .ref dA, .int a0, .int xp, .ref iA, .int te]))] := hD
    refine lv_aload_n hx hb d_Model_exact_19 rfl (lv_at hl 0 rfl) ?_
    refine lv_lload_n hx hb d_Model_exact_20 rfl (lv_at hl 1 rfl) ?_
    refine callV_i (wr := [(rA, .inl (cI, 400, .inl fr))]) C0 (c_Model_isStrange l dC dI cI cB cJ (h0) ((0 : Int32)) (we) (wm) (wy) (ra) (tA) (tn) (oA) (on) (rA) (fi) (la) (wA) (wf) (wl) (lo) (ov) (un) (aT) (mi) (ds) (dA) (a0) (xp) (iA) (te) (E) (M) (fo) (x) (by exact hL) (by exact hpat)) (cwV 1 hts (gV m_703 m_704 m_36 m_55 m_705) rfl rfl rfl (by decide +kernel) ⟨Nat.le_of_ble_eq_true rfl, Nat.le_of_ble_eq_true rfl⟩) 8 rfl rfl 0 rfl hP hD hS hA [2, 0] [1] rfl rfl (by decide) (by decide) (by decide) rfl hl.1 rfl (Nat.le_of_ble_eq_true rfl) d_Model_exact_21 ⟨Nat.le_of_ble_eq_true rfl, Nat.le_of_ble_eq_true rfl⟩ (fun r21 u21 H locs hw9 hP hD hS => ?_)
    obtain ⟨k21, on121⟩ := u21
    have h21 : (r21 = 0 ∧ szo E M x.toInt.toNat < iz E M ∧ TL k21 on121 (sgW E M x.toInt)) ∨ (r21 = 1 ∧ iz E M ≤ szo E M x.toInt.toNat ∧ TL k21 on121 (nfW E M x.toInt)) := hw9
    have hP : va_P (dC, dI) vwCl [(rA, .inl (cI, 400, .inl fr)), (h0, .inr (8, [.int 0, .int we, .int wm, .int wy, .int ra, .ref tA, .int tn, .ref oA, .int on121, .ref rA, .int fi, .int la, .ref wA, .int wf, .int wl, .int lo, .int ov, .int un, .int aT, .int mi, .int ds, .ref dA, .int a0, .int xp, .ref iA, .int te])), (oA, .inl (cI, 300, .inl k21))] H := hP
    have hD : va_D A [(rA, .inl (cI, 400, .inl fr)), (h0, .inr (8, [.int 0, .int we, .int wm, .int wy, .int ra, .ref tA, .int tn, .ref oA, .int on121, .ref rA, .int fi, .int la, .ref wA, .int wf, .int wl, .int lo, .int ov, .int un, .int aT, .int mi, .int ds, .ref dA, .int a0, .int xp, .ref iA, .int te])), (oA, .inl (cI, 300, .inl k21))] := hD
    refine lv_if_eq (tgt := 32) hx hb d_Model_exact_24 (by decide) (fun b24 => ?_) (fun b24 => ?_)
    · skip
      obtain ⟨hzi, hTL⟩ := h21.elim (fun h => h.2) (fun h => absurd (h.1.symm.trans b24) (by decide))
      refine lv_aload_n hx hb d_Model_exact_32 rfl (lv_at hl 0 rfl) ?_
      refine lv_aload_n hx hb d_Model_exact_33 rfl (lv_at hl 0 rfl) ?_
      refine lv_lload_n hx hb d_Model_exact_34 rfl (lv_at hl 1 rfl) ?_
      refine callV_l (wr := [(rA, .inl (cI, 400, .inl fr)), (oA, .inl (cI, 300, .inl k21))]) C0 (c_Model_sizeOf l dC dI cI cB cJ (h0) ((0 : Int32)) (we) (wm) (wy) (ra) (tA) (tn) (oA) (on121) (rA) (fi) (la) (wA) (wf) (wl) (lo) (ov) (un) (aT) (mi) (ds) (dA) (a0) (xp) (iA) (te) (E) (M) (x) (x.toInt.toNat) (by exact hL) (by exact (Int.toNat_of_nonneg hpat.1).symm)) (cwV 1 hts (gV m_706 m_707 m_37 m_55 m_708) rfl rfl rfl (by decide +kernel) ⟨Nat.le_of_ble_eq_true rfl, Nat.le_of_ble_eq_true rfl⟩) 8 rfl rfl 0 rfl hP hD hS hA [1] [0, 2] rfl rfl (by decide) (by decide) (by decide) rfl hl.1 rfl (Nat.le_of_ble_eq_true rfl) d_Model_exact_35 ⟨Nat.le_of_ble_eq_true rfl, Nat.le_of_ble_eq_true rfl⟩ (fun r35 u35 H locs hw9 hP hD hS => ?_)
      have h35 : r35.toInt = ((szo E M x.toInt.toNat : Nat) : Int) := hw9
      have hP : va_P (dC, dI) vwCl [(rA, .inl (cI, 400, .inl fr)), (oA, .inl (cI, 300, .inl k21)), (h0, .inr (8, [.int 0, .int we, .int wm, .int wy, .int ra, .ref tA, .int tn, .ref oA, .int on121, .ref rA, .int fi, .int la, .ref wA, .int wf, .int wl, .int lo, .int ov, .int un, .int aT, .int mi, .int ds, .ref dA, .int a0, .int xp, .ref iA, .int te]))] H := hP
      have hD : va_D A [(rA, .inl (cI, 400, .inl fr)), (oA, .inl (cI, 300, .inl k21)), (h0, .inr (8, [.int 0, .int we, .int wm, .int wy, .int ra, .ref tA, .int tn, .ref oA, .int on121, .ref rA, .int fi, .int la, .ref wA, .int wf, .int wl, .int lo, .int ov, .int un, .int aT, .int mi, .int ds, .ref dA, .int a0, .int xp, .ref iA, .int te]))] := hD
      refine callV_v (wr := [(oA, .inl (cI, 300, .inl k21))]) C0 (c_Model_spread l dC dI cI cB cJ (h0) ((0 : Int32)) (we) (wm) (wy) (ra) (tA) (tn) (oA) (on121) (rA) (fi) (la) (wA) (wf) (wl) (lo) (ov) (un) (aT) (mi) (ds) (dA) (a0) (xp) (iA) (te) (E) (M) (fr) (r35) (szo E M x.toInt.toNat) (by exact hL) (by exact h35) (by exact hzi)) (cwV 1 hts (gV m_715 m_716 m_40 m_55 m_717) rfl rfl rfl (by decide +kernel) ⟨Nat.le_of_ble_eq_true rfl, Nat.le_of_ble_eq_true rfl⟩) 8 rfl rfl 0 rfl hP hD hS hA [2, 0] [1] rfl rfl (by decide) (by decide) (by decide) rfl hl.1 rfl (Nat.le_of_ble_eq_true rfl) d_Model_exact_38 ⟨Nat.le_of_ble_eq_true rfl, Nat.le_of_ble_eq_true rfl⟩ (fun u38 H locs hw9 hP hD hS => ?_)
      obtain ⟨k38, fi138, la138⟩ := u38
      have h38 : ∃ n3 n4 : Nat, fi138.toInt = (n3 : Int) ∧ la138.toInt = (n4 : Int) ∧ RWp k38 n3 n4 ∧ SPV E M (szo E M x.toInt.toNat) (sv k38 400) ∧ n4 ≤ 60 + (-(pwr E M (szo E M x.toInt.toNat))).toNat := hw9
      have hP : va_P (dC, dI) vwCl [(oA, .inl (cI, 300, .inl k21)), (h0, .inr (8, [.int 0, .int we, .int wm, .int wy, .int ra, .ref tA, .int tn, .ref oA, .int on121, .ref rA, .int fi138, .int la138, .ref wA, .int wf, .int wl, .int lo, .int ov, .int un, .int aT, .int mi, .int ds, .ref dA, .int a0, .int xp, .ref iA, .int te])), (rA, .inl (cI, 400, .inl k38))] H := hP
      have hD : va_D A [(oA, .inl (cI, 300, .inl k21)), (h0, .inr (8, [.int 0, .int we, .int wm, .int wy, .int ra, .ref tA, .int tn, .ref oA, .int on121, .ref rA, .int fi138, .int la138, .ref wA, .int wf, .int wl, .int lo, .int ov, .int un, .int aT, .int mi, .int ds, .ref dA, .int a0, .int xp, .ref iA, .int te])), (rA, .inl (cI, 400, .inl k38))] := hD
      obtain ⟨n3, n4, t_fi1, t_la1, hRk, hsp, hn42⟩ := h38
      obtain ⟨hn13, hn209, hn157⟩ := SP_b hM2 (pwr_r hE1 hE2 hM1 hM2 szo_lt) hRk hsp hn42
      refine lv_aload_n hx hb d_Model_exact_41 rfl (lv_at hl 0 rfl) ?_
      refine va_get (D := (dC, dI)) (ci := 8) (v := .int fi138) (C := R_Model) (T := F_Model) (N := 26) hx hb hts u_Model hown hK hP 1 rfl rfl 10 (by decide) (hts _ m_573) (fun _ h9 => h9) rfl d_Model_exact_42 ?_
      refine lv_istore_n (lv' := [(3, .int fi138), (0, .ref h0), (1, .long x)]) hx hb d_Model_exact_45 rfl hl (by decide) rfl (fun ls hl => ?_)
      exact L_Model_exact_46 (h0) (th) (we) (wm) (wy) (ra) (tA) (tn) (oA) (on) (rA) (fi) (la) (wA) (wf) (wl) (lo) (ov) (un) (aT) (mi) (ds) (dA) (a0) (xp) (iA) (te) (E) (M) (fo) (fr) (x) C0 hA (hL) _ (fi138) (0) (k21) (on121) (k38) (fi138) (la138) (n3) (n4) H locs ls (Nat.lt_succ_self _) (t_fi1.trans (by omega)) (by exact t_fi1) (by exact t_la1) (by exact hRk) (by exact hsp) (by exact hn13) (by exact hn209) (by exact hn157) (by exact hzi) (by exact hpat) (by exact (List.append_nil (sgW E M x.toInt)).symm ▸ hTL) (by have := hRk.2.2.2.1; omega) (va_Psub hP [1, 0, 2] rfl) (hD.sub [1, 0, 2] (by decide) rfl) hS (lv_sub hl [0, 1] rfl)
    · skip
      obtain ⟨hzi, hTL⟩ := h21.elim (fun h => absurd h.1 b24) (fun h => h.2)
      refine lv_aload_n hx hb d_Model_exact_27 rfl (lv_at hl 0 rfl) ?_
      refine va_get (D := (dC, dI)) (ci := 8) (v := .int on121) (C := R_Model) (T := F_Model) (N := 26) hx hb hts u_Model hown hK hP 1 rfl rfl 8 (by decide) (hts _ m_571) (fun _ h9 => h9) rfl d_Model_exact_28 ?_
      exact Ci.ret C0 (v := on121) (u := (0, k21, on121, fr, fi, la)) (Nat.le_of_ble_eq_true rfl) (Nat.le_of_ble_eq_true rfl) (by show (isPat E M x.toInt ∧ (0 : Int32) = 0 ∧ ∃ w : List Nat, TL k21 on121 w ∧ on121.toInt = (w.length : Int) ∧ EXW E M x.toInt w) ∨ (¬ isPat E M x.toInt ∧ (0 : Int32) = 1 ∧ on121 = 0 ∧ k21 = fo ∧ on121 = on); exact Or.inl ⟨hpat, rfl, _, hTL, hTL.1, Or.inl ⟨hzi, rfl⟩⟩) hP hD hS [1, 2, 0] (by decide) rfl d_Model_exact_31
  · skip
    have hnp : ¬ isPat E M x.toInt := fun h => by rw [if_pos h] at h2; rw [h2] at b5; exact absurd b5 (by decide)
    refine lv_aload_n hx hb d_Model_exact_8 rfl (lv_at hl 0 rfl) ?_
    refine lv_iconst (v := 1) hx hb d_Model_exact_9 (by decide) ?_
    refine callV_i (wr := [(oA, .inl (cI, 300, .inl fo)), (rA, .inl (cI, 400, .inl fr))]) C0 (c_Model_raise l dC dI cI cB cJ (h0) (th) (we) (wm) (wy) (ra) (tA) (tn) (oA) (on) (rA) (fi) (la) (wA) (wf) (wl) (lo) (ov) (un) (aT) (mi) (ds) (dA) (a0) (xp) (iA) (te) ((1 : Int32))) (cwV 1 hts (gV m_656 m_657 m_22 m_55 m_658) rfl rfl rfl (by decide +kernel) ⟨Nat.le_of_ble_eq_true rfl, Nat.le_of_ble_eq_true rfl⟩) 8 rfl rfl 0 rfl hP hD hS hA [2] [0, 1] rfl rfl (by decide) (by decide) (by decide) rfl hl.1 rfl (Nat.le_of_ble_eq_true rfl) d_Model_exact_10 ⟨Nat.le_of_ble_eq_true rfl, Nat.le_of_ble_eq_true rfl⟩ (fun r10 u10 H locs hw9 hP hD hS => ?_)
    have h10 : r10 = 0 := hw9
    have hP : va_P (dC, dI) vwCl [(oA, .inl (cI, 300, .inl fo)), (rA, .inl (cI, 400, .inl fr)), (h0, .inr (8, [.int 1, .int we, .int wm, .int wy, .int ra, .ref tA, .int tn, .ref oA, .int on, .ref rA, .int fi, .int la, .ref wA, .int wf, .int wl, .int lo, .int ov, .int un, .int aT, .int mi, .int ds, .ref dA, .int a0, .int xp, .ref iA, .int te]))] H := hP
    have hD : va_D A [(oA, .inl (cI, 300, .inl fo)), (rA, .inl (cI, 400, .inl fr)), (h0, .inr (8, [.int 1, .int we, .int wm, .int wy, .int ra, .ref tA, .int tn, .ref oA, .int on, .ref rA, .int fi, .int la, .ref wA, .int wf, .int wl, .int lo, .int ov, .int un, .int aT, .int mi, .int ds, .ref dA, .int a0, .int xp, .ref iA, .int te]))] := hD
    exact Ci.ret C0 (v := r10) (u := (1, fo, on, fr, fi, la)) (Nat.le_of_ble_eq_true rfl) (Nat.le_of_ble_eq_true rfl) (by show (isPat E M x.toInt ∧ (1 : Int32) = 0 ∧ ∃ w : List Nat, TL fo on w ∧ r10.toInt = (w.length : Int) ∧ EXW E M x.toInt w) ∨ (¬ isPat E M x.toInt ∧ (1 : Int32) = 1 ∧ r10 = 0 ∧ fo = fo ∧ on = on); exact Or.inr ⟨hnp, rfl, h10, rfl, rfl⟩) hP hD hS [2, 0, 1] (by decide) rfl d_Model_exact_13
