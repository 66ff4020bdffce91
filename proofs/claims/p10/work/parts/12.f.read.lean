set_option maxHeartbeats 4000000 in
set_option maxRecDepth 100000 in
theorem L_Model_valued_126 {p : Program} {l : Launch} {e : Env} {s : State} {m : MethodId} {below : List Frame} {meth : Method} {c : Code} {dC : Nat → ClassId} {dI : Nat → Nat → Nat} {cI cB cJ : ClassId} {A : Nat → Prop} (h0 : Nat) (th : Int32) (we : Int32) (wm : Int32) (wy : Int32) (ra : Int32) (tA : Nat) (tn : Int32) (oA : Nat) (on : Int32) (rA : Nat) (fi : Int32) (la : Int32) (wA : Nat) (wf : Int32) (wl : Int32) (lo : Int32) (ov : Int32) (un : Int32) (aT : Int32) (mi : Int32) (ds : Int32) (dA : Nat) (a0 : Int32) (xp : Int32) (iA : Nat) (te : Int32) (E : Nat) (M : Nat) (f : Nat → Int32) (g : Nat → Int32) (T : Nat → Nat) (len : Nat) (by_ : Int32) (C0 : cx dC dI cI cB cJ R_Model b_Model_valued 5 (some .long) p s m ([.ref h0, .int by_] : List Value).toArray meth c) (hA : ∀ q : Nat, s.heap.size ≤ q → A q) (hL : LY we wm E M) (hby : 0 ≤ by_.toInt ∧ by_.toInt ≤ 4) (hdec : isDec T len) (hds : ds.toInt = ((pA T len + pB T len : Nat) : Int)) (ha0 : a0.toInt = (pA T len : Int)) (hxp : xp.toInt = xE T len (pQ T len)) (hDG : DG T len g) (hmi : mi.toInt = (pS T len : Int)) : ∀ n : Nat, (∀ (x2 : Int32) (zz : Nat) (x3 : Int32) (tz : Nat) (x4 : Int32) (i : Nat) (k : Nat → Int32) (fi1 : Int32) (la1 : Int32) (n3 : Nat) (n4 : Nat) (H : Heap) (locs : List Loc) (ls : Array Slot), 41 - i < n → x4.toInt = (i : Int) → x3.toInt = (tz : Int) - 70 → x2.toInt = (zz : Int) → by_.toInt = by_.toInt → (fi1.toInt = (n3 : Int)) → (la1.toInt = (n4 : Int)) → (RWp k n3 n4) → (sv k 400 = pv g i * 10 ^ (270 + tz - (i - zz))) → (∀ j, 130 - tz + (i - zz) ≤ j → j < 400 → (k j).toInt = 0) → (1 ≤ n3) → (n4 ≤ 240) → (zz ≤ i) → (i ≤ pA T len + pB T len) → (tz ≤ 115) → (zz < pA T len + pB T len) → ((tz : Int) - 70 = (pA T len : Int) - 1 - (zz : Int) + xE T len (pQ T len)) → (10 ^ (pA T len + pB T len - 1 - zz) ≤ pV T len) → (pV T len < 10 ^ (pA T len + pB T len - zz)) → va_P (dC, dI) vwCl [(h0, .inr (8, [.int th, .int we, .int wm, .int wy, .int ra, .ref tA, .int tn, .ref oA, .int on, .ref rA, .int fi1, .int la1, .ref wA, .int wf, .int wl, .int 0, .int 0, .int 0, .int aT, .int mi, .int ds, .ref dA, .int a0, .int xp, .ref iA, .int te])), (rA, .inl (cI, 400, .inl k)), (dA, .inl (cI, 40, .inl g))] H → va_D A [(h0, .inr (8, [.int th, .int we, .int wm, .int wy, .int ra, .ref tA, .int tn, .ref oA, .int on, .ref rA, .int fi1, .int la1, .ref wA, .int wf, .int wl, .int 0, .int 0, .int 0, .int aT, .int mi, .int ds, .ref dA, .int a0, .int xp, .ref iA, .int te])), (rA, .inl (cI, 400, .inl k)), (dA, .inl (cI, 40, .inl g))] → va_S A s.heap H locs → lv_has ls 5 [(4, .int x4), (3, .int x3), (2, .int x2), (1, .int by_), (0, .ref h0)] → W p l e ({ frames := 3, cells := 0, slots := 0, locals := 85 } : Room) s m ([.ref h0, .int by_] : List Value).toArray below meth c H locs 0 0 (MQ below (va_Ql (fun (r : Int64) (u : (Nat → Int32) × (Int32) × (Int32) × (Int32) × (Int32) × (Int32)) => ∃ (Z : Nat) (ix ty : Prop), VRS T len E M by_.toInt Z ix ty ∧ RR E M by_.toInt (pS T len = 1) Z ix ty r.toInt u.2.2.2.1 u.2.2.2.2.2 u.2.2.2.2.1) (poG dC dI A (fun u : (Nat → Int32) × (Int32) × (Int32) × (Int32) × (Int32) × (Int32) => [(h0, .inr (8, [.int th, .int we, .int wm, .int wy, .int ra, .ref tA, .int tn, .ref oA, .int on, .ref rA, .int u.2.1, .int u.2.2.1, .ref wA, .int wf, .int wl, .int u.2.2.2.1, .int u.2.2.2.2.2, .int u.2.2.2.2.1, .int aT, .int mi, .int ds, .ref dA, .int a0, .int xp, .ref iA, .int te])), (rA, .inl (cI, 400, .inl u.1)), (dA, .inl (cI, 40, .inl g))])) A) ([.ref h0, .int by_] : List Value).toArray s 0 0 A) (F0 m 126 ls [])) := by
  obtain ⟨hx, hb, hml, hown, hts, hr, hlocks, hK, hN⟩ := id C0
  intro n
  induction n with
  | zero => exact fun _ _ _ _ _ _ _ _ _ _ _ _ _ _ h0 _ _ _ _ _ _ _ _ _ _ _ _ _ _ _ _ _ _ _ _ _ _ => absurd h0 (Nat.not_lt_zero _)
  | succ n ih =>
    intro x2 zz x3 tz x4 i k fi1 la1 n3 n4 H locs ls hn9 t_x4 t_x3 t_x2 t_by_ t_fi1 t_la1 hRk hv hkz hn3 hn4 hzi hin9 hte hzn hten hlo hup hP hD hS hl
    have r_x4 := q_r32 x4
    have r_x3 := q_r32 x3
    have r_x2 := q_r32 x2
    have r_by_ := q_r32 by_
    obtain ⟨he, hm, hE1, hE2, hM1, hM2⟩ := id hL
    have hbz := p_bias hE1 hE2
    have hem := p_em hE1 hE2 hM1 hM2
    have hiz := iz_sb E M
    have hpm := p_m hM2
    have hpm1 := pw_p M
    have hpe := p_e hE1 hE2
    have hbs := bsE_r hE1 hE2
    obtain ⟨hpv, hg9⟩ := DG_pv hdec.1 hDG
    have h40 := hdec.1.2.2
    have hxr := xE_r T len (pQ T len)
    have hdx : decX T len = -(pB T len : Int) + xE T len (pQ T len) := rfl
    have hmn := mi_ng hmi
    refine lv_iload hx hb d_Model_valued_126 (lv_at hl 0 rfl) ?_
    refine lv_aload_n hx hb d_Model_valued_128 rfl (lv_at hl 4 rfl) ?_
    refine va_get (D := (dC, dI)) (ci := 8) (v := .int ds) (C := R_Model) (T := F_Model) (N := 26) hx hb hts u_Model hown hK hP 0 rfl rfl 20 (by decide) (hts _ m_583) (fun _ h9 => h9) rfl d_Model_valued_129 ?_
    refine lv_icmp_ge (tgt := 161) hx hb d_Model_valued_132 (by decide) (fun b132 => ?_) (fun b132 => ?_)
    · skip
      rw [q_ile hds t_x4] at b132
      have hie : i = pA T len + pB T len := by omega
      subst hie
      have hsv : sv k 400 = pV T len * 10 ^ (270 + tz - (pA T len + pB T len - zz)) := by rw [hv, hpv]
      have hD0 : 0 < pV T len := Nat.lt_of_lt_of_le (p10 _) hlo
      refine lv_aload_n hx hb d_Model_valued_161 rfl (lv_at hl 4 rfl) ?_
      refine lv_aload_n hx hb d_Model_valued_162 rfl (lv_at hl 4 rfl) ?_
      refine va_get (D := (dC, dI)) (ci := 8) (v := .int mi) (C := R_Model) (T := F_Model) (N := 26) hx hb hts u_Model hown hK hP 0 rfl rfl 19 (by decide) (hts _ m_582) (fun _ h9 => h9) rfl d_Model_valued_163 ?_
      refine lv_iload_n hx hb d_Model_valued_166 rfl (lv_at hl 3 rfl) ?_
      refine callV_l (wr := [(dA, .inl (cI, 40, .inl g))]) C0 (c_Model_rounded l dC dI cI cB cJ (h0) (th) (we) (wm) (wy) (ra) (tA) (tn) (oA) (on) (rA) (fi1) (la1) (wA) (wf) (wl) ((0 : Int32)) ((0 : Int32)) ((0 : Int32)) (aT) (mi) (ds) (dA) (a0) (xp) (iA) (te) (E) (M) (k) (n3) (n4) (mi) (by_) (by exact hL) (by exact t_fi1) (by exact t_la1) (by exact hRk) (by exact hby) (by rw [hsv]; exact Nat.mul_pos hD0 (p10 _)) (by rw [hsv]; exact big_lim hup (by omega)) (by exact hn3) (by exact hn4)) (cwV 2 hts (gV m_681 m_682 m_30 m_55 m_683) rfl rfl rfl (by decide +kernel) ⟨Nat.le_of_ble_eq_true rfl, Nat.le_of_ble_eq_true rfl⟩) 8 rfl rfl 0 rfl hP hD hS hA [0, 1] [2] rfl rfl (by decide) (by decide) (by decide) rfl hl.1 rfl (Nat.le_of_ble_eq_true rfl) d_Model_valued_167 ⟨Nat.le_of_ble_eq_true rfl, Nat.le_of_ble_eq_true rfl⟩ (fun r167 u167 H locs hw9 hP hD hS => ?_)
      obtain ⟨k167, fi1167, la1167, lo1167, un1167, ov1167⟩ := u167
      have h167 : ∃ (Z : Nat) (ix ty : Prop), RS (sv k 400) (10 ^ 339) E M by_.toInt (¬ mi = 0) Z ix ty ∧ RR E M by_.toInt (¬ mi = 0) Z ix ty r167.toInt lo1167 ov1167 un1167 := hw9
      have hP : va_P (dC, dI) vwCl [(dA, .inl (cI, 40, .inl g)), (h0, .inr (8, [.int th, .int we, .int wm, .int wy, .int ra, .ref tA, .int tn, .ref oA, .int on, .ref rA, .int fi1167, .int la1167, .ref wA, .int wf, .int wl, .int lo1167, .int ov1167, .int un1167, .int aT, .int mi, .int ds, .ref dA, .int a0, .int xp, .ref iA, .int te])), (rA, .inl (cI, 400, .inl k167))] H := hP
      have hD : va_D A [(dA, .inl (cI, 40, .inl g)), (h0, .inr (8, [.int th, .int we, .int wm, .int wy, .int ra, .ref tA, .int tn, .ref oA, .int on, .ref rA, .int fi1167, .int la1167, .ref wA, .int wf, .int wl, .int lo1167, .int ov1167, .int un1167, .int aT, .int mi, .int ds, .ref dA, .int a0, .int xp, .ref iA, .int te])), (rA, .inl (cI, 400, .inl k167))] := hD
      exact Cl.ret C0 (v := r167) (u := (k167, fi1167, la1167, lo1167, un1167, ov1167)) (Nat.le_of_ble_eq_true rfl) (Nat.le_of_ble_eq_true rfl) (by show ∃ (Z : Nat) (ix ty : Prop), VRS T len E M by_.toInt Z ix ty ∧ RR E M by_.toInt (pS T len = 1) Z ix ty r167.toInt lo1167 ov1167 un1167; obtain ⟨Z, ix, ty, hrs, hrr⟩ := h167; rw [hsv, show 270 + tz - (pA T len + pB T len - zz) = (339 + decX T len).toNat by omega] at hrs; obtain ⟨Z2, ix2, ty2, ha2, hb2⟩ := val_tie hE1 hE2 hM1 hM2 hD0 (pV_lt hdec.1) (by omega) (RS_ng hmn Iff.rfl Iff.rfl hrs) (RR_ng hmn hrr); exact ⟨Z2, ix2, ty2, Or.inr ⟨hD0, ha2⟩, hb2⟩) hP hD hS [1, 2, 0] (by decide) rfl d_Model_valued_170
    · skip
      rw [q_ile hds t_x4] at b132
      have hd9 := hg9 i (by omega)
      have hd8 := rdg_i hd9.1
      refine lv_aload_n hx hb d_Model_valued_135 rfl (lv_at hl 4 rfl) ?_
      refine lv_bipush (v := 60) hx hb d_Model_valued_136 (by decide) ?_
      refine lv_iload_n hx hb d_Model_valued_138 rfl (lv_at hl 1 rfl) ?_
      refine lv_isub hx hb d_Model_valued_139 ?_
      refine lv_topi (fun v139 e139 => ?_)
      have t139 : v139.toInt = 60 - ((tz : Int) - 70) := by rw [e139]; exact q_isub (show (60 : Int32).toInt = 60 by decide) t_x3 (by omega)
      refine lv_iload hx hb d_Model_valued_140 (lv_at hl 0 rfl) ?_
      refine lv_iadd hx hb d_Model_valued_142 ?_
      refine lv_topi (fun v142 e142 => ?_)
      have t142 : v142.toInt = (60 - ((tz : Int) - 70)) + (i : Int) := by rw [e142]; exact q_iadd t139 t_x4 (by omega)
      refine lv_iload_n hx hb d_Model_valued_143 rfl (lv_at hl 2 rfl) ?_
      refine lv_isub hx hb d_Model_valued_144 ?_
      refine lv_topi (fun v144 e144 => ?_)
      have t144 : v144.toInt = ((60 - ((tz : Int) - 70)) + (i : Int)) - (zz : Int) := by rw [e144]; exact q_isub t142 t_x2 (by omega)
      refine lv_aload_n hx hb d_Model_valued_145 rfl (lv_at hl 4 rfl) ?_
      refine va_get (D := (dC, dI)) (ci := 8) (v := .ref dA) (C := R_Model) (T := F_Model) (N := 26) hx hb hts u_Model hown hK hP 0 rfl rfl 21 (by decide) (hts _ m_584) (fun _ h9 => h9) rfl d_Model_valued_146 ?_
      refine lv_iload hx hb d_Model_valued_149 (lv_at hl 0 rfl) ?_
      refine va_iald hx hb hK hP 2 0 rfl rfl (q_in t_x4 (by omega)) d_Model_valued_151 ?_
      refine lv_topi (fun v151 e151 => ?_)
      rw [q_cl (k := i) (t_x4)] at e151
      have t151 : v151.toInt = (rdg g i : Int) := by rw [e151]; exact rdg_i (hg9 i (by omega)).1
      refine callV_v (wr := [(dA, .inl (cI, 40, .inl g))]) C0 (c_Model_dig l dC dI cI cB cJ (h0) (th) (we) (wm) (wy) (ra) (tA) (tn) (oA) (on) (rA) (fi1) (la1) (wA) (wf) (wl) ((0 : Int32)) ((0 : Int32)) ((0 : Int32)) (aT) (mi) (ds) (dA) (a0) (xp) (iA) (te) (k) (n3) (n4) (v144) (v151) (130 - tz + (i - zz)) (rdg g i) (by exact t_fi1) (by exact t_la1) (by exact hRk) (by exact t144.trans (by omega)) (by omega) (by exact t151) (by omega) (by exact hkz _ (Nat.le_refl _) (by omega))) (cwV 2 hts (gV m_678 m_679 m_29 m_55 m_680) rfl rfl rfl (by decide +kernel) ⟨Nat.le_of_ble_eq_true rfl, Nat.le_of_ble_eq_true rfl⟩) 8 rfl rfl 0 rfl hP hD hS hA [0, 1] [2] rfl rfl (by decide) (by decide) (by decide) rfl hl.1 rfl (Nat.le_of_ble_eq_true rfl) d_Model_valued_152 ⟨Nat.le_of_ble_eq_true rfl, Nat.le_of_ble_eq_true rfl⟩ (fun u152 H locs hw9 hP hD hS => ?_)
      obtain ⟨k152, fi1152, la1152⟩ := u152
      have h152 : ∃ nA nB : Nat, fi1152.toInt = (nA : Int) ∧ la1152.toInt = (nB : Int) ∧ RWp k152 nA nB ∧ sv k152 400 = sv k 400 + (rdg g i) * 10 ^ (399 - (130 - tz + (i - zz))) ∧ min n3 (130 - tz + (i - zz)) ≤ nA ∧ nB ≤ max n4 (130 - tz + (i - zz)) ∧ (∀ j, j ≠ (130 - tz + (i - zz)) → k152 j = k j) := hw9
      have hP : va_P (dC, dI) vwCl [(dA, .inl (cI, 40, .inl g)), (h0, .inr (8, [.int th, .int we, .int wm, .int wy, .int ra, .ref tA, .int tn, .ref oA, .int on, .ref rA, .int fi1152, .int la1152, .ref wA, .int wf, .int wl, .int 0, .int 0, .int 0, .int aT, .int mi, .int ds, .ref dA, .int a0, .int xp, .ref iA, .int te])), (rA, .inl (cI, 400, .inl k152))] H := hP
      have hD : va_D A [(dA, .inl (cI, 40, .inl g)), (h0, .inr (8, [.int th, .int we, .int wm, .int wy, .int ra, .ref tA, .int tn, .ref oA, .int on, .ref rA, .int fi1152, .int la1152, .ref wA, .int wf, .int wl, .int 0, .int 0, .int 0, .int aT, .int mi, .int ds, .ref dA, .int a0, .int xp, .ref iA, .int te])), (rA, .inl (cI, 400, .inl k152))] := hD
      obtain ⟨n5, n6, t5, t6, hR152, hv152, h5, h6, hko⟩ := h152
      obtain ⟨v155, e155⟩ : ∃ y : Int32, y = x4 + 1 := ⟨_, rfl⟩
      have t155 : v155.toInt = (i : Int) + 1 := by rw [e155]; exact q_iadd t_x4 (show (1 : Int32).toInt = 1 by decide) (by omega)
      refine lv_iinc (v := v155) (lv' := [(4, .int v155), (3, .int x3), (2, .int x2), (1, .int by_), (0, .ref h0)]) hx hb d_Model_valued_155 hl (k := 0) rfl (by rw [e155]; rfl) (by decide) rfl (fun ls hl => ?_)
      refine lv_goto (tgt := 126) hx hb d_Model_valued_158 (by decide) ?_
      exact ih (x2) (zz) (x3) (tz) (v155) (i + 1) (k152) (fi1152) (la1152) (n5) (n6) H locs ls (by omega) ((t155).trans (by omega)) ((t_x3).trans (by omega)) ((t_x2).trans (by omega)) ((t_by_).trans (by omega)) (by exact t5) (by exact t6) (by exact hR152) (by rw [hv152, hv]; exact pv_scale (e := 269 + tz - (i - zz)) (by omega) (by omega) (by omega)) (by intro j h1 h2; rw [hko j (by omega)]; exact hkz j (by omega) h2) (by omega) (by omega) (by omega) (by omega) (by exact hte) (by exact hzn) (by exact hten) (by exact hlo) (by exact hup) (va_Psub hP [1, 2, 0] rfl) (hD.sub [1, 2, 0] (by decide) rfl) hS (lv_sub hl [0, 1, 2, 3, 4] rfl)
set_option maxHeartbeats 4000000 in
set_option maxRecDepth 100000 in
theorem L_Model_valued_25 {p : Program} {l : Launch} {e : Env} {s : State} {m : MethodId} {below : List Frame} {meth : Method} {c : Code} {dC : Nat → ClassId} {dI : Nat → Nat → Nat} {cI cB cJ : ClassId} {A : Nat → Prop} (h0 : Nat) (th : Int32) (we : Int32) (wm : Int32) (wy : Int32) (ra : Int32) (tA : Nat) (tn : Int32) (oA : Nat) (on : Int32) (rA : Nat) (fi : Int32) (la : Int32) (wA : Nat) (wf : Int32) (wl : Int32) (lo : Int32) (ov : Int32) (un : Int32) (aT : Int32) (mi : Int32) (ds : Int32) (dA : Nat) (a0 : Int32) (xp : Int32) (iA : Nat) (te : Int32) (E : Nat) (M : Nat) (f : Nat → Int32) (g : Nat → Int32) (T : Nat → Nat) (len : Nat) (by_ : Int32) (C0 : cx dC dI cI cB cJ R_Model b_Model_valued 5 (some .long) p s m ([.ref h0, .int by_] : List Value).toArray meth c) (hA : ∀ q : Nat, s.heap.size ≤ q → A q) (hL : LY we wm E M) (hby : 0 ≤ by_.toInt ∧ by_.toInt ≤ 4) (hdec : isDec T len) (hds : ds.toInt = ((pA T len + pB T len : Nat) : Int)) (ha0 : a0.toInt = (pA T len : Int)) (hxp : xp.toInt = xE T len (pQ T len)) (hDG : DG T len g) (hmi : mi.toInt = (pS T len : Int)) : (∀ (x2 : Int32) (zz : Nat) (H : Heap) (locs : List Loc) (ls : Array Slot), x2.toInt = (zz : Int) → by_.toInt = by_.toInt → (zz ≤ pA T len + pB T len) → (∀ j, j < zz → (g j).toInt = 0) → (zz = pA T len + pB T len ∨ ¬ (g zz).toInt = 0) → va_P (dC, dI) vwCl [(h0, .inr (8, [.int th, .int we, .int wm, .int wy, .int ra, .ref tA, .int tn, .ref oA, .int on, .ref rA, .int fi, .int la, .ref wA, .int wf, .int wl, .int lo, .int ov, .int un, .int aT, .int mi, .int ds, .ref dA, .int a0, .int xp, .ref iA, .int te])), (rA, .inl (cI, 400, .inl f)), (dA, .inl (cI, 40, .inl g))] H → va_D A [(h0, .inr (8, [.int th, .int we, .int wm, .int wy, .int ra, .ref tA, .int tn, .ref oA, .int on, .ref rA, .int fi, .int la, .ref wA, .int wf, .int wl, .int lo, .int ov, .int un, .int aT, .int mi, .int ds, .ref dA, .int a0, .int xp, .ref iA, .int te])), (rA, .inl (cI, 400, .inl f)), (dA, .inl (cI, 40, .inl g))] → va_S A s.heap H locs → lv_has ls 5 [(2, .int x2), (1, .int by_), (0, .ref h0)] → W p l e ({ frames := 3, cells := 0, slots := 0, locals := 85 } : Room) s m ([.ref h0, .int by_] : List Value).toArray below meth c H locs 0 0 (MQ below (va_Ql (fun (r : Int64) (u : (Nat → Int32) × (Int32) × (Int32) × (Int32) × (Int32) × (Int32)) => ∃ (Z : Nat) (ix ty : Prop), VRS T len E M by_.toInt Z ix ty ∧ RR E M by_.toInt (pS T len = 1) Z ix ty r.toInt u.2.2.2.1 u.2.2.2.2.2 u.2.2.2.2.1) (poG dC dI A (fun u : (Nat → Int32) × (Int32) × (Int32) × (Int32) × (Int32) × (Int32) => [(h0, .inr (8, [.int th, .int we, .int wm, .int wy, .int ra, .ref tA, .int tn, .ref oA, .int on, .ref rA, .int u.2.1, .int u.2.2.1, .ref wA, .int wf, .int wl, .int u.2.2.2.1, .int u.2.2.2.2.2, .int u.2.2.2.2.1, .int aT, .int mi, .int ds, .ref dA, .int a0, .int xp, .ref iA, .int te])), (rA, .inl (cI, 400, .inl u.1)), (dA, .inl (cI, 40, .inl g))])) A) ([.ref h0, .int by_] : List Value).toArray s 0 0 A) (F0 m 25 ls [])) := by
  obtain ⟨hx, hb, hml, hown, hts, hr, hlocks, hK, hN⟩ := id C0
  intro x2 zz H locs ls t_x2 t_by_ hzn hz0 hz2 hP hD hS hl
  have r_x2 := q_r32 x2
  have r_by_ := q_r32 by_
  obtain ⟨he, hm, hE1, hE2, hM1, hM2⟩ := id hL
  have hbz := p_bias hE1 hE2
  have hem := p_em hE1 hE2 hM1 hM2
  have hiz := iz_sb E M
  have hpm := p_m hM2
  have hpm1 := pw_p M
  have hpe := p_e hE1 hE2
  have hbs := bsE_r hE1 hE2
  obtain ⟨hpv, hg9⟩ := DG_pv hdec.1 hDG
  have h40 := hdec.1.2.2
  have hxr := xE_r T len (pQ T len)
  have hdx : decX T len = -(pB T len : Int) + xE T len (pQ T len) := rfl
  have hmn := mi_ng hmi
  refine lv_aload_n hx hb d_Model_valued_25 rfl (lv_at hl 2 rfl) ?_
  refine lv_iconst (v := 0) hx hb d_Model_valued_26 (by decide) ?_
  refine va_put (D := (dC, dI)) (ci := 8) (v := .int 0) (ty := .boolean) (C := R_Model) (T := F_Model) (N := 26) hx hb hts u_Model t_Model t_Model_ok n_Model hown hK hP hD hS 0 rfl rfl 15 (by decide) (hts _ m_578) (fun _ h9 => h9) rfl (by decide +kernel) rfl rfl (Nat.le_of_ble_eq_true rfl) d_Model_valued_27 (fun H locs hP hD hS => ?_)
  have hP : va_P (dC, dI) vwCl [(h0, .inr (8, [.int th, .int we, .int wm, .int wy, .int ra, .ref tA, .int tn, .ref oA, .int on, .ref rA, .int fi, .int la, .ref wA, .int wf, .int wl, .int 0, .int ov, .int un, .int aT, .int mi, .int ds, .ref dA, .int a0, .int xp, .ref iA, .int te])), (rA, .inl (cI, 400, .inl f)), (dA, .inl (cI, 40, .inl g))] H := hP
  have hD : va_D A [(h0, .inr (8, [.int th, .int we, .int wm, .int wy, .int ra, .ref tA, .int tn, .ref oA, .int on, .ref rA, .int fi, .int la, .ref wA, .int wf, .int wl, .int 0, .int ov, .int un, .int aT, .int mi, .int ds, .ref dA, .int a0, .int xp, .ref iA, .int te])), (rA, .inl (cI, 400, .inl f)), (dA, .inl (cI, 40, .inl g))] := hD
  refine lv_aload_n hx hb d_Model_valued_30 rfl (lv_at hl 2 rfl) ?_
  refine lv_iconst (v := 0) hx hb d_Model_valued_31 (by decide) ?_
  refine va_put (D := (dC, dI)) (ci := 8) (v := .int 0) (ty := .boolean) (C := R_Model) (T := F_Model) (N := 26) hx hb hts u_Model t_Model t_Model_ok n_Model hown hK hP hD hS 0 rfl rfl 16 (by decide) (hts _ m_579) (fun _ h9 => h9) rfl (by decide +kernel) rfl rfl (Nat.le_of_ble_eq_true rfl) d_Model_valued_32 (fun H locs hP hD hS => ?_)
  have hP : va_P (dC, dI) vwCl [(h0, .inr (8, [.int th, .int we, .int wm, .int wy, .int ra, .ref tA, .int tn, .ref oA, .int on, .ref rA, .int fi, .int la, .ref wA, .int wf, .int wl, .int 0, .int 0, .int un, .int aT, .int mi, .int ds, .ref dA, .int a0, .int xp, .ref iA, .int te])), (rA, .inl (cI, 400, .inl f)), (dA, .inl (cI, 40, .inl g))] H := hP
  have hD : va_D A [(h0, .inr (8, [.int th, .int we, .int wm, .int wy, .int ra, .ref tA, .int tn, .ref oA, .int on, .ref rA, .int fi, .int la, .ref wA, .int wf, .int wl, .int 0, .int 0, .int un, .int aT, .int mi, .int ds, .ref dA, .int a0, .int xp, .ref iA, .int te])), (rA, .inl (cI, 400, .inl f)), (dA, .inl (cI, 40, .inl g))] := hD
  refine lv_aload_n hx hb d_Model_valued_35 rfl (lv_at hl 2 rfl) ?_
  refine lv_iconst (v := 0) hx hb d_Model_valued_36 (by decide) ?_
  refine va_put (D := (dC, dI)) (ci := 8) (v := .int 0) (ty := .boolean) (C := R_Model) (T := F_Model) (N := 26) hx hb hts u_Model t_Model t_Model_ok n_Model hown hK hP hD hS 0 rfl rfl 17 (by decide) (hts _ m_580) (fun _ h9 => h9) rfl (by decide +kernel) rfl rfl (Nat.le_of_ble_eq_true rfl) d_Model_valued_37 (fun H locs hP hD hS => ?_)
  have hP : va_P (dC, dI) vwCl [(h0, .inr (8, [.int th, .int we, .int wm, .int wy, .int ra, .ref tA, .int tn, .ref oA, .int on, .ref rA, .int fi, .int la, .ref wA, .int wf, .int wl, .int 0, .int 0, .int 0, .int aT, .int mi, .int ds, .ref dA, .int a0, .int xp, .ref iA, .int te])), (rA, .inl (cI, 400, .inl f)), (dA, .inl (cI, 40, .inl g))] H := hP
  have hD : va_D A [(h0, .inr (8, [.int th, .int we, .int wm, .int wy, .int ra, .ref tA, .int tn, .ref oA, .int on, .ref rA, .int fi, .int la, .ref wA, .int wf, .int wl, .int 0, .int 0, .int 0, .int aT, .int mi, .int ds, .ref dA, .int a0, .int xp, .ref iA, .int te])), (rA, .inl (cI, 400, .inl f)), (dA, .inl (cI, 40, .inl g))] := hD
  refine lv_iload_n hx hb d_Model_valued_40 rfl (lv_at hl 0 rfl) ?_
  refine lv_aload_n hx hb d_Model_valued_41 rfl (lv_at hl 2 rfl) ?_
  refine va_get (D := (dC, dI)) (ci := 8) (v := .int ds) (C := R_Model) (T := F_Model) (N := 26) hx hb hts u_Model hown hK hP 0 rfl rfl 20 (by decide) (hts _ m_583) (fun _ h9 => h9) rfl d_Model_valued_42 ?_
  refine lv_icmp_ne (tgt := 50) hx hb d_Model_valued_45 (by decide) (fun b45 => ?_) (fun b45 => ?_)
  · skip
    rw [q_ieq t_x2 hds] at b45
    have hzn2 : zz < pA T len + pB T len := by omega
    have hgz : ¬ (g zz).toInt = 0 := hz2.elim (fun h => by omega) id
    have hlo := pv_dn hzn2 ⟨(hg9 zz hzn2).1, hgz⟩
    rw [hpv] at hlo
    have hup := pv_up hz0 (m := pA T len + pB T len - zz) (fun j hj => (hg9 j (by omega)).2)
    rw [show zz + (pA T len + pB T len - zz) = pA T len + pB T len by omega, hpv] at hup
    have hD0 : 0 < pV T len := Nat.lt_of_lt_of_le (p10 _) hlo
    refine lv_aload_n hx hb d_Model_valued_50 rfl (lv_at hl 2 rfl) ?_
    refine va_get (D := (dC, dI)) (ci := 8) (v := .int a0) (C := R_Model) (T := F_Model) (N := 26) hx hb hts u_Model hown hK hP 0 rfl rfl 22 (by decide) (hts _ m_585) (fun _ h9 => h9) rfl d_Model_valued_51 ?_
    refine lv_iconst (v := 1) hx hb d_Model_valued_54 (by decide) ?_
    refine lv_isub hx hb d_Model_valued_55 ?_
    refine lv_topi (fun v55 e55 => ?_)
    have t55 : v55.toInt = (pA T len : Int) - 1 := by rw [e55]; exact q_isub ha0 (show (1 : Int32).toInt = 1 by decide) (by omega)
    refine lv_iload_n hx hb d_Model_valued_56 rfl (lv_at hl 0 rfl) ?_
    refine lv_isub hx hb d_Model_valued_57 ?_
    refine lv_topi (fun v57 e57 => ?_)
    have t57 : v57.toInt = ((pA T len : Int) - 1) - (zz : Int) := by rw [e57]; exact q_isub t55 t_x2 (by omega)
    refine lv_aload_n hx hb d_Model_valued_58 rfl (lv_at hl 2 rfl) ?_
    refine va_get (D := (dC, dI)) (ci := 8) (v := .int xp) (C := R_Model) (T := F_Model) (N := 26) hx hb hts u_Model hown hK hP 0 rfl rfl 23 (by decide) (hts _ m_586) (fun _ h9 => h9) rfl d_Model_valued_59 ?_
    refine lv_iadd hx hb d_Model_valued_62 ?_
    refine lv_topi (fun v62 e62 => ?_)
    have t62 : v62.toInt = (((pA T len : Int) - 1) - (zz : Int)) + (xE T len (pQ T len)) := by rw [e62]; exact q_iadd t57 hxp (by omega)
    refine lv_istore_n (lv' := [(3, .int v62), (2, .int x2), (1, .int by_), (0, .ref h0)]) hx hb d_Model_valued_63 rfl hl (by decide) rfl (fun ls hl => ?_)
    refine lv_iload_n hx hb d_Model_valued_64 rfl (lv_at hl 0 rfl) ?_
    refine lv_bipush (v := 45) hx hb d_Model_valued_65 (by decide) ?_
    refine lv_icmp_le (tgt := 90) hx hb d_Model_valued_67 (by decide) (fun b67 => ?_) (fun b67 => ?_)
    · skip
      rw [q_ile t62 (show (45 : Int32).toInt = 45 by decide)] at b67
      refine lv_iload_n hx hb d_Model_valued_90 rfl (lv_at hl 0 rfl) ?_
      refine lv_bipush (v := (-70)) hx hb d_Model_valued_91 (by decide) ?_
      refine lv_icmp_ge (tgt := 119) hx hb d_Model_valued_93 (by decide) (fun b93 => ?_) (fun b93 => ?_)
      · skip
        rw [q_ile (show ((-70) : Int32).toInt = (-70) by decide) t62] at b93
        refine lv_aload_n hx hb d_Model_valued_119 rfl (lv_at hl 3 rfl) ?_
        refine callV_v (wr := [(dA, .inl (cI, 40, .inl g))]) C0 (c_Model_wipe l dC dI cI cB cJ (h0) (th) (we) (wm) (wy) (ra) (tA) (tn) (oA) (on) (rA) (fi) (la) (wA) (wf) (wl) ((0 : Int32)) ((0 : Int32)) ((0 : Int32)) (aT) (mi) (ds) (dA) (a0) (xp) (iA) (te) (f)) (cwV 0 hts (gV m_675 m_676 m_28 m_55 m_677) rfl rfl rfl (by decide +kernel) ⟨Nat.le_of_ble_eq_true rfl, Nat.le_of_ble_eq_true rfl⟩) 8 rfl rfl 0 rfl hP hD hS hA [0, 1] [2] rfl rfl (by decide) (by decide) (by decide) rfl hl.1 rfl (Nat.le_of_ble_eq_true rfl) d_Model_valued_120 ⟨Nat.le_of_ble_eq_true rfl, Nat.le_of_ble_eq_true rfl⟩ (fun k120 H locs hw9 hP hD hS => ?_)
        have h120 : (∀ j, j < 400 → k120 j = 0) := hw9
        have hP : va_P (dC, dI) vwCl [(dA, .inl (cI, 40, .inl g)), (h0, .inr (8, [.int th, .int we, .int wm, .int wy, .int ra, .ref tA, .int tn, .ref oA, .int on, .ref rA, .int 60, .int 60, .ref wA, .int wf, .int wl, .int 0, .int 0, .int 0, .int aT, .int mi, .int ds, .ref dA, .int a0, .int xp, .ref iA, .int te])), (rA, .inl (cI, 400, .inl k120))] H := hP
        have hD : va_D A [(dA, .inl (cI, 40, .inl g)), (h0, .inr (8, [.int th, .int we, .int wm, .int wy, .int ra, .ref tA, .int tn, .ref oA, .int on, .ref rA, .int 60, .int 60, .ref wA, .int wf, .int wl, .int 0, .int 0, .int 0, .int aT, .int mi, .int ds, .ref dA, .int a0, .int xp, .ref iA, .int te])), (rA, .inl (cI, 400, .inl k120))] := hD
        have hwp := wiped h120
        refine lv_iload_n hx hb d_Model_valued_123 rfl (lv_at hl 1 rfl) ?_
        refine lv_istore (lv' := [(4, .int x2), (3, .int v62), (2, .int x2), (1, .int by_), (0, .ref h0)]) hx hb d_Model_valued_124 hl (by decide) rfl (fun ls hl => ?_)
        exact L_Model_valued_126 (h0) (th) (we) (wm) (wy) (ra) (tA) (tn) (oA) (on) (rA) (fi) (la) (wA) (wf) (wl) (lo) (ov) (un) (aT) (mi) (ds) (dA) (a0) (xp) (iA) (te) (E) (M) (f) (g) (T) (len) (by_) C0 hA (hL) (hby) (hdec) (hds) (ha0) (hxp) (hDG) (hmi) _ (x2) (zz) (v62) (((pA T len : Int) - 1 - (zz : Int) + xE T len (pQ T len) + 70).toNat) (x2) (zz) (k120) (60) (60) (60) (60) H locs ls (Nat.lt_succ_self _) ((t_x2).trans (by omega)) ((t62).trans (by omega)) ((t_x2).trans (by omega)) ((t_by_).trans (by omega)) (by decide) (by decide) (by exact hwp.1) (by rw [hwp.2, pv_zero (fun j hj => rdg_0 (hz0 j hj)), Nat.zero_mul]) (by intro j h1 h2; rw [h120 j h2]; rfl) (by omega) (by omega) (by omega) (by omega) (by omega) (by exact hzn2) (by omega) (by exact hlo) (by exact hup) (va_Psub hP [1, 2, 0] rfl) (hD.sub [1, 2, 0] (by decide) rfl) hS (lv_sub hl [0, 1, 2, 3, 4] rfl)
      · skip
        rw [q_ile (show ((-70) : Int32).toInt = (-70) by decide) t62] at b93
        refine lv_aload_n hx hb d_Model_valued_96 rfl (lv_at hl 3 rfl) ?_
        refine lv_iconst (v := 1) hx hb d_Model_valued_97 (by decide) ?_
        refine va_put (D := (dC, dI)) (ci := 8) (v := .int 1) (ty := .boolean) (C := R_Model) (T := F_Model) (N := 26) hx hb hts u_Model t_Model t_Model_ok n_Model hown hK hP hD hS 0 rfl rfl 17 (by decide) (hts _ m_580) (fun _ h9 => h9) rfl (by decide +kernel) rfl rfl (Nat.le_of_ble_eq_true rfl) d_Model_valued_98 (fun H locs hP hD hS => ?_)
        have hP : va_P (dC, dI) vwCl [(h0, .inr (8, [.int th, .int we, .int wm, .int wy, .int ra, .ref tA, .int tn, .ref oA, .int on, .ref rA, .int fi, .int la, .ref wA, .int wf, .int wl, .int 0, .int 0, .int 1, .int aT, .int mi, .int ds, .ref dA, .int a0, .int xp, .ref iA, .int te])), (rA, .inl (cI, 400, .inl f)), (dA, .inl (cI, 40, .inl g))] H := hP
        have hD : va_D A [(h0, .inr (8, [.int th, .int we, .int wm, .int wy, .int ra, .ref tA, .int tn, .ref oA, .int on, .ref rA, .int fi, .int la, .ref wA, .int wf, .int wl, .int 0, .int 0, .int 1, .int aT, .int mi, .int ds, .ref dA, .int a0, .int xp, .ref iA, .int te])), (rA, .inl (cI, 400, .inl f)), (dA, .inl (cI, 40, .inl g))] := hD
        refine lv_aload_n hx hb d_Model_valued_101 rfl (lv_at hl 3 rfl) ?_
        refine lv_iconst (v := 1) hx hb d_Model_valued_102 (by decide) ?_
        refine lv_aload_n hx hb d_Model_valued_103 rfl (lv_at hl 3 rfl) ?_
        refine callV_i (wr := [(rA, .inl (cI, 400, .inl f)), (dA, .inl (cI, 40, .inl g))]) C0 (c_Model_bias l dC dI cI cB cJ (h0) (th) (we) (wm) (wy) (ra) (tA) (tn) (oA) (on) (rA) (fi) (la) (wA) (wf) (wl) ((0 : Int32)) ((0 : Int32)) ((1 : Int32)) (aT) (mi) (ds) (dA) (a0) (xp) (iA) (te) (E) (M) (by exact hL)) (cwV 0 hts (gV m_669 m_670 m_26 m_55 m_671) rfl rfl rfl (by decide +kernel) ⟨Nat.le_of_ble_eq_true rfl, Nat.le_of_ble_eq_true rfl⟩) 8 rfl rfl 0 rfl hP hD hS hA [0] [1, 2] rfl rfl (by decide) (by decide) (by decide) rfl hl.1 rfl (Nat.le_of_ble_eq_true rfl) d_Model_valued_104 ⟨Nat.le_of_ble_eq_true rfl, Nat.le_of_ble_eq_true rfl⟩ (fun r104 u104 H locs hw9 hP hD hS => ?_)
        have h104 : r104.toInt = ((2 ^ (E - 1) - 1 : Nat) : Int) := hw9
        have hP : va_P (dC, dI) vwCl [(rA, .inl (cI, 400, .inl f)), (dA, .inl (cI, 40, .inl g)), (h0, .inr (8, [.int th, .int we, .int wm, .int wy, .int ra, .ref tA, .int tn, .ref oA, .int on, .ref rA, .int fi, .int la, .ref wA, .int wf, .int wl, .int 0, .int 0, .int 1, .int aT, .int mi, .int ds, .ref dA, .int a0, .int xp, .ref iA, .int te]))] H := hP
        have hD : va_D A [(rA, .inl (cI, 400, .inl f)), (dA, .inl (cI, 40, .inl g)), (h0, .inr (8, [.int th, .int we, .int wm, .int wy, .int ra, .ref tA, .int tn, .ref oA, .int on, .ref rA, .int fi, .int la, .ref wA, .int wf, .int wl, .int 0, .int 0, .int 1, .int aT, .int mi, .int ds, .ref dA, .int a0, .int xp, .ref iA, .int te]))] := hD
        have t104 : r104.toInt = (bsE E : Int) := h104
        refine lv_isub hx hb d_Model_valued_107 ?_
        refine lv_topi (fun v107 e107 => ?_)
        have t107 : v107.toInt = 1 - (bsE E : Int) := by rw [e107]; exact q_isub (show (1 : Int32).toInt = 1 by decide) t104 (by omega)
        refine lv_lconst (v := 0) hx hb d_Model_valued_108 (by decide) ?_
        refine lv_iconst (v := 1) hx hb d_Model_valued_109 (by decide) ?_
        refine lv_aload_n hx hb d_Model_valued_110 rfl (lv_at hl 3 rfl) ?_
        refine va_get (D := (dC, dI)) (ci := 8) (v := .int mi) (C := R_Model) (T := F_Model) (N := 26) hx hb hts u_Model hown hK hP 2 rfl rfl 19 (by decide) (hts _ m_582) (fun _ h9 => h9) rfl d_Model_valued_111 ?_
        refine lv_iload_n hx hb d_Model_valued_114 rfl (lv_at hl 2 rfl) ?_
        refine callV_l (wr := [(rA, .inl (cI, 400, .inl f)), (dA, .inl (cI, 40, .inl g))]) C0 (c_Model_packed l dC dI cI cB cJ (h0) (th) (we) (wm) (wy) (ra) (tA) (tn) (oA) (on) (rA) (fi) (la) (wA) (wf) (wl) ((0 : Int32)) ((0 : Int32)) ((1 : Int32)) (aT) (mi) (ds) (dA) (a0) (xp) (iA) (te) (E) (M) (v107) ((0 : Int64)) ((1 : Int32)) (mi) (by_) ((0 : Nat)) ((0 : Nat)) (by exact hL) (by exact hby) (by exact t107.trans (by omega)) (by omega) (by decide) (by omega) (by intro h; rfl)) (cwV 5 hts (gV m_662 m_663 m_24 m_55 m_664) rfl rfl rfl (by decide +kernel) ⟨Nat.le_of_ble_eq_true rfl, Nat.le_of_ble_eq_true rfl⟩) 8 rfl rfl 0 rfl hP hD hS hA [2] [0, 1] rfl rfl (by decide) (by decide) (by decide) rfl hl.1 rfl (Nat.le_of_ble_eq_true rfl) d_Model_valued_115 ⟨Nat.le_of_ble_eq_true rfl, Nat.le_of_ble_eq_true rfl⟩ (fun r115 u115 H locs hw9 hP hD hS => ?_)
        obtain ⟨lo1115, un1115, ov1115⟩ := u115
        have h115 : ∃ uu : Nat, ((uu = 1 ∧ GUd by_.toInt (1 : Int32).toInt (mi = 0) (0 : Nat)) ∨ (uu = 0 ∧ ¬ GUd by_.toInt (1 : Int32).toInt (mi = 0) (0 : Nat))) ∧ PK E M by_.toInt (¬ mi = 0) ((0 : Nat) * 2 ^ M + (0 : Nat) + uu) (0 < (1 : Int32).toInt) r115.toInt lo1115 ov1115 ∧ ((un1115 = 1 ∧ ¬ (1 : Int32) = 0 ∧ 0 < (1 : Int32).toInt) ∨ (un1115 = 0 ∧ ¬ (¬ (1 : Int32) = 0 ∧ 0 < (1 : Int32).toInt))) := hw9
        have hP : va_P (dC, dI) vwCl [(rA, .inl (cI, 400, .inl f)), (dA, .inl (cI, 40, .inl g)), (h0, .inr (8, [.int th, .int we, .int wm, .int wy, .int ra, .ref tA, .int tn, .ref oA, .int on, .ref rA, .int fi, .int la, .ref wA, .int wf, .int wl, .int lo1115, .int ov1115, .int un1115, .int aT, .int mi, .int ds, .ref dA, .int a0, .int xp, .ref iA, .int te]))] H := hP
        have hD : va_D A [(rA, .inl (cI, 400, .inl f)), (dA, .inl (cI, 40, .inl g)), (h0, .inr (8, [.int th, .int we, .int wm, .int wy, .int ra, .ref tA, .int tn, .ref oA, .int on, .ref rA, .int fi, .int la, .ref wA, .int wf, .int wl, .int lo1115, .int ov1115, .int un1115, .int aT, .int mi, .int ds, .ref dA, .int a0, .int xp, .ref iA, .int te]))] := hD
        rw [show (1 : Int32).toInt = 1 by decide] at h115
        exact Cl.ret C0 (v := r115) (u := (f, fi, la, lo1115, un1115, ov1115)) (Nat.le_of_ble_eq_true rfl) (Nat.le_of_ble_eq_true rfl) (by show ∃ (Z : Nat) (ix ty : Prop), VRS T len E M by_.toInt Z ix ty ∧ RR E M by_.toInt (pS T len = 1) Z ix ty r115.toInt lo1115 ov1115 un1115; obtain ⟨uu, hu1, hu2, hu3⟩ := h115; exact val_lo (c := pA T len + pB T len - 1 - zz) hE1 hE2 hM1 hM2 hmn hD0 (by rw [show pA T len + pB T len - 1 - zz + 1 = pA T len + pB T len - zz by omega]; exact hup) (by omega) (by omega) hu1 hu2 (hu3.elim (fun h => h.1) (fun h => absurd ⟨by decide, by decide⟩ h.2))) hP hD hS [2, 0, 1] (by decide) rfl d_Model_valued_118
    · skip
      rw [q_ile t62 (show (45 : Int32).toInt = 45 by decide)] at b67
      refine lv_aload_n hx hb d_Model_valued_70 rfl (lv_at hl 3 rfl) ?_
      refine lv_sipush (v := 1000) hx hb d_Model_valued_71 (by decide) ?_
      refine lv_lconst (v := 1) hx hb d_Model_valued_74 (by decide) ?_
      refine lv_aload_n hx hb d_Model_valued_75 rfl (lv_at hl 3 rfl) ?_
      refine va_get (D := (dC, dI)) (ci := 8) (v := .int wm) (C := R_Model) (T := F_Model) (N := 26) hx hb hts u_Model hown hK hP 0 rfl rfl 2 (by decide) (hts _ m_565) (fun _ h9 => h9) rfl d_Model_valued_76 ?_
      refine lv_lshl hx hb d_Model_valued_79 rfl ?_
      refine lv_topl (fun v79 e79 => ?_)
      have t79 : v79.toInt = ((2 ^ M : Nat) : Int) := by rw [e79, ← Nat.one_mul (2 ^ M)]; exact q_lshl (a := 1) (by decide) hm (by omega) (by omega)
      refine lv_iconst (v := 1) hx hb d_Model_valued_80 (by decide) ?_
      refine lv_aload_n hx hb d_Model_valued_81 rfl (lv_at hl 3 rfl) ?_
      refine va_get (D := (dC, dI)) (ci := 8) (v := .int mi) (C := R_Model) (T := F_Model) (N := 26) hx hb hts u_Model hown hK hP 0 rfl rfl 19 (by decide) (hts _ m_582) (fun _ h9 => h9) rfl d_Model_valued_82 ?_
      refine lv_iload_n hx hb d_Model_valued_85 rfl (lv_at hl 2 rfl) ?_
      refine callV_l (wr := [(rA, .inl (cI, 400, .inl f)), (dA, .inl (cI, 40, .inl g))]) C0 (c_Model_packed l dC dI cI cB cJ (h0) (th) (we) (wm) (wy) (ra) (tA) (tn) (oA) (on) (rA) (fi) (la) (wA) (wf) (wl) ((0 : Int32)) ((0 : Int32)) ((0 : Int32)) (aT) (mi) (ds) (dA) (a0) (xp) (iA) (te) (E) (M) ((1000 : Int32)) (v79) ((1 : Int32)) (mi) (by_) (999 + bsE E) (2 ^ M) (by exact hL) (by exact hby) (by rw [show (1000 : Int32).toInt = 1000 by decide]; omega) (by omega) (by exact t79) (by omega) (by intro h; omega)) (cwV 5 hts (gV m_662 m_663 m_24 m_55 m_664) rfl rfl rfl (by decide +kernel) ⟨Nat.le_of_ble_eq_true rfl, Nat.le_of_ble_eq_true rfl⟩) 8 rfl rfl 0 rfl hP hD hS hA [0] [1, 2] rfl rfl (by decide) (by decide) (by decide) rfl hl.1 rfl (Nat.le_of_ble_eq_true rfl) d_Model_valued_86 ⟨Nat.le_of_ble_eq_true rfl, Nat.le_of_ble_eq_true rfl⟩ (fun r86 u86 H locs hw9 hP hD hS => ?_)
      obtain ⟨lo186, un186, ov186⟩ := u86
      have h86 : ∃ uu : Nat, ((uu = 1 ∧ GUd by_.toInt (1 : Int32).toInt (mi = 0) (2 ^ M)) ∨ (uu = 0 ∧ ¬ GUd by_.toInt (1 : Int32).toInt (mi = 0) (2 ^ M))) ∧ PK E M by_.toInt (¬ mi = 0) ((999 + bsE E) * 2 ^ M + (2 ^ M) + uu) (0 < (1 : Int32).toInt) r86.toInt lo186 ov186 ∧ ((un186 = 1 ∧ ¬ (0 : Int32) = 0 ∧ 0 < (1 : Int32).toInt) ∨ (un186 = 0 ∧ ¬ (¬ (0 : Int32) = 0 ∧ 0 < (1 : Int32).toInt))) := hw9
      have hP : va_P (dC, dI) vwCl [(rA, .inl (cI, 400, .inl f)), (dA, .inl (cI, 40, .inl g)), (h0, .inr (8, [.int th, .int we, .int wm, .int wy, .int ra, .ref tA, .int tn, .ref oA, .int on, .ref rA, .int fi, .int la, .ref wA, .int wf, .int wl, .int lo186, .int ov186, .int un186, .int aT, .int mi, .int ds, .ref dA, .int a0, .int xp, .ref iA, .int te]))] H := hP
      have hD : va_D A [(rA, .inl (cI, 400, .inl f)), (dA, .inl (cI, 40, .inl g)), (h0, .inr (8, [.int th, .int we, .int wm, .int wy, .int ra, .ref tA, .int tn, .ref oA, .int on, .ref rA, .int fi, .int la, .ref wA, .int wf, .int wl, .int lo186, .int ov186, .int un186, .int aT, .int mi, .int ds, .ref dA, .int a0, .int xp, .ref iA, .int te]))] := hD
      exact Cl.ret C0 (v := r86) (u := (f, fi, la, lo186, un186, ov186)) (Nat.le_of_ble_eq_true rfl) (Nat.le_of_ble_eq_true rfl) (by show ∃ (Z : Nat) (ix ty : Prop), VRS T len E M by_.toInt Z ix ty ∧ RR E M by_.toInt (pS T len = 1) Z ix ty r86.toInt lo186 ov186 un186; obtain ⟨uu, hu1, hu2, hu3⟩ := h86; exact val_hi (c := pA T len + pB T len - 1 - zz) (xc := 999 + bsE E) hE1 hE2 hmn hlo (by omega) (by omega) (by omega) hu2 (hu3.elim (fun h => absurd rfl h.2.1) (fun h => h.1))) hP hD hS [2, 0, 1] (by decide) rfl d_Model_valued_89
  · skip
    rw [q_ieq t_x2 hds] at b45
    refine lv_lconst (v := 0) hx hb d_Model_valued_48 (by decide) ?_
    exact Cl.ret C0 (v := 0) (u := (f, fi, la, 0, 0, 0)) (Nat.le_of_ble_eq_true rfl) (Nat.le_of_ble_eq_true rfl) (by show ∃ (Z : Nat) (ix ty : Prop), VRS T len E M by_.toInt Z ix ty ∧ RR E M by_.toInt (pS T len = 1) Z ix ty (0 : Int64).toInt (0 : Int32) (0 : Int32) (0 : Int32); exact ⟨0, False, False, Or.inl ⟨by rw [← hpv]; exact pv_zero (fun j hj => rdg_0 (hz0 j (by omega))), rfl, id, id⟩, Or.inl ⟨Nat.lt_of_lt_of_le (pw_p M) (iz_ge hE1), by decide, rfl, Or.inr ⟨rfl, id⟩⟩, Or.inr ⟨rfl, fun h => h.1⟩⟩) hP hD hS [0, 1, 2] (by decide) rfl d_Model_valued_49
set_option maxHeartbeats 4000000 in
set_option maxRecDepth 100000 in
theorem L_Model_valued_2 {p : Program} {l : Launch} {e : Env} {s : State} {m : MethodId} {below : List Frame} {meth : Method} {c : Code} {dC : Nat → ClassId} {dI : Nat → Nat → Nat} {cI cB cJ : ClassId} {A : Nat → Prop} (h0 : Nat) (th : Int32) (we : Int32) (wm : Int32) (wy : Int32) (ra : Int32) (tA : Nat) (tn : Int32) (oA : Nat) (on : Int32) (rA : Nat) (fi : Int32) (la : Int32) (wA : Nat) (wf : Int32) (wl : Int32) (lo : Int32) (ov : Int32) (un : Int32) (aT : Int32) (mi : Int32) (ds : Int32) (dA : Nat) (a0 : Int32) (xp : Int32) (iA : Nat) (te : Int32) (E : Nat) (M : Nat) (f : Nat → Int32) (g : Nat → Int32) (T : Nat → Nat) (len : Nat) (by_ : Int32) (C0 : cx dC dI cI cB cJ R_Model b_Model_valued 5 (some .long) p s m ([.ref h0, .int by_] : List Value).toArray meth c) (hA : ∀ q : Nat, s.heap.size ≤ q → A q) (hL : LY we wm E M) (hby : 0 ≤ by_.toInt ∧ by_.toInt ≤ 4) (hdec : isDec T len) (hds : ds.toInt = ((pA T len + pB T len : Nat) : Int)) (ha0 : a0.toInt = (pA T len : Int)) (hxp : xp.toInt = xE T len (pQ T len)) (hDG : DG T len g) (hmi : mi.toInt = (pS T len : Int)) : ∀ n : Nat, (∀ (x2 : Int32) (zz : Nat) (H : Heap) (locs : List Loc) (ls : Array Slot), 41 - zz < n → x2.toInt = (zz : Int) → by_.toInt = by_.toInt → (zz ≤ pA T len + pB T len) → (∀ j, j < zz → (g j).toInt = 0) → va_P (dC, dI) vwCl [(h0, .inr (8, [.int th, .int we, .int wm, .int wy, .int ra, .ref tA, .int tn, .ref oA, .int on, .ref rA, .int fi, .int la, .ref wA, .int wf, .int wl, .int lo, .int ov, .int un, .int aT, .int mi, .int ds, .ref dA, .int a0, .int xp, .ref iA, .int te])), (rA, .inl (cI, 400, .inl f)), (dA, .inl (cI, 40, .inl g))] H → va_D A [(h0, .inr (8, [.int th, .int we, .int wm, .int wy, .int ra, .ref tA, .int tn, .ref oA, .int on, .ref rA, .int fi, .int la, .ref wA, .int wf, .int wl, .int lo, .int ov, .int un, .int aT, .int mi, .int ds, .ref dA, .int a0, .int xp, .ref iA, .int te])), (rA, .inl (cI, 400, .inl f)), (dA, .inl (cI, 40, .inl g))] → va_S A s.heap H locs → lv_has ls 5 [(2, .int x2), (1, .int by_), (0, .ref h0)] → W p l e ({ frames := 3, cells := 0, slots := 0, locals := 85 } : Room) s m ([.ref h0, .int by_] : List Value).toArray below meth c H locs 0 0 (MQ below (va_Ql (fun (r : Int64) (u : (Nat → Int32) × (Int32) × (Int32) × (Int32) × (Int32) × (Int32)) => ∃ (Z : Nat) (ix ty : Prop), VRS T len E M by_.toInt Z ix ty ∧ RR E M by_.toInt (pS T len = 1) Z ix ty r.toInt u.2.2.2.1 u.2.2.2.2.2 u.2.2.2.2.1) (poG dC dI A (fun u : (Nat → Int32) × (Int32) × (Int32) × (Int32) × (Int32) × (Int32) => [(h0, .inr (8, [.int th, .int we, .int wm, .int wy, .int ra, .ref tA, .int tn, .ref oA, .int on, .ref rA, .int u.2.1, .int u.2.2.1, .ref wA, .int wf, .int wl, .int u.2.2.2.1, .int u.2.2.2.2.2, .int u.2.2.2.2.1, .int aT, .int mi, .int ds, .ref dA, .int a0, .int xp, .ref iA, .int te])), (rA, .inl (cI, 400, .inl u.1)), (dA, .inl (cI, 40, .inl g))])) A) ([.ref h0, .int by_] : List Value).toArray s 0 0 A) (F0 m 2 ls [])) := by
  obtain ⟨hx, hb, hml, hown, hts, hr, hlocks, hK, hN⟩ := id C0
  intro n
  induction n with
  | zero => exact fun _ _ _ _ _ h0 _ _ _ _ _ _ _ _ => absurd h0 (Nat.not_lt_zero _)
  | succ n ih =>
    intro x2 zz H locs ls hn9 t_x2 t_by_ hzn hz0 hP hD hS hl
    have r_x2 := q_r32 x2
    have r_by_ := q_r32 by_
    obtain ⟨he, hm, hE1, hE2, hM1, hM2⟩ := id hL
    have hbz := p_bias hE1 hE2
    have hem := p_em hE1 hE2 hM1 hM2
    have hiz := iz_sb E M
    have hpm := p_m hM2
    have hpm1 := pw_p M
    have hpe := p_e hE1 hE2
    have hbs := bsE_r hE1 hE2
    obtain ⟨hpv, hg9⟩ := DG_pv hdec.1 hDG
    have h40 := hdec.1.2.2
    have hxr := xE_r T len (pQ T len)
    have hdx : decX T len = -(pB T len : Int) + xE T len (pQ T len) := rfl
    have hmn := mi_ng hmi
    refine lv_iload_n hx hb d_Model_valued_2 rfl (lv_at hl 0 rfl) ?_
    refine lv_aload_n hx hb d_Model_valued_3 rfl (lv_at hl 2 rfl) ?_
    refine va_get (D := (dC, dI)) (ci := 8) (v := .int ds) (C := R_Model) (T := F_Model) (N := 26) hx hb hts u_Model hown hK hP 0 rfl rfl 20 (by decide) (hts _ m_583) (fun _ h9 => h9) rfl d_Model_valued_4 ?_
    refine lv_icmp_ge (tgt := 25) hx hb d_Model_valued_7 (by decide) (fun b7 => ?_) (fun b7 => ?_)
    · skip
      rw [q_ile hds t_x2] at b7
      exact L_Model_valued_25 (h0) (th) (we) (wm) (wy) (ra) (tA) (tn) (oA) (on) (rA) (fi) (la) (wA) (wf) (wl) (lo) (ov) (un) (aT) (mi) (ds) (dA) (a0) (xp) (iA) (te) (E) (M) (f) (g) (T) (len) (by_) C0 hA (hL) (hby) (hdec) (hds) (ha0) (hxp) (hDG) (hmi) (x2) (zz) H locs ls ((t_x2).trans (by omega)) ((t_by_).trans (by omega)) (by exact hzn) (by exact hz0) (by exact Or.inl (by omega)) (va_Psub hP [0, 1, 2] rfl) (hD.sub [0, 1, 2] (by decide) rfl) hS (lv_sub hl [0, 1, 2] rfl)
    · skip
      rw [q_ile hds t_x2] at b7
      refine lv_aload_n hx hb d_Model_valued_10 rfl (lv_at hl 2 rfl) ?_
      refine va_get (D := (dC, dI)) (ci := 8) (v := .ref dA) (C := R_Model) (T := F_Model) (N := 26) hx hb hts u_Model hown hK hP 0 rfl rfl 21 (by decide) (hts _ m_584) (fun _ h9 => h9) rfl d_Model_valued_11 ?_
      refine lv_iload_n hx hb d_Model_valued_14 rfl (lv_at hl 0 rfl) ?_
      refine va_iald hx hb hK hP 2 0 rfl rfl (q_in t_x2 (by omega)) d_Model_valued_15 ?_
      refine lv_topi (fun v15 e15 => ?_)
      rw [q_cl (k := zz) (t_x2)] at e15
      have t15 : v15.toInt = (g zz).toInt := by rw [e15]
      refine lv_if_ne (tgt := 25) hx hb d_Model_valued_16 (by decide) (fun b16 => ?_) (fun b16 => ?_)
      · skip
        rw [q_ieq t15 (show (0 : Int32).toInt = 0 by decide)] at b16
        exact L_Model_valued_25 (h0) (th) (we) (wm) (wy) (ra) (tA) (tn) (oA) (on) (rA) (fi) (la) (wA) (wf) (wl) (lo) (ov) (un) (aT) (mi) (ds) (dA) (a0) (xp) (iA) (te) (E) (M) (f) (g) (T) (len) (by_) C0 hA (hL) (hby) (hdec) (hds) (ha0) (hxp) (hDG) (hmi) (x2) (zz) H locs ls ((t_x2).trans (by omega)) ((t_by_).trans (by omega)) (by exact hzn) (by exact hz0) (by exact Or.inr b16) (va_Psub hP [0, 1, 2] rfl) (hD.sub [0, 1, 2] (by decide) rfl) hS (lv_sub hl [0, 1, 2] rfl)
      · skip
        rw [q_ieq t15 (show (0 : Int32).toInt = 0 by decide)] at b16
        obtain ⟨v19, e19⟩ : ∃ y : Int32, y = x2 + 1 := ⟨_, rfl⟩
        have t19 : v19.toInt = (zz : Int) + 1 := by rw [e19]; exact q_iadd t_x2 (show (1 : Int32).toInt = 1 by decide) (by omega)
        refine lv_iinc (v := v19) (lv' := [(2, .int v19), (1, .int by_), (0, .ref h0)]) hx hb d_Model_valued_19 hl (k := 0) rfl (by rw [e19]; rfl) (by decide) rfl (fun ls hl => ?_)
        refine lv_goto (tgt := 2) hx hb d_Model_valued_22 (by decide) ?_
        exact ih (v19) (zz + 1) H locs ls (by omega) ((t19).trans (by omega)) ((t_by_).trans (by omega)) (by omega) (by intro j hj; rcases Nat.lt_or_ge j zz with h | h; exact hz0 j h; rw [show j = zz by omega]; exact b16) (va_Psub hP [0, 1, 2] rfl) (hD.sub [0, 1, 2] (by decide) rfl) hS (lv_sub hl [0, 1, 2] rfl)
set_option maxHeartbeats 4000000 in
set_option maxRecDepth 100000 in
theorem c_Model_valued (l : Launch) (dC : Nat → ClassId) (dI : Nat → Nat → Nat) (cI cB cJ : ClassId) (h0 : Nat) (th : Int32) (we : Int32) (wm : Int32) (wy : Int32) (ra : Int32) (tA : Nat) (tn : Int32) (oA : Nat) (on : Int32) (rA : Nat) (fi : Int32) (la : Int32) (wA : Nat) (wf : Int32) (wl : Int32) (lo : Int32) (ov : Int32) (un : Int32) (aT : Int32) (mi : Int32) (ds : Int32) (dA : Nat) (a0 : Int32) (xp : Int32) (iA : Nat) (te : Int32) (E : Nat) (M : Nat) (f : Nat → Int32) (g : Nat → Int32) (T : Nat → Nat) (len : Nat) (by_ : Int32) (hL : LY we wm E M) (hby : 0 ≤ by_.toInt ∧ by_.toInt ≤ 4) (hdec : isDec T len) (hds : ds.toInt = ((pA T len + pB T len : Nat) : Int)) (ha0 : a0.toInt = (pA T len : Int)) (hxp : xp.toInt = xE T len (pQ T len)) (hDG : DG T len g) (hmi : mi.toInt = (pS T len : Int)) : Cl l dC dI cI cB cJ y_Model_valued w_Model_valued ({ frames := 3, cells := 0, slots := 0, locals := 85 } : Room) [.ref h0, .int by_] [(h0, .inr (8, [.int th, .int we, .int wm, .int wy, .int ra, .ref tA, .int tn, .ref oA, .int on, .ref rA, .int fi, .int la, .ref wA, .int wf, .int wl, .int lo, .int ov, .int un, .int aT, .int mi, .int ds, .ref dA, .int a0, .int xp, .ref iA, .int te])), (rA, .inl (cI, 400, .inl f)), (dA, .inl (cI, 40, .inl g))] (fun (r : Int64) (u : (Nat → Int32) × (Int32) × (Int32) × (Int32) × (Int32) × (Int32)) => ∃ (Z : Nat) (ix ty : Prop), VRS T len E M by_.toInt Z ix ty ∧ RR E M by_.toInt (pS T len = 1) Z ix ty r.toInt u.2.2.2.1 u.2.2.2.2.2 u.2.2.2.2.1) (fun u : (Nat → Int32) × (Int32) × (Int32) × (Int32) × (Int32) × (Int32) => [(h0, .inr (8, [.int th, .int we, .int wm, .int wy, .int ra, .ref tA, .int tn, .ref oA, .int on, .ref rA, .int u.2.1, .int u.2.2.1, .ref wA, .int wf, .int wl, .int u.2.2.2.1, .int u.2.2.2.2.2, .int u.2.2.2.2.1, .int aT, .int mi, .int ds, .ref dA, .int a0, .int xp, .ref iA, .int te])), (rA, .inl (cI, 400, .inl u.1)), (dA, .inl (cI, 40, .inl g))]) := by
  refine Cl.intro (cc := b_Model_valued) (maxL := 5) (plainFor_of_name (by decide)) rfl (Nat.le_of_ble_eq_true rfl) ?_
  intro p e s m below meth c A ls C0 hin hA hP hD hS hl
  obtain ⟨hx, hb, hml, hown, hts, hr, hlocks, hK, hN⟩ := id C0
  obtain ⟨H, hH⟩ : ∃ H, H = s.heap := ⟨_, rfl⟩
  have hP : va_P (dC, dI) vwCl [(h0, .inr (8, [.int th, .int we, .int wm, .int wy, .int ra, .ref tA, .int tn, .ref oA, .int on, .ref rA, .int fi, .int la, .ref wA, .int wf, .int wl, .int lo, .int ov, .int un, .int aT, .int mi, .int ds, .ref dA, .int a0, .int xp, .ref iA, .int te])), (rA, .inl (cI, 400, .inl f)), (dA, .inl (cI, 40, .inl g))] s.heap := hP
  have hl : lv_has ls 5 [(0, .ref h0), (1, .int by_)] := hl
  have r_by_ := q_r32 by_
  suffices h : ∀ (H : Heap) (locs : List Loc), va_P (dC, dI) vwCl [(h0, .inr (8, [.int th, .int we, .int wm, .int wy, .int ra, .ref tA, .int tn, .ref oA, .int on, .ref rA, .int fi, .int la, .ref wA, .int wf, .int wl, .int lo, .int ov, .int un, .int aT, .int mi, .int ds, .ref dA, .int a0, .int xp, .ref iA, .int te])), (rA, .inl (cI, 400, .inl f)), (dA, .inl (cI, 40, .inl g))] H → va_D A [(h0, .inr (8, [.int th, .int we, .int wm, .int wy, .int ra, .ref tA, .int tn, .ref oA, .int on, .ref rA, .int fi, .int la, .ref wA, .int wf, .int wl, .int lo, .int ov, .int un, .int aT, .int mi, .int ds, .ref dA, .int a0, .int xp, .ref iA, .int te])), (rA, .inl (cI, 400, .inl f)), (dA, .inl (cI, 40, .inl g))] → va_S A s.heap H locs → W p l e ({ frames := 3, cells := 0, slots := 0, locals := 85 } : Room) s m ([.ref h0, .int by_] : List Value).toArray below meth c H locs 0 0 (MQ below (va_Ql (fun (r : Int64) (u : (Nat → Int32) × (Int32) × (Int32) × (Int32) × (Int32) × (Int32)) => ∃ (Z : Nat) (ix ty : Prop), VRS T len E M by_.toInt Z ix ty ∧ RR E M by_.toInt (pS T len = 1) Z ix ty r.toInt u.2.2.2.1 u.2.2.2.2.2 u.2.2.2.2.1) (poG dC dI A (fun u : (Nat → Int32) × (Int32) × (Int32) × (Int32) × (Int32) × (Int32) => [(h0, .inr (8, [.int th, .int we, .int wm, .int wy, .int ra, .ref tA, .int tn, .ref oA, .int on, .ref rA, .int u.2.1, .int u.2.2.1, .ref wA, .int wf, .int wl, .int u.2.2.2.1, .int u.2.2.2.2.2, .int u.2.2.2.2.1, .int aT, .int mi, .int ds, .ref dA, .int a0, .int xp, .ref iA, .int te])), (rA, .inl (cI, 400, .inl u.1)), (dA, .inl (cI, 40, .inl g))])) A) ([.ref h0, .int by_] : List Value).toArray s 0 0 A) (F0 m 0 ls []) from h _ _ hP hD hS
  clear hP hD hS hH H
  intro H locs hP hD hS
  obtain ⟨he, hm, hE1, hE2, hM1, hM2⟩ := id hL
  have hbz := p_bias hE1 hE2
  have hem := p_em hE1 hE2 hM1 hM2
  have hiz := iz_sb E M
  have hpm := p_m hM2
  have hpm1 := pw_p M
  have hpe := p_e hE1 hE2
  have hbs := bsE_r hE1 hE2
  obtain ⟨hpv, hg9⟩ := DG_pv hdec.1 hDG
  have h40 := hdec.1.2.2
  have hxr := xE_r T len (pQ T len)
  have hdx : decX T len = -(pB T len : Int) + xE T len (pQ T len) := rfl
  have hmn := mi_ng hmi
  refine lv_iconst (v := 0) hx hb d_Model_valued_0 (by decide) ?_
  refine lv_istore_n (lv' := [(2, .int 0), (0, .ref h0), (1, .int by_)]) hx hb d_Model_valued_1 rfl hl (by decide) rfl (fun ls hl => ?_)
  exact L_Model_valued_2 (h0) (th) (we) (wm) (wy) (ra) (tA) (tn) (oA) (on) (rA) (fi) (la) (wA) (wf) (wl) (lo) (ov) (un) (aT) (mi) (ds) (dA) (a0) (xp) (iA) (te) (E) (M) (f) (g) (T) (len) (by_) C0 hA (hL) (hby) (hdec) (hds) (ha0) (hxp) (hDG) (hmi) _ (0) (0) H locs ls (Nat.lt_succ_self _) (((show (0 : Int32).toInt = 0 by decide)).trans (by omega)) (((rfl : by_.toInt = by_.toInt)).trans (by omega)) (by omega) (by intro j hj; omega) (va_Psub hP [0, 1, 2] rfl) (hD.sub [0, 1, 2] (by decide) rfl) hS (lv_sub hl [0, 2, 1] rfl)
set_option maxHeartbeats 4000000 in
set_option maxRecDepth 100000 in
theorem c_Model_read (l : Launch) (dC : Nat → ClassId) (dI : Nat → Nat → Nat) (cI cB cJ : ClassId) (h0 : Nat) (th : Int32) (we : Int32) (wm : Int32) (wy : Int32) (ra : Int32) (tA : Nat) (tn : Int32) (oA : Nat) (on : Int32) (rA : Nat) (fi : Int32) (la : Int32) (wA : Nat) (wf : Int32) (wl : Int32) (lo : Int32) (ov : Int32) (un : Int32) (aT : Int32) (mi : Int32) (ds : Int32) (dA : Nat) (a0 : Int32) (xp : Int32) (iA : Nat) (te : Int32) (E : Nat) (M : Nat) (ft : Nat → Int32) (fr : Nat → Int32) (g : Nat → Int32) (T : Nat → Nat) (len : Nat) (hL : LY we wm E M) (hT : TP ft tn T len) (hwy : 0 ≤ wy.toInt ∧ wy.toInt ≤ 4) : Cl l dC dI cI cB cJ y_Model_read w_Model_read ({ frames := 4, cells := 0, slots := 0, locals := 109 } : Room) [.ref h0] [(h0, .inr (8, [.int th, .int we, .int wm, .int wy, .int ra, .ref tA, .int tn, .ref oA, .int on, .ref rA, .int fi, .int la, .ref wA, .int wf, .int wl, .int lo, .int ov, .int un, .int aT, .int mi, .int ds, .ref dA, .int a0, .int xp, .ref iA, .int te])), (tA, .inl (cI, 60, .inl ft)), (rA, .inl (cI, 400, .inl fr)), (dA, .inl (cI, 40, .inl g))] (fun (r : Int64) (u : (Int32) × (Int32) × (Nat → Int32) × (Int32) × (Int32) × (Int32) × (Int32) × (Int32) × (Nat → Int32) × (Int32) × (Int32) × (Int32) × (Int32) × (Int32)) => (isDec T len ∧ u.1 = 0 ∧ RDW E M wy.toInt T len ra r.toInt u.2.1) ∨ (¬ isDec T len ∧ u.1 = 1 ∧ u.2.1 = ra ∧ r = 0)) (fun u : (Int32) × (Int32) × (Nat → Int32) × (Int32) × (Int32) × (Int32) × (Int32) × (Int32) × (Nat → Int32) × (Int32) × (Int32) × (Int32) × (Int32) × (Int32) => [(h0, .inr (8, [.int u.1, .int we, .int wm, .int wy, .int u.2.1, .ref tA, .int 0, .ref oA, .int on, .ref rA, .int u.2.2.2.1, .int u.2.2.2.2.1, .ref wA, .int wf, .int wl, .int u.2.2.2.2.2.1, .int u.2.2.2.2.2.2.2.1, .int u.2.2.2.2.2.2.1, .int u.2.2.2.2.2.2.2.2.2.1, .int u.2.2.2.2.2.2.2.2.2.2.2.2.2, .int u.2.2.2.2.2.2.2.2.2.2.1, .ref dA, .int u.2.2.2.2.2.2.2.2.2.2.2.1, .int u.2.2.2.2.2.2.2.2.2.2.2.2.1, .ref iA, .int te])), (tA, .inl (cI, 60, .inl ft)), (rA, .inl (cI, 400, .inl u.2.2.1)), (dA, .inl (cI, 40, .inl u.2.2.2.2.2.2.2.2.1))]) := by
  refine Cl.intro (cc := b_Model_read) (maxL := 4) (plainFor_of_name (by decide)) rfl (Nat.le_of_ble_eq_true rfl) ?_
  intro p e s m below meth c A ls C0 hin hA hP hD hS hl
  obtain ⟨hx, hb, hml, hown, hts, hr, hlocks, hK, hN⟩ := id C0
  obtain ⟨H, hH⟩ : ∃ H, H = s.heap := ⟨_, rfl⟩
  have hP : va_P (dC, dI) vwCl [(h0, .inr (8, [.int th, .int we, .int wm, .int wy, .int ra, .ref tA, .int tn, .ref oA, .int on, .ref rA, .int fi, .int la, .ref wA, .int wf, .int wl, .int lo, .int ov, .int un, .int aT, .int mi, .int ds, .ref dA, .int a0, .int xp, .ref iA, .int te])), (tA, .inl (cI, 60, .inl ft)), (rA, .inl (cI, 400, .inl fr)), (dA, .inl (cI, 40, .inl g))] s.heap := hP
  have hl : lv_has ls 4 [(0, .ref h0)] := hl
  suffices h : ∀ (H : Heap) (locs : List Loc), va_P (dC, dI) vwCl [(h0, .inr (8, [.int th, .int we, .int wm, .int wy, .int ra, .ref tA, .int tn, .ref oA, .int on, .ref rA, .int fi, .int la, .ref wA, .int wf, .int wl, .int lo, .int ov, .int un, .int aT, .int mi, .int ds, .ref dA, .int a0, .int xp, .ref iA, .int te])), (tA, .inl (cI, 60, .inl ft)), (rA, .inl (cI, 400, .inl fr)), (dA, .inl (cI, 40, .inl g))] H → va_D A [(h0, .inr (8, [.int th, .int we, .int wm, .int wy, .int ra, .ref tA, .int tn, .ref oA, .int on, .ref rA, .int fi, .int la, .ref wA, .int wf, .int wl, .int lo, .int ov, .int un, .int aT, .int mi, .int ds, .ref dA, .int a0, .int xp, .ref iA, .int te])), (tA, .inl (cI, 60, .inl ft)), (rA, .inl (cI, 400, .inl fr)), (dA, .inl (cI, 40, .inl g))] → va_S A s.heap H locs → W p l e ({ frames := 4, cells := 0, slots := 0, locals := 109 } : Room) s m ([.ref h0] : List Value).toArray below meth c H locs 0 0 (MQ below (va_Ql (fun (r : Int64) (u : (Int32) × (Int32) × (Nat → Int32) × (Int32) × (Int32) × (Int32) × (Int32) × (Int32) × (Nat → Int32) × (Int32) × (Int32) × (Int32) × (Int32) × (Int32)) => (isDec T len ∧ u.1 = 0 ∧ RDW E M wy.toInt T len ra r.toInt u.2.1) ∨ (¬ isDec T len ∧ u.1 = 1 ∧ u.2.1 = ra ∧ r = 0)) (poG dC dI A (fun u : (Int32) × (Int32) × (Nat → Int32) × (Int32) × (Int32) × (Int32) × (Int32) × (Int32) × (Nat → Int32) × (Int32) × (Int32) × (Int32) × (Int32) × (Int32) => [(h0, .inr (8, [.int u.1, .int we, .int wm, .int wy, .int u.2.1, .ref tA, .int 0, .ref oA, .int on, .ref rA, .int u.2.2.2.1, .int u.2.2.2.2.1, .ref wA, .int wf, .int wl, .int u.2.2.2.2.2.1, .int u.2.2.2.2.2.2.2.1, .int u.2.2.2.2.2.2.1, .int u.2.2.2.2.2.2.2.2.2.1, .int u.2.2.2.2.2.2.2.2.2.2.2.2.2, .int u.2.2.2.2.2.2.2.2.2.2.1, .ref dA, .int u.2.2.2.2.2.2.2.2.2.2.2.1, .int u.2.2.2.2.2.2.2.2.2.2.2.2.1, .ref iA, .int te])), (tA, .inl (cI, 60, .inl ft)), (rA, .inl (cI, 400, .inl u.2.2.1)), (dA, .inl (cI, 40, .inl u.2.2.2.2.2.2.2.2.1))])) A) ([.ref h0] : List Value).toArray s 0 0 A) (F0 m 0 ls []) from h _ _ hP hD hS
  clear hP hD hS hH H
  intro H locs hP hD hS
  obtain ⟨he, hm, hE1, hE2, hM1, hM2⟩ := id hL
  have hbz := p_bias hE1 hE2
  have hem := p_em hE1 hE2 hM1 hM2
  have hiz := iz_sb E M
  have hpm := p_m hM2
  have hpm1 := pw_p M
  have hpe := p_e hE1 hE2
  refine lv_aload_n hx hb d_Model_read_0 rfl (lv_at hl 0 rfl) ?_
  refine callV_i (wr := [(rA, .inl (cI, 400, .inl fr))]) C0 (c_Model_isDecimal l dC dI cI cB cJ (h0) (th) (we) (wm) (wy) (ra) (tA) (tn) (oA) (on) (rA) (fi) (la) (wA) (wf) (wl) (lo) (ov) (un) (aT) (mi) (ds) (dA) (a0) (xp) (iA) (te) (ft) (T) (len) (g) (by exact hT)) (cwV 0 hts (gV m_644 m_645 m_19 m_55 m_646) rfl rfl rfl (by decide +kernel) ⟨Nat.le_of_ble_eq_true rfl, Nat.le_of_ble_eq_true rfl⟩) 8 rfl rfl 0 rfl hP hD hS hA [0, 1, 3] [2] rfl rfl (by decide) (by decide) (by decide) rfl hl.1 rfl (Nat.le_of_ble_eq_true rfl) d_Model_read_1 ⟨Nat.le_of_ble_eq_true rfl, Nat.le_of_ble_eq_true rfl⟩ (fun r1 u1 H locs hw9 hP hD hS => ?_)
  obtain ⟨k1, aT11, ds11, a011, xp11, mi11⟩ := u1
  have h1 : (r1 = 1 ∧ isDec T len ∧ mi11.toInt = (pS T len : Int) ∧ ds11.toInt = ((pA T len + pB T len : Nat) : Int) ∧ a011.toInt = (pA T len : Int) ∧ xp11.toInt = xE T len (pQ T len) ∧ DG T len k1) ∨ (r1 = 0 ∧ ¬ isDec T len) := hw9
  have hP : va_P (dC, dI) vwCl [(rA, .inl (cI, 400, .inl fr)), (h0, .inr (8, [.int th, .int we, .int wm, .int wy, .int ra, .ref tA, .int tn, .ref oA, .int on, .ref rA, .int fi, .int la, .ref wA, .int wf, .int wl, .int lo, .int ov, .int un, .int aT11, .int mi11, .int ds11, .ref dA, .int a011, .int xp11, .ref iA, .int te])), (tA, .inl (cI, 60, .inl ft)), (dA, .inl (cI, 40, .inl k1))] H := hP
  have hD : va_D A [(rA, .inl (cI, 400, .inl fr)), (h0, .inr (8, [.int th, .int we, .int wm, .int wy, .int ra, .ref tA, .int tn, .ref oA, .int on, .ref rA, .int fi, .int la, .ref wA, .int wf, .int wl, .int lo, .int ov, .int un, .int aT11, .int mi11, .int ds11, .ref dA, .int a011, .int xp11, .ref iA, .int te])), (tA, .inl (cI, 60, .inl ft)), (dA, .inl (cI, 40, .inl k1))] := hD
  refine lv_istore_n (lv' := [(1, .int r1), (0, .ref h0)]) hx hb d_Model_read_4 rfl hl (by decide) rfl (fun ls hl => ?_)
  refine lv_aload_n hx hb d_Model_read_5 rfl (lv_at hl 1 rfl) ?_
  refine lv_iconst (v := 0) hx hb d_Model_read_6 (by decide) ?_
  refine va_put (D := (dC, dI)) (ci := 8) (v := .int 0) (ty := .int) (C := R_Model) (T := F_Model) (N := 26) hx hb hts u_Model t_Model t_Model_ok n_Model hown hK hP hD hS 1 rfl rfl 6 (by decide) (hts _ m_569) (fun _ h9 => h9) rfl (by decide +kernel) rfl rfl (Nat.le_of_ble_eq_true rfl) d_Model_read_7 (fun H locs hP hD hS => ?_)
  have hP : va_P (dC, dI) vwCl [(rA, .inl (cI, 400, .inl fr)), (h0, .inr (8, [.int th, .int we, .int wm, .int wy, .int ra, .ref tA, .int 0, .ref oA, .int on, .ref rA, .int fi, .int la, .ref wA, .int wf, .int wl, .int lo, .int ov, .int un, .int aT11, .int mi11, .int ds11, .ref dA, .int a011, .int xp11, .ref iA, .int te])), (tA, .inl (cI, 60, .inl ft)), (dA, .inl (cI, 40, .inl k1))] H := hP
  have hD : va_D A [(rA, .inl (cI, 400, .inl fr)), (h0, .inr (8, [.int th, .int we, .int wm, .int wy, .int ra, .ref tA, .int 0, .ref oA, .int on, .ref rA, .int fi, .int la, .ref wA, .int wf, .int wl, .int lo, .int ov, .int un, .int aT11, .int mi11, .int ds11, .ref dA, .int a011, .int xp11, .ref iA, .int te])), (tA, .inl (cI, 60, .inl ft)), (dA, .inl (cI, 40, .inl k1))] := hD
  refine lv_iload_n hx hb d_Model_read_10 rfl (lv_at hl 0 rfl) ?_
  refine lv_if_ne (tgt := 21) hx hb d_Model_read_11 (by decide) (fun b11 => ?_) (fun b11 => ?_)
  · skip
    obtain ⟨hdec, t_mi, t_ds, t_a0, t_xp, hDG⟩ := h1.elim (fun h => h.2) (fun h => absurd h.1 b11)
    have hmn := mi_ng t_mi
    refine lv_aload_n hx hb d_Model_read_21 rfl (lv_at hl 1 rfl) ?_
    refine lv_iconst (v := 0) hx hb d_Model_read_22 (by decide) ?_
    refine va_put (D := (dC, dI)) (ci := 8) (v := .int 0) (ty := .int) (C := R_Model) (T := F_Model) (N := 26) hx hb hts u_Model t_Model t_Model_ok n_Model hown hK hP hD hS 1 rfl rfl 0 (by decide) (hts _ m_563) (fun _ h9 => h9) rfl (by decide +kernel) rfl rfl (Nat.le_of_ble_eq_true rfl) d_Model_read_23 (fun H locs hP hD hS => ?_)
    have hP : va_P (dC, dI) vwCl [(rA, .inl (cI, 400, .inl fr)), (h0, .inr (8, [.int 0, .int we, .int wm, .int wy, .int ra, .ref tA, .int 0, .ref oA, .int on, .ref rA, .int fi, .int la, .ref wA, .int wf, .int wl, .int lo, .int ov, .int un, .int aT11, .int mi11, .int ds11, .ref dA, .int a011, .int xp11, .ref iA, .int te])), (tA, .inl (cI, 60, .inl ft)), (dA, .inl (cI, 40, .inl k1))] H := hP
    have hD : va_D A [(rA, .inl (cI, 400, .inl fr)), (h0, .inr (8, [.int 0, .int we, .int wm, .int wy, .int ra, .ref tA, .int 0, .ref oA, .int on, .ref rA, .int fi, .int la, .ref wA, .int wf, .int wl, .int lo, .int ov, .int un, .int aT11, .int mi11, .int ds11, .ref dA, .int a011, .int xp11, .ref iA, .int te])), (tA, .inl (cI, 60, .inl ft)), (dA, .inl (cI, 40, .inl k1))] := hD
    refine lv_aload_n hx hb d_Model_read_26 rfl (lv_at hl 1 rfl) ?_
    refine lv_aload_n hx hb d_Model_read_27 rfl (lv_at hl 1 rfl) ?_
    refine va_get (D := (dC, dI)) (ci := 8) (v := .int wy) (C := R_Model) (T := F_Model) (N := 26) hx hb hts u_Model hown hK hP 1 rfl rfl 3 (by decide) (hts _ m_566) (fun _ h9 => h9) rfl d_Model_read_28 ?_
    refine callV_l (wr := [(tA, .inl (cI, 60, .inl ft))]) C0 (c_Model_valued l dC dI cI cB cJ (h0) ((0 : Int32)) (we) (wm) (wy) (ra) (tA) ((0 : Int32)) (oA) (on) (rA) (fi) (la) (wA) (wf) (wl) (lo) (ov) (un) (aT11) (mi11) (ds11) (dA) (a011) (xp11) (iA) (te) (E) (M) (fr) (k1) (T) (len) (wy) (by exact hL) (by exact hwy) (by exact hdec) (by exact t_ds) (by exact t_a0) (by exact t_xp) (by exact hDG) (by exact t_mi)) (cwV 1 hts (gV m_659 m_660 m_23 m_55 m_661) rfl rfl rfl (by decide +kernel) ⟨Nat.le_of_ble_eq_true rfl, Nat.le_of_ble_eq_true rfl⟩) 8 rfl rfl 0 rfl hP hD hS hA [1, 0, 3] [2] rfl rfl (by decide) (by decide) (by decide) rfl hl.1 rfl (Nat.le_of_ble_eq_true rfl) d_Model_read_31 ⟨Nat.le_of_ble_eq_true rfl, Nat.le_of_ble_eq_true rfl⟩ (fun r31 u31 H locs hw9 hP hD hS => ?_)
    obtain ⟨k31, fi131, la131, lo131, un131, ov131⟩ := u31
    have h31 : ∃ (Z : Nat) (ix ty : Prop), VRS T len E M wy.toInt Z ix ty ∧ RR E M wy.toInt (pS T len = 1) Z ix ty r31.toInt lo131 ov131 un131 := hw9
    have hP : va_P (dC, dI) vwCl [(tA, .inl (cI, 60, .inl ft)), (h0, .inr (8, [.int 0, .int we, .int wm, .int wy, .int ra, .ref tA, .int 0, .ref oA, .int on, .ref rA, .int fi131, .int la131, .ref wA, .int wf, .int wl, .int lo131, .int ov131, .int un131, .int aT11, .int mi11, .int ds11, .ref dA, .int a011, .int xp11, .ref iA, .int te])), (rA, .inl (cI, 400, .inl k31)), (dA, .inl (cI, 40, .inl k1))] H := hP
    have hD : va_D A [(tA, .inl (cI, 60, .inl ft)), (h0, .inr (8, [.int 0, .int we, .int wm, .int wy, .int ra, .ref tA, .int 0, .ref oA, .int on, .ref rA, .int fi131, .int la131, .ref wA, .int wf, .int wl, .int lo131, .int ov131, .int un131, .int aT11, .int mi11, .int ds11, .ref dA, .int a011, .int xp11, .ref iA, .int te])), (rA, .inl (cI, 400, .inl k31)), (dA, .inl (cI, 40, .inl k1))] := hD
    obtain ⟨Z, ix, ty, hvr, hrr⟩ := h31
    have hpb := RR_b hrr
    have t31 : r31.toInt = r31.toInt := rfl
    refine lv_lstore_n (lv' := [(2, .long r31), (1, .int r1), (0, .ref h0)]) hx hb d_Model_read_34 rfl hl (by decide) rfl (fun ls hl => ?_)
    refine lv_aload_n hx hb d_Model_read_35 rfl (lv_at hl 2 rfl) ?_
    refine va_get (D := (dC, dI)) (ci := 8) (v := .int lo131) (C := R_Model) (T := F_Model) (N := 26) hx hb hts u_Model hown hK hP 1 rfl rfl 15 (by decide) (hts _ m_578) (fun _ h9 => h9) rfl d_Model_read_36 ?_
    refine lv_if_eq (tgt := 52) hx hb d_Model_read_39 (by decide) (fun b39 => ?_) (fun b39 => ?_)
    · skip
      refine lv_aload_n hx hb d_Model_read_52 rfl (lv_at hl 2 rfl) ?_
      refine va_get (D := (dC, dI)) (ci := 8) (v := .int ov131) (C := R_Model) (T := F_Model) (N := 26) hx hb hts u_Model hown hK hP 1 rfl rfl 16 (by decide) (hts _ m_579) (fun _ h9 => h9) rfl d_Model_read_53 ?_
      refine lv_if_eq (tgt := 69) hx hb d_Model_read_56 (by decide) (fun b56 => ?_) (fun b56 => ?_)
      · skip
        refine lv_aload_n hx hb d_Model_read_69 rfl (lv_at hl 2 rfl) ?_
        refine va_get (D := (dC, dI)) (ci := 8) (v := .int un131) (C := R_Model) (T := F_Model) (N := 26) hx hb hts u_Model hown hK hP 1 rfl rfl 17 (by decide) (hts _ m_580) (fun _ h9 => h9) rfl d_Model_read_70 ?_
        refine lv_if_eq (tgt := 86) hx hb d_Model_read_73 (by decide) (fun b73 => ?_) (fun b73 => ?_)
        · skip
          refine lv_aload_n hx hb d_Model_read_86 rfl (lv_at hl 2 rfl) ?_
          refine va_get (D := (dC, dI)) (ci := 8) (v := .int mi11) (C := R_Model) (T := F_Model) (N := 26) hx hb hts u_Model hown hK hP 1 rfl rfl 19 (by decide) (hts _ m_582) (fun _ h9 => h9) rfl d_Model_read_87 ?_
          refine lv_if_eq (tgt := 109) hx hb d_Model_read_90 (by decide) (fun b90 => ?_) (fun b90 => ?_)
          · skip
            refine lv_lload_n hx hb d_Model_read_109 rfl (lv_at hl 0 rfl) ?_
            exact Cl.ret C0 (v := r31) (u := (0, ra, k31, fi131, la131, lo131, un131, ov131, k1, aT11, ds11, a011, xp11, mi11)) (Nat.le_of_ble_eq_true rfl) (Nat.le_of_ble_eq_true rfl) (by show (isDec T len ∧ (0 : Int32) = 0 ∧ RDW E M wy.toInt T len ra r31.toInt ra) ∨ (¬ isDec T len ∧ (0 : Int32) = 1 ∧ ra = ra ∧ r31 = 0); exact Or.inl ⟨hdec, rfl, RDW_of hvr hrr (by unfold fl3; rw [if_pos b73, if_pos b56, if_pos b39]) (hrp_0 hmn b90)⟩) hP hD hS [1, 0, 2, 3] (by decide) rfl d_Model_read_110
          · skip
            refine lv_lload_n hx hb d_Model_read_93 rfl (lv_at hl 0 rfl) ?_
            refine lv_lconst (v := 1) hx hb d_Model_read_94 (by decide) ?_
            refine lv_aload_n hx hb d_Model_read_95 rfl (lv_at hl 2 rfl) ?_
            refine va_get (D := (dC, dI)) (ci := 8) (v := .int we) (C := R_Model) (T := F_Model) (N := 26) hx hb hts u_Model hown hK hP 1 rfl rfl 1 (by decide) (hts _ m_564) (fun _ h9 => h9) rfl d_Model_read_96 ?_
            refine lv_aload_n hx hb d_Model_read_99 rfl (lv_at hl 2 rfl) ?_
            refine va_get (D := (dC, dI)) (ci := 8) (v := .int wm) (C := R_Model) (T := F_Model) (N := 26) hx hb hts u_Model hown hK hP 1 rfl rfl 2 (by decide) (hts _ m_565) (fun _ h9 => h9) rfl d_Model_read_100 ?_
            refine lv_iadd hx hb d_Model_read_103 ?_
            refine lv_topi (fun v103 e103 => ?_)
            have t103 : v103.toInt = (E : Int) + (M : Int) := by rw [e103]; exact q_iadd he hm (by omega)
            refine lv_lshl hx hb d_Model_read_104 rfl ?_
            refine lv_topl (fun v104 e104 => ?_)
            have t104 : v104.toInt = ((sb E M : Nat) : Int) := by rw [e104, ← Nat.one_mul (sb E M)]; exact q_lshl (a := 1) (k := E + M) (by decide) (t103.trans (by omega)) (by omega) (by rw [Nat.one_mul]; exact Nat.lt_of_le_of_lt hem.2 (by decide))
            refine lv_ladd hx hb d_Model_read_105 ?_
            refine lv_topl (fun v105 e105 => ?_)
            have t105 : v105.toInt = r31.toInt + (((sb E M : Nat) : Int)) := by rw [e105]; exact q_ladd t31 t104 (by omega)
            refine lv_goto (tgt := 110) hx hb d_Model_read_106 (by decide) ?_
            exact Cl.ret C0 (v := v105) (u := (0, ra, k31, fi131, la131, lo131, un131, ov131, k1, aT11, ds11, a011, xp11, mi11)) (Nat.le_of_ble_eq_true rfl) (Nat.le_of_ble_eq_true rfl) (by show (isDec T len ∧ (0 : Int32) = 0 ∧ RDW E M wy.toInt T len ra v105.toInt ra) ∨ (¬ isDec T len ∧ (0 : Int32) = 1 ∧ ra = ra ∧ v105 = 0); exact Or.inl ⟨hdec, rfl, RDW_of hvr hrr (by unfold fl3; rw [if_pos b73, if_pos b56, if_pos b39]) (hrp_1 hmn b90 t105)⟩) hP hD hS [1, 0, 2, 3] (by decide) rfl d_Model_read_110
        · skip
          refine lv_aload_n hx hb d_Model_read_76 rfl (lv_at hl 2 rfl) ?_
          refine lv_aload_n hx hb d_Model_read_77 rfl (lv_at hl 2 rfl) ?_
          refine va_get (D := (dC, dI)) (ci := 8) (v := .int ra) (C := R_Model) (T := F_Model) (N := 26) hx hb hts u_Model hown hK hP 1 rfl rfl 4 (by decide) (hts _ m_567) (fun _ h9 => h9) rfl d_Model_read_78 ?_
          refine lv_iconst (v := 4) hx hb d_Model_read_81 (by decide) ?_
          refine lv_ior hx hb d_Model_read_82 ?_
          refine lv_topi (fun v82 e82 => ?_)
          refine va_put (D := (dC, dI)) (ci := 8) (v := .int v82) (ty := .int) (C := R_Model) (T := F_Model) (N := 26) hx hb hts u_Model t_Model t_Model_ok n_Model hown hK hP hD hS 1 rfl rfl 4 (by decide) (hts _ m_567) (fun _ h9 => h9) rfl (by decide +kernel) rfl rfl (Nat.le_of_ble_eq_true rfl) d_Model_read_83 (fun H locs hP hD hS => ?_)
          have hP : va_P (dC, dI) vwCl [(tA, .inl (cI, 60, .inl ft)), (h0, .inr (8, [.int 0, .int we, .int wm, .int wy, .int v82, .ref tA, .int 0, .ref oA, .int on, .ref rA, .int fi131, .int la131, .ref wA, .int wf, .int wl, .int lo131, .int ov131, .int un131, .int aT11, .int mi11, .int ds11, .ref dA, .int a011, .int xp11, .ref iA, .int te])), (rA, .inl (cI, 400, .inl k31)), (dA, .inl (cI, 40, .inl k1))] H := hP
          have hD : va_D A [(tA, .inl (cI, 60, .inl ft)), (h0, .inr (8, [.int 0, .int we, .int wm, .int wy, .int v82, .ref tA, .int 0, .ref oA, .int on, .ref rA, .int fi131, .int la131, .ref wA, .int wf, .int wl, .int lo131, .int ov131, .int un131, .int aT11, .int mi11, .int ds11, .ref dA, .int a011, .int xp11, .ref iA, .int te])), (rA, .inl (cI, 400, .inl k31)), (dA, .inl (cI, 40, .inl k1))] := hD
          refine lv_aload_n hx hb d_Model_read_86 rfl (lv_at hl 2 rfl) ?_
          refine va_get (D := (dC, dI)) (ci := 8) (v := .int mi11) (C := R_Model) (T := F_Model) (N := 26) hx hb hts u_Model hown hK hP 1 rfl rfl 19 (by decide) (hts _ m_582) (fun _ h9 => h9) rfl d_Model_read_87 ?_
          refine lv_if_eq (tgt := 109) hx hb d_Model_read_90 (by decide) (fun b90 => ?_) (fun b90 => ?_)
          · skip
            refine lv_lload_n hx hb d_Model_read_109 rfl (lv_at hl 0 rfl) ?_
            exact Cl.ret C0 (v := r31) (u := (0, v82, k31, fi131, la131, lo131, un131, ov131, k1, aT11, ds11, a011, xp11, mi11)) (Nat.le_of_ble_eq_true rfl) (Nat.le_of_ble_eq_true rfl) (by show (isDec T len ∧ (0 : Int32) = 0 ∧ RDW E M wy.toInt T len ra r31.toInt v82) ∨ (¬ isDec T len ∧ (0 : Int32) = 1 ∧ v82 = ra ∧ r31 = 0); exact Or.inl ⟨hdec, rfl, RDW_of hvr hrr (by unfold fl3; rw [if_neg b73, if_pos b56, if_pos b39, e82]) (hrp_0 hmn b90)⟩) hP hD hS [1, 0, 2, 3] (by decide) rfl d_Model_read_110
          · skip
            refine lv_lload_n hx hb d_Model_read_93 rfl (lv_at hl 0 rfl) ?_
            refine lv_lconst (v := 1) hx hb d_Model_read_94 (by decide) ?_
            refine lv_aload_n hx hb d_Model_read_95 rfl (lv_at hl 2 rfl) ?_
            refine va_get (D := (dC, dI)) (ci := 8) (v := .int we) (C := R_Model) (T := F_Model) (N := 26) hx hb hts u_Model hown hK hP 1 rfl rfl 1 (by decide) (hts _ m_564) (fun _ h9 => h9) rfl d_Model_read_96 ?_
            refine lv_aload_n hx hb d_Model_read_99 rfl (lv_at hl 2 rfl) ?_
            refine va_get (D := (dC, dI)) (ci := 8) (v := .int wm) (C := R_Model) (T := F_Model) (N := 26) hx hb hts u_Model hown hK hP 1 rfl rfl 2 (by decide) (hts _ m_565) (fun _ h9 => h9) rfl d_Model_read_100 ?_
            refine lv_iadd hx hb d_Model_read_103 ?_
            refine lv_topi (fun v103 e103 => ?_)
            have t103 : v103.toInt = (E : Int) + (M : Int) := by rw [e103]; exact q_iadd he hm (by omega)
            refine lv_lshl hx hb d_Model_read_104 rfl ?_
            refine lv_topl (fun v104 e104 => ?_)
            have t104 : v104.toInt = ((sb E M : Nat) : Int) := by rw [e104, ← Nat.one_mul (sb E M)]; exact q_lshl (a := 1) (k := E + M) (by decide) (t103.trans (by omega)) (by omega) (by rw [Nat.one_mul]; exact Nat.lt_of_le_of_lt hem.2 (by decide))
            refine lv_ladd hx hb d_Model_read_105 ?_
            refine lv_topl (fun v105 e105 => ?_)
            have t105 : v105.toInt = r31.toInt + (((sb E M : Nat) : Int)) := by rw [e105]; exact q_ladd t31 t104 (by omega)
            refine lv_goto (tgt := 110) hx hb d_Model_read_106 (by decide) ?_
            exact Cl.ret C0 (v := v105) (u := (0, v82, k31, fi131, la131, lo131, un131, ov131, k1, aT11, ds11, a011, xp11, mi11)) (Nat.le_of_ble_eq_true rfl) (Nat.le_of_ble_eq_true rfl) (by show (isDec T len ∧ (0 : Int32) = 0 ∧ RDW E M wy.toInt T len ra v105.toInt v82) ∨ (¬ isDec T len ∧ (0 : Int32) = 1 ∧ v82 = ra ∧ v105 = 0); exact Or.inl ⟨hdec, rfl, RDW_of hvr hrr (by unfold fl3; rw [if_neg b73, if_pos b56, if_pos b39, e82]) (hrp_1 hmn b90 t105)⟩) hP hD hS [1, 0, 2, 3] (by decide) rfl d_Model_read_110
      · skip
        refine lv_aload_n hx hb d_Model_read_59 rfl (lv_at hl 2 rfl) ?_
        refine lv_aload_n hx hb d_Model_read_60 rfl (lv_at hl 2 rfl) ?_
        refine va_get (D := (dC, dI)) (ci := 8) (v := .int ra) (C := R_Model) (T := F_Model) (N := 26) hx hb hts u_Model hown hK hP 1 rfl rfl 4 (by decide) (hts _ m_567) (fun _ h9 => h9) rfl d_Model_read_61 ?_
        refine lv_iconst (v := 2) hx hb d_Model_read_64 (by decide) ?_
        refine lv_ior hx hb d_Model_read_65 ?_
        refine lv_topi (fun v65 e65 => ?_)
        refine va_put (D := (dC, dI)) (ci := 8) (v := .int v65) (ty := .int) (C := R_Model) (T := F_Model) (N := 26) hx hb hts u_Model t_Model t_Model_ok n_Model hown hK hP hD hS 1 rfl rfl 4 (by decide) (hts _ m_567) (fun _ h9 => h9) rfl (by decide +kernel) rfl rfl (Nat.le_of_ble_eq_true rfl) d_Model_read_66 (fun H locs hP hD hS => ?_)
        have hP : va_P (dC, dI) vwCl [(tA, .inl (cI, 60, .inl ft)), (h0, .inr (8, [.int 0, .int we, .int wm, .int wy, .int v65, .ref tA, .int 0, .ref oA, .int on, .ref rA, .int fi131, .int la131, .ref wA, .int wf, .int wl, .int lo131, .int ov131, .int un131, .int aT11, .int mi11, .int ds11, .ref dA, .int a011, .int xp11, .ref iA, .int te])), (rA, .inl (cI, 400, .inl k31)), (dA, .inl (cI, 40, .inl k1))] H := hP
        have hD : va_D A [(tA, .inl (cI, 60, .inl ft)), (h0, .inr (8, [.int 0, .int we, .int wm, .int wy, .int v65, .ref tA, .int 0, .ref oA, .int on, .ref rA, .int fi131, .int la131, .ref wA, .int wf, .int wl, .int lo131, .int ov131, .int un131, .int aT11, .int mi11, .int ds11, .ref dA, .int a011, .int xp11, .ref iA, .int te])), (rA, .inl (cI, 400, .inl k31)), (dA, .inl (cI, 40, .inl k1))] := hD
        refine lv_aload_n hx hb d_Model_read_69 rfl (lv_at hl 2 rfl) ?_
        refine va_get (D := (dC, dI)) (ci := 8) (v := .int un131) (C := R_Model) (T := F_Model) (N := 26) hx hb hts u_Model hown hK hP 1 rfl rfl 17 (by decide) (hts _ m_580) (fun _ h9 => h9) rfl d_Model_read_70 ?_
        refine lv_if_eq (tgt := 86) hx hb d_Model_read_73 (by decide) (fun b73 => ?_) (fun b73 => ?_)
        · skip
          refine lv_aload_n hx hb d_Model_read_86 rfl (lv_at hl 2 rfl) ?_
          refine va_get (D := (dC, dI)) (ci := 8) (v := .int mi11) (C := R_Model) (T := F_Model) (N := 26) hx hb hts u_Model hown hK hP 1 rfl rfl 19 (by decide) (hts _ m_582) (fun _ h9 => h9) rfl d_Model_read_87 ?_
          refine lv_if_eq (tgt := 109) hx hb d_Model_read_90 (by decide) (fun b90 => ?_) (fun b90 => ?_)
          · skip
            refine lv_lload_n hx hb d_Model_read_109 rfl (lv_at hl 0 rfl) ?_
            exact Cl.ret C0 (v := r31) (u := (0, v65, k31, fi131, la131, lo131, un131, ov131, k1, aT11, ds11, a011, xp11, mi11)) (Nat.le_of_ble_eq_true rfl) (Nat.le_of_ble_eq_true rfl) (by show (isDec T len ∧ (0 : Int32) = 0 ∧ RDW E M wy.toInt T len ra r31.toInt v65) ∨ (¬ isDec T len ∧ (0 : Int32) = 1 ∧ v65 = ra ∧ r31 = 0); exact Or.inl ⟨hdec, rfl, RDW_of hvr hrr (by unfold fl3; rw [if_pos b73, if_neg b56, if_pos b39, e65]) (hrp_0 hmn b90)⟩) hP hD hS [1, 0, 2, 3] (by decide) rfl d_Model_read_110
          · skip
            refine lv_lload_n hx hb d_Model_read_93 rfl (lv_at hl 0 rfl) ?_
            refine lv_lconst (v := 1) hx hb d_Model_read_94 (by decide) ?_
            refine lv_aload_n hx hb d_Model_read_95 rfl (lv_at hl 2 rfl) ?_
            refine va_get (D := (dC, dI)) (ci := 8) (v := .int we) (C := R_Model) (T := F_Model) (N := 26) hx hb hts u_Model hown hK hP 1 rfl rfl 1 (by decide) (hts _ m_564) (fun _ h9 => h9) rfl d_Model_read_96 ?_
            refine lv_aload_n hx hb d_Model_read_99 rfl (lv_at hl 2 rfl) ?_
            refine va_get (D := (dC, dI)) (ci := 8) (v := .int wm) (C := R_Model) (T := F_Model) (N := 26) hx hb hts u_Model hown hK hP 1 rfl rfl 2 (by decide) (hts _ m_565) (fun _ h9 => h9) rfl d_Model_read_100 ?_
            refine lv_iadd hx hb d_Model_read_103 ?_
            refine lv_topi (fun v103 e103 => ?_)
            have t103 : v103.toInt = (E : Int) + (M : Int) := by rw [e103]; exact q_iadd he hm (by omega)
            refine lv_lshl hx hb d_Model_read_104 rfl ?_
            refine lv_topl (fun v104 e104 => ?_)
            have t104 : v104.toInt = ((sb E M : Nat) : Int) := by rw [e104, ← Nat.one_mul (sb E M)]; exact q_lshl (a := 1) (k := E + M) (by decide) (t103.trans (by omega)) (by omega) (by rw [Nat.one_mul]; exact Nat.lt_of_le_of_lt hem.2 (by decide))
            refine lv_ladd hx hb d_Model_read_105 ?_
            refine lv_topl (fun v105 e105 => ?_)
            have t105 : v105.toInt = r31.toInt + (((sb E M : Nat) : Int)) := by rw [e105]; exact q_ladd t31 t104 (by omega)
            refine lv_goto (tgt := 110) hx hb d_Model_read_106 (by decide) ?_
            exact Cl.ret C0 (v := v105) (u := (0, v65, k31, fi131, la131, lo131, un131, ov131, k1, aT11, ds11, a011, xp11, mi11)) (Nat.le_of_ble_eq_true rfl) (Nat.le_of_ble_eq_true rfl) (by show (isDec T len ∧ (0 : Int32) = 0 ∧ RDW E M wy.toInt T len ra v105.toInt v65) ∨ (¬ isDec T len ∧ (0 : Int32) = 1 ∧ v65 = ra ∧ v105 = 0); exact Or.inl ⟨hdec, rfl, RDW_of hvr hrr (by unfold fl3; rw [if_pos b73, if_neg b56, if_pos b39, e65]) (hrp_1 hmn b90 t105)⟩) hP hD hS [1, 0, 2, 3] (by decide) rfl d_Model_read_110
        · skip
          refine lv_aload_n hx hb d_Model_read_76 rfl (lv_at hl 2 rfl) ?_
          refine lv_aload_n hx hb d_Model_read_77 rfl (lv_at hl 2 rfl) ?_
          refine va_get (D := (dC, dI)) (ci := 8) (v := .int v65) (C := R_Model) (T := F_Model) (N := 26) hx hb hts u_Model hown hK hP 1 rfl rfl 4 (by decide) (hts _ m_567) (fun _ h9 => h9) rfl d_Model_read_78 ?_
          refine lv_iconst (v := 4) hx hb d_Model_read_81 (by decide) ?_
          refine lv_ior hx hb d_Model_read_82 ?_
          refine lv_topi (fun v82 e82 => ?_)
          refine va_put (D := (dC, dI)) (ci := 8) (v := .int v82) (ty := .int) (C := R_Model) (T := F_Model) (N := 26) hx hb hts u_Model t_Model t_Model_ok n_Model hown hK hP hD hS 1 rfl rfl 4 (by decide) (hts _ m_567) (fun _ h9 => h9) rfl (by decide +kernel) rfl rfl (Nat.le_of_ble_eq_true rfl) d_Model_read_83 (fun H locs hP hD hS => ?_)
          have hP : va_P (dC, dI) vwCl [(tA, .inl (cI, 60, .inl ft)), (h0, .inr (8, [.int 0, .int we, .int wm, .int wy, .int v82, .ref tA, .int 0, .ref oA, .int on, .ref rA, .int fi131, .int la131, .ref wA, .int wf, .int wl, .int lo131, .int ov131, .int un131, .int aT11, .int mi11, .int ds11, .ref dA, .int a011, .int xp11, .ref iA, .int te])), (rA, .inl (cI, 400, .inl k31)), (dA, .inl (cI, 40, .inl k1))] H := hP
          have hD : va_D A [(tA, .inl (cI, 60, .inl ft)), (h0, .inr (8, [.int 0, .int we, .int wm, .int wy, .int v82, .ref tA, .int 0, .ref oA, .int on, .ref rA, .int fi131, .int la131, .ref wA, .int wf, .int wl, .int lo131, .int ov131, .int un131, .int aT11, .int mi11, .int ds11, .ref dA, .int a011, .int xp11, .ref iA, .int te])), (rA, .inl (cI, 400, .inl k31)), (dA, .inl (cI, 40, .inl k1))] := hD
          refine lv_aload_n hx hb d_Model_read_86 rfl (lv_at hl 2 rfl) ?_
          refine va_get (D := (dC, dI)) (ci := 8) (v := .int mi11) (C := R_Model) (T := F_Model) (N := 26) hx hb hts u_Model hown hK hP 1 rfl rfl 19 (by decide) (hts _ m_582) (fun _ h9 => h9) rfl d_Model_read_87 ?_
          refine lv_if_eq (tgt := 109) hx hb d_Model_read_90 (by decide) (fun b90 => ?_) (fun b90 => ?_)
          · skip
            refine lv_lload_n hx hb d_Model_read_109 rfl (lv_at hl 0 rfl) ?_
            exact Cl.ret C0 (v := r31) (u := (0, v82, k31, fi131, la131, lo131, un131, ov131, k1, aT11, ds11, a011, xp11, mi11)) (Nat.le_of_ble_eq_true rfl) (Nat.le_of_ble_eq_true rfl) (by show (isDec T len ∧ (0 : Int32) = 0 ∧ RDW E M wy.toInt T len ra r31.toInt v82) ∨ (¬ isDec T len ∧ (0 : Int32) = 1 ∧ v82 = ra ∧ r31 = 0); exact Or.inl ⟨hdec, rfl, RDW_of hvr hrr (by unfold fl3; rw [if_neg b73, if_neg b56, if_pos b39, e82, e65]) (hrp_0 hmn b90)⟩) hP hD hS [1, 0, 2, 3] (by decide) rfl d_Model_read_110
          · skip
            refine lv_lload_n hx hb d_Model_read_93 rfl (lv_at hl 0 rfl) ?_
            refine lv_lconst (v := 1) hx hb d_Model_read_94 (by decide) ?_
            refine lv_aload_n hx hb d_Model_read_95 rfl (lv_at hl 2 rfl) ?_
            refine va_get (D := (dC, dI)) (ci := 8) (v := .int we) (C := R_Model) (T := F_Model) (N := 26) hx hb hts u_Model hown hK hP 1 rfl rfl 1 (by decide) (hts _ m_564) (fun _ h9 => h9) rfl d_Model_read_96 ?_
            refine lv_aload_n hx hb d_Model_read_99 rfl (lv_at hl 2 rfl) ?_
            refine va_get (D := (dC, dI)) (ci := 8) (v := .int wm) (C := R_Model) (T := F_Model) (N := 26) hx hb hts u_Model hown hK hP 1 rfl rfl 2 (by decide) (hts _ m_565) (fun _ h9 => h9) rfl d_Model_read_100 ?_
            refine lv_iadd hx hb d_Model_read_103 ?_
            refine lv_topi (fun v103 e103 => ?_)
            have t103 : v103.toInt = (E : Int) + (M : Int) := by rw [e103]; exact q_iadd he hm (by omega)
            refine lv_lshl hx hb d_Model_read_104 rfl ?_
            refine lv_topl (fun v104 e104 => ?_)
            have t104 : v104.toInt = ((sb E M : Nat) : Int) := by rw [e104, ← Nat.one_mul (sb E M)]; exact q_lshl (a := 1) (k := E + M) (by decide) (t103.trans (by omega)) (by omega) (by rw [Nat.one_mul]; exact Nat.lt_of_le_of_lt hem.2 (by decide))
            refine lv_ladd hx hb d_Model_read_105 ?_
            refine lv_topl (fun v105 e105 => ?_)
            have t105 : v105.toInt = r31.toInt + (((sb E M : Nat) : Int)) := by rw [e105]; exact q_ladd t31 t104 (by omega)
            refine lv_goto (tgt := 110) hx hb d_Model_read_106 (by decide) ?_
            exact Cl.ret C0 (v := v105) (u := (0, v82, k31, fi131, la131, lo131, un131, ov131, k1, aT11, ds11, a011, xp11, mi11)) (Nat.le_of_ble_eq_true rfl) (Nat.le_of_ble_eq_true rfl) (by show (isDec T len ∧ (0 : Int32) = 0 ∧ RDW E M wy.toInt T len ra v105.toInt v82) ∨ (¬ isDec T len ∧ (0 : Int32) = 1 ∧ v82 = ra ∧ v105 = 0); exact Or.inl ⟨hdec, rfl, RDW_of hvr hrr (by unfold fl3; rw [if_neg b73, if_neg b56, if_pos b39, e82, e65]) (hrp_1 hmn b90 t105)⟩) hP hD hS [1, 0, 2, 3] (by decide) rfl d_Model_read_110
    · skip
      refine lv_aload_n hx hb d_Model_read_42 rfl (lv_at hl 2 rfl) ?_
      refine lv_aload_n hx hb d_Model_read_43 rfl (lv_at hl 2 rfl) ?_
      refine va_get (D := (dC, dI)) (ci := 8) (v := .int ra) (C := R_Model) (T := F_Model) (N := 26) hx hb hts u_Model hown hK hP 1 rfl rfl 4 (by decide) (hts _ m_567) (fun _ h9 => h9) rfl d_Model_read_44 ?_
      refine lv_iconst (v := 1) hx hb d_Model_read_47 (by decide) ?_
      refine lv_ior hx hb d_Model_read_48 ?_
      refine lv_topi (fun v48 e48 => ?_)
      refine va_put (D := (dC, dI)) (ci := 8) (v := .int v48) (ty := .int) (C := R_Model) (T := F_Model) (N := 26) hx hb hts u_Model t_Model t_Model_ok n_Model hown hK hP hD hS 1 rfl rfl 4 (by decide) (hts _ m_567) (fun _ h9 => h9) rfl (by decide +kernel) rfl rfl (Nat.le_of_ble_eq_true rfl) d_Model_read_49 (fun H locs hP hD hS => ?_)
      have hP : va_P (dC, dI) vwCl [(tA, .inl (cI, 60, .inl ft)), (h0, .inr (8, [.int 0, .int we, .int wm, .int wy, .int v48, .ref tA, .int 0, .ref oA, .int on, .ref rA, .int fi131, .int la131, .ref wA, .int wf, .int wl, .int lo131, .int ov131, .int un131, .int aT11, .int mi11, .int ds11, .ref dA, .int a011, .int xp11, .ref iA, .int te])), (rA, .inl (cI, 400, .inl k31)), (dA, .inl (cI, 40, .inl k1))] H := hP
      have hD : va_D A [(tA, .inl (cI, 60, .inl ft)), (h0, .inr (8, [.int 0, .int we, .int wm, .int wy, .int v48, .ref tA, .int 0, .ref oA, .int on, .ref rA, .int fi131, .int la131, .ref wA, .int wf, .int wl, .int lo131, .int ov131, .int un131, .int aT11, .int mi11, .int ds11, .ref dA, .int a011, .int xp11, .ref iA, .int te])), (rA, .inl (cI, 400, .inl k31)), (dA, .inl (cI, 40, .inl k1))] := hD
      refine lv_aload_n hx hb d_Model_read_52 rfl (lv_at hl 2 rfl) ?_
      refine va_get (D := (dC, dI)) (ci := 8) (v := .int ov131) (C := R_Model) (T := F_Model) (N := 26) hx hb hts u_Model hown hK hP 1 rfl rfl 16 (by decide) (hts _ m_579) (fun _ h9 => h9) rfl d_Model_read_53 ?_
      refine lv_if_eq (tgt := 69) hx hb d_Model_read_56 (by decide) (fun b56 => ?_) (fun b56 => ?_)
      · skip
        refine lv_aload_n hx hb d_Model_read_69 rfl (lv_at hl 2 rfl) ?_
        refine va_get (D := (dC, dI)) (ci := 8) (v := .int un131) (C := R_Model) (T := F_Model) (N := 26) hx hb hts u_Model hown hK hP 1 rfl rfl 17 (by decide) (hts _ m_580) (fun _ h9 => h9) rfl d_Model_read_70 ?_
        refine lv_if_eq (tgt := 86) hx hb d_Model_read_73 (by decide) (fun b73 => ?_) (fun b73 => ?_)
        · skip
          refine lv_aload_n hx hb d_Model_read_86 rfl (lv_at hl 2 rfl) ?_
          refine va_get (D := (dC, dI)) (ci := 8) (v := .int mi11) (C := R_Model) (T := F_Model) (N := 26) hx hb hts u_Model hown hK hP 1 rfl rfl 19 (by decide) (hts _ m_582) (fun _ h9 => h9) rfl d_Model_read_87 ?_
          refine lv_if_eq (tgt := 109) hx hb d_Model_read_90 (by decide) (fun b90 => ?_) (fun b90 => ?_)
          · skip
            refine lv_lload_n hx hb d_Model_read_109 rfl (lv_at hl 0 rfl) ?_
            exact Cl.ret C0 (v := r31) (u := (0, v48, k31, fi131, la131, lo131, un131, ov131, k1, aT11, ds11, a011, xp11, mi11)) (Nat.le_of_ble_eq_true rfl) (Nat.le_of_ble_eq_true rfl) (by show (isDec T len ∧ (0 : Int32) = 0 ∧ RDW E M wy.toInt T len ra r31.toInt v48) ∨ (¬ isDec T len ∧ (0 : Int32) = 1 ∧ v48 = ra ∧ r31 = 0); exact Or.inl ⟨hdec, rfl, RDW_of hvr hrr (by unfold fl3; rw [if_pos b73, if_pos b56, if_neg b39, e48]) (hrp_0 hmn b90)⟩) hP hD hS [1, 0, 2, 3] (by decide) rfl d_Model_read_110
          · skip
            refine lv_lload_n hx hb d_Model_read_93 rfl (lv_at hl 0 rfl) ?_
            refine lv_lconst (v := 1) hx hb d_Model_read_94 (by decide) ?_
            refine lv_aload_n hx hb d_Model_read_95 rfl (lv_at hl 2 rfl) ?_
            refine va_get (D := (dC, dI)) (ci := 8) (v := .int we) (C := R_Model) (T := F_Model) (N := 26) hx hb hts u_Model hown hK hP 1 rfl rfl 1 (by decide) (hts _ m_564) (fun _ h9 => h9) rfl d_Model_read_96 ?_
            refine lv_aload_n hx hb d_Model_read_99 rfl (lv_at hl 2 rfl) ?_
            refine va_get (D := (dC, dI)) (ci := 8) (v := .int wm) (C := R_Model) (T := F_Model) (N := 26) hx hb hts u_Model hown hK hP 1 rfl rfl 2 (by decide) (hts _ m_565) (fun _ h9 => h9) rfl d_Model_read_100 ?_
            refine lv_iadd hx hb d_Model_read_103 ?_
            refine lv_topi (fun v103 e103 => ?_)
            have t103 : v103.toInt = (E : Int) + (M : Int) := by rw [e103]; exact q_iadd he hm (by omega)
            refine lv_lshl hx hb d_Model_read_104 rfl ?_
            refine lv_topl (fun v104 e104 => ?_)
            have t104 : v104.toInt = ((sb E M : Nat) : Int) := by rw [e104, ← Nat.one_mul (sb E M)]; exact q_lshl (a := 1) (k := E + M) (by decide) (t103.trans (by omega)) (by omega) (by rw [Nat.one_mul]; exact Nat.lt_of_le_of_lt hem.2 (by decide))
            refine lv_ladd hx hb d_Model_read_105 ?_
            refine lv_topl (fun v105 e105 => ?_)
            have t105 : v105.toInt = r31.toInt + (((sb E M : Nat) : Int)) := by rw [e105]; exact q_ladd t31 t104 (by omega)
            refine lv_goto (tgt := 110) hx hb d_Model_read_106 (by decide) ?_
            exact Cl.ret C0 (v := v105) (u := (0, v48, k31, fi131, la131, lo131, un131, ov131, k1, aT11, ds11, a011, xp11, mi11)) (Nat.le_of_ble_eq_true rfl) (Nat.le_of_ble_eq_true rfl) (by show (isDec T len ∧ (0 : Int32) = 0 ∧ RDW E M wy.toInt T len ra v105.toInt v48) ∨ (¬ isDec T len ∧ (0 : Int32) = 1 ∧ v48 = ra ∧ v105 = 0); exact Or.inl ⟨hdec, rfl, RDW_of hvr hrr (by unfold fl3; rw [if_pos b73, if_pos b56, if_neg b39, e48]) (hrp_1 hmn b90 t105)⟩) hP hD hS [1, 0, 2, 3] (by decide) rfl d_Model_read_110
        · skip
          refine lv_aload_n hx hb d_Model_read_76 rfl (lv_at hl 2 rfl) ?_
          refine lv_aload_n hx hb d_Model_read_77 rfl (lv_at hl 2 rfl) ?_
          refine va_get (D := (dC, dI)) (ci := 8) (v := .int v48) (C := R_Model) (T := F_Model) (N := 26) hx hb hts u_Model hown hK hP 1 rfl rfl 4 (by decide) (hts _ m_567) (fun _ h9 => h9) rfl d_Model_read_78 ?_
          refine lv_iconst (v := 4) hx hb d_Model_read_81 (by decide) ?_
          refine lv_ior hx hb d_Model_read_82 ?_
          refine lv_topi (fun v82 e82 => ?_)
          refine va_put (D := (dC, dI)) (ci := 8) (v := .int v82) (ty := .int) (C := R_Model) (T := F_Model) (N := 26) hx hb hts u_Model t_Model t_Model_ok n_Model hown hK hP hD hS 1 rfl rfl 4 (by decide) (hts _ m_567) (fun _ h9 => h9) rfl (by decide +kernel) rfl rfl (Nat.le_of_ble_eq_true rfl) d_Model_read_83 (fun H locs hP hD hS => ?_)
          have hP : va_P (dC, dI) vwCl [(tA, .inl (cI, 60, .inl ft)), (h0, .inr (8, [.int 0, .int we, .int wm, .int wy, .int v82, .ref tA, .int 0, .ref oA, .int on, .ref rA, .int fi131, .int la131, .ref wA, .int wf, .int wl, .int lo131, .int ov131, .int un131, .int aT11, .int mi11, .int ds11, .ref dA, .int a011, .int xp11, .ref iA, .int te])), (rA, .inl (cI, 400, .inl k31)), (dA, .inl (cI, 40, .inl k1))] H := hP
          have hD : va_D A [(tA, .inl (cI, 60, .inl ft)), (h0, .inr (8, [.int 0, .int we, .int wm, .int wy, .int v82, .ref tA, .int 0, .ref oA, .int on, .ref rA, .int fi131, .int la131, .ref wA, .int wf, .int wl, .int lo131, .int ov131, .int un131, .int aT11, .int mi11, .int ds11, .ref dA, .int a011, .int xp11, .ref iA, .int te])), (rA, .inl (cI, 400, .inl k31)), (dA, .inl (cI, 40, .inl k1))] := hD
          refine lv_aload_n hx hb d_Model_read_86 rfl (lv_at hl 2 rfl) ?_
          refine va_get (D := (dC, dI)) (ci := 8) (v := .int mi11) (C := R_Model) (T := F_Model) (N := 26) hx hb hts u_Model hown hK hP 1 rfl rfl 19 (by decide) (hts _ m_582) (fun _ h9 => h9) rfl d_Model_read_87 ?_
          refine lv_if_eq (tgt := 109) hx hb d_Model_read_90 (by decide) (fun b90 => ?_) (fun b90 => ?_)
          · skip
            refine lv_lload_n hx hb d_Model_read_109 rfl (lv_at hl 0 rfl) ?_
            exact Cl.ret C0 (v := r31) (u := (0, v82, k31, fi131, la131, lo131, un131, ov131, k1, aT11, ds11, a011, xp11, mi11)) (Nat.le_of_ble_eq_true rfl) (Nat.le_of_ble_eq_true rfl) (by show (isDec T len ∧ (0 : Int32) = 0 ∧ RDW E M wy.toInt T len ra r31.toInt v82) ∨ (¬ isDec T len ∧ (0 : Int32) = 1 ∧ v82 = ra ∧ r31 = 0); exact Or.inl ⟨hdec, rfl, RDW_of hvr hrr (by unfold fl3; rw [if_neg b73, if_pos b56, if_neg b39, e82, e48]) (hrp_0 hmn b90)⟩) hP hD hS [1, 0, 2, 3] (by decide) rfl d_Model_read_110
          · skip
            refine lv_lload_n hx hb d_Model_read_93 rfl (lv_at hl 0 rfl) ?_
            refine lv_lconst (v := 1) hx hb d_Model_read_94 (by decide) ?_
            refine lv_aload_n hx hb d_Model_read_95 rfl (lv_at hl 2 rfl) ?_
            refine va_get (D := (dC, dI)) (ci := 8) (v := .int we) (C := R_Model) (T := F_Model) (N := 26) hx hb hts u_Model hown hK hP 1 rfl rfl 1 (by decide) (hts _ m_564) (fun _ h9 => h9) rfl d_Model_read_96 ?_
            refine lv_aload_n hx hb d_Model_read_99 rfl (lv_at hl 2 rfl) ?_
            refine va_get (D := (dC, dI)) (ci := 8) (v := .int wm) (C := R_Model) (T := F_Model) (N := 26) hx hb hts u_Model hown hK hP 1 rfl rfl 2 (by decide) (hts _ m_565) (fun _ h9 => h9) rfl d_Model_read_100 ?_
            refine lv_iadd hx hb d_Model_read_103 ?_
            refine lv_topi (fun v103 e103 => ?_)
            have t103 : v103.toInt = (E : Int) + (M : Int) := by rw [e103]; exact q_iadd he hm (by omega)
            refine lv_lshl hx hb d_Model_read_104 rfl ?_
            refine lv_topl (fun v104 e104 => ?_)
            have t104 : v104.toInt = ((sb E M : Nat) : Int) := by rw [e104, ← Nat.one_mul (sb E M)]; exact q_lshl (a := 1) (k := E + M) (by decide) (t103.trans (by omega)) (by omega) (by rw [Nat.one_mul]; exact Nat.lt_of_le_of_lt hem.2 (by decide))
            refine lv_ladd hx hb d_Model_read_105 ?_
            refine lv_topl (fun v105 e105 => ?_)
            have t105 : v105.toInt = r31.toInt + (((sb E M : Nat) : Int)) := by rw [e105]; exact q_ladd t31 t104 (by omega)
            refine lv_goto (tgt := 110) hx hb d_Model_read_106 (by decide) ?_
            exact Cl.ret C0 (v := v105) (u := (0, v82, k31, fi131, la131, lo131, un131, ov131, k1, aT11, ds11, a011, xp11, mi11)) (Nat.le_of_ble_eq_true rfl) (Nat.le_of_ble_eq_true rfl) (by show (isDec T len ∧ (0 : Int32) = 0 ∧ RDW E M wy.toInt T len ra v105.toInt v82) ∨ (¬ isDec T len ∧ (0 : Int32) = 1 ∧ v82 = ra ∧ v105 = 0); exact Or.inl ⟨hdec, rfl, RDW_of hvr hrr (by unfold fl3; rw [if_neg b73, if_pos b56, if_neg b39, e82, e48]) (hrp_1 hmn b90 t105)⟩) hP hD hS [1, 0, 2, 3] (by decide) rfl d_Model_read_110
      · skip
        refine lv_aload_n hx hb d_Model_read_59 rfl (lv_at hl 2 rfl) ?_
        refine lv_aload_n hx hb d_Model_read_60 rfl (lv_at hl 2 rfl) ?_
        refine va_get (D := (dC, dI)) (ci := 8) (v := .int v48) (C := R_Model) (T := F_Model) (N := 26) hx hb hts u_Model hown hK hP 1 rfl rfl 4 (by decide) (hts _ m_567) (fun _ h9 => h9) rfl d_Model_read_61 ?_
        refine lv_iconst (v := 2) hx hb d_Model_read_64 (by decide) ?_
        refine lv_ior hx hb d_Model_read_65 ?_
        refine lv_topi (fun v65 e65 => ?_)
        refine va_put (D := (dC, dI)) (ci := 8) (v := .int v65) (ty := .int) (C := R_Model) (T := F_Model) (N := 26) hx hb hts u_Model t_Model t_Model_ok n_Model hown hK hP hD hS 1 rfl rfl 4 (by decide) (hts _ m_567) (fun _ h9 => h9) rfl (by decide +kernel) rfl rfl (Nat.le_of_ble_eq_true rfl) d_Model_read_66 (fun H locs hP hD hS => ?_)
        have hP : va_P (dC, dI) vwCl [(tA, .inl (cI, 60, .inl ft)), (h0, .inr (8, [.int 0, .int we, .int wm, .int wy, .int v65, .ref tA, .int 0, .ref oA, .int on, .ref rA, .int fi131, .int la131, .ref wA, .int wf, .int wl, .int lo131, .int ov131, .int un131, .int aT11, .int mi11, .int ds11, .ref dA, .int a011, .int xp11, .ref iA, .int te])), (rA, .inl (cI, 400, .inl k31)), (dA, .inl (cI, 40, .inl k1))] H := hP
        have hD : va_D A [(tA, .inl (cI, 60, .inl ft)), (h0, .inr (8, [.int 0, .int we, .int wm, .int wy, .int v65, .ref tA, .int 0, .ref oA, .int on, .ref rA, .int fi131, .int la131, .ref wA, .int wf, .int wl, .int lo131, .int ov131, .int un131, .int aT11, .int mi11, .int ds11, .ref dA, .int a011, .int xp11, .ref iA, .int te])), (rA, .inl (cI, 400, .inl k31)), (dA, .inl (cI, 40, .inl k1))] := hD
        refine lv_aload_n hx hb d_Model_read_69 rfl (lv_at hl 2 rfl) ?_
        refine va_get (D := (dC, dI)) (ci := 8) (v := .int un131) (C := R_Model) (T := F_Model) (N := 26) hx hb hts u_Model hown hK hP 1 rfl rfl 17 (by decide) (hts _ m_580) (fun _ h9 => h9) rfl d_Model_read_70 ?_
        refine lv_if_eq (tgt := 86) hx hb d_Model_read_73 (by decide) (fun b73 => ?_) (fun b73 => ?_)
        · skip
          refine lv_aload_n hx hb d_Model_read_86 rfl (lv_at hl 2 rfl) ?_
          refine va_get (D := (dC, dI)) (ci := 8) (v := .int mi11) (C := R_Model) (T := F_Model) (N := 26) hx hb hts u_Model hown hK hP 1 rfl rfl 19 (by decide) (hts _ m_582) (fun _ h9 => h9) rfl d_Model_read_87 ?_
          refine lv_if_eq (tgt := 109) hx hb d_Model_read_90 (by decide) (fun b90 => ?_) (fun b90 => ?_)
          · skip
            refine lv_lload_n hx hb d_Model_read_109 rfl (lv_at hl 0 rfl) ?_
            exact Cl.ret C0 (v := r31) (u := (0, v65, k31, fi131, la131, lo131, un131, ov131, k1, aT11, ds11, a011, xp11, mi11)) (Nat.le_of_ble_eq_true rfl) (Nat.le_of_ble_eq_true rfl) (by show (isDec T len ∧ (0 : Int32) = 0 ∧ RDW E M wy.toInt T len ra r31.toInt v65) ∨ (¬ isDec T len ∧ (0 : Int32) = 1 ∧ v65 = ra ∧ r31 = 0); exact Or.inl ⟨hdec, rfl, RDW_of hvr hrr (by unfold fl3; rw [if_pos b73, if_neg b56, if_neg b39, e65, e48]) (hrp_0 hmn b90)⟩) hP hD hS [1, 0, 2, 3] (by decide) rfl d_Model_read_110
          · skip
            refine lv_lload_n hx hb d_Model_read_93 rfl (lv_at hl 0 rfl) ?_
            refine lv_lconst (v := 1) hx hb d_Model_read_94 (by decide) ?_
            refine lv_aload_n hx hb d_Model_read_95 rfl (lv_at hl 2 rfl) ?_
            refine va_get (D := (dC, dI)) (ci := 8) (v := .int we) (C := R_Model) (T := F_Model) (N := 26) hx hb hts u_Model hown hK hP 1 rfl rfl 1 (by decide) (hts _ m_564) (fun _ h9 => h9) rfl d_Model_read_96 ?_
            refine lv_aload_n hx hb d_Model_read_99 rfl (lv_at hl 2 rfl) ?_
            refine va_get (D := (dC, dI)) (ci := 8) (v := .int wm) (C := R_Model) (T := F_Model) (N := 26) hx hb hts u_Model hown hK hP 1 rfl rfl 2 (by decide) (hts _ m_565) (fun _ h9 => h9) rfl d_Model_read_100 ?_
            refine lv_iadd hx hb d_Model_read_103 ?_
            refine lv_topi (fun v103 e103 => ?_)
            have t103 : v103.toInt = (E : Int) + (M : Int) := by rw [e103]; exact q_iadd he hm (by omega)
            refine lv_lshl hx hb d_Model_read_104 rfl ?_
            refine lv_topl (fun v104 e104 => ?_)
            have t104 : v104.toInt = ((sb E M : Nat) : Int) := by rw [e104, ← Nat.one_mul (sb E M)]; exact q_lshl (a := 1) (k := E + M) (by decide) (t103.trans (by omega)) (by omega) (by rw [Nat.one_mul]; exact Nat.lt_of_le_of_lt hem.2 (by decide))
            refine lv_ladd hx hb d_Model_read_105 ?_
            refine lv_topl (fun v105 e105 => ?_)
            have t105 : v105.toInt = r31.toInt + (((sb E M : Nat) : Int)) := by rw [e105]; exact q_ladd t31 t104 (by omega)
            refine lv_goto (tgt := 110) hx hb d_Model_read_106 (by decide) ?_
            exact Cl.ret C0 (v := v105) (u := (0, v65, k31, fi131, la131, lo131, un131, ov131, k1, aT11, ds11, a011, xp11, mi11)) (Nat.le_of_ble_eq_true rfl) (Nat.le_of_ble_eq_true rfl) (by show (isDec T len ∧ (0 : Int32) = 0 ∧ RDW E M wy.toInt T len ra v105.toInt v65) ∨ (¬ isDec T len ∧ (0 : Int32) = 1 ∧ v65 = ra ∧ v105 = 0); exact Or.inl ⟨hdec, rfl, RDW_of hvr hrr (by unfold fl3; rw [if_pos b73, if_neg b56, if_neg b39, e65, e48]) (hrp_1 hmn b90 t105)⟩) hP hD hS [1, 0, 2, 3] (by decide) rfl d_Model_read_110
        · skip
          refine lv_aload_n hx hb d_Model_read_76 rfl (lv_at hl 2 rfl) ?_
          refine lv_aload_n hx hb d_Model_read_77 rfl (lv_at hl 2 rfl) ?_
          refine va_get (D := (dC, dI)) (ci := 8) (v := .int v65) (C := R_Model) (T := F_Model) (N := 26) hx hb hts u_Model hown hK hP 1 rfl rfl 4 (by decide) (hts _ m_567) (fun _ h9 => h9) rfl d_Model_read_78 ?_
          refine lv_iconst (v := 4) hx hb d_Model_read_81 (by decide) ?_
          refine lv_ior hx hb d_Model_read_82 ?_
          refine lv_topi (fun v82 e82 => ?_)
          refine va_put (D := (dC, dI)) (ci := 8) (v := .int v82) (ty := .int) (C := R_Model) (T := F_Model) (N := 26) hx hb hts u_Model t_Model t_Model_ok n_Model hown hK hP hD hS 1 rfl rfl 4 (by decide) (hts _ m_567) (fun _ h9 => h9) rfl (by decide +kernel) rfl rfl (Nat.le_of_ble_eq_true rfl) d_Model_read_83 (fun H locs hP hD hS => ?_)
          have hP : va_P (dC, dI) vwCl [(tA, .inl (cI, 60, .inl ft)), (h0, .inr (8, [.int 0, .int we, .int wm, .int wy, .int v82, .ref tA, .int 0, .ref oA, .int on, .ref rA, .int fi131, .int la131, .ref wA, .int wf, .int wl, .int lo131, .int ov131, .int un131, .int aT11, .int mi11, .int ds11, .ref dA, .int a011, .int xp11, .ref iA, .int te])), (rA, .inl (cI, 400, .inl k31)), (dA, .inl (cI, 40, .inl k1))] H := hP
          have hD : va_D A [(tA, .inl (cI, 60, .inl ft)), (h0, .inr (8, [.int 0, .int we, .int wm, .int wy, .int v82, .ref tA, .int 0, .ref oA, .int on, .ref rA, .int fi131, .int la131, .ref wA, .int wf, .int wl, .int lo131, .int ov131, .int un131, .int aT11, .int mi11, .int ds11, .ref dA, .int a011, .int xp11, .ref iA, .int te])), (rA, .inl (cI, 400, .inl k31)), (dA, .inl (cI, 40, .inl k1))] := hD
          refine lv_aload_n hx hb d_Model_read_86 rfl (lv_at hl 2 rfl) ?_
          refine va_get (D := (dC, dI)) (ci := 8) (v := .int mi11) (C := R_Model) (T := F_Model) (N := 26) hx hb hts u_Model hown hK hP 1 rfl rfl 19 (by decide) (hts _ m_582) (fun _ h9 => h9) rfl d_Model_read_87 ?_
          refine lv_if_eq (tgt := 109) hx hb d_Model_read_90 (by decide) (fun b90 => ?_) (fun b90 => ?_)
          · skip
            refine lv_lload_n hx hb d_Model_read_109 rfl (lv_at hl 0 rfl) ?_
            exact Cl.ret C0 (v := r31) (u := (0, v82, k31, fi131, la131, lo131, un131, ov131, k1, aT11, ds11, a011, xp11, mi11)) (Nat.le_of_ble_eq_true rfl) (Nat.le_of_ble_eq_true rfl) (by show (isDec T len ∧ (0 : Int32) = 0 ∧ RDW E M wy.toInt T len ra r31.toInt v82) ∨ (¬ isDec T len ∧ (0 : Int32) = 1 ∧ v82 = ra ∧ r31 = 0); exact Or.inl ⟨hdec, rfl, RDW_of hvr hrr (by unfold fl3; rw [if_neg b73, if_neg b56, if_neg b39, e82, e65, e48]) (hrp_0 hmn b90)⟩) hP hD hS [1, 0, 2, 3] (by decide) rfl d_Model_read_110
          · skip
            refine lv_lload_n hx hb d_Model_read_93 rfl (lv_at hl 0 rfl) ?_
            refine lv_lconst (v := 1) hx hb d_Model_read_94 (by decide) ?_
            refine lv_aload_n hx hb d_Model_read_95 rfl (lv_at hl 2 rfl) ?_
            refine va_get (D := (dC, dI)) (ci := 8) (v := .int we) (C := R_Model) (T := F_Model) (N := 26) hx hb hts u_Model hown hK hP 1 rfl rfl 1 (by decide) (hts _ m_564) (fun _ h9 => h9) rfl d_Model_read_96 ?_
            refine lv_aload_n hx hb d_Model_read_99 rfl (lv_at hl 2 rfl) ?_
            refine va_get (D := (dC, dI)) (ci := 8) (v := .int wm) (C := R_Model) (T := F_Model) (N := 26) hx hb hts u_Model hown hK hP 1 rfl rfl 2 (by decide) (hts _ m_565) (fun _ h9 => h9) rfl d_Model_read_100 ?_
            refine lv_iadd hx hb d_Model_read_103 ?_
            refine lv_topi (fun v103 e103 => ?_)
            have t103 : v103.toInt = (E : Int) + (M : Int) := by rw [e103]; exact q_iadd he hm (by omega)
            refine lv_lshl hx hb d_Model_read_104 rfl ?_
            refine lv_topl (fun v104 e104 => ?_)
            have t104 : v104.toInt = ((sb E M : Nat) : Int) := by rw [e104, ← Nat.one_mul (sb E M)]; exact q_lshl (a := 1) (k := E + M) (by decide) (t103.trans (by omega)) (by omega) (by rw [Nat.one_mul]; exact Nat.lt_of_le_of_lt hem.2 (by decide))
            refine lv_ladd hx hb d_Model_read_105 ?_
            refine lv_topl (fun v105 e105 => ?_)
            have t105 : v105.toInt = r31.toInt + (((sb E M : Nat) : Int)) := by rw [e105]; exact q_ladd t31 t104 (by omega)
            refine lv_goto (tgt := 110) hx hb d_Model_read_106 (by decide) ?_
            exact Cl.ret C0 (v := v105) (u := (0, v82, k31, fi131, la131, lo131, un131, ov131, k1, aT11, ds11, a011, xp11, mi11)) (Nat.le_of_ble_eq_true rfl) (Nat.le_of_ble_eq_true rfl) (by show (isDec T len ∧ (0 : Int32) = 0 ∧ RDW E M wy.toInt T len ra v105.toInt v82) ∨ (¬ isDec T len ∧ (0 : Int32) = 1 ∧ v82 = ra ∧ v105 = 0); exact Or.inl ⟨hdec, rfl, RDW_of hvr hrr (by unfold fl3; rw [if_neg b73, if_neg b56, if_neg b39, e82, e65, e48]) (hrp_1 hmn b90 t105)⟩) hP hD hS [1, 0, 2, 3] (by decide) rfl d_Model_read_110
  · skip
    have hnd : ¬ isDec T len := h1.elim (fun h => absurd (h.1.symm.trans b11) (by decide)) (fun h => h.2)
    refine lv_aload_n hx hb d_Model_read_14 rfl (lv_at hl 1 rfl) ?_
    refine lv_iconst (v := 1) hx hb d_Model_read_15 (by decide) ?_
    refine callV_i (wr := [(rA, .inl (cI, 400, .inl fr)), (tA, .inl (cI, 60, .inl ft)), (dA, .inl (cI, 40, .inl k1))]) C0 (c_Model_raise l dC dI cI cB cJ (h0) (th) (we) (wm) (wy) (ra) (tA) ((0 : Int32)) (oA) (on) (rA) (fi) (la) (wA) (wf) (wl) (lo) (ov) (un) (aT11) (mi11) (ds11) (dA) (a011) (xp11) (iA) (te) ((1 : Int32))) (cwV 1 hts (gV m_656 m_657 m_22 m_55 m_658) rfl rfl rfl (by decide +kernel) ⟨Nat.le_of_ble_eq_true rfl, Nat.le_of_ble_eq_true rfl⟩) 8 rfl rfl 0 rfl hP hD hS hA [1] [0, 2, 3] rfl rfl (by decide) (by decide) (by decide) rfl hl.1 rfl (Nat.le_of_ble_eq_true rfl) d_Model_read_16 ⟨Nat.le_of_ble_eq_true rfl, Nat.le_of_ble_eq_true rfl⟩ (fun r16 u16 H locs hw9 hP hD hS => ?_)
    have h16 : r16 = 0 := hw9
    have hP : va_P (dC, dI) vwCl [(rA, .inl (cI, 400, .inl fr)), (tA, .inl (cI, 60, .inl ft)), (dA, .inl (cI, 40, .inl k1)), (h0, .inr (8, [.int 1, .int we, .int wm, .int wy, .int ra, .ref tA, .int 0, .ref oA, .int on, .ref rA, .int fi, .int la, .ref wA, .int wf, .int wl, .int lo, .int ov, .int un, .int aT11, .int mi11, .int ds11, .ref dA, .int a011, .int xp11, .ref iA, .int te]))] H := hP
    have hD : va_D A [(rA, .inl (cI, 400, .inl fr)), (tA, .inl (cI, 60, .inl ft)), (dA, .inl (cI, 40, .inl k1)), (h0, .inr (8, [.int 1, .int we, .int wm, .int wy, .int ra, .ref tA, .int 0, .ref oA, .int on, .ref rA, .int fi, .int la, .ref wA, .int wf, .int wl, .int lo, .int ov, .int un, .int aT11, .int mi11, .int ds11, .ref dA, .int a011, .int xp11, .ref iA, .int te]))] := hD
    refine lv_i2l hx hb d_Model_read_19 rfl ?_
    refine lv_topl (fun v19 e19 => ?_)
    exact Cl.ret C0 (v := v19) (u := (1, ra, fr, fi, la, lo, un, ov, k1, aT11, ds11, a011, xp11, mi11)) (Nat.le_of_ble_eq_true rfl) (Nat.le_of_ble_eq_true rfl) (by show (isDec T len ∧ (1 : Int32) = 0 ∧ RDW E M wy.toInt T len ra v19.toInt ra) ∨ (¬ isDec T len ∧ (1 : Int32) = 1 ∧ ra = ra ∧ v19 = 0); exact Or.inr ⟨hnd, rfl, rfl, by rw [e19, h16]; rfl⟩) hP hD hS [3, 1, 0, 2] (by decide) rfl d_Model_read_20
