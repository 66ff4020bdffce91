set_option maxHeartbeats 4000000 in
set_option maxRecDepth 100000 in
theorem L_Model_packed_204 {p : Program} {l : Launch} {e : Env} {s : State} {m : MethodId} {below : List Frame} {meth : Method} {c : Code} {dC : Nat → ClassId} {dI : Nat → Nat → Nat} {cI cB cJ : ClassId} {A : Nat → Prop} (h0 : Nat) (th : Int32) (we : Int32) (wm : Int32) (wy : Int32) (ra : Int32) (tA : Nat) (tn : Int32) (oA : Nat) (on : Int32) (rA : Nat) (fi : Int32) (la : Int32) (wA : Nat) (wf : Int32) (wl : Int32) (lo : Int32) (ov : Int32) (un : Int32) (aT : Int32) (mi : Int32) (ds : Int32) (dA : Nat) (a0 : Int32) (xp : Int32) (iA : Nat) (te : Int32) (E : Nat) (M : Nat) (x : Int32) (mv : Int64) (rs : Int32) (bl : Int32) (by_ : Int32) (xc : Nat) (mm : Nat) (C0 : cx dC dI cI cB cJ R_Model b_Model_packed 14 (some .long) p s m ([.ref h0, .int x, .long mv, .int rs, .int bl, .int by_] : List Value).toArray meth c) (hA : ∀ q : Nat, s.heap.size ≤ q → A q) (hL : LY we wm E M) (hby : 0 ≤ by_.toInt ∧ by_.toInt ≤ 4) (hxc : x.toInt = 1 - (bsE E : Int) + (xc : Int)) (hxc2 : xc ≤ 1200) (hmv : mv.toInt = (mm : Int)) (hmm : mm < 2 * 2 ^ M) (hk0 : mm < 2 ^ M → xc = 0) : (∀ (un1 : Int32) (ov1 : Int32) (x13 : Int32) (xq : Nat) (mp : Nat) (uu : Nat) (H : Heap) (locs : List Loc) (ls : Array Slot), ((un1 = 1 ∧ ¬ un = 0 ∧ 0 < rs.toInt) ∨ (un1 = 0 ∧ ¬ (¬ un = 0 ∧ 0 < rs.toInt))) → ((uu = 1 ∧ GUd by_.toInt rs.toInt (bl = 0) mm) ∨ (uu = 0 ∧ ¬ GUd by_.toInt rs.toInt (bl = 0) mm)) → (xc * 2 ^ M + mm + uu = xq * 2 ^ M + mp) → (mp < 2 * 2 ^ M) → (mp < 2 ^ M → xq = 0) → (xq ≤ 1201) → (iz E M ≤ xq * 2 ^ M + mp) → (ov1 = 1) → ((x13 = 1 ∧ ¬ ovS by_.toInt (¬ bl = 0)) ∨ (x13 = 0 ∧ ovS by_.toInt (¬ bl = 0))) → va_P (dC, dI) vwCl [(h0, .inr (8, [.int th, .int we, .int wm, .int wy, .int ra, .ref tA, .int tn, .ref oA, .int on, .ref rA, .int fi, .int la, .ref wA, .int wf, .int wl, .int 1, .int ov1, .int un1, .int aT, .int mi, .int ds, .ref dA, .int a0, .int xp, .ref iA, .int te]))] H → va_D A [(h0, .inr (8, [.int th, .int we, .int wm, .int wy, .int ra, .ref tA, .int tn, .ref oA, .int on, .ref rA, .int fi, .int la, .ref wA, .int wf, .int wl, .int 1, .int ov1, .int un1, .int aT, .int mi, .int ds, .ref dA, .int a0, .int xp, .ref iA, .int te]))] → va_S A s.heap H locs → lv_has ls 14 [(13, .int x13), (0, .ref h0)] → W p l e ({ frames := 1, cells := 0, slots := 0, locals := 25 } : Room) s m ([.ref h0, .int x, .long mv, .int rs, .int bl, .int by_] : List Value).toArray below meth c H locs 0 0 (MQ below (va_Ql (fun (r : Int64) (u : (Int32) × (Int32) × (Int32)) => ∃ uu : Nat, ((uu = 1 ∧ GUd by_.toInt rs.toInt (bl = 0) mm) ∨ (uu = 0 ∧ ¬ GUd by_.toInt rs.toInt (bl = 0) mm)) ∧ PK E M by_.toInt (¬ bl = 0) (xc * 2 ^ M + mm + uu) (0 < rs.toInt) r.toInt u.1 u.2.2 ∧ ((u.2.1 = 1 ∧ ¬ un = 0 ∧ 0 < rs.toInt) ∨ (u.2.1 = 0 ∧ ¬ (¬ un = 0 ∧ 0 < rs.toInt)))) (poG dC dI A (fun u : (Int32) × (Int32) × (Int32) => [(h0, .inr (8, [.int th, .int we, .int wm, .int wy, .int ra, .ref tA, .int tn, .ref oA, .int on, .ref rA, .int fi, .int la, .ref wA, .int wf, .int wl, .int u.1, .int u.2.2, .int u.2.1, .int aT, .int mi, .int ds, .ref dA, .int a0, .int xp, .ref iA, .int te]))])) A) ([.ref h0, .int x, .long mv, .int rs, .int bl, .int by_] : List Value).toArray s 0 0 A) (F0 m 204 ls [])) := by
  obtain ⟨hx, hb, hml, hown, hts, hr, hlocks, hK, hN⟩ := id C0
  intro un1 ov1 x13 xq mp uu H locs ls hun huu hZ hmp hxq0 hxq hiz2 hov hinf hP hD hS hl
  obtain ⟨he, hm, hE1, hE2, hM1, hM2⟩ := id hL
  have hbz := p_bias hE1 hE2
  have hem := p_em hE1 hE2 hM1 hM2
  have hiz := iz_sb E M
  have hpm := p_m hM2
  have hpm1 := pw_p M
  have hpe := p_e hE1 hE2
  have hbs := bsE_r hE1 hE2
  refine lv_iload hx hb d_Model_packed_204 (lv_at hl 0 rfl) ?_
  refine lv_if_eq (tgt := 216) hx hb d_Model_packed_206 (by decide) (fun b206 => ?_) (fun b206 => ?_)
  · skip
    refine lv_aload_n hx hb d_Model_packed_216 rfl (lv_at hl 1 rfl) ?_
    refine callV_l (wr := []) C0 (c_Model_beyond l dC dI cI cB cJ (h0) (th) (we) (wm) (wy) (ra) (tA) (tn) (oA) (on) (rA) (fi) (la) (wA) (wf) (wl) ((1 : Int32)) (ov1) (un1) (aT) (mi) (ds) (dA) (a0) (xp) (iA) (te) (E) (M) (by exact hL)) (cwV 0 hts (gV m_672 m_673 m_27 m_55 m_674) rfl rfl rfl (by decide +kernel) ⟨Nat.le_of_ble_eq_true rfl, Nat.le_of_ble_eq_true rfl⟩) 8 rfl rfl 0 rfl hP hD hS hA [0] [] rfl rfl (by decide) (by decide) (by decide) rfl hl.1 rfl (Nat.le_of_ble_eq_true rfl) d_Model_packed_217 ⟨Nat.le_of_ble_eq_true rfl, Nat.le_of_ble_eq_true rfl⟩ (fun r217 u217 H locs hw9 hP hD hS => ?_)
    have h217 : r217.toInt = ((iz E M : Nat) : Int) := hw9
    have hP : va_P (dC, dI) vwCl [(h0, .inr (8, [.int th, .int we, .int wm, .int wy, .int ra, .ref tA, .int tn, .ref oA, .int on, .ref rA, .int fi, .int la, .ref wA, .int wf, .int wl, .int 1, .int ov1, .int un1, .int aT, .int mi, .int ds, .ref dA, .int a0, .int xp, .ref iA, .int te]))] H := hP
    have hD : va_D A [(h0, .inr (8, [.int th, .int we, .int wm, .int wy, .int ra, .ref tA, .int tn, .ref oA, .int on, .ref rA, .int fi, .int la, .ref wA, .int wf, .int wl, .int 1, .int ov1, .int un1, .int aT, .int mi, .int ds, .ref dA, .int a0, .int xp, .ref iA, .int te]))] := hD
    have t217 : r217.toInt = ((iz E M : Nat) : Int) := h217
    refine lv_lconst (v := 1) hx hb d_Model_packed_220 (by decide) ?_
    refine lv_lsub hx hb d_Model_packed_221 ?_
    refine lv_topl (fun v221 e221 => ?_)
    have t221 : v221.toInt = (((iz E M : Nat) : Int)) - 1 := by rw [e221]; exact q_lsub t217 (show (1 : Int64).toInt = 1 by decide) (by omega)
    exact Cl.ret C0 (v := v221) (u := (1, un1, ov1)) (Nat.le_of_ble_eq_true rfl) (Nat.le_of_ble_eq_true rfl) (by show ∃ uu : Nat, ((uu = 1 ∧ GUd by_.toInt rs.toInt (bl = 0) mm) ∨ (uu = 0 ∧ ¬ GUd by_.toInt rs.toInt (bl = 0) mm)) ∧ PK E M by_.toInt (¬ bl = 0) (xc * 2 ^ M + mm + uu) (0 < rs.toInt) v221.toInt (1 : Int32) ov1 ∧ ((un1 = 1 ∧ ¬ un = 0 ∧ 0 < rs.toInt) ∨ (un1 = 0 ∧ ¬ (¬ un = 0 ∧ 0 < rs.toInt))); exact ⟨uu, huu, by rw [hZ]; exact Or.inr ⟨hiz2, hov, rfl, Or.inl ⟨hinf.elim (fun h => absurd (b206.symm.trans h.1) (by decide)) (fun h => h.2), t221⟩⟩, hun⟩) hP hD hS [0] (by decide) rfl d_Model_packed_222
  · skip
    refine lv_aload_n hx hb d_Model_packed_209 rfl (lv_at hl 1 rfl) ?_
    refine callV_l (wr := []) C0 (c_Model_beyond l dC dI cI cB cJ (h0) (th) (we) (wm) (wy) (ra) (tA) (tn) (oA) (on) (rA) (fi) (la) (wA) (wf) (wl) ((1 : Int32)) (ov1) (un1) (aT) (mi) (ds) (dA) (a0) (xp) (iA) (te) (E) (M) (by exact hL)) (cwV 0 hts (gV m_672 m_673 m_27 m_55 m_674) rfl rfl rfl (by decide +kernel) ⟨Nat.le_of_ble_eq_true rfl, Nat.le_of_ble_eq_true rfl⟩) 8 rfl rfl 0 rfl hP hD hS hA [0] [] rfl rfl (by decide) (by decide) (by decide) rfl hl.1 rfl (Nat.le_of_ble_eq_true rfl) d_Model_packed_210 ⟨Nat.le_of_ble_eq_true rfl, Nat.le_of_ble_eq_true rfl⟩ (fun r210 u210 H locs hw9 hP hD hS => ?_)
    have h210 : r210.toInt = ((iz E M : Nat) : Int) := hw9
    have hP : va_P (dC, dI) vwCl [(h0, .inr (8, [.int th, .int we, .int wm, .int wy, .int ra, .ref tA, .int tn, .ref oA, .int on, .ref rA, .int fi, .int la, .ref wA, .int wf, .int wl, .int 1, .int ov1, .int un1, .int aT, .int mi, .int ds, .ref dA, .int a0, .int xp, .ref iA, .int te]))] H := hP
    have hD : va_D A [(h0, .inr (8, [.int th, .int we, .int wm, .int wy, .int ra, .ref tA, .int tn, .ref oA, .int on, .ref rA, .int fi, .int la, .ref wA, .int wf, .int wl, .int 1, .int ov1, .int un1, .int aT, .int mi, .int ds, .ref dA, .int a0, .int xp, .ref iA, .int te]))] := hD
    have t210 : r210.toInt = ((iz E M : Nat) : Int) := h210
    refine lv_goto (tgt := 222) hx hb d_Model_packed_213 (by decide) ?_
    exact Cl.ret C0 (v := r210) (u := (1, un1, ov1)) (Nat.le_of_ble_eq_true rfl) (Nat.le_of_ble_eq_true rfl) (by show ∃ uu : Nat, ((uu = 1 ∧ GUd by_.toInt rs.toInt (bl = 0) mm) ∨ (uu = 0 ∧ ¬ GUd by_.toInt rs.toInt (bl = 0) mm)) ∧ PK E M by_.toInt (¬ bl = 0) (xc * 2 ^ M + mm + uu) (0 < rs.toInt) r210.toInt (1 : Int32) ov1 ∧ ((un1 = 1 ∧ ¬ un = 0 ∧ 0 < rs.toInt) ∨ (un1 = 0 ∧ ¬ (¬ un = 0 ∧ 0 < rs.toInt))); exact ⟨uu, huu, by rw [hZ]; exact Or.inr ⟨hiz2, hov, rfl, Or.inr ⟨hinf.elim (fun h => h.2) (fun h => absurd h.1 b206), t210⟩⟩, hun⟩) hP hD hS [0] (by decide) rfl d_Model_packed_222
set_option maxHeartbeats 4000000 in
set_option maxRecDepth 100000 in
theorem L_Model_packed_137 {p : Program} {l : Launch} {e : Env} {s : State} {m : MethodId} {below : List Frame} {meth : Method} {c : Code} {dC : Nat → ClassId} {dI : Nat → Nat → Nat} {cI cB cJ : ClassId} {A : Nat → Prop} (h0 : Nat) (th : Int32) (we : Int32) (wm : Int32) (wy : Int32) (ra : Int32) (tA : Nat) (tn : Int32) (oA : Nat) (on : Int32) (rA : Nat) (fi : Int32) (la : Int32) (wA : Nat) (wf : Int32) (wl : Int32) (lo : Int32) (ov : Int32) (un : Int32) (aT : Int32) (mi : Int32) (ds : Int32) (dA : Nat) (a0 : Int32) (xp : Int32) (iA : Nat) (te : Int32) (E : Nat) (M : Nat) (x : Int32) (mv : Int64) (rs : Int32) (bl : Int32) (by_ : Int32) (xc : Nat) (mm : Nat) (C0 : cx dC dI cI cB cJ R_Model b_Model_packed 14 (some .long) p s m ([.ref h0, .int x, .long mv, .int rs, .int bl, .int by_] : List Value).toArray meth c) (hA : ∀ q : Nat, s.heap.size ≤ q → A q) (hL : LY we wm E M) (hby : 0 ≤ by_.toInt ∧ by_.toInt ≤ 4) (hxc : x.toInt = 1 - (bsE E : Int) + (xc : Int)) (hxc2 : xc ≤ 1200) (hmv : mv.toInt = (mm : Int)) (hmm : mm < 2 * 2 ^ M) (hk0 : mm < 2 ^ M → xc = 0) : (∀ (lo1 : Int32) (un1 : Int32) (ov1 : Int32) (mq : Int64) (tq : Int64) (x12 : Int32) (xq : Nat) (mp : Nat) (uu : Nat) (H : Heap) (locs : List Loc) (ls : Array Slot), x12.toInt = 1 + (xq : Int) → tq.toInt = ((2 ^ M : Nat) : Int) → mq.toInt = (mp : Int) → by_.toInt = by_.toInt → ((lo1 = 1 ∧ 0 < rs.toInt) ∨ (lo1 = 0 ∧ ¬ 0 < rs.toInt)) → ((un1 = 1 ∧ ¬ un = 0 ∧ 0 < rs.toInt) ∨ (un1 = 0 ∧ ¬ (¬ un = 0 ∧ 0 < rs.toInt))) → ((uu = 1 ∧ GUd by_.toInt rs.toInt (bl = 0) mm) ∨ (uu = 0 ∧ ¬ GUd by_.toInt rs.toInt (bl = 0) mm)) → (xc * 2 ^ M + mm + uu = xq * 2 ^ M + mp) → (mp < 2 * 2 ^ M) → (mp < 2 ^ M → xq = 0) → (xq ≤ 1201) → (2 ^ M ≤ mp) → ((ov1 = 1 ∧ 2 ^ E ≤ xq + 2) ∨ (ov1 = 0 ∧ xq + 2 < 2 ^ E)) → va_P (dC, dI) vwCl [(h0, .inr (8, [.int th, .int we, .int wm, .int wy, .int ra, .ref tA, .int tn, .ref oA, .int on, .ref rA, .int fi, .int la, .ref wA, .int wf, .int wl, .int lo1, .int ov1, .int un1, .int aT, .int mi, .int ds, .ref dA, .int a0, .int xp, .ref iA, .int te]))] H → va_D A [(h0, .inr (8, [.int th, .int we, .int wm, .int wy, .int ra, .ref tA, .int tn, .ref oA, .int on, .ref rA, .int fi, .int la, .ref wA, .int wf, .int wl, .int lo1, .int ov1, .int un1, .int aT, .int mi, .int ds, .ref dA, .int a0, .int xp, .ref iA, .int te]))] → va_S A s.heap H locs → lv_has ls 14 [(12, .int x12), (10, .long tq), (8, .long mq), (6, .int by_), (5, .int bl), (0, .ref h0)] → W p l e ({ frames := 1, cells := 0, slots := 0, locals := 25 } : Room) s m ([.ref h0, .int x, .long mv, .int rs, .int bl, .int by_] : List Value).toArray below meth c H locs 0 0 (MQ below (va_Ql (fun (r : Int64) (u : (Int32) × (Int32) × (Int32)) => ∃ uu : Nat, ((uu = 1 ∧ GUd by_.toInt rs.toInt (bl = 0) mm) ∨ (uu = 0 ∧ ¬ GUd by_.toInt rs.toInt (bl = 0) mm)) ∧ PK E M by_.toInt (¬ bl = 0) (xc * 2 ^ M + mm + uu) (0 < rs.toInt) r.toInt u.1 u.2.2 ∧ ((u.2.1 = 1 ∧ ¬ un = 0 ∧ 0 < rs.toInt) ∨ (u.2.1 = 0 ∧ ¬ (¬ un = 0 ∧ 0 < rs.toInt)))) (poG dC dI A (fun u : (Int32) × (Int32) × (Int32) => [(h0, .inr (8, [.int th, .int we, .int wm, .int wy, .int ra, .ref tA, .int tn, .ref oA, .int on, .ref rA, .int fi, .int la, .ref wA, .int wf, .int wl, .int u.1, .int u.2.2, .int u.2.1, .int aT, .int mi, .int ds, .ref dA, .int a0, .int xp, .ref iA, .int te]))])) A) ([.ref h0, .int x, .long mv, .int rs, .int bl, .int by_] : List Value).toArray s 0 0 A) (F0 m 137 ls [])) := by
  obtain ⟨hx, hb, hml, hown, hts, hr, hlocks, hK, hN⟩ := id C0
  intro lo1 un1 ov1 mq tq x12 xq mp uu H locs ls t_x12 t_tq t_mq t_by_ hlo hun huu hZ hmp hxq0 hxq hmp2 hov hP hD hS hl
  have r_x12 := q_r32 x12
  have r_tq := q_r64 tq
  have r_mq := q_r64 mq
  have r_by_ := q_r32 by_
  obtain ⟨he, hm, hE1, hE2, hM1, hM2⟩ := id hL
  have hbz := p_bias hE1 hE2
  have hem := p_em hE1 hE2 hM1 hM2
  have hiz := iz_sb E M
  have hpm := p_m hM2
  have hpm1 := pw_p M
  have hpe := p_e hE1 hE2
  have hbs := bsE_r hE1 hE2
  refine lv_aload_n hx hb d_Model_packed_137 rfl (lv_at hl 5 rfl) ?_
  refine va_get (D := (dC, dI)) (ci := 8) (v := .int ov1) (C := R_Model) (T := F_Model) (N := 26) hx hb hts u_Model hown hK hP 0 rfl rfl 16 (by decide) (hts _ m_579) (fun _ h9 => h9) rfl d_Model_packed_138 ?_
  refine lv_if_ne (tgt := 159) hx hb d_Model_packed_141 (by decide) (fun b141 => ?_) (fun b141 => ?_)
  · skip
    have hov2 := hov.elim id (fun h => absurd h.1 b141)
    refine lv_aload_n hx hb d_Model_packed_159 rfl (lv_at hl 5 rfl) ?_
    refine lv_iconst (v := 1) hx hb d_Model_packed_160 (by decide) ?_
    refine va_put (D := (dC, dI)) (ci := 8) (v := .int 1) (ty := .boolean) (C := R_Model) (T := F_Model) (N := 26) hx hb hts u_Model t_Model t_Model_ok n_Model hown hK hP hD hS 0 rfl rfl 15 (by decide) (hts _ m_578) (fun _ h9 => h9) rfl (by decide +kernel) rfl rfl (Nat.le_of_ble_eq_true rfl) d_Model_packed_161 (fun H locs hP hD hS => ?_)
    have hP : va_P (dC, dI) vwCl [(h0, .inr (8, [.int th, .int we, .int wm, .int wy, .int ra, .ref tA, .int tn, .ref oA, .int on, .ref rA, .int fi, .int la, .ref wA, .int wf, .int wl, .int 1, .int ov1, .int un1, .int aT, .int mi, .int ds, .ref dA, .int a0, .int xp, .ref iA, .int te]))] H := hP
    have hD : va_D A [(h0, .inr (8, [.int th, .int we, .int wm, .int wy, .int ra, .ref tA, .int tn, .ref oA, .int on, .ref rA, .int fi, .int la, .ref wA, .int wf, .int wl, .int 1, .int ov1, .int un1, .int aT, .int mi, .int ds, .ref dA, .int a0, .int xp, .ref iA, .int te]))] := hD
    refine lv_iload hx hb d_Model_packed_164 (lv_at hl 3 rfl) ?_
    refine lv_if_eq (tgt := 197) hx hb d_Model_packed_166 (by decide) (fun b166 => ?_) (fun b166 => ?_)
    · skip
      rw [q_ieq t_by_ (show (0 : Int32).toInt = 0 by decide)] at b166
      refine lv_iconst (v := 1) hx hb d_Model_packed_197 (by decide) ?_
      refine lv_goto (tgt := 202) hx hb d_Model_packed_198 (by decide) ?_
      refine lv_istore (lv' := [(13, .int 1), (12, .int x12), (10, .long tq), (8, .long mq), (6, .int by_), (5, .int bl), (0, .ref h0)]) hx hb d_Model_packed_202 hl (by decide) rfl (fun ls hl => ?_)
      exact L_Model_packed_204 (h0) (th) (we) (wm) (wy) (ra) (tA) (tn) (oA) (on) (rA) (fi) (la) (wA) (wf) (wl) (lo) (ov) (un) (aT) (mi) (ds) (dA) (a0) (xp) (iA) (te) (E) (M) (x) (mv) (rs) (bl) (by_) (xc) (mm) C0 hA (hL) (hby) (hxc) (hxc2) (hmv) (hmm) (hk0) (un1) (ov1) (1) (xq) (mp) (uu) H locs ls (by exact hun) (by exact huu) (by exact hZ) (by exact hmp) (by exact hxq0) (by exact hxq) (by exact pk_inf hmp2 hov2.2) (by exact hov2.1) (by exact Or.inl ⟨rfl, fun h => by rcases h with h | ⟨h, h2⟩ | ⟨h, h2⟩; omega; omega; omega⟩) (va_Psub hP [0] rfl) (hD.sub [0] (by decide) rfl) hS (lv_sub hl [0, 6] rfl)
    · skip
      rw [q_ieq t_by_ (show (0 : Int32).toInt = 0 by decide)] at b166
      refine lv_iload hx hb d_Model_packed_169 (lv_at hl 3 rfl) ?_
      refine lv_iconst (v := 4) hx hb d_Model_packed_171 (by decide) ?_
      refine lv_icmp_eq (tgt := 197) hx hb d_Model_packed_172 (by decide) (fun b172 => ?_) (fun b172 => ?_)
      · skip
        rw [q_ieq t_by_ (show (4 : Int32).toInt = 4 by decide)] at b172
        refine lv_iconst (v := 1) hx hb d_Model_packed_197 (by decide) ?_
        refine lv_goto (tgt := 202) hx hb d_Model_packed_198 (by decide) ?_
        refine lv_istore (lv' := [(13, .int 1), (12, .int x12), (10, .long tq), (8, .long mq), (6, .int by_), (5, .int bl), (0, .ref h0)]) hx hb d_Model_packed_202 hl (by decide) rfl (fun ls hl => ?_)
        exact L_Model_packed_204 (h0) (th) (we) (wm) (wy) (ra) (tA) (tn) (oA) (on) (rA) (fi) (la) (wA) (wf) (wl) (lo) (ov) (un) (aT) (mi) (ds) (dA) (a0) (xp) (iA) (te) (E) (M) (x) (mv) (rs) (bl) (by_) (xc) (mm) C0 hA (hL) (hby) (hxc) (hxc2) (hmv) (hmm) (hk0) (un1) (ov1) (1) (xq) (mp) (uu) H locs ls (by exact hun) (by exact huu) (by exact hZ) (by exact hmp) (by exact hxq0) (by exact hxq) (by exact pk_inf hmp2 hov2.2) (by exact hov2.1) (by exact Or.inl ⟨rfl, fun h => by rcases h with h | ⟨h, h2⟩ | ⟨h, h2⟩; omega; omega; omega⟩) (va_Psub hP [0] rfl) (hD.sub [0] (by decide) rfl) hS (lv_sub hl [0, 6] rfl)
      · skip
        rw [q_ieq t_by_ (show (4 : Int32).toInt = 4 by decide)] at b172
        refine lv_iload hx hb d_Model_packed_175 (lv_at hl 3 rfl) ?_
        refine lv_iconst (v := 2) hx hb d_Model_packed_177 (by decide) ?_
        refine lv_icmp_ne (tgt := 186) hx hb d_Model_packed_178 (by decide) (fun b178 => ?_) (fun b178 => ?_)
        · skip
          rw [q_ieq t_by_ (show (2 : Int32).toInt = 2 by decide)] at b178
          refine lv_iload hx hb d_Model_packed_186 (lv_at hl 3 rfl) ?_
          refine lv_iconst (v := 3) hx hb d_Model_packed_188 (by decide) ?_
          refine lv_icmp_ne (tgt := 201) hx hb d_Model_packed_189 (by decide) (fun b189 => ?_) (fun b189 => ?_)
          · skip
            rw [q_ieq t_by_ (show (3 : Int32).toInt = 3 by decide)] at b189
            refine lv_iconst (v := 0) hx hb d_Model_packed_201 (by decide) ?_
            refine lv_istore (lv' := [(13, .int 0), (12, .int x12), (10, .long tq), (8, .long mq), (6, .int by_), (5, .int bl), (0, .ref h0)]) hx hb d_Model_packed_202 hl (by decide) rfl (fun ls hl => ?_)
            exact L_Model_packed_204 (h0) (th) (we) (wm) (wy) (ra) (tA) (tn) (oA) (on) (rA) (fi) (la) (wA) (wf) (wl) (lo) (ov) (un) (aT) (mi) (ds) (dA) (a0) (xp) (iA) (te) (E) (M) (x) (mv) (rs) (bl) (by_) (xc) (mm) C0 hA (hL) (hby) (hxc) (hxc2) (hmv) (hmm) (hk0) (un1) (ov1) (0) (xq) (mp) (uu) H locs ls (by exact hun) (by exact huu) (by exact hZ) (by exact hmp) (by exact hxq0) (by exact hxq) (by exact pk_inf hmp2 hov2.2) (by exact hov2.1) (by exact Or.inr ⟨rfl, Or.inl (by omega)⟩) (va_Psub hP [0] rfl) (hD.sub [0] (by decide) rfl) hS (lv_sub hl [0, 6] rfl)
          · skip
            rw [q_ieq t_by_ (show (3 : Int32).toInt = 3 by decide)] at b189
            refine lv_iload hx hb d_Model_packed_192 (lv_at hl 4 rfl) ?_
            refine lv_if_eq (tgt := 201) hx hb d_Model_packed_194 (by decide) (fun b194 => ?_) (fun b194 => ?_)
            · skip
              refine lv_iconst (v := 0) hx hb d_Model_packed_201 (by decide) ?_
              refine lv_istore (lv' := [(13, .int 0), (12, .int x12), (10, .long tq), (8, .long mq), (6, .int by_), (5, .int bl), (0, .ref h0)]) hx hb d_Model_packed_202 hl (by decide) rfl (fun ls hl => ?_)
              exact L_Model_packed_204 (h0) (th) (we) (wm) (wy) (ra) (tA) (tn) (oA) (on) (rA) (fi) (la) (wA) (wf) (wl) (lo) (ov) (un) (aT) (mi) (ds) (dA) (a0) (xp) (iA) (te) (E) (M) (x) (mv) (rs) (bl) (by_) (xc) (mm) C0 hA (hL) (hby) (hxc) (hxc2) (hmv) (hmm) (hk0) (un1) (ov1) (0) (xq) (mp) (uu) H locs ls (by exact hun) (by exact huu) (by exact hZ) (by exact hmp) (by exact hxq0) (by exact hxq) (by exact pk_inf hmp2 hov2.2) (by exact hov2.1) (by exact Or.inr ⟨rfl, Or.inr (Or.inr ⟨by omega, fun h => h b194⟩)⟩) (va_Psub hP [0] rfl) (hD.sub [0] (by decide) rfl) hS (lv_sub hl [0, 6] rfl)
            · skip
              refine lv_iconst (v := 1) hx hb d_Model_packed_197 (by decide) ?_
              refine lv_goto (tgt := 202) hx hb d_Model_packed_198 (by decide) ?_
              refine lv_istore (lv' := [(13, .int 1), (12, .int x12), (10, .long tq), (8, .long mq), (6, .int by_), (5, .int bl), (0, .ref h0)]) hx hb d_Model_packed_202 hl (by decide) rfl (fun ls hl => ?_)
              exact L_Model_packed_204 (h0) (th) (we) (wm) (wy) (ra) (tA) (tn) (oA) (on) (rA) (fi) (la) (wA) (wf) (wl) (lo) (ov) (un) (aT) (mi) (ds) (dA) (a0) (xp) (iA) (te) (E) (M) (x) (mv) (rs) (bl) (by_) (xc) (mm) C0 hA (hL) (hby) (hxc) (hxc2) (hmv) (hmm) (hk0) (un1) (ov1) (1) (xq) (mp) (uu) H locs ls (by exact hun) (by exact huu) (by exact hZ) (by exact hmp) (by exact hxq0) (by exact hxq) (by exact pk_inf hmp2 hov2.2) (by exact hov2.1) (by exact Or.inl ⟨rfl, fun h => by rcases h with h | ⟨h, h2⟩ | ⟨h, h2⟩; omega; omega; exact h2 b194⟩) (va_Psub hP [0] rfl) (hD.sub [0] (by decide) rfl) hS (lv_sub hl [0, 6] rfl)
        · skip
          rw [q_ieq t_by_ (show (2 : Int32).toInt = 2 by decide)] at b178
          refine lv_iload hx hb d_Model_packed_181 (lv_at hl 4 rfl) ?_
          refine lv_if_eq (tgt := 197) hx hb d_Model_packed_183 (by decide) (fun b183 => ?_) (fun b183 => ?_)
          · skip
            refine lv_iconst (v := 1) hx hb d_Model_packed_197 (by decide) ?_
            refine lv_goto (tgt := 202) hx hb d_Model_packed_198 (by decide) ?_
            refine lv_istore (lv' := [(13, .int 1), (12, .int x12), (10, .long tq), (8, .long mq), (6, .int by_), (5, .int bl), (0, .ref h0)]) hx hb d_Model_packed_202 hl (by decide) rfl (fun ls hl => ?_)
            exact L_Model_packed_204 (h0) (th) (we) (wm) (wy) (ra) (tA) (tn) (oA) (on) (rA) (fi) (la) (wA) (wf) (wl) (lo) (ov) (un) (aT) (mi) (ds) (dA) (a0) (xp) (iA) (te) (E) (M) (x) (mv) (rs) (bl) (by_) (xc) (mm) C0 hA (hL) (hby) (hxc) (hxc2) (hmv) (hmm) (hk0) (un1) (ov1) (1) (xq) (mp) (uu) H locs ls (by exact hun) (by exact huu) (by exact hZ) (by exact hmp) (by exact hxq0) (by exact hxq) (by exact pk_inf hmp2 hov2.2) (by exact hov2.1) (by exact Or.inl ⟨rfl, fun h => by rcases h with h | ⟨h, h2⟩ | ⟨h, h2⟩; omega; exact h2 b183; omega⟩) (va_Psub hP [0] rfl) (hD.sub [0] (by decide) rfl) hS (lv_sub hl [0, 6] rfl)
          · skip
            refine lv_iload hx hb d_Model_packed_186 (lv_at hl 3 rfl) ?_
            refine lv_iconst (v := 3) hx hb d_Model_packed_188 (by decide) ?_
            refine lv_icmp_ne (tgt := 201) hx hb d_Model_packed_189 (by decide) (fun b189 => ?_) (fun b189 => ?_)
            · skip
              rw [q_ieq t_by_ (show (3 : Int32).toInt = 3 by decide)] at b189
              refine lv_iconst (v := 0) hx hb d_Model_packed_201 (by decide) ?_
              refine lv_istore (lv' := [(13, .int 0), (12, .int x12), (10, .long tq), (8, .long mq), (6, .int by_), (5, .int bl), (0, .ref h0)]) hx hb d_Model_packed_202 hl (by decide) rfl (fun ls hl => ?_)
              exact L_Model_packed_204 (h0) (th) (we) (wm) (wy) (ra) (tA) (tn) (oA) (on) (rA) (fi) (la) (wA) (wf) (wl) (lo) (ov) (un) (aT) (mi) (ds) (dA) (a0) (xp) (iA) (te) (E) (M) (x) (mv) (rs) (bl) (by_) (xc) (mm) C0 hA (hL) (hby) (hxc) (hxc2) (hmv) (hmm) (hk0) (un1) (ov1) (0) (xq) (mp) (uu) H locs ls (by exact hun) (by exact huu) (by exact hZ) (by exact hmp) (by exact hxq0) (by exact hxq) (by exact pk_inf hmp2 hov2.2) (by exact hov2.1) (by exact Or.inr ⟨rfl, Or.inr (Or.inl ⟨by omega, b183⟩)⟩) (va_Psub hP [0] rfl) (hD.sub [0] (by decide) rfl) hS (lv_sub hl [0, 6] rfl)
            · skip
              rw [q_ieq t_by_ (show (3 : Int32).toInt = 3 by decide)] at b189
              exact absurd b189 (by omega)
  · skip
    have hpz : (xq + 1) * 2 ^ M ≤ 1202 * 8388608 := Nat.mul_le_mul (by omega) hpm
    have hpy : (xq + 1) * 2 ^ M = xq * 2 ^ M + 2 ^ M := by rw [Nat.add_mul, Nat.one_mul]
    refine lv_iload hx hb d_Model_packed_144 (lv_at hl 0 rfl) ?_
    refine lv_i2l hx hb d_Model_packed_146 rfl ?_
    refine lv_topl (fun v146 e146 => ?_)
    have t146 : v146.toInt = 1 + (xq : Int) := by rw [e146]; exact q_i2l t_x12
    refine lv_aload_n hx hb d_Model_packed_147 rfl (lv_at hl 5 rfl) ?_
    refine va_get (D := (dC, dI)) (ci := 8) (v := .int wm) (C := R_Model) (T := F_Model) (N := 26) hx hb hts u_Model hown hK hP 0 rfl rfl 2 (by decide) (hts _ m_565) (fun _ h9 => h9) rfl d_Model_packed_148 ?_
    refine lv_lshl hx hb d_Model_packed_151 rfl ?_
    refine lv_topl (fun v151 e151 => ?_)
    have t151 : v151.toInt = (((xq + 1) * 2 ^ M : Nat) : Int) := by rw [e151]; exact q_lshl (a := xq + 1) (t146.trans (by omega)) hm (by omega) (Nat.lt_of_le_of_lt hpz (by decide))
    refine lv_lload hx hb d_Model_packed_152 (lv_at hl 2 rfl) ?_
    refine lv_ladd hx hb d_Model_packed_154 ?_
    refine lv_topl (fun v154 e154 => ?_)
    have t154 : v154.toInt = ((((xq + 1) * 2 ^ M : Nat) : Int)) + (mp : Int) := by rw [e154]; exact q_ladd t151 t_mq (by omega)
    refine lv_lload hx hb d_Model_packed_155 (lv_at hl 1 rfl) ?_
    refine lv_lsub hx hb d_Model_packed_157 ?_
    refine lv_topl (fun v157 e157 => ?_)
    have t157 : v157.toInt = (((((xq + 1) * 2 ^ M : Nat) : Int)) + (mp : Int)) - (((2 ^ M : Nat) : Int)) := by rw [e157]; exact q_lsub t154 t_tq (by omega)
    have hov2 := hov.elim (fun h => absurd (b141.symm.trans h.1) (by decide)) (fun h => h.2)
    exact Cl.ret C0 (v := v157) (u := (lo1, un1, ov1)) (Nat.le_of_ble_eq_true rfl) (Nat.le_of_ble_eq_true rfl) (by show ∃ uu : Nat, ((uu = 1 ∧ GUd by_.toInt rs.toInt (bl = 0) mm) ∨ (uu = 0 ∧ ¬ GUd by_.toInt rs.toInt (bl = 0) mm)) ∧ PK E M by_.toInt (¬ bl = 0) (xc * 2 ^ M + mm + uu) (0 < rs.toInt) v157.toInt lo1 ov1 ∧ ((un1 = 1 ∧ ¬ un = 0 ∧ 0 < rs.toInt) ∨ (un1 = 0 ∧ ¬ (¬ un = 0 ∧ 0 < rs.toInt))); exact ⟨uu, huu, by rw [hZ]; exact Or.inl ⟨pk_fin hmp hov2, t157.trans (by omega), b141, hlo⟩, hun⟩) hP hD hS [0] (by decide) rfl d_Model_packed_158
set_option maxHeartbeats 4000000 in
set_option maxRecDepth 100000 in
theorem L_Model_packed_90 {p : Program} {l : Launch} {e : Env} {s : State} {m : MethodId} {below : List Frame} {meth : Method} {c : Code} {dC : Nat → ClassId} {dI : Nat → Nat → Nat} {cI cB cJ : ClassId} {A : Nat → Prop} (h0 : Nat) (th : Int32) (we : Int32) (wm : Int32) (wy : Int32) (ra : Int32) (tA : Nat) (tn : Int32) (oA : Nat) (on : Int32) (rA : Nat) (fi : Int32) (la : Int32) (wA : Nat) (wf : Int32) (wl : Int32) (lo : Int32) (ov : Int32) (un : Int32) (aT : Int32) (mi : Int32) (ds : Int32) (dA : Nat) (a0 : Int32) (xp : Int32) (iA : Nat) (te : Int32) (E : Nat) (M : Nat) (x : Int32) (mv : Int64) (rs : Int32) (bl : Int32) (by_ : Int32) (xc : Nat) (mm : Nat) (C0 : cx dC dI cI cB cJ R_Model b_Model_packed 14 (some .long) p s m ([.ref h0, .int x, .long mv, .int rs, .int bl, .int by_] : List Value).toArray meth c) (hA : ∀ q : Nat, s.heap.size ≤ q → A q) (hL : LY we wm E M) (hby : 0 ≤ by_.toInt ∧ by_.toInt ≤ 4) (hxc : x.toInt = 1 - (bsE E : Int) + (xc : Int)) (hxc2 : xc ≤ 1200) (hmv : mv.toInt = (mm : Int)) (hmm : mm < 2 * 2 ^ M) (hk0 : mm < 2 ^ M → xc = 0) : (∀ (lo1 : Int32) (un1 : Int32) (x7 : Int32) (mq : Int64) (tq : Int64) (xq : Nat) (mp : Nat) (uu : Nat) (H : Heap) (locs : List Loc) (ls : Array Slot), tq.toInt = ((2 ^ M : Nat) : Int) → mq.toInt = (mp : Int) → x7.toInt = 1 - (bsE E : Int) + (xq : Int) → by_.toInt = by_.toInt → ((lo1 = 1 ∧ 0 < rs.toInt) ∨ (lo1 = 0 ∧ ¬ 0 < rs.toInt)) → ((un1 = 1 ∧ ¬ un = 0 ∧ 0 < rs.toInt) ∨ (un1 = 0 ∧ ¬ (¬ un = 0 ∧ 0 < rs.toInt))) → ((uu = 1 ∧ GUd by_.toInt rs.toInt (bl = 0) mm) ∨ (uu = 0 ∧ ¬ GUd by_.toInt rs.toInt (bl = 0) mm)) → (xc * 2 ^ M + mm + uu = xq * 2 ^ M + mp) → (mp < 2 * 2 ^ M) → (mp < 2 ^ M → xq = 0) → (xq ≤ 1201) → va_P (dC, dI) vwCl [(h0, .inr (8, [.int th, .int we, .int wm, .int wy, .int ra, .ref tA, .int tn, .ref oA, .int on, .ref rA, .int fi, .int la, .ref wA, .int wf, .int wl, .int lo1, .int ov, .int un1, .int aT, .int mi, .int ds, .ref dA, .int a0, .int xp, .ref iA, .int te]))] H → va_D A [(h0, .inr (8, [.int th, .int we, .int wm, .int wy, .int ra, .ref tA, .int tn, .ref oA, .int on, .ref rA, .int fi, .int la, .ref wA, .int wf, .int wl, .int lo1, .int ov, .int un1, .int aT, .int mi, .int ds, .ref dA, .int a0, .int xp, .ref iA, .int te]))] → va_S A s.heap H locs → lv_has ls 14 [(10, .long tq), (8, .long mq), (7, .int x7), (6, .int by_), (5, .int bl), (0, .ref h0)] → W p l e ({ frames := 1, cells := 0, slots := 0, locals := 25 } : Room) s m ([.ref h0, .int x, .long mv, .int rs, .int bl, .int by_] : List Value).toArray below meth c H locs 0 0 (MQ below (va_Ql (fun (r : Int64) (u : (Int32) × (Int32) × (Int32)) => ∃ uu : Nat, ((uu = 1 ∧ GUd by_.toInt rs.toInt (bl = 0) mm) ∨ (uu = 0 ∧ ¬ GUd by_.toInt rs.toInt (bl = 0) mm)) ∧ PK E M by_.toInt (¬ bl = 0) (xc * 2 ^ M + mm + uu) (0 < rs.toInt) r.toInt u.1 u.2.2 ∧ ((u.2.1 = 1 ∧ ¬ un = 0 ∧ 0 < rs.toInt) ∨ (u.2.1 = 0 ∧ ¬ (¬ un = 0 ∧ 0 < rs.toInt)))) (poG dC dI A (fun u : (Int32) × (Int32) × (Int32) => [(h0, .inr (8, [.int th, .int we, .int wm, .int wy, .int ra, .ref tA, .int tn, .ref oA, .int on, .ref rA, .int fi, .int la, .ref wA, .int wf, .int wl, .int u.1, .int u.2.2, .int u.2.1, .int aT, .int mi, .int ds, .ref dA, .int a0, .int xp, .ref iA, .int te]))])) A) ([.ref h0, .int x, .long mv, .int rs, .int bl, .int by_] : List Value).toArray s 0 0 A) (F0 m 90 ls [])) := by
  obtain ⟨hx, hb, hml, hown, hts, hr, hlocks, hK, hN⟩ := id C0
  intro lo1 un1 x7 mq tq xq mp uu H locs ls t_tq t_mq t_x7 t_by_ hlo hun huu hZ hmp hxq0 hxq hP hD hS hl
  have r_tq := q_r64 tq
  have r_mq := q_r64 mq
  have r_x7 := q_r32 x7
  have r_by_ := q_r32 by_
  obtain ⟨he, hm, hE1, hE2, hM1, hM2⟩ := id hL
  have hbz := p_bias hE1 hE2
  have hem := p_em hE1 hE2 hM1 hM2
  have hiz := iz_sb E M
  have hpm := p_m hM2
  have hpm1 := pw_p M
  have hpe := p_e hE1 hE2
  have hbs := bsE_r hE1 hE2
  refine lv_lload hx hb d_Model_packed_90 (lv_at hl 1 rfl) ?_
  refine lv_lload hx hb d_Model_packed_92 (lv_at hl 0 rfl) ?_
  refine W.lcmp hx hb d_Model_packed_94 ?_
  refine lv_if_ge (tgt := 106) hx hb d_Model_packed_95 (by decide) (fun b95 => ?_) (fun b95 => ?_)
  · skip
    rw [q_cmp_ge t_mq t_tq] at b95
    refine lv_iload hx hb d_Model_packed_106 (lv_at hl 2 rfl) ?_
    refine lv_aload_n hx hb d_Model_packed_108 rfl (lv_at hl 5 rfl) ?_
    refine callV_i (wr := []) C0 (c_Model_bias l dC dI cI cB cJ (h0) (th) (we) (wm) (wy) (ra) (tA) (tn) (oA) (on) (rA) (fi) (la) (wA) (wf) (wl) (lo1) (ov) (un1) (aT) (mi) (ds) (dA) (a0) (xp) (iA) (te) (E) (M) (by exact hL)) (cwV 0 hts (gV m_669 m_670 m_26 m_55 m_671) rfl rfl rfl (by decide +kernel) ⟨Nat.le_of_ble_eq_true rfl, Nat.le_of_ble_eq_true rfl⟩) 8 rfl rfl 0 rfl hP hD hS hA [0] [] rfl rfl (by decide) (by decide) (by decide) rfl hl.1 rfl (Nat.le_of_ble_eq_true rfl) d_Model_packed_109 ⟨Nat.le_of_ble_eq_true rfl, Nat.le_of_ble_eq_true rfl⟩ (fun r109 u109 H locs hw9 hP hD hS => ?_)
    have h109 : r109.toInt = ((2 ^ (E - 1) - 1 : Nat) : Int) := hw9
    have hP : va_P (dC, dI) vwCl [(h0, .inr (8, [.int th, .int we, .int wm, .int wy, .int ra, .ref tA, .int tn, .ref oA, .int on, .ref rA, .int fi, .int la, .ref wA, .int wf, .int wl, .int lo1, .int ov, .int un1, .int aT, .int mi, .int ds, .ref dA, .int a0, .int xp, .ref iA, .int te]))] H := hP
    have hD : va_D A [(h0, .inr (8, [.int th, .int we, .int wm, .int wy, .int ra, .ref tA, .int tn, .ref oA, .int on, .ref rA, .int fi, .int la, .ref wA, .int wf, .int wl, .int lo1, .int ov, .int un1, .int aT, .int mi, .int ds, .ref dA, .int a0, .int xp, .ref iA, .int te]))] := hD
    have t109 : r109.toInt = (bsE E : Int) := h109
    refine lv_iadd hx hb d_Model_packed_112 ?_
    refine lv_topi (fun v112 e112 => ?_)
    have t112 : v112.toInt = (1 - (bsE E : Int) + (xq : Int)) + (bsE E : Int) := by rw [e112]; exact q_iadd t_x7 t109 (by omega)
    refine lv_istore (lv' := [(12, .int v112), (10, .long tq), (8, .long mq), (7, .int x7), (6, .int by_), (5, .int bl), (0, .ref h0)]) hx hb d_Model_packed_113 hl (by decide) rfl (fun ls hl => ?_)
    refine lv_aload_n hx hb d_Model_packed_115 rfl (lv_at hl 6 rfl) ?_
    refine lv_iload hx hb d_Model_packed_116 (lv_at hl 0 rfl) ?_
    refine lv_iconst (v := 1) hx hb d_Model_packed_118 (by decide) ?_
    refine lv_aload_n hx hb d_Model_packed_119 rfl (lv_at hl 6 rfl) ?_
    refine va_get (D := (dC, dI)) (ci := 8) (v := .int we) (C := R_Model) (T := F_Model) (N := 26) hx hb hts u_Model hown hK hP 0 rfl rfl 1 (by decide) (hts _ m_564) (fun _ h9 => h9) rfl d_Model_packed_120 ?_
    refine lv_ishl hx hb d_Model_packed_123 ?_
    refine lv_topi (fun v123 e123 => ?_)
    have t123 : v123.toInt = ((2 ^ E : Nat) : Int) := by rw [e123, ← Nat.one_mul (2 ^ E)]; exact q_ishl (a := 1) (by decide) he (by omega) (by omega)
    refine lv_iconst (v := 1) hx hb d_Model_packed_124 (by decide) ?_
    refine lv_isub hx hb d_Model_packed_125 ?_
    refine lv_topi (fun v125 e125 => ?_)
    have t125 : v125.toInt = (((2 ^ E : Nat) : Int)) - 1 := by rw [e125]; exact q_isub t123 (show (1 : Int32).toInt = 1 by decide) (by omega)
    refine lv_icmp_lt (tgt := 133) hx hb d_Model_packed_126 (by decide) (fun b126 => ?_) (fun b126 => ?_)
    · skip
      rw [q_ilt t112 t125] at b126
      refine lv_iconst (v := 0) hx hb d_Model_packed_133 (by decide) ?_
      refine va_put (D := (dC, dI)) (ci := 8) (v := .int 0) (ty := .boolean) (C := R_Model) (T := F_Model) (N := 26) hx hb hts u_Model t_Model t_Model_ok n_Model hown hK hP hD hS 0 rfl rfl 16 (by decide) (hts _ m_579) (fun _ h9 => h9) rfl (by decide +kernel) rfl rfl (Nat.le_of_ble_eq_true rfl) d_Model_packed_134 (fun H locs hP hD hS => ?_)
      have hP : va_P (dC, dI) vwCl [(h0, .inr (8, [.int th, .int we, .int wm, .int wy, .int ra, .ref tA, .int tn, .ref oA, .int on, .ref rA, .int fi, .int la, .ref wA, .int wf, .int wl, .int lo1, .int 0, .int un1, .int aT, .int mi, .int ds, .ref dA, .int a0, .int xp, .ref iA, .int te]))] H := hP
      have hD : va_D A [(h0, .inr (8, [.int th, .int we, .int wm, .int wy, .int ra, .ref tA, .int tn, .ref oA, .int on, .ref rA, .int fi, .int la, .ref wA, .int wf, .int wl, .int lo1, .int 0, .int un1, .int aT, .int mi, .int ds, .ref dA, .int a0, .int xp, .ref iA, .int te]))] := hD
      exact L_Model_packed_137 (h0) (th) (we) (wm) (wy) (ra) (tA) (tn) (oA) (on) (rA) (fi) (la) (wA) (wf) (wl) (lo) (ov) (un) (aT) (mi) (ds) (dA) (a0) (xp) (iA) (te) (E) (M) (x) (mv) (rs) (bl) (by_) (xc) (mm) C0 hA (hL) (hby) (hxc) (hxc2) (hmv) (hmm) (hk0) (lo1) (un1) (0) (mq) (tq) (v112) (xq) (mp) (uu) H locs ls ((t112).trans (by omega)) ((t_tq).trans (by omega)) ((t_mq).trans (by omega)) ((t_by_).trans (by omega)) (by exact hlo) (by exact hun) (by exact huu) (by exact hZ) (by exact hmp) (by exact hxq0) (by exact hxq) (by omega) (by exact Or.inr ⟨rfl, by omega⟩) (va_Psub hP [0] rfl) (hD.sub [0] (by decide) rfl) hS (lv_sub hl [0, 1, 2, 4, 5, 6] rfl)
    · skip
      rw [q_ilt t112 t125] at b126
      refine lv_iconst (v := 1) hx hb d_Model_packed_129 (by decide) ?_
      refine lv_goto (tgt := 134) hx hb d_Model_packed_130 (by decide) ?_
      refine va_put (D := (dC, dI)) (ci := 8) (v := .int 1) (ty := .boolean) (C := R_Model) (T := F_Model) (N := 26) hx hb hts u_Model t_Model t_Model_ok n_Model hown hK hP hD hS 0 rfl rfl 16 (by decide) (hts _ m_579) (fun _ h9 => h9) rfl (by decide +kernel) rfl rfl (Nat.le_of_ble_eq_true rfl) d_Model_packed_134 (fun H locs hP hD hS => ?_)
      have hP : va_P (dC, dI) vwCl [(h0, .inr (8, [.int th, .int we, .int wm, .int wy, .int ra, .ref tA, .int tn, .ref oA, .int on, .ref rA, .int fi, .int la, .ref wA, .int wf, .int wl, .int lo1, .int 1, .int un1, .int aT, .int mi, .int ds, .ref dA, .int a0, .int xp, .ref iA, .int te]))] H := hP
      have hD : va_D A [(h0, .inr (8, [.int th, .int we, .int wm, .int wy, .int ra, .ref tA, .int tn, .ref oA, .int on, .ref rA, .int fi, .int la, .ref wA, .int wf, .int wl, .int lo1, .int 1, .int un1, .int aT, .int mi, .int ds, .ref dA, .int a0, .int xp, .ref iA, .int te]))] := hD
      exact L_Model_packed_137 (h0) (th) (we) (wm) (wy) (ra) (tA) (tn) (oA) (on) (rA) (fi) (la) (wA) (wf) (wl) (lo) (ov) (un) (aT) (mi) (ds) (dA) (a0) (xp) (iA) (te) (E) (M) (x) (mv) (rs) (bl) (by_) (xc) (mm) C0 hA (hL) (hby) (hxc) (hxc2) (hmv) (hmm) (hk0) (lo1) (un1) (1) (mq) (tq) (v112) (xq) (mp) (uu) H locs ls ((t112).trans (by omega)) ((t_tq).trans (by omega)) ((t_mq).trans (by omega)) ((t_by_).trans (by omega)) (by exact hlo) (by exact hun) (by exact huu) (by exact hZ) (by exact hmp) (by exact hxq0) (by exact hxq) (by omega) (by exact Or.inl ⟨rfl, by omega⟩) (va_Psub hP [0] rfl) (hD.sub [0] (by decide) rfl) hS (lv_sub hl [0, 1, 2, 4, 5, 6] rfl)
  · skip
    rw [q_cmp_ge t_mq t_tq] at b95
    refine lv_aload_n hx hb d_Model_packed_98 rfl (lv_at hl 5 rfl) ?_
    refine lv_iconst (v := 0) hx hb d_Model_packed_99 (by decide) ?_
    refine va_put (D := (dC, dI)) (ci := 8) (v := .int 0) (ty := .boolean) (C := R_Model) (T := F_Model) (N := 26) hx hb hts u_Model t_Model t_Model_ok n_Model hown hK hP hD hS 0 rfl rfl 16 (by decide) (hts _ m_579) (fun _ h9 => h9) rfl (by decide +kernel) rfl rfl (Nat.le_of_ble_eq_true rfl) d_Model_packed_100 (fun H locs hP hD hS => ?_)
    have hP : va_P (dC, dI) vwCl [(h0, .inr (8, [.int th, .int we, .int wm, .int wy, .int ra, .ref tA, .int tn, .ref oA, .int on, .ref rA, .int fi, .int la, .ref wA, .int wf, .int wl, .int lo1, .int 0, .int un1, .int aT, .int mi, .int ds, .ref dA, .int a0, .int xp, .ref iA, .int te]))] H := hP
    have hD : va_D A [(h0, .inr (8, [.int th, .int we, .int wm, .int wy, .int ra, .ref tA, .int tn, .ref oA, .int on, .ref rA, .int fi, .int la, .ref wA, .int wf, .int wl, .int lo1, .int 0, .int un1, .int aT, .int mi, .int ds, .ref dA, .int a0, .int xp, .ref iA, .int te]))] := hD
    refine lv_lload hx hb d_Model_packed_103 (lv_at hl 1 rfl) ?_
    exact Cl.ret C0 (v := mq) (u := (lo1, un1, 0)) (Nat.le_of_ble_eq_true rfl) (Nat.le_of_ble_eq_true rfl) (by show ∃ uu : Nat, ((uu = 1 ∧ GUd by_.toInt rs.toInt (bl = 0) mm) ∨ (uu = 0 ∧ ¬ GUd by_.toInt rs.toInt (bl = 0) mm)) ∧ PK E M by_.toInt (¬ bl = 0) (xc * 2 ^ M + mm + uu) (0 < rs.toInt) mq.toInt lo1 (0 : Int32) ∧ ((un1 = 1 ∧ ¬ un = 0 ∧ 0 < rs.toInt) ∨ (un1 = 0 ∧ ¬ (¬ un = 0 ∧ 0 < rs.toInt))); exact ⟨uu, huu, by rw [hZ, hxq0 (by omega), Nat.zero_mul, Nat.zero_add]; exact Or.inl ⟨Nat.lt_of_lt_of_le (by omega) (iz_ge hE1), t_mq, rfl, hlo⟩, hun⟩) hP hD hS [0] (by decide) rfl d_Model_packed_105
set_option maxHeartbeats 4000000 in
set_option maxRecDepth 100000 in
theorem L_Model_packed_63 {p : Program} {l : Launch} {e : Env} {s : State} {m : MethodId} {below : List Frame} {meth : Method} {c : Code} {dC : Nat → ClassId} {dI : Nat → Nat → Nat} {cI cB cJ : ClassId} {A : Nat → Prop} (h0 : Nat) (th : Int32) (we : Int32) (wm : Int32) (wy : Int32) (ra : Int32) (tA : Nat) (tn : Int32) (oA : Nat) (on : Int32) (rA : Nat) (fi : Int32) (la : Int32) (wA : Nat) (wf : Int32) (wl : Int32) (lo : Int32) (ov : Int32) (un : Int32) (aT : Int32) (mi : Int32) (ds : Int32) (dA : Nat) (a0 : Int32) (xp : Int32) (iA : Nat) (te : Int32) (E : Nat) (M : Nat) (x : Int32) (mv : Int64) (rs : Int32) (bl : Int32) (by_ : Int32) (xc : Nat) (mm : Nat) (C0 : cx dC dI cI cB cJ R_Model b_Model_packed 14 (some .long) p s m ([.ref h0, .int x, .long mv, .int rs, .int bl, .int by_] : List Value).toArray meth c) (hA : ∀ q : Nat, s.heap.size ≤ q → A q) (hL : LY we wm E M) (hby : 0 ≤ by_.toInt ∧ by_.toInt ≤ 4) (hxc : x.toInt = 1 - (bsE E : Int) + (xc : Int)) (hxc2 : xc ≤ 1200) (hmv : mv.toInt = (mm : Int)) (hmm : mm < 2 * 2 ^ M) (hk0 : mm < 2 ^ M → xc = 0) : (∀ (lo1 : Int32) (un1 : Int32) (mq : Int64) (uu : Nat) (H : Heap) (locs : List Loc) (ls : Array Slot), mq.toInt = ((mm + uu : Nat) : Int) → x.toInt = 1 - (bsE E : Int) + (xc : Int) → by_.toInt = by_.toInt → ((lo1 = 1 ∧ 0 < rs.toInt) ∨ (lo1 = 0 ∧ ¬ 0 < rs.toInt)) → ((un1 = 1 ∧ ¬ un = 0 ∧ 0 < rs.toInt) ∨ (un1 = 0 ∧ ¬ (¬ un = 0 ∧ 0 < rs.toInt))) → ((uu = 1 ∧ GUd by_.toInt rs.toInt (bl = 0) mm) ∨ (uu = 0 ∧ ¬ GUd by_.toInt rs.toInt (bl = 0) mm)) → va_P (dC, dI) vwCl [(h0, .inr (8, [.int th, .int we, .int wm, .int wy, .int ra, .ref tA, .int tn, .ref oA, .int on, .ref rA, .int fi, .int la, .ref wA, .int wf, .int wl, .int lo1, .int ov, .int un1, .int aT, .int mi, .int ds, .ref dA, .int a0, .int xp, .ref iA, .int te]))] H → va_D A [(h0, .inr (8, [.int th, .int we, .int wm, .int wy, .int ra, .ref tA, .int tn, .ref oA, .int on, .ref rA, .int fi, .int la, .ref wA, .int wf, .int wl, .int lo1, .int ov, .int un1, .int aT, .int mi, .int ds, .ref dA, .int a0, .int xp, .ref iA, .int te]))] → va_S A s.heap H locs → lv_has ls 14 [(8, .long mq), (7, .int x), (6, .int by_), (5, .int bl), (0, .ref h0)] → W p l e ({ frames := 1, cells := 0, slots := 0, locals := 25 } : Room) s m ([.ref h0, .int x, .long mv, .int rs, .int bl, .int by_] : List Value).toArray below meth c H locs 0 0 (MQ below (va_Ql (fun (r : Int64) (u : (Int32) × (Int32) × (Int32)) => ∃ uu : Nat, ((uu = 1 ∧ GUd by_.toInt rs.toInt (bl = 0) mm) ∨ (uu = 0 ∧ ¬ GUd by_.toInt rs.toInt (bl = 0) mm)) ∧ PK E M by_.toInt (¬ bl = 0) (xc * 2 ^ M + mm + uu) (0 < rs.toInt) r.toInt u.1 u.2.2 ∧ ((u.2.1 = 1 ∧ ¬ un = 0 ∧ 0 < rs.toInt) ∨ (u.2.1 = 0 ∧ ¬ (¬ un = 0 ∧ 0 < rs.toInt)))) (poG dC dI A (fun u : (Int32) × (Int32) × (Int32) => [(h0, .inr (8, [.int th, .int we, .int wm, .int wy, .int ra, .ref tA, .int tn, .ref oA, .int on, .ref rA, .int fi, .int la, .ref wA, .int wf, .int wl, .int u.1, .int u.2.2, .int u.2.1, .int aT, .int mi, .int ds, .ref dA, .int a0, .int xp, .ref iA, .int te]))])) A) ([.ref h0, .int x, .long mv, .int rs, .int bl, .int by_] : List Value).toArray s 0 0 A) (F0 m 63 ls [])) := by
  obtain ⟨hx, hb, hml, hown, hts, hr, hlocks, hK, hN⟩ := id C0
  intro lo1 un1 mq uu H locs ls t_mq t_x t_by_ hlo hun huu hP hD hS hl
  have r_mq := q_r64 mq
  have r_x := q_r32 x
  have r_by_ := q_r32 by_
  obtain ⟨he, hm, hE1, hE2, hM1, hM2⟩ := id hL
  have hbz := p_bias hE1 hE2
  have hem := p_em hE1 hE2 hM1 hM2
  have hiz := iz_sb E M
  have hpm := p_m hM2
  have hpm1 := pw_p M
  have hpe := p_e hE1 hE2
  have hbs := bsE_r hE1 hE2
  refine lv_lconst (v := 1) hx hb d_Model_packed_63 (by decide) ?_
  refine lv_aload_n hx hb d_Model_packed_64 rfl (lv_at hl 4 rfl) ?_
  refine va_get (D := (dC, dI)) (ci := 8) (v := .int wm) (C := R_Model) (T := F_Model) (N := 26) hx hb hts u_Model hown hK hP 0 rfl rfl 2 (by decide) (hts _ m_565) (fun _ h9 => h9) rfl d_Model_packed_65 ?_
  refine lv_lshl hx hb d_Model_packed_68 rfl ?_
  refine lv_topl (fun v68 e68 => ?_)
  have t68 : v68.toInt = ((2 ^ M : Nat) : Int) := by rw [e68, ← Nat.one_mul (2 ^ M)]; exact q_lshl (a := 1) (by decide) hm (by omega) (by omega)
  refine lv_lstore (lv' := [(10, .long v68), (8, .long mq), (7, .int x), (6, .int by_), (5, .int bl), (0, .ref h0)]) hx hb d_Model_packed_69 hl (by decide) rfl (fun ls hl => ?_)
  refine lv_lload hx hb d_Model_packed_71 (lv_at hl 1 rfl) ?_
  refine lv_ldc2 (v := 2) hx hb hown (hts _ m_668) d_Model_packed_73 ?_
  refine lv_lload hx hb d_Model_packed_76 (lv_at hl 0 rfl) ?_
  refine lv_lmul hx hb d_Model_packed_78 ?_
  refine lv_topl (fun v78 e78 => ?_)
  have t78 : v78.toInt = 2 * (((2 ^ M : Nat) : Int)) := by rw [e78]; exact q_lmul (show (2 : Int64).toInt = 2 by decide) t68 (by omega)
  refine W.lcmp hx hb d_Model_packed_79 ?_
  refine lv_if_ne (tgt := 90) hx hb d_Model_packed_80 (by decide) (fun b80 => ?_) (fun b80 => ?_)
  · skip
    rw [q_cmp_eq t_mq t78] at b80
    exact L_Model_packed_90 (h0) (th) (we) (wm) (wy) (ra) (tA) (tn) (oA) (on) (rA) (fi) (la) (wA) (wf) (wl) (lo) (ov) (un) (aT) (mi) (ds) (dA) (a0) (xp) (iA) (te) (E) (M) (x) (mv) (rs) (bl) (by_) (xc) (mm) C0 hA (hL) (hby) (hxc) (hxc2) (hmv) (hmm) (hk0) (lo1) (un1) (x) (mq) (v68) (xc) (mm + uu) (uu) H locs ls ((t68).trans (by omega)) ((t_mq).trans (by omega)) ((t_x).trans (by omega)) ((t_by_).trans (by omega)) (by exact hlo) (by exact hun) (by exact huu) (by omega) (by omega) (by intro h; exact hk0 (by omega)) (by omega) (va_Psub hP [0] rfl) (hD.sub [0] (by decide) rfl) hS (lv_sub hl [0, 1, 2, 3, 4, 5] rfl)
  · skip
    rw [q_cmp_eq t_mq t78] at b80
    refine lv_lload hx hb d_Model_packed_83 (lv_at hl 0 rfl) ?_
    refine lv_lstore (lv' := [(8, .long v68), (10, .long v68), (7, .int x), (6, .int by_), (5, .int bl), (0, .ref h0)]) hx hb d_Model_packed_85 hl (by decide) rfl (fun ls hl => ?_)
    obtain ⟨v87, e87⟩ : ∃ y : Int32, y = x + 1 := ⟨_, rfl⟩
    have t87 : v87.toInt = 1 - (bsE E : Int) + (xc : Int) + 1 := by rw [e87]; exact q_iadd t_x (show (1 : Int32).toInt = 1 by decide) (by omega)
    refine lv_iinc (v := v87) (lv' := [(7, .int v87), (8, .long v68), (10, .long v68), (6, .int by_), (5, .int bl), (0, .ref h0)]) hx hb d_Model_packed_87 hl (k := 2) rfl (by rw [e87]; rfl) (by decide) rfl (fun ls hl => ?_)
    exact L_Model_packed_90 (h0) (th) (we) (wm) (wy) (ra) (tA) (tn) (oA) (on) (rA) (fi) (la) (wA) (wf) (wl) (lo) (ov) (un) (aT) (mi) (ds) (dA) (a0) (xp) (iA) (te) (E) (M) (x) (mv) (rs) (bl) (by_) (xc) (mm) C0 hA (hL) (hby) (hxc) (hxc2) (hmv) (hmm) (hk0) (lo1) (un1) (v87) (v68) (v68) (xc + 1) (2 ^ M) (uu) H locs ls ((t68).trans (by omega)) ((t68).trans (by omega)) ((t87).trans (by omega)) ((t_by_).trans (by omega)) (by exact hlo) (by exact hun) (by exact huu) (by rw [Nat.add_mul, Nat.one_mul]; omega) (by omega) (by intro h; omega) (by omega) (va_Psub hP [0] rfl) (hD.sub [0] (by decide) rfl) hS (lv_sub hl [2, 1, 0, 3, 4, 5] rfl)
set_option maxHeartbeats 4000000 in
set_option maxRecDepth 100000 in
theorem L_Model_packed_37 {p : Program} {l : Launch} {e : Env} {s : State} {m : MethodId} {below : List Frame} {meth : Method} {c : Code} {dC : Nat → ClassId} {dI : Nat → Nat → Nat} {cI cB cJ : ClassId} {A : Nat → Prop} (h0 : Nat) (th : Int32) (we : Int32) (wm : Int32) (wy : Int32) (ra : Int32) (tA : Nat) (tn : Int32) (oA : Nat) (on : Int32) (rA : Nat) (fi : Int32) (la : Int32) (wA : Nat) (wf : Int32) (wl : Int32) (lo : Int32) (ov : Int32) (un : Int32) (aT : Int32) (mi : Int32) (ds : Int32) (dA : Nat) (a0 : Int32) (xp : Int32) (iA : Nat) (te : Int32) (E : Nat) (M : Nat) (x : Int32) (mv : Int64) (rs : Int32) (bl : Int32) (by_ : Int32) (xc : Nat) (mm : Nat) (C0 : cx dC dI cI cB cJ R_Model b_Model_packed 14 (some .long) p s m ([.ref h0, .int x, .long mv, .int rs, .int bl, .int by_] : List Value).toArray meth c) (hA : ∀ q : Nat, s.heap.size ≤ q → A q) (hL : LY we wm E M) (hby : 0 ≤ by_.toInt ∧ by_.toInt ≤ 4) (hxc : x.toInt = 1 - (bsE E : Int) + (xc : Int)) (hxc2 : xc ≤ 1200) (hmv : mv.toInt = (mm : Int)) (hmm : mm < 2 * 2 ^ M) (hk0 : mm < 2 ^ M → xc = 0) : (∀ (lo1 : Int32) (un1 : Int32) (H : Heap) (locs : List Loc) (ls : Array Slot), by_.toInt = by_.toInt → rs.toInt = rs.toInt → mv.toInt = (mm : Int) → x.toInt = 1 - (bsE E : Int) + (xc : Int) → ((lo1 = 1 ∧ 0 < rs.toInt) ∨ (lo1 = 0 ∧ ¬ 0 < rs.toInt)) → ((un1 = 1 ∧ ¬ un = 0 ∧ 0 < rs.toInt) ∨ (un1 = 0 ∧ ¬ (¬ un = 0 ∧ 0 < rs.toInt))) → va_P (dC, dI) vwCl [(h0, .inr (8, [.int th, .int we, .int wm, .int wy, .int ra, .ref tA, .int tn, .ref oA, .int on, .ref rA, .int fi, .int la, .ref wA, .int wf, .int wl, .int lo1, .int ov, .int un1, .int aT, .int mi, .int ds, .ref dA, .int a0, .int xp, .ref iA, .int te]))] H → va_D A [(h0, .inr (8, [.int th, .int we, .int wm, .int wy, .int ra, .ref tA, .int tn, .ref oA, .int on, .ref rA, .int fi, .int la, .ref wA, .int wf, .int wl, .int lo1, .int ov, .int un1, .int aT, .int mi, .int ds, .ref dA, .int a0, .int xp, .ref iA, .int te]))] → va_S A s.heap H locs → lv_has ls 14 [(6, .int by_), (5, .int bl), (4, .int rs), (2, .long mv), (1, .int x), (0, .ref h0)] → W p l e ({ frames := 1, cells := 0, slots := 0, locals := 25 } : Room) s m ([.ref h0, .int x, .long mv, .int rs, .int bl, .int by_] : List Value).toArray below meth c H locs 0 0 (MQ below (va_Ql (fun (r : Int64) (u : (Int32) × (Int32) × (Int32)) => ∃ uu : Nat, ((uu = 1 ∧ GUd by_.toInt rs.toInt (bl = 0) mm) ∨ (uu = 0 ∧ ¬ GUd by_.toInt rs.toInt (bl = 0) mm)) ∧ PK E M by_.toInt (¬ bl = 0) (xc * 2 ^ M + mm + uu) (0 < rs.toInt) r.toInt u.1 u.2.2 ∧ ((u.2.1 = 1 ∧ ¬ un = 0 ∧ 0 < rs.toInt) ∨ (u.2.1 = 0 ∧ ¬ (¬ un = 0 ∧ 0 < rs.toInt)))) (poG dC dI A (fun u : (Int32) × (Int32) × (Int32) => [(h0, .inr (8, [.int th, .int we, .int wm, .int wy, .int ra, .ref tA, .int tn, .ref oA, .int on, .ref rA, .int fi, .int la, .ref wA, .int wf, .int wl, .int u.1, .int u.2.2, .int u.2.1, .int aT, .int mi, .int ds, .ref dA, .int a0, .int xp, .ref iA, .int te]))])) A) ([.ref h0, .int x, .long mv, .int rs, .int bl, .int by_] : List Value).toArray s 0 0 A) (F0 m 37 ls [])) := by
  obtain ⟨hx, hb, hml, hown, hts, hr, hlocks, hK, hN⟩ := id C0
  intro lo1 un1 H locs ls t_by_ t_rs t_mv t_x hlo hun hP hD hS hl
  have r_by_ := q_r32 by_
  have r_rs := q_r32 rs
  have r_mv := q_r64 mv
  have r_x := q_r32 x
  obtain ⟨he, hm, hE1, hE2, hM1, hM2⟩ := id hL
  have hbz := p_bias hE1 hE2
  have hem := p_em hE1 hE2 hM1 hM2
  have hiz := iz_sb E M
  have hpm := p_m hM2
  have hpm1 := pw_p M
  have hpe := p_e hE1 hE2
  have hbs := bsE_r hE1 hE2
  refine lv_iload_n hx hb d_Model_packed_37 rfl (lv_at hl 4 rfl) ?_
  refine lv_istore (lv' := [(7, .int x), (6, .int by_), (5, .int bl), (4, .int rs), (2, .long mv), (1, .int x), (0, .ref h0)]) hx hb d_Model_packed_38 hl (by decide) rfl (fun ls hl => ?_)
  refine lv_aload_n hx hb d_Model_packed_40 rfl (lv_at hl 6 rfl) ?_
  refine lv_iload hx hb d_Model_packed_41 (lv_at hl 2 rfl) ?_
  refine lv_iload hx hb d_Model_packed_43 (lv_at hl 1 rfl) ?_
  refine lv_lload_n hx hb d_Model_packed_45 rfl (lv_at hl 4 rfl) ?_
  refine lv_iload hx hb d_Model_packed_46 (lv_at hl 3 rfl) ?_
  refine callV_i (wr := []) C0 (c_Model_goesUp l dC dI cI cB cJ (h0) (th) (we) (wm) (wy) (ra) (tA) (tn) (oA) (on) (rA) (fi) (la) (wA) (wf) (wl) (lo1) (ov) (un1) (aT) (mi) (ds) (dA) (a0) (xp) (iA) (te) (bl) (by_) (mv) (mm) (rs) (by exact hby) (by exact hmv)) (cwV 4 hts (gV m_665 m_666 m_25 m_55 m_667) rfl rfl rfl (by decide +kernel) ⟨Nat.le_of_ble_eq_true rfl, Nat.le_of_ble_eq_true rfl⟩) 8 rfl rfl 0 rfl hP hD hS hA [0] [] rfl rfl (by decide) (by decide) (by decide) rfl hl.1 rfl (Nat.le_of_ble_eq_true rfl) d_Model_packed_48 ⟨Nat.le_of_ble_eq_true rfl, Nat.le_of_ble_eq_true rfl⟩ (fun r48 u48 H locs hw9 hP hD hS => ?_)
  have h48 : (r48 = 1 ∧ ((by_.toInt = 0 ∧ (rs.toInt = 3 ∨ (rs.toInt = 2 ∧ mm % 2 = 1))) ∨ (by_.toInt = 2 ∧ 0 < rs.toInt ∧ bl = 0) ∨ (by_.toInt = 3 ∧ 0 < rs.toInt ∧ ¬ bl = 0) ∨ (by_.toInt = 4 ∧ 1 < rs.toInt))) ∨ (r48 = 0 ∧ ¬ ((by_.toInt = 0 ∧ (rs.toInt = 3 ∨ (rs.toInt = 2 ∧ mm % 2 = 1))) ∨ (by_.toInt = 2 ∧ 0 < rs.toInt ∧ bl = 0) ∨ (by_.toInt = 3 ∧ 0 < rs.toInt ∧ ¬ bl = 0) ∨ (by_.toInt = 4 ∧ 1 < rs.toInt))) := hw9
  have hP : va_P (dC, dI) vwCl [(h0, .inr (8, [.int th, .int we, .int wm, .int wy, .int ra, .ref tA, .int tn, .ref oA, .int on, .ref rA, .int fi, .int la, .ref wA, .int wf, .int wl, .int lo1, .int ov, .int un1, .int aT, .int mi, .int ds, .ref dA, .int a0, .int xp, .ref iA, .int te]))] H := hP
  have hD : va_D A [(h0, .inr (8, [.int th, .int we, .int wm, .int wy, .int ra, .ref tA, .int tn, .ref oA, .int on, .ref rA, .int fi, .int la, .ref wA, .int wf, .int wl, .int lo1, .int ov, .int un1, .int aT, .int mi, .int ds, .ref dA, .int a0, .int xp, .ref iA, .int te]))] := hD
  refine lv_if_eq (tgt := 60) hx hb d_Model_packed_51 (by decide) (fun b51 => ?_) (fun b51 => ?_)
  · skip
    refine lv_lload_n hx hb d_Model_packed_60 rfl (lv_at hl 4 rfl) ?_
    refine lv_lstore (lv' := [(8, .long mv), (7, .int x), (6, .int by_), (5, .int bl), (4, .int rs), (2, .long mv), (1, .int x), (0, .ref h0)]) hx hb d_Model_packed_61 hl (by decide) rfl (fun ls hl => ?_)
    exact L_Model_packed_63 (h0) (th) (we) (wm) (wy) (ra) (tA) (tn) (oA) (on) (rA) (fi) (la) (wA) (wf) (wl) (lo) (ov) (un) (aT) (mi) (ds) (dA) (a0) (xp) (iA) (te) (E) (M) (x) (mv) (rs) (bl) (by_) (xc) (mm) C0 hA (hL) (hby) (hxc) (hxc2) (hmv) (hmm) (hk0) (lo1) (un1) (mv) (0) H locs ls ((t_mv).trans (by omega)) ((t_x).trans (by omega)) ((t_by_).trans (by omega)) (by exact hlo) (by exact hun) (by exact Or.inr ⟨rfl, h48.elim (fun h => absurd (h.1.symm.trans b51) (by decide)) (fun h => h.2)⟩) (va_Psub hP [0] rfl) (hD.sub [0] (by decide) rfl) hS (lv_sub hl [0, 1, 2, 3, 7] rfl)
  · skip
    refine lv_lload_n hx hb d_Model_packed_54 rfl (lv_at hl 4 rfl) ?_
    refine lv_lconst (v := 1) hx hb d_Model_packed_55 (by decide) ?_
    refine lv_ladd hx hb d_Model_packed_56 ?_
    refine lv_topl (fun v56 e56 => ?_)
    have t56 : v56.toInt = (mm : Int) + 1 := by rw [e56]; exact q_ladd t_mv (show (1 : Int64).toInt = 1 by decide) (by omega)
    refine lv_goto (tgt := 61) hx hb d_Model_packed_57 (by decide) ?_
    refine lv_lstore (lv' := [(8, .long v56), (7, .int x), (6, .int by_), (5, .int bl), (4, .int rs), (2, .long mv), (1, .int x), (0, .ref h0)]) hx hb d_Model_packed_61 hl (by decide) rfl (fun ls hl => ?_)
    exact L_Model_packed_63 (h0) (th) (we) (wm) (wy) (ra) (tA) (tn) (oA) (on) (rA) (fi) (la) (wA) (wf) (wl) (lo) (ov) (un) (aT) (mi) (ds) (dA) (a0) (xp) (iA) (te) (E) (M) (x) (mv) (rs) (bl) (by_) (xc) (mm) C0 hA (hL) (hby) (hxc) (hxc2) (hmv) (hmm) (hk0) (lo1) (un1) (v56) (1) H locs ls ((t56).trans (by omega)) ((t_x).trans (by omega)) ((t_by_).trans (by omega)) (by exact hlo) (by exact hun) (by exact Or.inl ⟨rfl, h48.elim (fun h => h.2) (fun h => absurd h.1 b51)⟩) (va_Psub hP [0] rfl) (hD.sub [0] (by decide) rfl) hS (lv_sub hl [0, 1, 2, 3, 7] rfl)
set_option maxHeartbeats 4000000 in
set_option maxRecDepth 100000 in
theorem c_Model_packed (l : Launch) (dC : Nat → ClassId) (dI : Nat → Nat → Nat) (cI cB cJ : ClassId) (h0 : Nat) (th : Int32) (we : Int32) (wm : Int32) (wy : Int32) (ra : Int32) (tA : Nat) (tn : Int32) (oA : Nat) (on : Int32) (rA : Nat) (fi : Int32) (la : Int32) (wA : Nat) (wf : Int32) (wl : Int32) (lo : Int32) (ov : Int32) (un : Int32) (aT : Int32) (mi : Int32) (ds : Int32) (dA : Nat) (a0 : Int32) (xp : Int32) (iA : Nat) (te : Int32) (E : Nat) (M : Nat) (x : Int32) (mv : Int64) (rs : Int32) (bl : Int32) (by_ : Int32) (xc : Nat) (mm : Nat) (hL : LY we wm E M) (hby : 0 ≤ by_.toInt ∧ by_.toInt ≤ 4) (hxc : x.toInt = 1 - (bsE E : Int) + (xc : Int)) (hxc2 : xc ≤ 1200) (hmv : mv.toInt = (mm : Int)) (hmm : mm < 2 * 2 ^ M) (hk0 : mm < 2 ^ M → xc = 0) : Cl l dC dI cI cB cJ y_Model_packed w_Model_packed ({ frames := 1, cells := 0, slots := 0, locals := 25 } : Room) [.ref h0, .int x, .long mv, .int rs, .int bl, .int by_] [(h0, .inr (8, [.int th, .int we, .int wm, .int wy, .int ra, .ref tA, .int tn, .ref oA, .int on, .ref rA, .int fi, .int la, .ref wA, .int wf, .int wl, .int lo, .int ov, .int un, .int aT, .int mi, .int ds, .ref dA, .int a0, .int xp, .ref iA, .int te]))] (fun (r : Int64) (u : (Int32) × (Int32) × (Int32)) => ∃ uu : Nat, ((uu = 1 ∧ GUd by_.toInt rs.toInt (bl = 0) mm) ∨ (uu = 0 ∧ ¬ GUd by_.toInt rs.toInt (bl = 0) mm)) ∧ PK E M by_.toInt (¬ bl = 0) (xc * 2 ^ M + mm + uu) (0 < rs.toInt) r.toInt u.1 u.2.2 ∧ ((u.2.1 = 1 ∧ ¬ un = 0 ∧ 0 < rs.toInt) ∨ (u.2.1 = 0 ∧ ¬ (¬ un = 0 ∧ 0 < rs.toInt)))) (fun u : (Int32) × (Int32) × (Int32) => [(h0, .inr (8, [.int th, .int we, .int wm, .int wy, .int ra, .ref tA, .int tn, .ref oA, .int on, .ref rA, .int fi, .int la, .ref wA, .int wf, .int wl, .int u.1, .int u.2.2, .int u.2.1, .int aT, .int mi, .int ds, .ref dA, .int a0, .int xp, .ref iA, .int te]))]) := by
  refine Cl.intro (cc := b_Model_packed) (maxL := 14) (plainFor_of_name (by decide)) rfl (Nat.le_of_ble_eq_true rfl) ?_
  intro p e s m below meth c A ls C0 hin hA hP hD hS hl
  obtain ⟨hx, hb, hml, hown, hts, hr, hlocks, hK, hN⟩ := id C0
  obtain ⟨H, hH⟩ : ∃ H, H = s.heap := ⟨_, rfl⟩
  have hP : va_P (dC, dI) vwCl [(h0, .inr (8, [.int th, .int we, .int wm, .int wy, .int ra, .ref tA, .int tn, .ref oA, .int on, .ref rA, .int fi, .int la, .ref wA, .int wf, .int wl, .int lo, .int ov, .int un, .int aT, .int mi, .int ds, .ref dA, .int a0, .int xp, .ref iA, .int te]))] s.heap := hP
  have hl : lv_has ls 14 [(0, .ref h0), (1, .int x), (2, .long mv), (4, .int rs), (5, .int bl), (6, .int by_)] := hl
  have r_x := q_r32 x
  have r_mv := q_r64 mv
  have r_rs := q_r32 rs
  have r_by_ := q_r32 by_
  suffices h : ∀ (H : Heap) (locs : List Loc), va_P (dC, dI) vwCl [(h0, .inr (8, [.int th, .int we, .int wm, .int wy, .int ra, .ref tA, .int tn, .ref oA, .int on, .ref rA, .int fi, .int la, .ref wA, .int wf, .int wl, .int lo, .int ov, .int un, .int aT, .int mi, .int ds, .ref dA, .int a0, .int xp, .ref iA, .int te]))] H → va_D A [(h0, .inr (8, [.int th, .int we, .int wm, .int wy, .int ra, .ref tA, .int tn, .ref oA, .int on, .ref rA, .int fi, .int la, .ref wA, .int wf, .int wl, .int lo, .int ov, .int un, .int aT, .int mi, .int ds, .ref dA, .int a0, .int xp, .ref iA, .int te]))] → va_S A s.heap H locs → W p l e ({ frames := 1, cells := 0, slots := 0, locals := 25 } : Room) s m ([.ref h0, .int x, .long mv, .int rs, .int bl, .int by_] : List Value).toArray below meth c H locs 0 0 (MQ below (va_Ql (fun (r : Int64) (u : (Int32) × (Int32) × (Int32)) => ∃ uu : Nat, ((uu = 1 ∧ GUd by_.toInt rs.toInt (bl = 0) mm) ∨ (uu = 0 ∧ ¬ GUd by_.toInt rs.toInt (bl = 0) mm)) ∧ PK E M by_.toInt (¬ bl = 0) (xc * 2 ^ M + mm + uu) (0 < rs.toInt) r.toInt u.1 u.2.2 ∧ ((u.2.1 = 1 ∧ ¬ un = 0 ∧ 0 < rs.toInt) ∨ (u.2.1 = 0 ∧ ¬ (¬ un = 0 ∧ 0 < rs.toInt)))) (poG dC dI A (fun u : (Int32) × (Int32) × (Int32) => [(h0, .inr (8, [.int th, .int we, .int wm, .int wy, .int ra, .ref tA, .int tn, .ref oA, .int on, .ref rA, .int fi, .int la, .ref wA, .int wf, .int wl, .int u.1, .int u.2.2, .int u.2.1, .int aT, .int mi, .int ds, .ref dA, .int a0, .int xp, .ref iA, .int te]))])) A) ([.ref h0, .int x, .long mv, .int rs, .int bl, .int by_] : List Value).toArray s 0 0 A) (F0 m 0 ls []) from h _ _ hP hD hS
  clear hP hD hS hH H
  intro H locs hP hD hS
  obtain ⟨he, hm, hE1, hE2, hM1, hM2⟩ := id hL
  have hbz := p_bias hE1 hE2
  have hem := p_em hE1 hE2 hM1 hM2
  have hiz := iz_sb E M
  have hpm := p_m hM2
  have hpm1 := pw_p M
  have hpe := p_e hE1 hE2
  have hbs := bsE_r hE1 hE2
  refine lv_aload_n hx hb d_Model_packed_0 rfl (lv_at hl 0 rfl) ?_
  refine lv_iload hx hb d_Model_packed_1 (lv_at hl 3 rfl) ?_
  refine lv_if_le (tgt := 10) hx hb d_Model_packed_3 (by decide) (fun b3 => ?_) (fun b3 => ?_)
  · skip
    rw [q_ile (rfl : rs.toInt = rs.toInt) (show (0 : Int32).toInt = 0 by decide)] at b3
    refine lv_iconst (v := 0) hx hb d_Model_packed_10 (by decide) ?_
    refine va_put (D := (dC, dI)) (ci := 8) (v := .int 0) (ty := .boolean) (C := R_Model) (T := F_Model) (N := 26) hx hb hts u_Model t_Model t_Model_ok n_Model hown hK hP hD hS 0 rfl rfl 15 (by decide) (hts _ m_578) (fun _ h9 => h9) rfl (by decide +kernel) rfl rfl (Nat.le_of_ble_eq_true rfl) d_Model_packed_11 (fun H locs hP hD hS => ?_)
    have hP : va_P (dC, dI) vwCl [(h0, .inr (8, [.int th, .int we, .int wm, .int wy, .int ra, .ref tA, .int tn, .ref oA, .int on, .ref rA, .int fi, .int la, .ref wA, .int wf, .int wl, .int 0, .int ov, .int un, .int aT, .int mi, .int ds, .ref dA, .int a0, .int xp, .ref iA, .int te]))] H := hP
    have hD : va_D A [(h0, .inr (8, [.int th, .int we, .int wm, .int wy, .int ra, .ref tA, .int tn, .ref oA, .int on, .ref rA, .int fi, .int la, .ref wA, .int wf, .int wl, .int 0, .int ov, .int un, .int aT, .int mi, .int ds, .ref dA, .int a0, .int xp, .ref iA, .int te]))] := hD
    refine lv_aload_n hx hb d_Model_packed_14 rfl (lv_at hl 0 rfl) ?_
    refine lv_aload_n hx hb d_Model_packed_15 rfl (lv_at hl 0 rfl) ?_
    refine va_get (D := (dC, dI)) (ci := 8) (v := .int un) (C := R_Model) (T := F_Model) (N := 26) hx hb hts u_Model hown hK hP 0 rfl rfl 17 (by decide) (hts _ m_580) (fun _ h9 => h9) rfl d_Model_packed_16 ?_
    refine lv_if_eq (tgt := 33) hx hb d_Model_packed_19 (by decide) (fun b19 => ?_) (fun b19 => ?_)
    · skip
      refine lv_iconst (v := 0) hx hb d_Model_packed_33 (by decide) ?_
      refine va_put (D := (dC, dI)) (ci := 8) (v := .int 0) (ty := .boolean) (C := R_Model) (T := F_Model) (N := 26) hx hb hts u_Model t_Model t_Model_ok n_Model hown hK hP hD hS 0 rfl rfl 17 (by decide) (hts _ m_580) (fun _ h9 => h9) rfl (by decide +kernel) rfl rfl (Nat.le_of_ble_eq_true rfl) d_Model_packed_34 (fun H locs hP hD hS => ?_)
      have hP : va_P (dC, dI) vwCl [(h0, .inr (8, [.int th, .int we, .int wm, .int wy, .int ra, .ref tA, .int tn, .ref oA, .int on, .ref rA, .int fi, .int la, .ref wA, .int wf, .int wl, .int 0, .int ov, .int 0, .int aT, .int mi, .int ds, .ref dA, .int a0, .int xp, .ref iA, .int te]))] H := hP
      have hD : va_D A [(h0, .inr (8, [.int th, .int we, .int wm, .int wy, .int ra, .ref tA, .int tn, .ref oA, .int on, .ref rA, .int fi, .int la, .ref wA, .int wf, .int wl, .int 0, .int ov, .int 0, .int aT, .int mi, .int ds, .ref dA, .int a0, .int xp, .ref iA, .int te]))] := hD
      exact L_Model_packed_37 (h0) (th) (we) (wm) (wy) (ra) (tA) (tn) (oA) (on) (rA) (fi) (la) (wA) (wf) (wl) (lo) (ov) (un) (aT) (mi) (ds) (dA) (a0) (xp) (iA) (te) (E) (M) (x) (mv) (rs) (bl) (by_) (xc) (mm) C0 hA (hL) (hby) (hxc) (hxc2) (hmv) (hmm) (hk0) (0) (0) H locs ls (((rfl : by_.toInt = by_.toInt)).trans (by omega)) (((rfl : rs.toInt = rs.toInt)).trans (by omega)) ((hmv).trans (by omega)) ((hxc).trans (by omega)) (by exact Or.inr ⟨rfl, by omega⟩) (by exact Or.inr ⟨rfl, fun h => h.1 b19⟩) (va_Psub hP [0] rfl) (hD.sub [0] (by decide) rfl) hS (lv_sub hl [5, 4, 3, 2, 1, 0] rfl)
    · skip
      refine lv_aload_n hx hb d_Model_packed_22 rfl (lv_at hl 0 rfl) ?_
      refine va_get (D := (dC, dI)) (ci := 8) (v := .int 0) (C := R_Model) (T := F_Model) (N := 26) hx hb hts u_Model hown hK hP 0 rfl rfl 15 (by decide) (hts _ m_578) (fun _ h9 => h9) rfl d_Model_packed_23 ?_
      refine lv_if_eq (tgt := 33) hx hb d_Model_packed_26 (by decide) (fun b26 => ?_) (fun b26 => ?_)
      · skip
        rw [q_ieq (show (0 : Int32).toInt = 0 by decide) (show (0 : Int32).toInt = 0 by decide)] at b26
        refine lv_iconst (v := 0) hx hb d_Model_packed_33 (by decide) ?_
        refine va_put (D := (dC, dI)) (ci := 8) (v := .int 0) (ty := .boolean) (C := R_Model) (T := F_Model) (N := 26) hx hb hts u_Model t_Model t_Model_ok n_Model hown hK hP hD hS 0 rfl rfl 17 (by decide) (hts _ m_580) (fun _ h9 => h9) rfl (by decide +kernel) rfl rfl (Nat.le_of_ble_eq_true rfl) d_Model_packed_34 (fun H locs hP hD hS => ?_)
        have hP : va_P (dC, dI) vwCl [(h0, .inr (8, [.int th, .int we, .int wm, .int wy, .int ra, .ref tA, .int tn, .ref oA, .int on, .ref rA, .int fi, .int la, .ref wA, .int wf, .int wl, .int 0, .int ov, .int 0, .int aT, .int mi, .int ds, .ref dA, .int a0, .int xp, .ref iA, .int te]))] H := hP
        have hD : va_D A [(h0, .inr (8, [.int th, .int we, .int wm, .int wy, .int ra, .ref tA, .int tn, .ref oA, .int on, .ref rA, .int fi, .int la, .ref wA, .int wf, .int wl, .int 0, .int ov, .int 0, .int aT, .int mi, .int ds, .ref dA, .int a0, .int xp, .ref iA, .int te]))] := hD
        exact L_Model_packed_37 (h0) (th) (we) (wm) (wy) (ra) (tA) (tn) (oA) (on) (rA) (fi) (la) (wA) (wf) (wl) (lo) (ov) (un) (aT) (mi) (ds) (dA) (a0) (xp) (iA) (te) (E) (M) (x) (mv) (rs) (bl) (by_) (xc) (mm) C0 hA (hL) (hby) (hxc) (hxc2) (hmv) (hmm) (hk0) (0) (0) H locs ls (((rfl : by_.toInt = by_.toInt)).trans (by omega)) (((rfl : rs.toInt = rs.toInt)).trans (by omega)) ((hmv).trans (by omega)) ((hxc).trans (by omega)) (by exact Or.inr ⟨rfl, by omega⟩) (by exact Or.inr ⟨rfl, fun h => by have := h.2; omega⟩) (va_Psub hP [0] rfl) (hD.sub [0] (by decide) rfl) hS (lv_sub hl [5, 4, 3, 2, 1, 0] rfl)
      · skip
        rw [q_ieq (show (0 : Int32).toInt = 0 by decide) (show (0 : Int32).toInt = 0 by decide)] at b26
        exact absurd b26 (by omega)
  · skip
    rw [q_ile (rfl : rs.toInt = rs.toInt) (show (0 : Int32).toInt = 0 by decide)] at b3
    refine lv_iconst (v := 1) hx hb d_Model_packed_6 (by decide) ?_
    refine lv_goto (tgt := 11) hx hb d_Model_packed_7 (by decide) ?_
    refine va_put (D := (dC, dI)) (ci := 8) (v := .int 1) (ty := .boolean) (C := R_Model) (T := F_Model) (N := 26) hx hb hts u_Model t_Model t_Model_ok n_Model hown hK hP hD hS 0 rfl rfl 15 (by decide) (hts _ m_578) (fun _ h9 => h9) rfl (by decide +kernel) rfl rfl (Nat.le_of_ble_eq_true rfl) d_Model_packed_11 (fun H locs hP hD hS => ?_)
    have hP : va_P (dC, dI) vwCl [(h0, .inr (8, [.int th, .int we, .int wm, .int wy, .int ra, .ref tA, .int tn, .ref oA, .int on, .ref rA, .int fi, .int la, .ref wA, .int wf, .int wl, .int 1, .int ov, .int un, .int aT, .int mi, .int ds, .ref dA, .int a0, .int xp, .ref iA, .int te]))] H := hP
    have hD : va_D A [(h0, .inr (8, [.int th, .int we, .int wm, .int wy, .int ra, .ref tA, .int tn, .ref oA, .int on, .ref rA, .int fi, .int la, .ref wA, .int wf, .int wl, .int 1, .int ov, .int un, .int aT, .int mi, .int ds, .ref dA, .int a0, .int xp, .ref iA, .int te]))] := hD
    refine lv_aload_n hx hb d_Model_packed_14 rfl (lv_at hl 0 rfl) ?_
    refine lv_aload_n hx hb d_Model_packed_15 rfl (lv_at hl 0 rfl) ?_
    refine va_get (D := (dC, dI)) (ci := 8) (v := .int un) (C := R_Model) (T := F_Model) (N := 26) hx hb hts u_Model hown hK hP 0 rfl rfl 17 (by decide) (hts _ m_580) (fun _ h9 => h9) rfl d_Model_packed_16 ?_
    refine lv_if_eq (tgt := 33) hx hb d_Model_packed_19 (by decide) (fun b19 => ?_) (fun b19 => ?_)
    · skip
      refine lv_iconst (v := 0) hx hb d_Model_packed_33 (by decide) ?_
      refine va_put (D := (dC, dI)) (ci := 8) (v := .int 0) (ty := .boolean) (C := R_Model) (T := F_Model) (N := 26) hx hb hts u_Model t_Model t_Model_ok n_Model hown hK hP hD hS 0 rfl rfl 17 (by decide) (hts _ m_580) (fun _ h9 => h9) rfl (by decide +kernel) rfl rfl (Nat.le_of_ble_eq_true rfl) d_Model_packed_34 (fun H locs hP hD hS => ?_)
      have hP : va_P (dC, dI) vwCl [(h0, .inr (8, [.int th, .int we, .int wm, .int wy, .int ra, .ref tA, .int tn, .ref oA, .int on, .ref rA, .int fi, .int la, .ref wA, .int wf, .int wl, .int 1, .int ov, .int 0, .int aT, .int mi, .int ds, .ref dA, .int a0, .int xp, .ref iA, .int te]))] H := hP
      have hD : va_D A [(h0, .inr (8, [.int th, .int we, .int wm, .int wy, .int ra, .ref tA, .int tn, .ref oA, .int on, .ref rA, .int fi, .int la, .ref wA, .int wf, .int wl, .int 1, .int ov, .int 0, .int aT, .int mi, .int ds, .ref dA, .int a0, .int xp, .ref iA, .int te]))] := hD
      exact L_Model_packed_37 (h0) (th) (we) (wm) (wy) (ra) (tA) (tn) (oA) (on) (rA) (fi) (la) (wA) (wf) (wl) (lo) (ov) (un) (aT) (mi) (ds) (dA) (a0) (xp) (iA) (te) (E) (M) (x) (mv) (rs) (bl) (by_) (xc) (mm) C0 hA (hL) (hby) (hxc) (hxc2) (hmv) (hmm) (hk0) (1) (0) H locs ls (((rfl : by_.toInt = by_.toInt)).trans (by omega)) (((rfl : rs.toInt = rs.toInt)).trans (by omega)) ((hmv).trans (by omega)) ((hxc).trans (by omega)) (by exact Or.inl ⟨rfl, by omega⟩) (by exact Or.inr ⟨rfl, fun h => h.1 b19⟩) (va_Psub hP [0] rfl) (hD.sub [0] (by decide) rfl) hS (lv_sub hl [5, 4, 3, 2, 1, 0] rfl)
    · skip
      refine lv_aload_n hx hb d_Model_packed_22 rfl (lv_at hl 0 rfl) ?_
      refine va_get (D := (dC, dI)) (ci := 8) (v := .int 1) (C := R_Model) (T := F_Model) (N := 26) hx hb hts u_Model hown hK hP 0 rfl rfl 15 (by decide) (hts _ m_578) (fun _ h9 => h9) rfl d_Model_packed_23 ?_
      refine lv_if_eq (tgt := 33) hx hb d_Model_packed_26 (by decide) (fun b26 => ?_) (fun b26 => ?_)
      · skip
        rw [q_ieq (show (1 : Int32).toInt = 1 by decide) (show (0 : Int32).toInt = 0 by decide)] at b26
        exact absurd b26 (by omega)
      · skip
        rw [q_ieq (show (1 : Int32).toInt = 1 by decide) (show (0 : Int32).toInt = 0 by decide)] at b26
        refine lv_iconst (v := 1) hx hb d_Model_packed_29 (by decide) ?_
        refine lv_goto (tgt := 34) hx hb d_Model_packed_30 (by decide) ?_
        refine va_put (D := (dC, dI)) (ci := 8) (v := .int 1) (ty := .boolean) (C := R_Model) (T := F_Model) (N := 26) hx hb hts u_Model t_Model t_Model_ok n_Model hown hK hP hD hS 0 rfl rfl 17 (by decide) (hts _ m_580) (fun _ h9 => h9) rfl (by decide +kernel) rfl rfl (Nat.le_of_ble_eq_true rfl) d_Model_packed_34 (fun H locs hP hD hS => ?_)
        have hP : va_P (dC, dI) vwCl [(h0, .inr (8, [.int th, .int we, .int wm, .int wy, .int ra, .ref tA, .int tn, .ref oA, .int on, .ref rA, .int fi, .int la, .ref wA, .int wf, .int wl, .int 1, .int ov, .int 1, .int aT, .int mi, .int ds, .ref dA, .int a0, .int xp, .ref iA, .int te]))] H := hP
        have hD : va_D A [(h0, .inr (8, [.int th, .int we, .int wm, .int wy, .int ra, .ref tA, .int tn, .ref oA, .int on, .ref rA, .int fi, .int la, .ref wA, .int wf, .int wl, .int 1, .int ov, .int 1, .int aT, .int mi, .int ds, .ref dA, .int a0, .int xp, .ref iA, .int te]))] := hD
        exact L_Model_packed_37 (h0) (th) (we) (wm) (wy) (ra) (tA) (tn) (oA) (on) (rA) (fi) (la) (wA) (wf) (wl) (lo) (ov) (un) (aT) (mi) (ds) (dA) (a0) (xp) (iA) (te) (E) (M) (x) (mv) (rs) (bl) (by_) (xc) (mm) C0 hA (hL) (hby) (hxc) (hxc2) (hmv) (hmm) (hk0) (1) (1) H locs ls (((rfl : by_.toInt = by_.toInt)).trans (by omega)) (((rfl : rs.toInt = rs.toInt)).trans (by omega)) ((hmv).trans (by omega)) ((hxc).trans (by omega)) (by exact Or.inl ⟨rfl, by omega⟩) (by exact Or.inl ⟨rfl, b19, by omega⟩) (va_Psub hP [0] rfl) (hD.sub [0] (by decide) rfl) hS (lv_sub hl [5, 4, 3, 2, 1, 0] rfl)
set_option maxHeartbeats 4000000 in
set_option maxRecDepth 100000 in
theorem L_Model_rounded_85 {p : Program} {l : Launch} {e : Env} {s : State} {m : MethodId} {below : List Frame} {meth : Method} {c : Code} {dC : Nat → ClassId} {dI : Nat → Nat → Nat} {cI cB cJ : ClassId} {A : Nat → Prop} (h0 : Nat) (th : Int32) (we : Int32) (wm : Int32) (wy : Int32) (ra : Int32) (tA : Nat) (tn : Int32) (oA : Nat) (on : Int32) (rA : Nat) (fi : Int32) (la : Int32) (wA : Nat) (wf : Int32) (wl : Int32) (lo : Int32) (ov : Int32) (un : Int32) (aT : Int32) (mi : Int32) (ds : Int32) (dA : Nat) (a0 : Int32) (xp : Int32) (iA : Nat) (te : Int32) (E : Nat) (M : Nat) (f : Nat → Int32) (n1 : Nat) (n2 : Nat) (bl : Int32) (by_ : Int32) (C0 : cx dC dI cI cB cJ R_Model b_Model_rounded 8 (some .long) p s m ([.ref h0, .int bl, .int by_] : List Value).toArray meth c) (hA : ∀ q : Nat, s.heap.size ≤ q → A q) (hL : LY we wm E M) (hfi : fi.toInt = (n1 : Int)) (hla : la.toInt = (n2 : Int)) (hR : RWp f n1 n2) (hby : 0 ≤ by_.toInt ∧ by_.toInt ≤ 4) (hpos : 0 < sv f 400) (hbig : sv f 400 < 10 ^ 46 * 10 ^ 339) (hn1 : 1 ≤ n1) (hn2 : n2 ≤ 240) : ∀ n : Nat, (∀ (x3 : Int32) (K : Int) (x5 : Int64) (mm : Nat) (x7 : Int32) (j9 : Nat) (k : Nat → Int32) (fi1 : Int32) (la1 : Int32) (n4 : Nat) (un1 : Int32) (S0 : Nat) (H : Heap) (locs : List Loc) (ls : Array Slot), M - j9 < n → x7.toInt = (j9 : Int) → x5.toInt = (mm : Int) → x3.toInt = K → by_.toInt = by_.toInt → (fi1.toInt = 60) → (la1.toInt = (n4 : Int)) → (RWp k 60 n4) → (S0 * 2 ^ K.toNat = sv f 400 * 2 ^ (-K).toNat) → (S0 < 2 * 10 ^ 339) → (S0 * 2 ^ j9 = mm * 10 ^ 339 + sv k 400) → (sv k 400 < 10 ^ 339) → (1 - (bsE E : Int) ≤ K) → (K ≤ 200) → (K = 1 - (bsE E : Int) ∨ 10 ^ 339 ≤ S0) → (n4 ≤ 398) → (j9 ≤ M) → ((un1 = 1 ∧ S0 < 10 ^ 339) ∨ (un1 = 0 ∧ ¬ S0 < 10 ^ 339)) → va_P (dC, dI) vwCl [(h0, .inr (8, [.int th, .int we, .int wm, .int wy, .int ra, .ref tA, .int tn, .ref oA, .int on, .ref rA, .int fi1, .int la1, .ref wA, .int wf, .int wl, .int lo, .int ov, .int un1, .int aT, .int mi, .int ds, .ref dA, .int a0, .int xp, .ref iA, .int te])), (rA, .inl (cI, 400, .inl k))] H → va_D A [(h0, .inr (8, [.int th, .int we, .int wm, .int wy, .int ra, .ref tA, .int tn, .ref oA, .int on, .ref rA, .int fi1, .int la1, .ref wA, .int wf, .int wl, .int lo, .int ov, .int un1, .int aT, .int mi, .int ds, .ref dA, .int a0, .int xp, .ref iA, .int te])), (rA, .inl (cI, 400, .inl k))] → va_S A s.heap H locs → lv_has ls 8 [(7, .int x7), (5, .long x5), (3, .int x3), (2, .int by_), (1, .int bl), (0, .ref h0)] → W p l e ({ frames := 2, cells := 0, slots := 0, locals := 58 } : Room) s m ([.ref h0, .int bl, .int by_] : List Value).toArray below meth c H locs 0 0 (MQ below (va_Ql (fun (r : Int64) (u : (Nat → Int32) × (Int32) × (Int32) × (Int32) × (Int32) × (Int32)) => ∃ (Z : Nat) (ix ty : Prop), RS (sv f 400) (10 ^ 339) E M by_.toInt (¬ bl = 0) Z ix ty ∧ RR E M by_.toInt (¬ bl = 0) Z ix ty r.toInt u.2.2.2.1 u.2.2.2.2.2 u.2.2.2.2.1) (poG dC dI A (fun u : (Nat → Int32) × (Int32) × (Int32) × (Int32) × (Int32) × (Int32) => [(h0, .inr (8, [.int th, .int we, .int wm, .int wy, .int ra, .ref tA, .int tn, .ref oA, .int on, .ref rA, .int u.2.1, .int u.2.2.1, .ref wA, .int wf, .int wl, .int u.2.2.2.1, .int u.2.2.2.2.2, .int u.2.2.2.2.1, .int aT, .int mi, .int ds, .ref dA, .int a0, .int xp, .ref iA, .int te])), (rA, .inl (cI, 400, .inl u.1))])) A) ([.ref h0, .int bl, .int by_] : List Value).toArray s 0 0 A) (F0 m 85 ls [])) := by
  obtain ⟨hx, hb, hml, hown, hts, hr, hlocks, hK, hN⟩ := id C0
  intro n
  induction n with
  | zero => exact fun _ _ _ _ _ _ _ _ _ _ _ _ _ _ _ h0 _ _ _ _ _ _ _ _ _ _ _ _ _ _ _ _ _ _ _ _ _ => absurd h0 (Nat.not_lt_zero _)
  | succ n ih =>
    intro x3 K x5 mm x7 j9 k fi1 la1 n4 un1 S0 H locs ls hn9 t_x7 t_x5 t_x3 t_by_ t_fi1 t_la1 hRk hSq hS2 hj hfr hKl hKh hKg hn4 hjM hun hP hD hS hl
    have r_x7 := q_r32 x7
    have r_x5 := q_r64 x5
    have r_x3 := q_r32 x3
    have r_by_ := q_r32 by_
    obtain ⟨he, hm, hE1, hE2, hM1, hM2⟩ := id hL
    have hbz := p_bias hE1 hE2
    have hem := p_em hE1 hE2 hM1 hM2
    have hiz := iz_sb E M
    have hpm := p_m hM2
    have hpm1 := pw_p M
    have hpe := p_e hE1 hE2
    have hbs := bsE_r hE1 hE2
    have hR6 := hR.2.2.2
    refine lv_iload hx hb d_Model_rounded_85 (lv_at hl 0 rfl) ?_
    refine lv_aload_n hx hb d_Model_rounded_87 rfl (lv_at hl 5 rfl) ?_
    refine va_get (D := (dC, dI)) (ci := 8) (v := .int wm) (C := R_Model) (T := F_Model) (N := 26) hx hb hts u_Model hown hK hP 0 rfl rfl 2 (by decide) (hts _ m_565) (fun _ h9 => h9) rfl d_Model_rounded_88 ?_
    refine lv_icmp_ge (tgt := 135) hx hb d_Model_rounded_91 (by decide) (fun b91 => ?_) (fun b91 => ?_)
    · skip
      rw [q_ile hm t_x7] at b91
      have hjm : M = j9 := by omega
      subst hjm
      have hlow : mm < 2 ^ M → (K - (1 - (bsE E : Int))).toNat = 0 := fun h => by rcases hKg with h2 | h2; omega; have h3 := mm_ge hj hfr h2; omega
      refine lv_aload_n hx hb d_Model_rounded_135 rfl (lv_at hl 5 rfl) ?_
      refine lv_iload_n hx hb d_Model_rounded_136 rfl (lv_at hl 2 rfl) ?_
      refine lv_lload hx hb d_Model_rounded_137 (lv_at hl 1 rfl) ?_
      refine lv_aload_n hx hb d_Model_rounded_139 rfl (lv_at hl 5 rfl) ?_
      refine callV_i (wr := []) C0 (c_Model_behind l dC dI cI cB cJ (h0) (th) (we) (wm) (wy) (ra) (tA) (tn) (oA) (on) (rA) (fi1) (la1) (wA) (wf) (wl) (lo) (ov) (un1) (aT) (mi) (ds) (dA) (a0) (xp) (iA) (te) (k) ((60 : Nat)) (n4) (by exact t_fi1.trans rfl) (by exact t_la1) (by exact hRk)) (cwV 0 hts (gV m_693 m_694 m_34 m_55 m_695) rfl rfl rfl (by decide +kernel) ⟨Nat.le_of_ble_eq_true rfl, Nat.le_of_ble_eq_true rfl⟩) 8 rfl rfl 0 rfl hP hD hS hA [0, 1] [] rfl rfl (by decide) (by decide) (by decide) rfl hl.1 rfl (Nat.le_of_ble_eq_true rfl) d_Model_rounded_140 ⟨Nat.le_of_ble_eq_true rfl, Nat.le_of_ble_eq_true rfl⟩ (fun r140 u140 H locs hw9 hP hD hS => ?_)
      have h140 : HB (sv k 339) r140.toInt := hw9
      have hP : va_P (dC, dI) vwCl [(h0, .inr (8, [.int th, .int we, .int wm, .int wy, .int ra, .ref tA, .int tn, .ref oA, .int on, .ref rA, .int fi1, .int la1, .ref wA, .int wf, .int wl, .int lo, .int ov, .int un1, .int aT, .int mi, .int ds, .ref dA, .int a0, .int xp, .ref iA, .int te])), (rA, .inl (cI, 400, .inl k))] H := hP
      have hD : va_D A [(h0, .inr (8, [.int th, .int we, .int wm, .int wy, .int ra, .ref tA, .int tn, .ref oA, .int on, .ref rA, .int fi1, .int la1, .ref wA, .int wf, .int wl, .int lo, .int ov, .int un1, .int aT, .int mi, .int ds, .ref dA, .int a0, .int xp, .ref iA, .int te])), (rA, .inl (cI, 400, .inl k))] := hD
      refine lv_iload_n hx hb d_Model_rounded_143 rfl (lv_at hl 4 rfl) ?_
      refine lv_iload_n hx hb d_Model_rounded_144 rfl (lv_at hl 3 rfl) ?_
      refine callV_l (wr := [(rA, .inl (cI, 400, .inl k))]) C0 (c_Model_packed l dC dI cI cB cJ (h0) (th) (we) (wm) (wy) (ra) (tA) (tn) (oA) (on) (rA) (fi1) (la1) (wA) (wf) (wl) (lo) (ov) (un1) (aT) (mi) (ds) (dA) (a0) (xp) (iA) (te) (E) (M) (x3) (x5) (r140) (bl) (by_) ((K - (1 - (bsE E : Int))).toNat) (mm) (by exact hL) (by exact hby) (by exact t_x3.trans (by omega)) (by omega) (by exact t_x5) (by exact mm_lt hj hS2 hjM) (by exact hlow)) (cwV 5 hts (gV m_662 m_663 m_24 m_55 m_664) rfl rfl rfl (by decide +kernel) ⟨Nat.le_of_ble_eq_true rfl, Nat.le_of_ble_eq_true rfl⟩) 8 rfl rfl 0 rfl hP hD hS hA [0] [1] rfl rfl (by decide) (by decide) (by decide) rfl hl.1 rfl (Nat.le_of_ble_eq_true rfl) d_Model_rounded_145 ⟨Nat.le_of_ble_eq_true rfl, Nat.le_of_ble_eq_true rfl⟩ (fun r145 u145 H locs hw9 hP hD hS => ?_)
      obtain ⟨lo1145, un1145, ov1145⟩ := u145
      have h145 : ∃ uu : Nat, ((uu = 1 ∧ GUd by_.toInt r140.toInt (bl = 0) mm) ∨ (uu = 0 ∧ ¬ GUd by_.toInt r140.toInt (bl = 0) mm)) ∧ PK E M by_.toInt (¬ bl = 0) (((K - (1 - (bsE E : Int))).toNat) * 2 ^ M + mm + uu) (0 < r140.toInt) r145.toInt lo1145 ov1145 ∧ ((un1145 = 1 ∧ ¬ un1 = 0 ∧ 0 < r140.toInt) ∨ (un1145 = 0 ∧ ¬ (¬ un1 = 0 ∧ 0 < r140.toInt))) := hw9
      have hP : va_P (dC, dI) vwCl [(rA, .inl (cI, 400, .inl k)), (h0, .inr (8, [.int th, .int we, .int wm, .int wy, .int ra, .ref tA, .int tn, .ref oA, .int on, .ref rA, .int fi1, .int la1, .ref wA, .int wf, .int wl, .int lo1145, .int ov1145, .int un1145, .int aT, .int mi, .int ds, .ref dA, .int a0, .int xp, .ref iA, .int te]))] H := hP
      have hD : va_D A [(rA, .inl (cI, 400, .inl k)), (h0, .inr (8, [.int th, .int we, .int wm, .int wy, .int ra, .ref tA, .int tn, .ref oA, .int on, .ref rA, .int fi1, .int la1, .ref wA, .int wf, .int wl, .int lo1145, .int ov1145, .int un1145, .int aT, .int mi, .int ds, .ref dA, .int a0, .int xp, .ref iA, .int te]))] := hD
      exact Cl.ret C0 (v := r145) (u := (k, fi1, la1, lo1145, un1145, ov1145)) (Nat.le_of_ble_eq_true rfl) (Nat.le_of_ble_eq_true rfl) (by show ∃ (Z : Nat) (ix ty : Prop), RS (sv f 400) (10 ^ 339) E M by_.toInt (¬ bl = 0) Z ix ty ∧ RR E M by_.toInt (¬ bl = 0) Z ix ty r145.toInt lo1145 ov1145 un1145; obtain ⟨uu, hu1, hu2, hu3⟩ := h145; exact RR_of hpos hSq hS2 hj hfr (by omega) (hKg.imp (fun h => by omega) id) (by rw [← sv_frac hRk hfr]; exact h140) hu1 hu2 hun hu3) hP hD hS [1, 0] (by decide) rfl d_Model_rounded_148
    · skip
      rw [q_ile hm t_x7] at b91
      have hmm := mm_lt hj hS2 hjM
      refine lv_aload_n hx hb d_Model_rounded_94 rfl (lv_at hl 5 rfl) ?_
      refine callV_v (wr := []) C0 (c_Model_twice l dC dI cI cB cJ (h0) (th) (we) (wm) (wy) (ra) (tA) (tn) (oA) (on) (rA) (fi1) (la1) (wA) (wf) (wl) (lo) (ov) (un1) (aT) (mi) (ds) (dA) (a0) (xp) (iA) (te) (k) ((60 : Nat)) (n4) (by exact t_fi1.trans rfl) (by exact t_la1) (by exact hRk) (by decide)) (cwV 0 hts (gV m_690 m_691 m_33 m_55 m_692) rfl rfl rfl (by decide +kernel) ⟨Nat.le_of_ble_eq_true rfl, Nat.le_of_ble_eq_true rfl⟩) 8 rfl rfl 0 rfl hP hD hS hA [0, 1] [] rfl rfl (by decide) (by decide) (by decide) rfl hl.1 rfl (Nat.le_of_ble_eq_true rfl) d_Model_rounded_95 ⟨Nat.le_of_ble_eq_true rfl, Nat.le_of_ble_eq_true rfl⟩ (fun u95 H locs hw9 hP hD hS => ?_)
      obtain ⟨k95, fi195⟩ := u95
      have h95 : ∃ nA : Nat, fi195.toInt = (nA : Int) ∧ (nA = (60 : Nat) ∨ nA + 1 = (60 : Nat)) ∧ RWp k95 nA n4 ∧ sv k95 400 = 2 * sv k 400 := hw9
      have hP : va_P (dC, dI) vwCl [(h0, .inr (8, [.int th, .int we, .int wm, .int wy, .int ra, .ref tA, .int tn, .ref oA, .int on, .ref rA, .int fi195, .int la1, .ref wA, .int wf, .int wl, .int lo, .int ov, .int un1, .int aT, .int mi, .int ds, .ref dA, .int a0, .int xp, .ref iA, .int te])), (rA, .inl (cI, 400, .inl k95))] H := hP
      have hD : va_D A [(h0, .inr (8, [.int th, .int we, .int wm, .int wy, .int ra, .ref tA, .int tn, .ref oA, .int on, .ref rA, .int fi195, .int la1, .ref wA, .int wf, .int wl, .int lo, .int ov, .int un1, .int aT, .int mi, .int ds, .ref dA, .int a0, .int xp, .ref iA, .int te])), (rA, .inl (cI, 400, .inl k95))] := hD
      obtain ⟨n5, t5, h5, hR95, hv95⟩ := h95
      have hlt9 : sv k95 400 < 2 * 10 ^ 339 := by rw [hv95]; exact Nat.mul_lt_mul_of_pos_left hfr (by decide)
      have h560 := n3_60 hR95 hlt9
      subst h560
      have hz95 := zero60 hR95
      have hd95 := hR95.1 60 (by omega)
      have hd96 := rdg_i hd95.1
      refine lv_ldc2 (v := 2) hx hb hown (hts _ m_668) d_Model_rounded_98 ?_
      refine lv_lload hx hb d_Model_rounded_101 (lv_at hl 1 rfl) ?_
      refine lv_lmul hx hb d_Model_rounded_103 ?_
      refine lv_topl (fun v103 e103 => ?_)
      have t103 : v103.toInt = 2 * (mm : Int) := by rw [e103]; exact q_lmul (show (2 : Int64).toInt = 2 by decide) t_x5 (by omega)
      refine lv_aload_n hx hb d_Model_rounded_104 rfl (lv_at hl 5 rfl) ?_
      refine va_get (D := (dC, dI)) (ci := 8) (v := .ref rA) (C := R_Model) (T := F_Model) (N := 26) hx hb hts u_Model hown hK hP 0 rfl rfl 9 (by decide) (hts _ m_572) (fun _ h9 => h9) rfl d_Model_rounded_105 ?_
      refine lv_bipush (v := 60) hx hb d_Model_rounded_108 (by decide) ?_
      refine va_iald hx hb hK hP 1 0 rfl rfl (q_in (show (60 : Int32).toInt = 60 by decide) (by omega)) d_Model_rounded_110 ?_
      refine lv_topi (fun v110 e110 => ?_)
      rw [q_cl (k := 60) ((show (60 : Int32).toInt = 60 by decide))] at e110
      have t110 : v110.toInt = (rdg k95 60 : Int) := by rw [e110]; exact rdg_i (hR95.1 60 (by omega)).1
      refine lv_i2l hx hb d_Model_rounded_111 rfl ?_
      refine lv_topl (fun v111 e111 => ?_)
      have t111 : v111.toInt = (rdg k95 60 : Int) := by rw [e111]; exact q_i2l t110
      refine lv_ladd hx hb d_Model_rounded_112 ?_
      refine lv_topl (fun v112 e112 => ?_)
      have t112 : v112.toInt = (2 * (mm : Int)) + (rdg k95 60 : Int) := by rw [e112]; exact q_ladd t103 t111 (by omega)
      refine lv_lstore (lv' := [(5, .long v112), (7, .int x7), (3, .int x3), (2, .int by_), (1, .int bl), (0, .ref h0)]) hx hb d_Model_rounded_113 hl (by decide) rfl (fun ls hl => ?_)
      refine lv_aload_n hx hb d_Model_rounded_115 rfl (lv_at hl 5 rfl) ?_
      refine va_get (D := (dC, dI)) (ci := 8) (v := .ref rA) (C := R_Model) (T := F_Model) (N := 26) hx hb hts u_Model hown hK hP 0 rfl rfl 9 (by decide) (hts _ m_572) (fun _ h9 => h9) rfl d_Model_rounded_116 ?_
      refine lv_bipush (v := 60) hx hb d_Model_rounded_119 (by decide) ?_
      refine lv_iconst (v := 0) hx hb d_Model_rounded_121 (by decide) ?_
      refine va_iast hx hb hK hP hD hS 1 0 rfl rfl (q_in (show (60 : Int32).toInt = 60 by decide) (by omega)) d_Model_rounded_122 (fun H locs hP hD hS => ?_)
      rw [q_cl (k := 60) ((show (60 : Int32).toInt = 60 by decide))] at hP hD
      have hP : va_P (dC, dI) vwCl [(h0, .inr (8, [.int th, .int we, .int wm, .int wy, .int ra, .ref tA, .int tn, .ref oA, .int on, .ref rA, .int fi195, .int la1, .ref wA, .int wf, .int wl, .int lo, .int ov, .int un1, .int aT, .int mi, .int ds, .ref dA, .int a0, .int xp, .ref iA, .int te])), (rA, .inl (cI, 400, .inl (upd k95 60 0)))] H := hP
      have hD : va_D A [(h0, .inr (8, [.int th, .int we, .int wm, .int wy, .int ra, .ref tA, .int tn, .ref oA, .int on, .ref rA, .int fi195, .int la1, .ref wA, .int wf, .int wl, .int lo, .int ov, .int un1, .int aT, .int mi, .int ds, .ref dA, .int a0, .int xp, .ref iA, .int te])), (rA, .inl (cI, 400, .inl (upd k95 60 0)))] := hD
      refine lv_aload_n hx hb d_Model_rounded_123 rfl (lv_at hl 5 rfl) ?_
      refine lv_bipush (v := 60) hx hb d_Model_rounded_124 (by decide) ?_
      refine va_put (D := (dC, dI)) (ci := 8) (v := .int 60) (ty := .int) (C := R_Model) (T := F_Model) (N := 26) hx hb hts u_Model t_Model t_Model_ok n_Model hown hK hP hD hS 0 rfl rfl 10 (by decide) (hts _ m_573) (fun _ h9 => h9) rfl (by decide +kernel) rfl rfl (Nat.le_of_ble_eq_true rfl) d_Model_rounded_126 (fun H locs hP hD hS => ?_)
      have hP : va_P (dC, dI) vwCl [(h0, .inr (8, [.int th, .int we, .int wm, .int wy, .int ra, .ref tA, .int tn, .ref oA, .int on, .ref rA, .int 60, .int la1, .ref wA, .int wf, .int wl, .int lo, .int ov, .int un1, .int aT, .int mi, .int ds, .ref dA, .int a0, .int xp, .ref iA, .int te])), (rA, .inl (cI, 400, .inl (upd k95 60 0)))] H := hP
      have hD : va_D A [(h0, .inr (8, [.int th, .int we, .int wm, .int wy, .int ra, .ref tA, .int tn, .ref oA, .int on, .ref rA, .int 60, .int la1, .ref wA, .int wf, .int wl, .int lo, .int ov, .int un1, .int aT, .int mi, .int ds, .ref dA, .int a0, .int xp, .ref iA, .int te])), (rA, .inl (cI, 400, .inl (upd k95 60 0)))] := hD
      obtain ⟨v129, e129⟩ : ∃ y : Int32, y = x7 + 1 := ⟨_, rfl⟩
      have t129 : v129.toInt = (j9 : Int) + 1 := by rw [e129]; exact q_iadd t_x7 (show (1 : Int32).toInt = 1 by decide) (by omega)
      refine lv_iinc (v := v129) (lv' := [(7, .int v129), (5, .long v112), (3, .int x3), (2, .int by_), (1, .int bl), (0, .ref h0)]) hx hb d_Model_rounded_129 hl (k := 1) rfl (by rw [e129]; rfl) (by decide) rfl (fun ls hl => ?_)
      refine lv_goto (tgt := 85) hx hb d_Model_rounded_132 (by decide) ?_
      exact ih (x3) (K) (v112) (2 * mm + rdg k95 60) (v129) (j9 + 1) (upd k95 60 0) (60) (la1) (n4) (un1) (S0) H locs ls (by omega) ((t129).trans (by omega)) ((t112).trans (by omega)) ((t_x3).trans (by omega)) ((t_by_).trans (by omega)) (by decide) (by exact t_la1) (by exact hz95.1) (by exact hSq) (by exact hS2) (by rw [hz95.2.1]; exact mm_step hj (by rw [← hz95.2.2]; exact hv95)) (by rw [hz95.2.1]; exact sv_339 hR95) (by exact hKl) (by exact hKh) (by exact hKg) (by exact hn4) (by omega) (by exact hun) (va_Psub hP [0, 1] rfl) (hD.sub [0, 1] (by decide) rfl) hS (lv_sub hl [0, 1, 2, 3, 4, 5] rfl)
set_option maxHeartbeats 4000000 in
set_option maxRecDepth 100000 in
theorem L_Model_rounded_51 {p : Program} {l : Launch} {e : Env} {s : State} {m : MethodId} {below : List Frame} {meth : Method} {c : Code} {dC : Nat → ClassId} {dI : Nat → Nat → Nat} {cI cB cJ : ClassId} {A : Nat → Prop} (h0 : Nat) (th : Int32) (we : Int32) (wm : Int32) (wy : Int32) (ra : Int32) (tA : Nat) (tn : Int32) (oA : Nat) (on : Int32) (rA : Nat) (fi : Int32) (la : Int32) (wA : Nat) (wf : Int32) (wl : Int32) (lo : Int32) (ov : Int32) (un : Int32) (aT : Int32) (mi : Int32) (ds : Int32) (dA : Nat) (a0 : Int32) (xp : Int32) (iA : Nat) (te : Int32) (E : Nat) (M : Nat) (f : Nat → Int32) (n1 : Nat) (n2 : Nat) (bl : Int32) (by_ : Int32) (C0 : cx dC dI cI cB cJ R_Model b_Model_rounded 8 (some .long) p s m ([.ref h0, .int bl, .int by_] : List Value).toArray meth c) (hA : ∀ q : Nat, s.heap.size ≤ q → A q) (hL : LY we wm E M) (hfi : fi.toInt = (n1 : Int)) (hla : la.toInt = (n2 : Int)) (hR : RWp f n1 n2) (hby : 0 ≤ by_.toInt ∧ by_.toInt ≤ 4) (hpos : 0 < sv f 400) (hbig : sv f 400 < 10 ^ 46 * 10 ^ 339) (hn1 : 1 ≤ n1) (hn2 : n2 ≤ 240) : (∀ (x3 : Int32) (K : Int) (k : Nat → Int32) (fi1 : Int32) (la1 : Int32) (n4 : Nat) (H : Heap) (locs : List Loc) (ls : Array Slot), x3.toInt = K → by_.toInt = by_.toInt → (fi1.toInt = 60) → (la1.toInt = (n4 : Int)) → (RWp k 60 n4) → (sv k 400 * 2 ^ K.toNat = sv f 400 * 2 ^ (-K).toNat) → (sv k 400 < 2 * 10 ^ 339) → (1 - (bsE E : Int) ≤ K) → (K ≤ 200) → (K = 1 - (bsE E : Int) ∨ 10 ^ 339 ≤ sv k 400) → (n4 ≤ 398) → va_P (dC, dI) vwCl [(h0, .inr (8, [.int th, .int we, .int wm, .int wy, .int ra, .ref tA, .int tn, .ref oA, .int on, .ref rA, .int fi1, .int la1, .ref wA, .int wf, .int wl, .int lo, .int ov, .int un, .int aT, .int mi, .int ds, .ref dA, .int a0, .int xp, .ref iA, .int te])), (rA, .inl (cI, 400, .inl k))] H → va_D A [(h0, .inr (8, [.int th, .int we, .int wm, .int wy, .int ra, .ref tA, .int tn, .ref oA, .int on, .ref rA, .int fi1, .int la1, .ref wA, .int wf, .int wl, .int lo, .int ov, .int un, .int aT, .int mi, .int ds, .ref dA, .int a0, .int xp, .ref iA, .int te])), (rA, .inl (cI, 400, .inl k))] → va_S A s.heap H locs → lv_has ls 8 [(3, .int x3), (2, .int by_), (1, .int bl), (0, .ref h0)] → W p l e ({ frames := 2, cells := 0, slots := 0, locals := 58 } : Room) s m ([.ref h0, .int bl, .int by_] : List Value).toArray below meth c H locs 0 0 (MQ below (va_Ql (fun (r : Int64) (u : (Nat → Int32) × (Int32) × (Int32) × (Int32) × (Int32) × (Int32)) => ∃ (Z : Nat) (ix ty : Prop), RS (sv f 400) (10 ^ 339) E M by_.toInt (¬ bl = 0) Z ix ty ∧ RR E M by_.toInt (¬ bl = 0) Z ix ty r.toInt u.2.2.2.1 u.2.2.2.2.2 u.2.2.2.2.1) (poG dC dI A (fun u : (Nat → Int32) × (Int32) × (Int32) × (Int32) × (Int32) × (Int32) => [(h0, .inr (8, [.int th, .int we, .int wm, .int wy, .int ra, .ref tA, .int tn, .ref oA, .int on, .ref rA, .int u.2.1, .int u.2.2.1, .ref wA, .int wf, .int wl, .int u.2.2.2.1, .int u.2.2.2.2.2, .int u.2.2.2.2.1, .int aT, .int mi, .int ds, .ref dA, .int a0, .int xp, .ref iA, .int te])), (rA, .inl (cI, 400, .inl u.1))])) A) ([.ref h0, .int bl, .int by_] : List Value).toArray s 0 0 A) (F0 m 51 ls [])) := by
  obtain ⟨hx, hb, hml, hown, hts, hr, hlocks, hK, hN⟩ := id C0
  intro x3 K k fi1 la1 n4 H locs ls t_x3 t_by_ t_fi1 t_la1 hRk hv hlt hKl hKh hKg hn4 hP hD hS hl
  have r_x3 := q_r32 x3
  have r_by_ := q_r32 by_
  obtain ⟨he, hm, hE1, hE2, hM1, hM2⟩ := id hL
  have hbz := p_bias hE1 hE2
  have hem := p_em hE1 hE2 hM1 hM2
  have hiz := iz_sb E M
  have hpm := p_m hM2
  have hpm1 := pw_p M
  have hpe := p_e hE1 hE2
  have hbs := bsE_r hE1 hE2
  have hR6 := hR.2.2.2
  refine lv_aload_n hx hb d_Model_rounded_51 rfl (lv_at hl 3 rfl) ?_
  have hz60 := zero60 hRk
  have hw60 := whole_60 hRk
  refine callV_i (wr := []) C0 (c_Model_ahead l dC dI cI cB cJ (h0) (th) (we) (wm) (wy) (ra) (tA) (tn) (oA) (on) (rA) (fi1) (la1) (wA) (wf) (wl) (lo) (ov) (un) (aT) (mi) (ds) (dA) (a0) (xp) (iA) (te) (k) ((60 : Nat)) (n4) (by exact t_fi1.trans rfl) (by exact t_la1) (by exact hRk)) (cwV 0 hts (gV m_684 m_685 m_31 m_55 m_686) rfl rfl rfl (by decide +kernel) ⟨Nat.le_of_ble_eq_true rfl, Nat.le_of_ble_eq_true rfl⟩) 8 rfl rfl 0 rfl hP hD hS hA [0, 1] [] rfl rfl (by decide) (by decide) (by decide) rfl hl.1 rfl (Nat.le_of_ble_eq_true rfl) d_Model_rounded_52 ⟨Nat.le_of_ble_eq_true rfl, Nat.le_of_ble_eq_true rfl⟩ (fun r52 u52 H locs hw9 hP hD hS => ?_)
  have h52 : r52.toInt = ((min 2 (sv k 400 / 10 ^ 339) : Nat) : Int) := hw9
  have hP : va_P (dC, dI) vwCl [(h0, .inr (8, [.int th, .int we, .int wm, .int wy, .int ra, .ref tA, .int tn, .ref oA, .int on, .ref rA, .int fi1, .int la1, .ref wA, .int wf, .int wl, .int lo, .int ov, .int un, .int aT, .int mi, .int ds, .ref dA, .int a0, .int xp, .ref iA, .int te])), (rA, .inl (cI, 400, .inl k))] H := hP
  have hD : va_D A [(h0, .inr (8, [.int th, .int we, .int wm, .int wy, .int ra, .ref tA, .int tn, .ref oA, .int on, .ref rA, .int fi1, .int la1, .ref wA, .int wf, .int wl, .int lo, .int ov, .int un, .int aT, .int mi, .int ds, .ref dA, .int a0, .int xp, .ref iA, .int te])), (rA, .inl (cI, 400, .inl k))] := hD
  have t52 : r52.toInt = ((sv k 400 / 10 ^ 339 : Nat) : Int) := h52.trans (by rw [min_of hlt])
  refine lv_i2l hx hb d_Model_rounded_55 rfl ?_
  refine lv_topl (fun v55 e55 => ?_)
  have t55 : v55.toInt = ((sv k 400 / 10 ^ 339 : Nat) : Int) := by rw [e55]; exact q_i2l t52
  refine lv_lstore (lv' := [(5, .long v55), (3, .int x3), (2, .int by_), (1, .int bl), (0, .ref h0)]) hx hb d_Model_rounded_56 hl (by decide) rfl (fun ls hl => ?_)
  refine lv_aload_n hx hb d_Model_rounded_58 rfl (lv_at hl 4 rfl) ?_
  refine lv_lload hx hb d_Model_rounded_59 (lv_at hl 0 rfl) ?_
  refine lv_lconst (v := 0) hx hb d_Model_rounded_61 (by decide) ?_
  refine W.lcmp hx hb d_Model_rounded_62 ?_
  refine lv_if_ne (tgt := 70) hx hb d_Model_rounded_63 (by decide) (fun b63 => ?_) (fun b63 => ?_)
  · skip
    rw [q_cmp_eq t55 (show (0 : Int64).toInt = 0 by decide)] at b63
    refine lv_iconst (v := 0) hx hb d_Model_rounded_70 (by decide) ?_
    refine va_put (D := (dC, dI)) (ci := 8) (v := .int 0) (ty := .boolean) (C := R_Model) (T := F_Model) (N := 26) hx hb hts u_Model t_Model t_Model_ok n_Model hown hK hP hD hS 0 rfl rfl 17 (by decide) (hts _ m_580) (fun _ h9 => h9) rfl (by decide +kernel) rfl rfl (Nat.le_of_ble_eq_true rfl) d_Model_rounded_71 (fun H locs hP hD hS => ?_)
    have hP : va_P (dC, dI) vwCl [(h0, .inr (8, [.int th, .int we, .int wm, .int wy, .int ra, .ref tA, .int tn, .ref oA, .int on, .ref rA, .int fi1, .int la1, .ref wA, .int wf, .int wl, .int lo, .int ov, .int 0, .int aT, .int mi, .int ds, .ref dA, .int a0, .int xp, .ref iA, .int te])), (rA, .inl (cI, 400, .inl k))] H := hP
    have hD : va_D A [(h0, .inr (8, [.int th, .int we, .int wm, .int wy, .int ra, .ref tA, .int tn, .ref oA, .int on, .ref rA, .int fi1, .int la1, .ref wA, .int wf, .int wl, .int lo, .int ov, .int 0, .int aT, .int mi, .int ds, .ref dA, .int a0, .int xp, .ref iA, .int te])), (rA, .inl (cI, 400, .inl k))] := hD
    refine lv_aload_n hx hb d_Model_rounded_74 rfl (lv_at hl 4 rfl) ?_
    refine va_get (D := (dC, dI)) (ci := 8) (v := .ref rA) (C := R_Model) (T := F_Model) (N := 26) hx hb hts u_Model hown hK hP 0 rfl rfl 9 (by decide) (hts _ m_572) (fun _ h9 => h9) rfl d_Model_rounded_75 ?_
    refine lv_bipush (v := 60) hx hb d_Model_rounded_78 (by decide) ?_
    refine lv_iconst (v := 0) hx hb d_Model_rounded_80 (by decide) ?_
    refine va_iast hx hb hK hP hD hS 1 0 rfl rfl (q_in (show (60 : Int32).toInt = 60 by decide) (by omega)) d_Model_rounded_81 (fun H locs hP hD hS => ?_)
    rw [q_cl (k := 60) ((show (60 : Int32).toInt = 60 by decide))] at hP hD
    have hP : va_P (dC, dI) vwCl [(h0, .inr (8, [.int th, .int we, .int wm, .int wy, .int ra, .ref tA, .int tn, .ref oA, .int on, .ref rA, .int fi1, .int la1, .ref wA, .int wf, .int wl, .int lo, .int ov, .int 0, .int aT, .int mi, .int ds, .ref dA, .int a0, .int xp, .ref iA, .int te])), (rA, .inl (cI, 400, .inl (upd k 60 0)))] H := hP
    have hD : va_D A [(h0, .inr (8, [.int th, .int we, .int wm, .int wy, .int ra, .ref tA, .int tn, .ref oA, .int on, .ref rA, .int fi1, .int la1, .ref wA, .int wf, .int wl, .int lo, .int ov, .int 0, .int aT, .int mi, .int ds, .ref dA, .int a0, .int xp, .ref iA, .int te])), (rA, .inl (cI, 400, .inl (upd k 60 0)))] := hD
    refine lv_iconst (v := 0) hx hb d_Model_rounded_82 (by decide) ?_
    refine lv_istore (lv' := [(7, .int 0), (5, .long v55), (3, .int x3), (2, .int by_), (1, .int bl), (0, .ref h0)]) hx hb d_Model_rounded_83 hl (by decide) rfl (fun ls hl => ?_)
    have hz9 : ¬ sv k 400 / 10 ^ 339 = 0 := by generalize sv k 400 / 10 ^ 339 = y at b63 ⊢; omega
    exact L_Model_rounded_85 (h0) (th) (we) (wm) (wy) (ra) (tA) (tn) (oA) (on) (rA) (fi) (la) (wA) (wf) (wl) (lo) (ov) (un) (aT) (mi) (ds) (dA) (a0) (xp) (iA) (te) (E) (M) (f) (n1) (n2) (bl) (by_) C0 hA (hL) (hfi) (hla) (hR) (hby) (hpos) (hbig) (hn1) (hn2) _ (x3) (K) (v55) (sv k 400 / 10 ^ 339) (0) (0) (upd k 60 0) (fi1) (la1) (n4) (0) (sv k 400) H locs ls (Nat.lt_succ_self _) (((show (0 : Int32).toInt = 0 by decide)).trans (by omega)) ((t55).trans (by omega)) ((t_x3).trans (by omega)) ((t_by_).trans (by omega)) (by exact t_fi1) (by exact t_la1) (by exact hz60.1) (by exact hv) (by exact hlt) (by rw [Nat.pow_zero, Nat.mul_one, hw60, hz60.2.1]; exact hz60.2.2) (by rw [hz60.2.1]; exact sv_339 hRk) (by exact hKl) (by exact hKh) (by exact hKg) (by exact hn4) (by omega) (by exact Or.inr ⟨rfl, fun h => hz9 (div_0.mpr h)⟩) (va_Psub hP [0, 1] rfl) (hD.sub [0, 1] (by decide) rfl) hS (lv_sub hl [0, 1, 2, 3, 4, 5] rfl)
  · skip
    rw [q_cmp_eq t55 (show (0 : Int64).toInt = 0 by decide)] at b63
    refine lv_iconst (v := 1) hx hb d_Model_rounded_66 (by decide) ?_
    refine lv_goto (tgt := 71) hx hb d_Model_rounded_67 (by decide) ?_
    refine va_put (D := (dC, dI)) (ci := 8) (v := .int 1) (ty := .boolean) (C := R_Model) (T := F_Model) (N := 26) hx hb hts u_Model t_Model t_Model_ok n_Model hown hK hP hD hS 0 rfl rfl 17 (by decide) (hts _ m_580) (fun _ h9 => h9) rfl (by decide +kernel) rfl rfl (Nat.le_of_ble_eq_true rfl) d_Model_rounded_71 (fun H locs hP hD hS => ?_)
    have hP : va_P (dC, dI) vwCl [(h0, .inr (8, [.int th, .int we, .int wm, .int wy, .int ra, .ref tA, .int tn, .ref oA, .int on, .ref rA, .int fi1, .int la1, .ref wA, .int wf, .int wl, .int lo, .int ov, .int 1, .int aT, .int mi, .int ds, .ref dA, .int a0, .int xp, .ref iA, .int te])), (rA, .inl (cI, 400, .inl k))] H := hP
    have hD : va_D A [(h0, .inr (8, [.int th, .int we, .int wm, .int wy, .int ra, .ref tA, .int tn, .ref oA, .int on, .ref rA, .int fi1, .int la1, .ref wA, .int wf, .int wl, .int lo, .int ov, .int 1, .int aT, .int mi, .int ds, .ref dA, .int a0, .int xp, .ref iA, .int te])), (rA, .inl (cI, 400, .inl k))] := hD
    refine lv_aload_n hx hb d_Model_rounded_74 rfl (lv_at hl 4 rfl) ?_
    refine va_get (D := (dC, dI)) (ci := 8) (v := .ref rA) (C := R_Model) (T := F_Model) (N := 26) hx hb hts u_Model hown hK hP 0 rfl rfl 9 (by decide) (hts _ m_572) (fun _ h9 => h9) rfl d_Model_rounded_75 ?_
    refine lv_bipush (v := 60) hx hb d_Model_rounded_78 (by decide) ?_
    refine lv_iconst (v := 0) hx hb d_Model_rounded_80 (by decide) ?_
    refine va_iast hx hb hK hP hD hS 1 0 rfl rfl (q_in (show (60 : Int32).toInt = 60 by decide) (by omega)) d_Model_rounded_81 (fun H locs hP hD hS => ?_)
    rw [q_cl (k := 60) ((show (60 : Int32).toInt = 60 by decide))] at hP hD
    have hP : va_P (dC, dI) vwCl [(h0, .inr (8, [.int th, .int we, .int wm, .int wy, .int ra, .ref tA, .int tn, .ref oA, .int on, .ref rA, .int fi1, .int la1, .ref wA, .int wf, .int wl, .int lo, .int ov, .int 1, .int aT, .int mi, .int ds, .ref dA, .int a0, .int xp, .ref iA, .int te])), (rA, .inl (cI, 400, .inl (upd k 60 0)))] H := hP
    have hD : va_D A [(h0, .inr (8, [.int th, .int we, .int wm, .int wy, .int ra, .ref tA, .int tn, .ref oA, .int on, .ref rA, .int fi1, .int la1, .ref wA, .int wf, .int wl, .int lo, .int ov, .int 1, .int aT, .int mi, .int ds, .ref dA, .int a0, .int xp, .ref iA, .int te])), (rA, .inl (cI, 400, .inl (upd k 60 0)))] := hD
    refine lv_iconst (v := 0) hx hb d_Model_rounded_82 (by decide) ?_
    refine lv_istore (lv' := [(7, .int 0), (5, .long v55), (3, .int x3), (2, .int by_), (1, .int bl), (0, .ref h0)]) hx hb d_Model_rounded_83 hl (by decide) rfl (fun ls hl => ?_)
    have hz9 : sv k 400 / 10 ^ 339 = 0 := by generalize sv k 400 / 10 ^ 339 = y at b63 ⊢; omega
    exact L_Model_rounded_85 (h0) (th) (we) (wm) (wy) (ra) (tA) (tn) (oA) (on) (rA) (fi) (la) (wA) (wf) (wl) (lo) (ov) (un) (aT) (mi) (ds) (dA) (a0) (xp) (iA) (te) (E) (M) (f) (n1) (n2) (bl) (by_) C0 hA (hL) (hfi) (hla) (hR) (hby) (hpos) (hbig) (hn1) (hn2) _ (x3) (K) (v55) (sv k 400 / 10 ^ 339) (0) (0) (upd k 60 0) (fi1) (la1) (n4) (1) (sv k 400) H locs ls (Nat.lt_succ_self _) (((show (0 : Int32).toInt = 0 by decide)).trans (by omega)) ((t55).trans (by omega)) ((t_x3).trans (by omega)) ((t_by_).trans (by omega)) (by exact t_fi1) (by exact t_la1) (by exact hz60.1) (by exact hv) (by exact hlt) (by rw [Nat.pow_zero, Nat.mul_one, hw60, hz60.2.1]; exact hz60.2.2) (by rw [hz60.2.1]; exact sv_339 hRk) (by exact hKl) (by exact hKh) (by exact hKg) (by exact hn4) (by omega) (by exact Or.inl ⟨rfl, div_0.mp hz9⟩) (va_Psub hP [0, 1] rfl) (hD.sub [0, 1] (by decide) rfl) hS (lv_sub hl [0, 1, 2, 3, 4, 5] rfl)
set_option maxHeartbeats 4000000 in
set_option maxRecDepth 100000 in
theorem L_Model_rounded_28 {p : Program} {l : Launch} {e : Env} {s : State} {m : MethodId} {below : List Frame} {meth : Method} {c : Code} {dC : Nat → ClassId} {dI : Nat → Nat → Nat} {cI cB cJ : ClassId} {A : Nat → Prop} (h0 : Nat) (th : Int32) (we : Int32) (wm : Int32) (wy : Int32) (ra : Int32) (tA : Nat) (tn : Int32) (oA : Nat) (on : Int32) (rA : Nat) (fi : Int32) (la : Int32) (wA : Nat) (wf : Int32) (wl : Int32) (lo : Int32) (ov : Int32) (un : Int32) (aT : Int32) (mi : Int32) (ds : Int32) (dA : Nat) (a0 : Int32) (xp : Int32) (iA : Nat) (te : Int32) (E : Nat) (M : Nat) (f : Nat → Int32) (n1 : Nat) (n2 : Nat) (bl : Int32) (by_ : Int32) (C0 : cx dC dI cI cB cJ R_Model b_Model_rounded 8 (some .long) p s m ([.ref h0, .int bl, .int by_] : List Value).toArray meth c) (hA : ∀ q : Nat, s.heap.size ≤ q → A q) (hL : LY we wm E M) (hfi : fi.toInt = (n1 : Int)) (hla : la.toInt = (n2 : Int)) (hR : RWp f n1 n2) (hby : 0 ≤ by_.toInt ∧ by_.toInt ≤ 4) (hpos : 0 < sv f 400) (hbig : sv f 400 < 10 ^ 46 * 10 ^ 339) (hn1 : 1 ≤ n1) (hn2 : n2 ≤ 240) : ∀ n : Nat, (∀ (x3 : Int32) (K : Int) (x4 : Int32) (k : Nat → Int32) (fi1 : Int32) (la1 : Int32) (n4 : Nat) (H : Heap) (locs : List Loc) (ls : Array Slot), (K + 400).toNat < n → x4.toInt = 1 - (bsE E : Int) → x3.toInt = K → by_.toInt = by_.toInt → (fi1.toInt = 60) → (la1.toInt = (n4 : Int)) → (RWp k 60 n4) → (sv k 400 * 2 ^ K.toNat = sv f 400 * 2 ^ (-K).toNat) → (sv k 400 < 2 * 10 ^ 339) → (1 - (bsE E : Int) ≤ K) → (K ≤ 200) → (K ≤ 0 ∨ 10 ^ 339 ≤ sv k 400) → (n4 ≤ 398) → va_P (dC, dI) vwCl [(h0, .inr (8, [.int th, .int we, .int wm, .int wy, .int ra, .ref tA, .int tn, .ref oA, .int on, .ref rA, .int fi1, .int la1, .ref wA, .int wf, .int wl, .int lo, .int ov, .int un, .int aT, .int mi, .int ds, .ref dA, .int a0, .int xp, .ref iA, .int te])), (rA, .inl (cI, 400, .inl k))] H → va_D A [(h0, .inr (8, [.int th, .int we, .int wm, .int wy, .int ra, .ref tA, .int tn, .ref oA, .int on, .ref rA, .int fi1, .int la1, .ref wA, .int wf, .int wl, .int lo, .int ov, .int un, .int aT, .int mi, .int ds, .ref dA, .int a0, .int xp, .ref iA, .int te])), (rA, .inl (cI, 400, .inl k))] → va_S A s.heap H locs → lv_has ls 8 [(4, .int x4), (3, .int x3), (2, .int by_), (1, .int bl), (0, .ref h0)] → W p l e ({ frames := 2, cells := 0, slots := 0, locals := 58 } : Room) s m ([.ref h0, .int bl, .int by_] : List Value).toArray below meth c H locs 0 0 (MQ below (va_Ql (fun (r : Int64) (u : (Nat → Int32) × (Int32) × (Int32) × (Int32) × (Int32) × (Int32)) => ∃ (Z : Nat) (ix ty : Prop), RS (sv f 400) (10 ^ 339) E M by_.toInt (¬ bl = 0) Z ix ty ∧ RR E M by_.toInt (¬ bl = 0) Z ix ty r.toInt u.2.2.2.1 u.2.2.2.2.2 u.2.2.2.2.1) (poG dC dI A (fun u : (Nat → Int32) × (Int32) × (Int32) × (Int32) × (Int32) × (Int32) => [(h0, .inr (8, [.int th, .int we, .int wm, .int wy, .int ra, .ref tA, .int tn, .ref oA, .int on, .ref rA, .int u.2.1, .int u.2.2.1, .ref wA, .int wf, .int wl, .int u.2.2.2.1, .int u.2.2.2.2.2, .int u.2.2.2.2.1, .int aT, .int mi, .int ds, .ref dA, .int a0, .int xp, .ref iA, .int te])), (rA, .inl (cI, 400, .inl u.1))])) A) ([.ref h0, .int bl, .int by_] : List Value).toArray s 0 0 A) (F0 m 28 ls [])) := by
  obtain ⟨hx, hb, hml, hown, hts, hr, hlocks, hK, hN⟩ := id C0
  intro n
  induction n with
  | zero => exact fun _ _ _ _ _ _ _ _ _ _ h0 _ _ _ _ _ _ _ _ _ _ _ _ _ _ _ _ => absurd h0 (Nat.not_lt_zero _)
  | succ n ih =>
    intro x3 K x4 k fi1 la1 n4 H locs ls hn9 t_x4 t_x3 t_by_ t_fi1 t_la1 hRk hv hlt hKl hKh hKg hn4 hP hD hS hl
    have r_x4 := q_r32 x4
    have r_x3 := q_r32 x3
    have r_by_ := q_r32 by_
    obtain ⟨he, hm, hE1, hE2, hM1, hM2⟩ := id hL
    have hbz := p_bias hE1 hE2
    have hem := p_em hE1 hE2 hM1 hM2
    have hiz := iz_sb E M
    have hpm := p_m hM2
    have hpm1 := pw_p M
    have hpe := p_e hE1 hE2
    have hbs := bsE_r hE1 hE2
    have hR6 := hR.2.2.2
    refine lv_aload_n hx hb d_Model_rounded_28 rfl (lv_at hl 4 rfl) ?_
    refine callV_i (wr := []) C0 (c_Model_ahead l dC dI cI cB cJ (h0) (th) (we) (wm) (wy) (ra) (tA) (tn) (oA) (on) (rA) (fi1) (la1) (wA) (wf) (wl) (lo) (ov) (un) (aT) (mi) (ds) (dA) (a0) (xp) (iA) (te) (k) ((60 : Nat)) (n4) (by exact t_fi1.trans rfl) (by exact t_la1) (by exact hRk)) (cwV 0 hts (gV m_684 m_685 m_31 m_55 m_686) rfl rfl rfl (by decide +kernel) ⟨Nat.le_of_ble_eq_true rfl, Nat.le_of_ble_eq_true rfl⟩) 8 rfl rfl 0 rfl hP hD hS hA [0, 1] [] rfl rfl (by decide) (by decide) (by decide) rfl hl.1 rfl (Nat.le_of_ble_eq_true rfl) d_Model_rounded_29 ⟨Nat.le_of_ble_eq_true rfl, Nat.le_of_ble_eq_true rfl⟩ (fun r29 u29 H locs hw9 hP hD hS => ?_)
    have h29 : r29.toInt = ((min 2 (sv k 400 / 10 ^ 339) : Nat) : Int) := hw9
    have hP : va_P (dC, dI) vwCl [(h0, .inr (8, [.int th, .int we, .int wm, .int wy, .int ra, .ref tA, .int tn, .ref oA, .int on, .ref rA, .int fi1, .int la1, .ref wA, .int wf, .int wl, .int lo, .int ov, .int un, .int aT, .int mi, .int ds, .ref dA, .int a0, .int xp, .ref iA, .int te])), (rA, .inl (cI, 400, .inl k))] H := hP
    have hD : va_D A [(h0, .inr (8, [.int th, .int we, .int wm, .int wy, .int ra, .ref tA, .int tn, .ref oA, .int on, .ref rA, .int fi1, .int la1, .ref wA, .int wf, .int wl, .int lo, .int ov, .int un, .int aT, .int mi, .int ds, .ref dA, .int a0, .int xp, .ref iA, .int te])), (rA, .inl (cI, 400, .inl k))] := hD
    have t29 : r29.toInt = ((sv k 400 / 10 ^ 339 : Nat) : Int) := h29.trans (by rw [min_of hlt])
    refine lv_if_ne (tgt := 51) hx hb d_Model_rounded_32 (by decide) (fun b32 => ?_) (fun b32 => ?_)
    · skip
      rw [q_ieq t29 (show (0 : Int32).toInt = 0 by decide)] at b32
      have hz : ¬ sv k 400 / 10 ^ 339 = 0 := by generalize sv k 400 / 10 ^ 339 = y at b32 ⊢; omega
      have hz1 : 10 ^ 339 ≤ sv k 400 := Nat.le_of_not_lt fun h => hz (div_0.mpr h)
      exact L_Model_rounded_51 (h0) (th) (we) (wm) (wy) (ra) (tA) (tn) (oA) (on) (rA) (fi) (la) (wA) (wf) (wl) (lo) (ov) (un) (aT) (mi) (ds) (dA) (a0) (xp) (iA) (te) (E) (M) (f) (n1) (n2) (bl) (by_) C0 hA (hL) (hfi) (hla) (hR) (hby) (hpos) (hbig) (hn1) (hn2) (x3) (K) (k) (fi1) (la1) (n4) H locs ls ((t_x3).trans (by omega)) ((t_by_).trans (by omega)) (by exact t_fi1) (by exact t_la1) (by exact hRk) (by exact hv) (by exact hlt) (by exact hKl) (by exact hKh) (by exact Or.inr hz1) (by exact hn4) (va_Psub hP [0, 1] rfl) (hD.sub [0, 1] (by decide) rfl) hS (lv_sub hl [1, 2, 3, 4] rfl)
    · skip
      rw [q_ieq t29 (show (0 : Int32).toInt = 0 by decide)] at b32
      have hz : sv k 400 / 10 ^ 339 = 0 := by generalize sv k 400 / 10 ^ 339 = y at b32 ⊢; omega
      have hz1 := div_0.mp hz
      refine lv_iload_n hx hb d_Model_rounded_35 rfl (lv_at hl 1 rfl) ?_
      refine lv_iload hx hb d_Model_rounded_36 (lv_at hl 0 rfl) ?_
      refine lv_icmp_le (tgt := 51) hx hb d_Model_rounded_38 (by decide) (fun b38 => ?_) (fun b38 => ?_)
      · skip
        rw [q_ile t_x3 t_x4] at b38
        exact L_Model_rounded_51 (h0) (th) (we) (wm) (wy) (ra) (tA) (tn) (oA) (on) (rA) (fi) (la) (wA) (wf) (wl) (lo) (ov) (un) (aT) (mi) (ds) (dA) (a0) (xp) (iA) (te) (E) (M) (f) (n1) (n2) (bl) (by_) C0 hA (hL) (hfi) (hla) (hR) (hby) (hpos) (hbig) (hn1) (hn2) (x3) (K) (k) (fi1) (la1) (n4) H locs ls ((t_x3).trans (by omega)) ((t_by_).trans (by omega)) (by exact t_fi1) (by exact t_la1) (by exact hRk) (by exact hv) (by exact hlt) (by exact hKl) (by exact hKh) (by exact Or.inl (by omega)) (by exact hn4) (va_Psub hP [0, 1] rfl) (hD.sub [0, 1] (by decide) rfl) hS (lv_sub hl [1, 2, 3, 4] rfl)
      · skip
        rw [q_ile t_x3 t_x4] at b38
        refine lv_aload_n hx hb d_Model_rounded_41 rfl (lv_at hl 4 rfl) ?_
        refine callV_v (wr := []) C0 (c_Model_twice l dC dI cI cB cJ (h0) (th) (we) (wm) (wy) (ra) (tA) (tn) (oA) (on) (rA) (fi1) (la1) (wA) (wf) (wl) (lo) (ov) (un) (aT) (mi) (ds) (dA) (a0) (xp) (iA) (te) (k) ((60 : Nat)) (n4) (by exact t_fi1.trans rfl) (by exact t_la1) (by exact hRk) (by decide)) (cwV 0 hts (gV m_690 m_691 m_33 m_55 m_692) rfl rfl rfl (by decide +kernel) ⟨Nat.le_of_ble_eq_true rfl, Nat.le_of_ble_eq_true rfl⟩) 8 rfl rfl 0 rfl hP hD hS hA [0, 1] [] rfl rfl (by decide) (by decide) (by decide) rfl hl.1 rfl (Nat.le_of_ble_eq_true rfl) d_Model_rounded_42 ⟨Nat.le_of_ble_eq_true rfl, Nat.le_of_ble_eq_true rfl⟩ (fun u42 H locs hw9 hP hD hS => ?_)
        obtain ⟨k42, fi142⟩ := u42
        have h42 : ∃ nA : Nat, fi142.toInt = (nA : Int) ∧ (nA = (60 : Nat) ∨ nA + 1 = (60 : Nat)) ∧ RWp k42 nA n4 ∧ sv k42 400 = 2 * sv k 400 := hw9
        have hP : va_P (dC, dI) vwCl [(h0, .inr (8, [.int th, .int we, .int wm, .int wy, .int ra, .ref tA, .int tn, .ref oA, .int on, .ref rA, .int fi142, .int la1, .ref wA, .int wf, .int wl, .int lo, .int ov, .int un, .int aT, .int mi, .int ds, .ref dA, .int a0, .int xp, .ref iA, .int te])), (rA, .inl (cI, 400, .inl k42))] H := hP
        have hD : va_D A [(h0, .inr (8, [.int th, .int we, .int wm, .int wy, .int ra, .ref tA, .int tn, .ref oA, .int on, .ref rA, .int fi142, .int la1, .ref wA, .int wf, .int wl, .int lo, .int ov, .int un, .int aT, .int mi, .int ds, .ref dA, .int a0, .int xp, .ref iA, .int te])), (rA, .inl (cI, 400, .inl k42))] := hD
        obtain ⟨n5, t5, h5, hR42, hv42⟩ := h42
        have hlt4 : sv k42 400 < 2 * 10 ^ 339 := by rw [hv42]; exact Nat.mul_lt_mul_of_pos_left hz1 (by decide)
        have h560 := n3_60 hR42 hlt4
        subst h560
        obtain ⟨v45, e45⟩ : ∃ y : Int32, y = x3 + (-1) := ⟨_, rfl⟩
        have t45 : v45.toInt = K + (-1) := by rw [e45]; exact q_iadd t_x3 (show ((-1) : Int32).toInt = (-1) by decide) (by omega)
        refine lv_iinc (v := v45) (lv' := [(3, .int v45), (4, .int x4), (2, .int by_), (1, .int bl), (0, .ref h0)]) hx hb d_Model_rounded_45 hl (k := 1) rfl (by rw [e45]; rfl) (by decide) rfl (fun ls hl => ?_)
        refine lv_goto (tgt := 28) hx hb d_Model_rounded_48 (by decide) ?_
        have hK0 : K ≤ 0 := hKg.elim id (fun h => absurd hz1 (Nat.not_lt_of_le h))
        exact ih (v45) (K + (-1)) (x4) (k42) (fi142) (la1) (n4) H locs ls (by omega) ((t_x4).trans (by omega)) ((t45).trans (by omega)) ((t_by_).trans (by omega)) (by exact t5.trans rfl) (by exact t_la1) (by exact hR42) (by exact tw_step hv hK0 hv42) (by exact hlt4) (by omega) (by omega) (by exact Or.inl (by omega)) (by exact hn4) (va_Psub hP [0, 1] rfl) (hD.sub [0, 1] (by decide) rfl) hS (lv_sub hl [1, 0, 2, 3, 4] rfl)
set_option maxHeartbeats 4000000 in
set_option maxRecDepth 100000 in
theorem L_Model_rounded_10 {p : Program} {l : Launch} {e : Env} {s : State} {m : MethodId} {below : List Frame} {meth : Method} {c : Code} {dC : Nat → ClassId} {dI : Nat → Nat → Nat} {cI cB cJ : ClassId} {A : Nat → Prop} (h0 : Nat) (th : Int32) (we : Int32) (wm : Int32) (wy : Int32) (ra : Int32) (tA : Nat) (tn : Int32) (oA : Nat) (on : Int32) (rA : Nat) (fi : Int32) (la : Int32) (wA : Nat) (wf : Int32) (wl : Int32) (lo : Int32) (ov : Int32) (un : Int32) (aT : Int32) (mi : Int32) (ds : Int32) (dA : Nat) (a0 : Int32) (xp : Int32) (iA : Nat) (te : Int32) (E : Nat) (M : Nat) (f : Nat → Int32) (n1 : Nat) (n2 : Nat) (bl : Int32) (by_ : Int32) (C0 : cx dC dI cI cB cJ R_Model b_Model_rounded 8 (some .long) p s m ([.ref h0, .int bl, .int by_] : List Value).toArray meth c) (hA : ∀ q : Nat, s.heap.size ≤ q → A q) (hL : LY we wm E M) (hfi : fi.toInt = (n1 : Int)) (hla : la.toInt = (n2 : Int)) (hR : RWp f n1 n2) (hby : 0 ≤ by_.toInt ∧ by_.toInt ≤ 4) (hpos : 0 < sv f 400) (hbig : sv f 400 < 10 ^ 46 * 10 ^ 339) (hn1 : 1 ≤ n1) (hn2 : n2 ≤ 240) : ∀ n : Nat, (∀ (x3 : Int32) (hh : Nat) (x4 : Int32) (k : Nat → Int32) (fi1 : Int32) (la1 : Int32) (n3 : Nat) (n4 : Nat) (H : Heap) (locs : List Loc) (ls : Array Slot), 200 - hh < n → x4.toInt = 1 - (bsE E : Int) → x3.toInt = (hh : Int) → by_.toInt = by_.toInt → (fi1.toInt = (n3 : Int)) → (la1.toInt = (n4 : Int)) → (RWp k n3 n4) → (2 ^ hh * sv k 400 = sv f 400) → (n4 ≤ n2 + hh) → (1 ≤ n3) → (hh ≤ 153) → (hh = 0 ∨ 10 ^ 339 ≤ sv k 400) → va_P (dC, dI) vwCl [(h0, .inr (8, [.int th, .int we, .int wm, .int wy, .int ra, .ref tA, .int tn, .ref oA, .int on, .ref rA, .int fi1, .int la1, .ref wA, .int wf, .int wl, .int lo, .int ov, .int un, .int aT, .int mi, .int ds, .ref dA, .int a0, .int xp, .ref iA, .int te])), (rA, .inl (cI, 400, .inl k))] H → va_D A [(h0, .inr (8, [.int th, .int we, .int wm, .int wy, .int ra, .ref tA, .int tn, .ref oA, .int on, .ref rA, .int fi1, .int la1, .ref wA, .int wf, .int wl, .int lo, .int ov, .int un, .int aT, .int mi, .int ds, .ref dA, .int a0, .int xp, .ref iA, .int te])), (rA, .inl (cI, 400, .inl k))] → va_S A s.heap H locs → lv_has ls 8 [(4, .int x4), (3, .int x3), (2, .int by_), (1, .int bl), (0, .ref h0)] → W p l e ({ frames := 2, cells := 0, slots := 0, locals := 58 } : Room) s m ([.ref h0, .int bl, .int by_] : List Value).toArray below meth c H locs 0 0 (MQ below (va_Ql (fun (r : Int64) (u : (Nat → Int32) × (Int32) × (Int32) × (Int32) × (Int32) × (Int32)) => ∃ (Z : Nat) (ix ty : Prop), RS (sv f 400) (10 ^ 339) E M by_.toInt (¬ bl = 0) Z ix ty ∧ RR E M by_.toInt (¬ bl = 0) Z ix ty r.toInt u.2.2.2.1 u.2.2.2.2.2 u.2.2.2.2.1) (poG dC dI A (fun u : (Nat → Int32) × (Int32) × (Int32) × (Int32) × (Int32) × (Int32) => [(h0, .inr (8, [.int th, .int we, .int wm, .int wy, .int ra, .ref tA, .int tn, .ref oA, .int on, .ref rA, .int u.2.1, .int u.2.2.1, .ref wA, .int wf, .int wl, .int u.2.2.2.1, .int u.2.2.2.2.2, .int u.2.2.2.2.1, .int aT, .int mi, .int ds, .ref dA, .int a0, .int xp, .ref iA, .int te])), (rA, .inl (cI, 400, .inl u.1))])) A) ([.ref h0, .int bl, .int by_] : List Value).toArray s 0 0 A) (F0 m 10 ls [])) := by
  obtain ⟨hx, hb, hml, hown, hts, hr, hlocks, hK, hN⟩ := id C0
  intro n
  induction n with
  | zero => exact fun _ _ _ _ _ _ _ _ _ _ _ h0 _ _ _ _ _ _ _ _ _ _ _ _ _ _ _ => absurd h0 (Nat.not_lt_zero _)
  | succ n ih =>
    intro x3 hh x4 k fi1 la1 n3 n4 H locs ls hn9 t_x4 t_x3 t_by_ t_fi1 t_la1 hRk hv hn4 hn3 hhh hge hP hD hS hl
    have r_x4 := q_r32 x4
    have r_x3 := q_r32 x3
    have r_by_ := q_r32 by_
    obtain ⟨he, hm, hE1, hE2, hM1, hM2⟩ := id hL
    have hbz := p_bias hE1 hE2
    have hem := p_em hE1 hE2 hM1 hM2
    have hiz := iz_sb E M
    have hpm := p_m hM2
    have hpm1 := pw_p M
    have hpe := p_e hE1 hE2
    have hbs := bsE_r hE1 hE2
    have hR6 := hR.2.2.2
    refine lv_aload_n hx hb d_Model_rounded_10 rfl (lv_at hl 4 rfl) ?_
    refine callV_i (wr := []) C0 (c_Model_ahead l dC dI cI cB cJ (h0) (th) (we) (wm) (wy) (ra) (tA) (tn) (oA) (on) (rA) (fi1) (la1) (wA) (wf) (wl) (lo) (ov) (un) (aT) (mi) (ds) (dA) (a0) (xp) (iA) (te) (k) (n3) (n4) (by exact t_fi1) (by exact t_la1) (by exact hRk)) (cwV 0 hts (gV m_684 m_685 m_31 m_55 m_686) rfl rfl rfl (by decide +kernel) ⟨Nat.le_of_ble_eq_true rfl, Nat.le_of_ble_eq_true rfl⟩) 8 rfl rfl 0 rfl hP hD hS hA [0, 1] [] rfl rfl (by decide) (by decide) (by decide) rfl hl.1 rfl (Nat.le_of_ble_eq_true rfl) d_Model_rounded_11 ⟨Nat.le_of_ble_eq_true rfl, Nat.le_of_ble_eq_true rfl⟩ (fun r11 u11 H locs hw9 hP hD hS => ?_)
    have h11 : r11.toInt = ((min 2 (sv k 400 / 10 ^ 339) : Nat) : Int) := hw9
    have hP : va_P (dC, dI) vwCl [(h0, .inr (8, [.int th, .int we, .int wm, .int wy, .int ra, .ref tA, .int tn, .ref oA, .int on, .ref rA, .int fi1, .int la1, .ref wA, .int wf, .int wl, .int lo, .int ov, .int un, .int aT, .int mi, .int ds, .ref dA, .int a0, .int xp, .ref iA, .int te])), (rA, .inl (cI, 400, .inl k))] H := hP
    have hD : va_D A [(h0, .inr (8, [.int th, .int we, .int wm, .int wy, .int ra, .ref tA, .int tn, .ref oA, .int on, .ref rA, .int fi1, .int la1, .ref wA, .int wf, .int wl, .int lo, .int ov, .int un, .int aT, .int mi, .int ds, .ref dA, .int a0, .int xp, .ref iA, .int te])), (rA, .inl (cI, 400, .inl k))] := hD
    have t11 : r11.toInt = ((min 2 (sv k 400 / 10 ^ 339) : Nat) : Int) := h11
    refine lv_iconst (v := 2) hx hb d_Model_rounded_14 (by decide) ?_
    refine lv_icmp_ne (tgt := 28) hx hb d_Model_rounded_15 (by decide) (fun b15 => ?_) (fun b15 => ?_)
    · skip
      rw [q_ieq t11 (show (2 : Int32).toInt = 2 by decide)] at b15
      have hlt2 : sv k 400 < 2 * 10 ^ 339 := lt2_of (by generalize sv k 400 / 10 ^ 339 = y at b15 ⊢; omega)
      have h360 := n3_60 hRk hlt2
      subst h360
      exact L_Model_rounded_28 (h0) (th) (we) (wm) (wy) (ra) (tA) (tn) (oA) (on) (rA) (fi) (la) (wA) (wf) (wl) (lo) (ov) (un) (aT) (mi) (ds) (dA) (a0) (xp) (iA) (te) (E) (M) (f) (n1) (n2) (bl) (by_) C0 hA (hL) (hfi) (hla) (hR) (hby) (hpos) (hbig) (hn1) (hn2) _ (x3) ((hh : Int)) (x4) (k) (fi1) (la1) (n4) H locs ls (Nat.lt_succ_self _) ((t_x4).trans (by omega)) ((t_x3).trans (by omega)) ((t_by_).trans (by omega)) (by exact t_fi1.trans rfl) (by exact t_la1) (by exact hRk) (by rw [Int.toNat_natCast, show (-(hh : Int)).toNat = 0 by omega, Nat.pow_zero, Nat.mul_one, Nat.mul_comm]; exact hv) (by exact hlt2) (by omega) (by omega) (by exact hge.imp (fun h => by omega) id) (by omega) (va_Psub hP [0, 1] rfl) (hD.sub [0, 1] (by decide) rfl) hS (lv_sub hl [0, 1, 2, 3, 4] rfl)
    · skip
      rw [q_ieq t11 (show (2 : Int32).toInt = 2 by decide)] at b15
      have hge2 : 2 ≤ sv k 400 / 10 ^ 339 := by generalize sv k 400 / 10 ^ 339 = y at b15 ⊢; omega
      have hlim := half_lim hv hbig hge2
      refine lv_aload_n hx hb d_Model_rounded_18 rfl (lv_at hl 4 rfl) ?_
      refine callV_v (wr := []) C0 (c_Model_half l dC dI cI cB cJ (h0) (th) (we) (wm) (wy) (ra) (tA) (tn) (oA) (on) (rA) (fi1) (la1) (wA) (wf) (wl) (lo) (ov) (un) (aT) (mi) (ds) (dA) (a0) (xp) (iA) (te) (k) (n3) (n4) (by exact t_fi1) (by exact t_la1) (by exact hRk) (by omega)) (cwV 0 hts (gV m_687 m_688 m_32 m_55 m_689) rfl rfl rfl (by decide +kernel) ⟨Nat.le_of_ble_eq_true rfl, Nat.le_of_ble_eq_true rfl⟩) 8 rfl rfl 0 rfl hP hD hS hA [0, 1] [] rfl rfl (by decide) (by decide) (by decide) rfl hl.1 rfl (Nat.le_of_ble_eq_true rfl) d_Model_rounded_19 ⟨Nat.le_of_ble_eq_true rfl, Nat.le_of_ble_eq_true rfl⟩ (fun u19 H locs hw9 hP hD hS => ?_)
      obtain ⟨k19, fi119, la119⟩ := u19
      have h19 : ∃ nA nB : Nat, fi119.toInt = (nA : Int) ∧ la119.toInt = (nB : Int) ∧ n3 ≤ nA ∧ (nB = n4 ∨ nB = n4 + 1) ∧ RWp k19 nA nB ∧ 2 * sv k19 400 = sv k 400 := hw9
      have hP : va_P (dC, dI) vwCl [(h0, .inr (8, [.int th, .int we, .int wm, .int wy, .int ra, .ref tA, .int tn, .ref oA, .int on, .ref rA, .int fi119, .int la119, .ref wA, .int wf, .int wl, .int lo, .int ov, .int un, .int aT, .int mi, .int ds, .ref dA, .int a0, .int xp, .ref iA, .int te])), (rA, .inl (cI, 400, .inl k19))] H := hP
      have hD : va_D A [(h0, .inr (8, [.int th, .int we, .int wm, .int wy, .int ra, .ref tA, .int tn, .ref oA, .int on, .ref rA, .int fi119, .int la119, .ref wA, .int wf, .int wl, .int lo, .int ov, .int un, .int aT, .int mi, .int ds, .ref dA, .int a0, .int xp, .ref iA, .int te])), (rA, .inl (cI, 400, .inl k19))] := hD
      obtain ⟨n5, n6, t5, t6, h5, h6, hR19, hv19⟩ := h19
      obtain ⟨v22, e22⟩ : ∃ y : Int32, y = x3 + 1 := ⟨_, rfl⟩
      have t22 : v22.toInt = (hh : Int) + 1 := by rw [e22]; exact q_iadd t_x3 (show (1 : Int32).toInt = 1 by decide) (by omega)
      refine lv_iinc (v := v22) (lv' := [(3, .int v22), (4, .int x4), (2, .int by_), (1, .int bl), (0, .ref h0)]) hx hb d_Model_rounded_22 hl (k := 1) rfl (by rw [e22]; rfl) (by decide) rfl (fun ls hl => ?_)
      refine lv_goto (tgt := 10) hx hb d_Model_rounded_25 (by decide) ?_
      exact ih (v22) (hh + 1) (x4) (k19) (fi119) (la119) (n5) (n6) H locs ls (by omega) ((t_x4).trans (by omega)) ((t22).trans (by omega)) ((t_by_).trans (by omega)) (by exact t5) (by exact t6) (by exact hR19) (by rw [Nat.pow_succ, Nat.mul_assoc, hv19]; exact hv) (by omega) (by omega) (by omega) (by exact Or.inr (half_ge hge2 hv19)) (va_Psub hP [0, 1] rfl) (hD.sub [0, 1] (by decide) rfl) hS (lv_sub hl [1, 0, 2, 3, 4] rfl)
set_option maxHeartbeats 4000000 in
set_option maxRecDepth 100000 in
theorem c_Model_rounded (l : Launch) (dC : Nat → ClassId) (dI : Nat → Nat → Nat) (cI cB cJ : ClassId) (h0 : Nat) (th : Int32) (we : Int32) (wm : Int32) (wy : Int32) (ra : Int32) (tA : Nat) (tn : Int32) (oA : Nat) (on : Int32) (rA : Nat) (fi : Int32) (la : Int32) (wA : Nat) (wf : Int32) (wl : Int32) (lo : Int32) (ov : Int32) (un : Int32) (aT : Int32) (mi : Int32) (ds : Int32) (dA : Nat) (a0 : Int32) (xp : Int32) (iA : Nat) (te : Int32) (E : Nat) (M : Nat) (f : Nat → Int32) (n1 : Nat) (n2 : Nat) (bl : Int32) (by_ : Int32) (hL : LY we wm E M) (hfi : fi.toInt = (n1 : Int)) (hla : la.toInt = (n2 : Int)) (hR : RWp f n1 n2) (hby : 0 ≤ by_.toInt ∧ by_.toInt ≤ 4) (hpos : 0 < sv f 400) (hbig : sv f 400 < 10 ^ 46 * 10 ^ 339) (hn1 : 1 ≤ n1) (hn2 : n2 ≤ 240) : Cl l dC dI cI cB cJ y_Model_rounded w_Model_rounded ({ frames := 2, cells := 0, slots := 0, locals := 58 } : Room) [.ref h0, .int bl, .int by_] [(h0, .inr (8, [.int th, .int we, .int wm, .int wy, .int ra, .ref tA, .int tn, .ref oA, .int on, .ref rA, .int fi, .int la, .ref wA, .int wf, .int wl, .int lo, .int ov, .int un, .int aT, .int mi, .int ds, .ref dA, .int a0, .int xp, .ref iA, .int te])), (rA, .inl (cI, 400, .inl f))] (fun (r : Int64) (u : (Nat → Int32) × (Int32) × (Int32) × (Int32) × (Int32) × (Int32)) => ∃ (Z : Nat) (ix ty : Prop), RS (sv f 400) (10 ^ 339) E M by_.toInt (¬ bl = 0) Z ix ty ∧ RR E M by_.toInt (¬ bl = 0) Z ix ty r.toInt u.2.2.2.1 u.2.2.2.2.2 u.2.2.2.2.1) (fun u : (Nat → Int32) × (Int32) × (Int32) × (Int32) × (Int32) × (Int32) => [(h0, .inr (8, [.int th, .int we, .int wm, .int wy, .int ra, .ref tA, .int tn, .ref oA, .int on, .ref rA, .int u.2.1, .int u.2.2.1, .ref wA, .int wf, .int wl, .int u.2.2.2.1, .int u.2.2.2.2.2, .int u.2.2.2.2.1, .int aT, .int mi, .int ds, .ref dA, .int a0, .int xp, .ref iA, .int te])), (rA, .inl (cI, 400, .inl u.1))]) := by
  refine Cl.intro (cc := b_Model_rounded) (maxL := 8) (plainFor_of_name (by decide)) rfl (Nat.le_of_ble_eq_true rfl) ?_
  intro p e s m below meth c A ls C0 hin hA hP hD hS hl
  obtain ⟨hx, hb, hml, hown, hts, hr, hlocks, hK, hN⟩ := id C0
  obtain ⟨H, hH⟩ : ∃ H, H = s.heap := ⟨_, rfl⟩
  have hP : va_P (dC, dI) vwCl [(h0, .inr (8, [.int th, .int we, .int wm, .int wy, .int ra, .ref tA, .int tn, .ref oA, .int on, .ref rA, .int fi, .int la, .ref wA, .int wf, .int wl, .int lo, .int ov, .int un, .int aT, .int mi, .int ds, .ref dA, .int a0, .int xp, .ref iA, .int te])), (rA, .inl (cI, 400, .inl f))] s.heap := hP
  have hl : lv_has ls 8 [(0, .ref h0), (1, .int bl), (2, .int by_)] := hl
  have r_by_ := q_r32 by_
  suffices h : ∀ (H : Heap) (locs : List Loc), va_P (dC, dI) vwCl [(h0, .inr (8, [.int th, .int we, .int wm, .int wy, .int ra, .ref tA, .int tn, .ref oA, .int on, .ref rA, .int fi, .int la, .ref wA, .int wf, .int wl, .int lo, .int ov, .int un, .int aT, .int mi, .int ds, .ref dA, .int a0, .int xp, .ref iA, .int te])), (rA, .inl (cI, 400, .inl f))] H → va_D A [(h0, .inr (8, [.int th, .int we, .int wm, .int wy, .int ra, .ref tA, .int tn, .ref oA, .int on, .ref rA, .int fi, .int la, .ref wA, .int wf, .int wl, .int lo, .int ov, .int un, .int aT, .int mi, .int ds, .ref dA, .int a0, .int xp, .ref iA, .int te])), (rA, .inl (cI, 400, .inl f))] → va_S A s.heap H locs → W p l e ({ frames := 2, cells := 0, slots := 0, locals := 58 } : Room) s m ([.ref h0, .int bl, .int by_] : List Value).toArray below meth c H locs 0 0 (MQ below (va_Ql (fun (r : Int64) (u : (Nat → Int32) × (Int32) × (Int32) × (Int32) × (Int32) × (Int32)) => ∃ (Z : Nat) (ix ty : Prop), RS (sv f 400) (10 ^ 339) E M by_.toInt (¬ bl = 0) Z ix ty ∧ RR E M by_.toInt (¬ bl = 0) Z ix ty r.toInt u.2.2.2.1 u.2.2.2.2.2 u.2.2.2.2.1) (poG dC dI A (fun u : (Nat → Int32) × (Int32) × (Int32) × (Int32) × (Int32) × (Int32) => [(h0, .inr (8, [.int th, .int we, .int wm, .int wy, .int ra, .ref tA, .int tn, .ref oA, .int on, .ref rA, .int u.2.1, .int u.2.2.1, .ref wA, .int wf, .int wl, .int u.2.2.2.1, .int u.2.2.2.2.2, .int u.2.2.2.2.1, .int aT, .int mi, .int ds, .ref dA, .int a0, .int xp, .ref iA, .int te])), (rA, .inl (cI, 400, .inl u.1))])) A) ([.ref h0, .int bl, .int by_] : List Value).toArray s 0 0 A) (F0 m 0 ls []) from h _ _ hP hD hS
  clear hP hD hS hH H
  intro H locs hP hD hS
  obtain ⟨he, hm, hE1, hE2, hM1, hM2⟩ := id hL
  have hbz := p_bias hE1 hE2
  have hem := p_em hE1 hE2 hM1 hM2
  have hiz := iz_sb E M
  have hpm := p_m hM2
  have hpm1 := pw_p M
  have hpe := p_e hE1 hE2
  have hbs := bsE_r hE1 hE2
  have hR6 := hR.2.2.2
  refine lv_iconst (v := 0) hx hb d_Model_rounded_0 (by decide) ?_
  refine lv_istore_n (lv' := [(3, .int 0), (0, .ref h0), (1, .int bl), (2, .int by_)]) hx hb d_Model_rounded_1 rfl hl (by decide) rfl (fun ls hl => ?_)
  refine lv_iconst (v := 1) hx hb d_Model_rounded_2 (by decide) ?_
  refine lv_aload_n hx hb d_Model_rounded_3 rfl (lv_at hl 1 rfl) ?_
  refine callV_i (wr := [(rA, .inl (cI, 400, .inl f))]) C0 (c_Model_bias l dC dI cI cB cJ (h0) (th) (we) (wm) (wy) (ra) (tA) (tn) (oA) (on) (rA) (fi) (la) (wA) (wf) (wl) (lo) (ov) (un) (aT) (mi) (ds) (dA) (a0) (xp) (iA) (te) (E) (M) (by exact hL)) (cwV 0 hts (gV m_669 m_670 m_26 m_55 m_671) rfl rfl rfl (by decide +kernel) ⟨Nat.le_of_ble_eq_true rfl, Nat.le_of_ble_eq_true rfl⟩) 8 rfl rfl 0 rfl hP hD hS hA [0] [1] rfl rfl (by decide) (by decide) (by decide) rfl hl.1 rfl (Nat.le_of_ble_eq_true rfl) d_Model_rounded_4 ⟨Nat.le_of_ble_eq_true rfl, Nat.le_of_ble_eq_true rfl⟩ (fun r4 u4 H locs hw9 hP hD hS => ?_)
  have h4 : r4.toInt = ((2 ^ (E - 1) - 1 : Nat) : Int) := hw9
  have hP : va_P (dC, dI) vwCl [(rA, .inl (cI, 400, .inl f)), (h0, .inr (8, [.int th, .int we, .int wm, .int wy, .int ra, .ref tA, .int tn, .ref oA, .int on, .ref rA, .int fi, .int la, .ref wA, .int wf, .int wl, .int lo, .int ov, .int un, .int aT, .int mi, .int ds, .ref dA, .int a0, .int xp, .ref iA, .int te]))] H := hP
  have hD : va_D A [(rA, .inl (cI, 400, .inl f)), (h0, .inr (8, [.int th, .int we, .int wm, .int wy, .int ra, .ref tA, .int tn, .ref oA, .int on, .ref rA, .int fi, .int la, .ref wA, .int wf, .int wl, .int lo, .int ov, .int un, .int aT, .int mi, .int ds, .ref dA, .int a0, .int xp, .ref iA, .int te]))] := hD
  have t4 : r4.toInt = (bsE E : Int) := h4
  refine lv_isub hx hb d_Model_rounded_7 ?_
  refine lv_topi (fun v7 e7 => ?_)
  have t7 : v7.toInt = 1 - (bsE E : Int) := by rw [e7]; exact q_isub (show (1 : Int32).toInt = 1 by decide) t4 (by omega)
  refine lv_istore (lv' := [(4, .int v7), (3, .int 0), (0, .ref h0), (1, .int bl), (2, .int by_)]) hx hb d_Model_rounded_8 hl (by decide) rfl (fun ls hl => ?_)
  exact L_Model_rounded_10 (h0) (th) (we) (wm) (wy) (ra) (tA) (tn) (oA) (on) (rA) (fi) (la) (wA) (wf) (wl) (lo) (ov) (un) (aT) (mi) (ds) (dA) (a0) (xp) (iA) (te) (E) (M) (f) (n1) (n2) (bl) (by_) C0 hA (hL) (hfi) (hla) (hR) (hby) (hpos) (hbig) (hn1) (hn2) _ (0) (0) (v7) (f) (fi) (la) (n1) (n2) H locs ls (Nat.lt_succ_self _) ((t7).trans (by omega)) (((show (0 : Int32).toInt = 0 by decide)).trans (by omega)) (((rfl : by_.toInt = by_.toInt)).trans (by omega)) (by exact hfi) (by exact hla) (by exact hR) (by rw [Nat.pow_zero, Nat.one_mul]) (by omega) (by exact hn1) (by omega) (by exact Or.inl rfl) (va_Psub hP [1, 0] rfl) (hD.sub [1, 0] (by decide) rfl) hS (lv_sub hl [0, 1, 4, 3, 2] rfl)
