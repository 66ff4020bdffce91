set_option maxHeartbeats 4000000 in
set_option maxRecDepth 100000 in
theorem c_Desk_readNo (l : Launch) (htr : l.stackTraces = false) (dC : Nat → ClassId) (dI : Nat → Nat → Nat) (cI cB cJ : ClassId) (N : Nat) (h0 : Nat) (y0 : Nat) (tp : Nat) (dc : Nat) (rd : Nat) (fn : Nat) (dn : Nat) (td : Nat) (md : Int32) (fl : Int32) (ta : Nat) (ft : Nat → Int32) (tl : Int32) (T : Nat → Nat) (len : Nat) (dcn : Nat) (dca : Nat) (fd : Nat → Int32) (ng : Int32) (ex : Int32) (hT : TP ft tl T len) (hnd : ¬ isDec T len) (hN : ∀ (k : Nat) (q : Nat × va_E), ([(h0, .inr (7, [.ref y0, .ref tp, .ref dc, .ref rd, .ref fn, .ref dn, .ref td, .int md, .int fl])), (tp, .inr (2, [.ref ta, .int tl])), (ta, .inl (cB, 60, .inl ft)), (dc, .inr (3, [.ref dcn, .int ng, .int ex])), (dcn, .inr (1, [.ref dca])), (dca, .inl (cI, 12, .inl fd))] : va_W)[k]? = some q → N ≤ q.1) : Ct l dC dI cI cB cJ y_Desk_read (Cond.code y_Desk_read b_Desk_read 5 (some .long) :: (gT ++ thT)) ({ frames := 6, cells := 1, slots := 6, locals := 123 } : Room) [.ref h0] [(h0, .inr (7, [.ref y0, .ref tp, .ref dc, .ref rd, .ref fn, .ref dn, .ref td, .int md, .int fl])), (tp, .inr (2, [.ref ta, .int tl])), (ta, .inl (cB, 60, .inl ft)), (dc, .inr (3, [.ref dcn, .int ng, .int ex])), (dcn, .inr (1, [.ref dca])), (dca, .inl (cI, 12, .inl fd))] (fun (u : (Nat → Int32) × (Int32) × (Int32)) => True) (fun u : (Nat → Int32) × (Int32) × (Int32) => [(h0, .inr (7, [.ref y0, .ref tp, .ref dc, .ref rd, .ref fn, .ref dn, .ref td, .int md, .int fl])), (tp, .inr (2, [.ref ta, .int 0])), (ta, .inl (cB, 60, .inl ft)), (dc, .inr (3, [.ref dcn, .int u.2.1, .int u.2.2])), (dcn, .inr (1, [.ref dca])), (dca, .inl (cI, 12, .inl u.1))]) iaeN N := by
  refine Ct.intro (cc := b_Desk_read) (maxL := 5) (plainFor_of_name (by decide)) rfl (Nat.le_of_ble_eq_true rfl) hN ?_
  intro p e s m below meth c A ls C0 hin hA hne hth hSK hlow hP hD hS hl
  obtain ⟨hx, hb, hml, hown, hts, hr, hlocks, hK, hN2⟩ := id C0
  have hN := hN2
  have hP : va_P (dC, dI) vwCl [(h0, .inr (7, [.ref y0, .ref tp, .ref dc, .ref rd, .ref fn, .ref dn, .ref td, .int md, .int fl])), (tp, .inr (2, [.ref ta, .int tl])), (ta, .inl (cB, 60, .inl ft)), (dc, .inr (3, [.ref dcn, .int ng, .int ex])), (dcn, .inr (1, [.ref dca])), (dca, .inl (cI, 12, .inl fd))] s.heap := hP
  have hl : lv_has ls 5 [(0, .ref h0)] := hl
  suffices h : ∀ (H : Heap) (locs : List Loc), va_P (dC, dI) vwCl [(h0, .inr (7, [.ref y0, .ref tp, .ref dc, .ref rd, .ref fn, .ref dn, .ref td, .int md, .int fl])), (tp, .inr (2, [.ref ta, .int tl])), (ta, .inl (cB, 60, .inl ft)), (dc, .inr (3, [.ref dcn, .int ng, .int ex])), (dcn, .inr (1, [.ref dca])), (dca, .inl (cI, 12, .inl fd))] H → va_D A [(h0, .inr (7, [.ref y0, .ref tp, .ref dc, .ref rd, .ref fn, .ref dn, .ref td, .int md, .int fl])), (tp, .inr (2, [.ref ta, .int tl])), (ta, .inl (cB, 60, .inl ft)), (dc, .inr (3, [.ref dcn, .int ng, .int ex])), (dcn, .inr (1, [.ref dca])), (dca, .inl (cI, 12, .inl fd))] → va_S A s.heap H locs → W p l e ({ frames := 6, cells := 1, slots := 6, locals := 123 } : Room) s m ([.ref h0] : List Value).toArray below meth c H locs 0 0 (MQT below (QTA dC dI (fun (u : (Nat → Int32) × (Int32) × (Int32)) => True) (fun u : (Nat → Int32) × (Int32) × (Int32) => [(h0, .inr (7, [.ref y0, .ref tp, .ref dc, .ref rd, .ref fn, .ref dn, .ref td, .int md, .int fl])), (tp, .inr (2, [.ref ta, .int 0])), (ta, .inl (cB, 60, .inl ft)), (dc, .inr (3, [.ref dcn, .int u.2.1, .int u.2.2])), (dcn, .inr (1, [.ref dca])), (dca, .inl (cI, 12, .inl u.1))]) iaeN A) ([.ref h0] : List Value).toArray s 1 6 A) (F0 m 0 ls []) from h _ _ hP hD hS
  clear hP hD hS
  intro H locs hP hD hS
  refine lv_aload_n hx hb d_Desk_read_0 rfl (lv_at hl 0 rfl) ?_
  refine va_get (D := (dC, dI)) (ci := 7) (v := .ref dc) (C := R_Desk) (T := F_Desk) (N := 9) hx hb hts u_Desk hown hK hP 0 rfl rfl 2 (by decide) (hts _ m_174) (fun _ h9 => h9) rfl d_Desk_read_1 ?_
  refine lv_aload_n hx hb d_Desk_read_4 rfl (lv_at hl 0 rfl) ?_
  refine va_get (D := (dC, dI)) (ci := 7) (v := .ref tp) (C := R_Desk) (T := F_Desk) (N := 9) hx hb hts u_Desk hown hK hP 0 rfl rfl 1 (by decide) (hts _ m_173) (fun _ h9 => h9) rfl d_Desk_read_5 ?_
  refine callV_i (wr := [(h0, .inr (7, [.ref y0, .ref tp, .ref dc, .ref rd, .ref fn, .ref dn, .ref td, .int md, .int fl]))]) C0 (c_Decimal_parse l dC dI cI cB cJ (dc) (dcn) (dca) (fd) (ng) (ex) (tp) (ta) (ft) (tl) (T) (len) (by exact hT)) (cwV 1 hts (gV m_251 m_252 m_253 m_50 m_254) rfl rfl rfl (by decide +kernel) ⟨Nat.le_of_ble_eq_true rfl, Nat.le_of_ble_eq_true rfl⟩) 3 rfl rfl 0 rfl hP hD hS hA [3, 4, 5, 1, 2] [0] rfl rfl (by decide) (by decide) (by decide) rfl hl.1 rfl (Nat.le_of_ble_eq_true rfl) d_Desk_read_8 ⟨Nat.le_of_ble_eq_true rfl, Nat.le_of_ble_eq_true rfl⟩ (fun r8 u8 H locs hw9 hP hD hS => ?_)
  obtain ⟨k8, neg18, ex18⟩ := u8
  have h8 : (r8 = 0 ∧ ¬ isDec T len) ∨ (r8 = 1 ∧ isDec T len ∧ nv k8 12 = pV T len ∧ neg18.toInt = (pS T len : Int) ∧ ex18.toInt = -(pB T len : Int) + xE T len (pQ T len)) := hw9
  have hP : va_P (dC, dI) vwCl [(h0, .inr (7, [.ref y0, .ref tp, .ref dc, .ref rd, .ref fn, .ref dn, .ref td, .int md, .int fl])), (dc, .inr (3, [.ref dcn, .int neg18, .int ex18])), (dcn, .inr (1, [.ref dca])), (dca, .inl (cI, 12, .inl k8)), (tp, .inr (2, [.ref ta, .int tl])), (ta, .inl (cB, 60, .inl ft))] H := hP
  have hD : va_D A [(h0, .inr (7, [.ref y0, .ref tp, .ref dc, .ref rd, .ref fn, .ref dn, .ref td, .int md, .int fl])), (dc, .inr (3, [.ref dcn, .int neg18, .int ex18])), (dcn, .inr (1, [.ref dca])), (dca, .inl (cI, 12, .inl k8)), (tp, .inr (2, [.ref ta, .int tl])), (ta, .inl (cB, 60, .inl ft))] := hD
  refine lv_istore_n (lv' := [(1, .int r8), (0, .ref h0)]) hx hb d_Desk_read_11 rfl hl (by decide) rfl (fun ls hl => ?_)
  refine lv_aload_n hx hb d_Desk_read_12 rfl (lv_at hl 1 rfl) ?_
  refine va_get (D := (dC, dI)) (ci := 7) (v := .ref tp) (C := R_Desk) (T := F_Desk) (N := 9) hx hb hts u_Desk hown hK hP 0 rfl rfl 1 (by decide) (hts _ m_173) (fun _ h9 => h9) rfl d_Desk_read_13 ?_
  refine callV_v (wr := [(h0, .inr (7, [.ref y0, .ref tp, .ref dc, .ref rd, .ref fn, .ref dn, .ref td, .int md, .int fl])), (dc, .inr (3, [.ref dcn, .int neg18, .int ex18])), (dcn, .inr (1, [.ref dca])), (dca, .inl (cI, 12, .inl k8))]) C0 (c_Tape_wipe l dC dI cI cB cJ (tp) (ta) (ft) (tl)) (cwV 0 hts (gV m_277 m_278 m_279 m_49 m_280) rfl rfl rfl (by decide +kernel) ⟨Nat.le_of_ble_eq_true rfl, Nat.le_of_ble_eq_true rfl⟩) 2 rfl rfl 0 rfl hP hD hS hA [4, 5] [0, 1, 2, 3] rfl rfl (by decide) (by decide) (by decide) rfl hl.1 rfl (Nat.le_of_ble_eq_true rfl) d_Desk_read_16 ⟨Nat.le_of_ble_eq_true rfl, Nat.le_of_ble_eq_true rfl⟩ (fun u16 H locs hw9 hP hD hS => ?_)
  have h16 : True := hw9
  have hP : va_P (dC, dI) vwCl [(h0, .inr (7, [.ref y0, .ref tp, .ref dc, .ref rd, .ref fn, .ref dn, .ref td, .int md, .int fl])), (dc, .inr (3, [.ref dcn, .int neg18, .int ex18])), (dcn, .inr (1, [.ref dca])), (dca, .inl (cI, 12, .inl k8)), (tp, .inr (2, [.ref ta, .int 0])), (ta, .inl (cB, 60, .inl ft))] H := hP
  have hD : va_D A [(h0, .inr (7, [.ref y0, .ref tp, .ref dc, .ref rd, .ref fn, .ref dn, .ref td, .int md, .int fl])), (dc, .inr (3, [.ref dcn, .int neg18, .int ex18])), (dcn, .inr (1, [.ref dca])), (dca, .inl (cI, 12, .inl k8)), (tp, .inr (2, [.ref ta, .int 0])), (ta, .inl (cB, 60, .inl ft))] := hD
  refine lv_iload_n hx hb d_Desk_read_19 rfl (lv_at hl 0 rfl) ?_
  refine lv_if_ne (tgt := 33) hx hb d_Desk_read_20 (by decide) (fun b20 => ?_) (fun b20 => ?_)
  · skip
    exact absurd (h8.elim (fun h => absurd h.1 b20) (fun h => h.2.1)) hnd
  · skip
    exact th_iae (text := "the tape is no decimal") C0 htr hne hth hSK hlow (by decide +kernel) hl.1 d_Desk_read_23 d_Desk_read_26 d_Desk_read_27 d_Desk_read_29 d_Desk_read_32 (Nat.le_of_ble_eq_true rfl) (Nat.le_of_ble_eq_true rfl) (Nat.le_of_ble_eq_true rfl) (Nat.le_of_ble_eq_true rfl) (Nat.le_of_ble_eq_true rfl) (Nat.le_of_ble_eq_true rfl) (u := (k8, neg18, ex18)) (by show True; trivial) hP hD hS [0, 4, 5, 1, 2, 3] (by decide) rfl
set_option maxHeartbeats 4000000 in
set_option maxRecDepth 100000 in
theorem c_Desk_shortestNo (l : Launch) (htr : l.stackTraces = false) (dC : Nat → ClassId) (dI : Nat → Nat → Nat) (cI cB cJ : ClassId) (N : Nat) (h0 : Nat) (y0 : Nat) (tp : Nat) (dc : Nat) (rd : Nat) (fn : Nat) (dn : Nat) (td : Nat) (md : Int32) (fl : Int32) (eb : Int32) (mb : Int32) (E : Nat) (M : Nat) (x : Int64) (hL : LY eb mb E M) (hnp : ¬ isPat E M x.toInt) (hN : ∀ (k : Nat) (q : Nat × va_E), ([(h0, .inr (7, [.ref y0, .ref tp, .ref dc, .ref rd, .ref fn, .ref dn, .ref td, .int md, .int fl])), (y0, .inr (0, [.int eb, .int mb]))] : va_W)[k]? = some q → N ≤ q.1) : Ct l dC dI cI cB cJ y_Desk_shortest (Cond.code y_Desk_shortest b_Desk_shortest 3 (some .int) :: (gT ++ thT)) ({ frames := 6, cells := 1, slots := 6, locals := 144 } : Room) [.ref h0, .long x] [(h0, .inr (7, [.ref y0, .ref tp, .ref dc, .ref rd, .ref fn, .ref dn, .ref td, .int md, .int fl])), (y0, .inr (0, [.int eb, .int mb]))] (fun (u : Unit) => True) (fun u : Unit => [(h0, .inr (7, [.ref y0, .ref tp, .ref dc, .ref rd, .ref fn, .ref dn, .ref td, .int md, .int fl])), (y0, .inr (0, [.int eb, .int mb]))]) iaeN N := by
  refine Ct.intro (cc := b_Desk_shortest) (maxL := 3) (plainFor_of_name (by decide)) rfl (Nat.le_of_ble_eq_true rfl) hN ?_
  intro p e s m below meth c A ls C0 hin hA hne hth hSK hlow hP hD hS hl
  obtain ⟨hx, hb, hml, hown, hts, hr, hlocks, hK, hN2⟩ := id C0
  have hN := hN2
  have hP : va_P (dC, dI) vwCl [(h0, .inr (7, [.ref y0, .ref tp, .ref dc, .ref rd, .ref fn, .ref dn, .ref td, .int md, .int fl])), (y0, .inr (0, [.int eb, .int mb]))] s.heap := hP
  have hl : lv_has ls 3 [(0, .ref h0), (1, .long x)] := hl
  have r_x := q_r64 x
  suffices h : ∀ (H : Heap) (locs : List Loc), va_P (dC, dI) vwCl [(h0, .inr (7, [.ref y0, .ref tp, .ref dc, .ref rd, .ref fn, .ref dn, .ref td, .int md, .int fl])), (y0, .inr (0, [.int eb, .int mb]))] H → va_D A [(h0, .inr (7, [.ref y0, .ref tp, .ref dc, .ref rd, .ref fn, .ref dn, .ref td, .int md, .int fl])), (y0, .inr (0, [.int eb, .int mb]))] → va_S A s.heap H locs → W p l e ({ frames := 6, cells := 1, slots := 6, locals := 144 } : Room) s m ([.ref h0, .long x] : List Value).toArray below meth c H locs 0 0 (MQT below (QTA dC dI (fun (u : Unit) => True) (fun u : Unit => [(h0, .inr (7, [.ref y0, .ref tp, .ref dc, .ref rd, .ref fn, .ref dn, .ref td, .int md, .int fl])), (y0, .inr (0, [.int eb, .int mb]))]) iaeN A) ([.ref h0, .long x] : List Value).toArray s 1 6 A) (F0 m 0 ls []) from h _ _ hP hD hS
  clear hP hD hS
  intro H locs hP hD hS
  obtain ⟨he, hm, hE1, hE2, hM1, hM2⟩ := id hL
  have hbz := p_bias hE1 hE2
  have hem := p_em hE1 hE2 hM1 hM2
  have hiz := iz_sb E M
  have hpm := p_m hM2
  have hpm1 := pw_p M
  have hpe := p_e hE1 hE2
  refine lv_aload_n hx hb d_Desk_shortest_0 rfl (lv_at hl 0 rfl) ?_
  refine va_get (D := (dC, dI)) (ci := 7) (v := .ref y0) (C := R_Desk) (T := F_Desk) (N := 9) hx hb hts u_Desk hown hK hP 0 rfl rfl 0 (by decide) (hts _ m_172) (fun _ h9 => h9) rfl d_Desk_shortest_1 ?_
  refine lv_lload_n hx hb d_Desk_shortest_4 rfl (lv_at hl 1 rfl) ?_
  refine callV_i (wr := [(h0, .inr (7, [.ref y0, .ref tp, .ref dc, .ref rd, .ref fn, .ref dn, .ref td, .int md, .int fl]))]) C0 (c_Layout_holds l dC dI cI cB cJ (y0) (eb) (mb) (E) (M) (x) (by exact hL)) (cwV 1 hts (gV m_221 m_222 m_223 m_48 m_224) rfl rfl rfl (by decide +kernel) ⟨Nat.le_of_ble_eq_true rfl, Nat.le_of_ble_eq_true rfl⟩) 0 rfl rfl 0 rfl hP hD hS hA [1] [0] rfl rfl (by decide) (by decide) (by decide) rfl hl.1 rfl (Nat.le_of_ble_eq_true rfl) d_Desk_shortest_5 ⟨Nat.le_of_ble_eq_true rfl, Nat.le_of_ble_eq_true rfl⟩ (fun r5 u5 H locs hw9 hP hD hS => ?_)
  have h5 : r5 = if 0 ≤ x.toInt ∧ x.toInt < ((2 * sb E M : Nat) : Int) then 1 else 0 := hw9
  have hP : va_P (dC, dI) vwCl [(h0, .inr (7, [.ref y0, .ref tp, .ref dc, .ref rd, .ref fn, .ref dn, .ref td, .int md, .int fl])), (y0, .inr (0, [.int eb, .int mb]))] H := hP
  have hD : va_D A [(h0, .inr (7, [.ref y0, .ref tp, .ref dc, .ref rd, .ref fn, .ref dn, .ref td, .int md, .int fl])), (y0, .inr (0, [.int eb, .int mb]))] := hD
  refine lv_if_ne (tgt := 21) hx hb d_Desk_shortest_8 (by decide) (fun b8 => ?_) (fun b8 => ?_)
  · skip
    exact absurd (by rw [h5]; exact if_neg hnp) b8
  · skip
    exact th_iae (text := "no such pattern") C0 htr hne hth hSK hlow (by decide +kernel) hl.1 d_Desk_shortest_11 d_Desk_shortest_14 d_Desk_shortest_15 d_Desk_shortest_17 d_Desk_shortest_20 (Nat.le_of_ble_eq_true rfl) (Nat.le_of_ble_eq_true rfl) (Nat.le_of_ble_eq_true rfl) (Nat.le_of_ble_eq_true rfl) (Nat.le_of_ble_eq_true rfl) (Nat.le_of_ble_eq_true rfl) (u := ()) (by show True; trivial) hP hD hS [0, 1] (by decide) rfl
set_option maxHeartbeats 4000000 in
set_option maxRecDepth 100000 in
theorem c_Desk_exactNo (l : Launch) (htr : l.stackTraces = false) (dC : Nat → ClassId) (dI : Nat → Nat → Nat) (cI cB cJ : ClassId) (N : Nat) (h0 : Nat) (y0 : Nat) (tp : Nat) (dc : Nat) (rd : Nat) (fn : Nat) (dn : Nat) (td : Nat) (md : Int32) (fl : Int32) (eb : Int32) (mb : Int32) (E : Nat) (M : Nat) (x : Int64) (hL : LY eb mb E M) (hnp : ¬ isPat E M x.toInt) (hN : ∀ (k : Nat) (q : Nat × va_E), ([(h0, .inr (7, [.ref y0, .ref tp, .ref dc, .ref rd, .ref fn, .ref dn, .ref td, .int md, .int fl])), (y0, .inr (0, [.int eb, .int mb]))] : va_W)[k]? = some q → N ≤ q.1) : Ct l dC dI cI cB cJ y_Desk_exact (Cond.code y_Desk_exact b_Desk_exact 3 (some .int) :: (gT ++ thT)) ({ frames := 6, cells := 1, slots := 6, locals := 100 } : Room) [.ref h0, .long x] [(h0, .inr (7, [.ref y0, .ref tp, .ref dc, .ref rd, .ref fn, .ref dn, .ref td, .int md, .int fl])), (y0, .inr (0, [.int eb, .int mb]))] (fun (u : Unit) => True) (fun u : Unit => [(h0, .inr (7, [.ref y0, .ref tp, .ref dc, .ref rd, .ref fn, .ref dn, .ref td, .int md, .int fl])), (y0, .inr (0, [.int eb, .int mb]))]) iaeN N := by
  refine Ct.intro (cc := b_Desk_exact) (maxL := 3) (plainFor_of_name (by decide)) rfl (Nat.le_of_ble_eq_true rfl) hN ?_
  intro p e s m below meth c A ls C0 hin hA hne hth hSK hlow hP hD hS hl
  obtain ⟨hx, hb, hml, hown, hts, hr, hlocks, hK, hN2⟩ := id C0
  have hN := hN2
  have hP : va_P (dC, dI) vwCl [(h0, .inr (7, [.ref y0, .ref tp, .ref dc, .ref rd, .ref fn, .ref dn, .ref td, .int md, .int fl])), (y0, .inr (0, [.int eb, .int mb]))] s.heap := hP
  have hl : lv_has ls 3 [(0, .ref h0), (1, .long x)] := hl
  have r_x := q_r64 x
  suffices h : ∀ (H : Heap) (locs : List Loc), va_P (dC, dI) vwCl [(h0, .inr (7, [.ref y0, .ref tp, .ref dc, .ref rd, .ref fn, .ref dn, .ref td, .int md, .int fl])), (y0, .inr (0, [.int eb, .int mb]))] H → va_D A [(h0, .inr (7, [.ref y0, .ref tp, .ref dc, .ref rd, .ref fn, .ref dn, .ref td, .int md, .int fl])), (y0, .inr (0, [.int eb, .int mb]))] → va_S A s.heap H locs → W p l e ({ frames := 6, cells := 1, slots := 6, locals := 100 } : Room) s m ([.ref h0, .long x] : List Value).toArray below meth c H locs 0 0 (MQT below (QTA dC dI (fun (u : Unit) => True) (fun u : Unit => [(h0, .inr (7, [.ref y0, .ref tp, .ref dc, .ref rd, .ref fn, .ref dn, .ref td, .int md, .int fl])), (y0, .inr (0, [.int eb, .int mb]))]) iaeN A) ([.ref h0, .long x] : List Value).toArray s 1 6 A) (F0 m 0 ls []) from h _ _ hP hD hS
  clear hP hD hS
  intro H locs hP hD hS
  obtain ⟨he, hm, hE1, hE2, hM1, hM2⟩ := id hL
  have hbz := p_bias hE1 hE2
  have hem := p_em hE1 hE2 hM1 hM2
  have hiz := iz_sb E M
  have hpm := p_m hM2
  have hpm1 := pw_p M
  have hpe := p_e hE1 hE2
  refine lv_aload_n hx hb d_Desk_exact_0 rfl (lv_at hl 0 rfl) ?_
  refine va_get (D := (dC, dI)) (ci := 7) (v := .ref y0) (C := R_Desk) (T := F_Desk) (N := 9) hx hb hts u_Desk hown hK hP 0 rfl rfl 0 (by decide) (hts _ m_172) (fun _ h9 => h9) rfl d_Desk_exact_1 ?_
  refine lv_lload_n hx hb d_Desk_exact_4 rfl (lv_at hl 1 rfl) ?_
  refine callV_i (wr := [(h0, .inr (7, [.ref y0, .ref tp, .ref dc, .ref rd, .ref fn, .ref dn, .ref td, .int md, .int fl]))]) C0 (c_Layout_holds l dC dI cI cB cJ (y0) (eb) (mb) (E) (M) (x) (by exact hL)) (cwV 1 hts (gV m_221 m_222 m_223 m_48 m_224) rfl rfl rfl (by decide +kernel) ⟨Nat.le_of_ble_eq_true rfl, Nat.le_of_ble_eq_true rfl⟩) 0 rfl rfl 0 rfl hP hD hS hA [1] [0] rfl rfl (by decide) (by decide) (by decide) rfl hl.1 rfl (Nat.le_of_ble_eq_true rfl) d_Desk_exact_5 ⟨Nat.le_of_ble_eq_true rfl, Nat.le_of_ble_eq_true rfl⟩ (fun r5 u5 H locs hw9 hP hD hS => ?_)
  have h5 : r5 = if 0 ≤ x.toInt ∧ x.toInt < ((2 * sb E M : Nat) : Int) then 1 else 0 := hw9
  have hP : va_P (dC, dI) vwCl [(h0, .inr (7, [.ref y0, .ref tp, .ref dc, .ref rd, .ref fn, .ref dn, .ref td, .int md, .int fl])), (y0, .inr (0, [.int eb, .int mb]))] H := hP
  have hD : va_D A [(h0, .inr (7, [.ref y0, .ref tp, .ref dc, .ref rd, .ref fn, .ref dn, .ref td, .int md, .int fl])), (y0, .inr (0, [.int eb, .int mb]))] := hD
  refine lv_if_ne (tgt := 21) hx hb d_Desk_exact_8 (by decide) (fun b8 => ?_) (fun b8 => ?_)
  · skip
    exact absurd (by rw [h5]; exact if_neg hnp) b8
  · skip
    exact th_iae (text := "no such pattern") C0 htr hne hth hSK hlow (by decide +kernel) hl.1 d_Desk_exact_11 d_Desk_exact_14 d_Desk_exact_15 d_Desk_exact_17 d_Desk_exact_20 (Nat.le_of_ble_eq_true rfl) (Nat.le_of_ble_eq_true rfl) (Nat.le_of_ble_eq_true rfl) (Nat.le_of_ble_eq_true rfl) (Nat.le_of_ble_eq_true rfl) (Nat.le_of_ble_eq_true rfl) (u := ()) (by show True; trivial) hP hD hS [0, 1] (by decide) rfl
