/-! THE LAW: case 9 -/
section LD9
set_option maxHeartbeats 8000000 in
set_option maxRecDepth 100000 in
theorem law_536 {p : Program} {l : Launch} {e : Env} {s : State} {m : MethodId} {below : List Frame} {meth : Method} {c : Code} {dC : Nat → ClassId} {dI : Nat → Nat → Nat} {cI cB cJ : ClassId} {A : Nat → Prop} {Q : State → Prop} {b L : Nat} {xs : Nat → Int32} {D0 y0 tp dc rd fn dn td ta dcn dca r1 q1 r2 q2 n1 m1 n2 m2 n3 m3 n4 m4 n5 m5 da la lb M0 tA oA rA wA dA iA ol : Nat} (htr : l.stackTraces = false) (X0 : lwX dC dI cI cB cJ p s m b meth c L xs) (hL : L ≤ 4) (hA : ∀ q : Nat, s.heap.size ≤ q → A q) (hAl : ∀ q : Nat, A q → s.heap.size ≤ q) {cs sl : Nat} (hcs : cs + 1 ≤ 42) (hsl : sl + 6 ≤ 1997) {i : Int32} {k : Nat} (ti : i.toInt = (k : Int)) (hk : k + 4 ≤ L) (next : LK p l e s m below meth c dC dI cI cB cJ A Q b D0 y0 tp dc rd fn dn td ta dcn dca r1 q1 r2 q2 n1 m1 n2 m2 n3 m3 n4 m4 n5 m5 da la lb M0 tA oA rA wA dA iA ol i 622 (cs + 1) (sl + 6)) : LK p l e s m below meth c dC dI cI cB cJ A Q b D0 y0 tp dc rd fn dn td ta dcn dca r1 q1 r2 q2 n1 m1 n2 m2 n3 m3 n4 m4 n5 m5 da la lb M0 tA oA rA wA dA iA ol i 536 cs sl := by
  obtain ⟨C0, hth, hcw, hSK, hX, hbl⟩ := X0
  obtain ⟨hx, hb, hml, hown, hts, hr, hlocks, hK, hN⟩ := id C0
  have hbA : ¬ A b := fun h => absurd (hAl _ h) (by omega)
  have hlow : ∀ q, q < s.heap.size → ¬ A q := fun q h h2 => absurd (hAl _ h2) (by omega)
  intro md fl eb mb tl ft ng xe fd sz ix ty fr1 fr2 en dg ct pw fr fu fB fA fs fq ll fL gL th we wm wy ra tn on fi lx wf wl lo ov un aT mi ds a0 xp te zt zo zr zw zd zi fo E M T len wt H locs ls i_LD i_LM i_wy i_md i_ra i_TD i_TM i_OD i_OM i_f0 hP hD hS hl
  refine lv_aload_n hx hb d_Law_law_536 rfl (lv_at hl 3 rfl) ?_
  refine lv_aload_n hx hb d_Law_law_537 rfl (lv_at hl 4 rfl) ?_
  refine lv_iload hx hb d_Law_law_538 (lv_at hl 0 rfl) ?_
  refine lv_iconst (v := 1) hx hb d_Law_law_540 (by decide) ?_
  refine lv_iadd hx hb d_Law_law_541 ?_
  refine lv_topi (fun v541 e541 => ?_)
  have t541 : v541.toInt = (k : Int) + 1 := by rw [e541]; exact q_iadd ti (show (1 : Int32).toInt = 1 by decide) (by omega)
  refine va_sld hx hb hX hbl hbA hS (q_in t541 (by omega)) d_Law_law_542 ?_
  refine lv_topi (fun v542 e542 => ?_)
  refine lv_i2l hx hb d_Law_law_543 rfl ?_
  refine lv_topl (fun v543 e543 => ?_)
  refine lv_bipush (v := 32) hx hb d_Law_law_544 (by decide) ?_
  refine lv_lshl hx hb d_Law_law_546 rfl ?_
  refine lv_topl (fun v546 e546 => ?_)
  refine lv_aload_n hx hb d_Law_law_547 rfl (lv_at hl 4 rfl) ?_
  refine lv_iload hx hb d_Law_law_548 (lv_at hl 0 rfl) ?_
  refine lv_iconst (v := 2) hx hb d_Law_law_550 (by decide) ?_
  refine lv_iadd hx hb d_Law_law_551 ?_
  refine lv_topi (fun v551 e551 => ?_)
  have t551 : v551.toInt = (k : Int) + 2 := by rw [e551]; exact q_iadd ti (show (2 : Int32).toInt = 2 by decide) (by omega)
  refine va_sld hx hb hX hbl hbA hS (q_in t551 (by omega)) d_Law_law_552 ?_
  refine lv_topi (fun v552 e552 => ?_)
  refine lv_i2l hx hb d_Law_law_553 rfl ?_
  refine lv_topl (fun v553 e553 => ?_)
  refine lv_ldc2 (v := 4294967295) hx hb hown (hts _ m_747) d_Law_law_554 ?_
  refine lv_land hx hb d_Law_law_557 ?_
  refine lv_topl (fun v557 e557 => ?_)
  refine lv_lor hx hb d_Law_law_558 ?_
  refine lv_topl (fun v558 e558 => ?_)
  refine lv_aload_n hx hb d_Law_law_559 rfl (lv_at hl 4 rfl) ?_
  refine lv_iload hx hb d_Law_law_560 (lv_at hl 0 rfl) ?_
  refine lv_iconst (v := 3) hx hb d_Law_law_562 (by decide) ?_
  refine lv_iadd hx hb d_Law_law_563 ?_
  refine lv_topi (fun v563 e563 => ?_)
  have t563 : v563.toInt = (k : Int) + 3 := by rw [e563]; exact q_iadd ti (show (3 : Int32).toInt = 3 by decide) (by omega)
  refine va_sld hx hb hX hbl hbA hS (q_in t563 (by omega)) d_Law_law_564 ?_
  refine lv_topi (fun v564 e564 => ?_)
  refine lv_if_eq (tgt := 572) hx hb d_Law_law_565 (by decide) (fun b565 => ?_) (fun b565 => ?_)
  · skip
    refine lv_iconst (v := 0) hx hb d_Law_law_572 (by decide) ?_
    refine callV_l (wr := [(tp, .inr (2, [.ref ta, .int tl])), (ta, .inl (cB, 60, .inl ft)), (dc, .inr (3, [.ref dcn, .int ng, .int xe])), (dcn, .inr (1, [.ref dca])), (dca, .inl (cI, 12, .inl fd)), (rd, .inr (4, [.ref r1, .ref r2, .long sz, .int ix, .int ty])), (r1, .inr (1, [.ref q1])), (q1, .inl (cI, 12, .inl fr1)), (r2, .inr (1, [.ref q2])), (q2, .inl (cI, 12, .inl fr2)), (fn, .inr (5, [.ref n1, .ref n2, .ref n3, .ref n4, .ref n5, .int en, .long dg, .int ct, .int pw])), (n1, .inr (1, [.ref m1])), (m1, .inl (cI, 12, .inl fr)), (n2, .inr (1, [.ref m2])), (m2, .inl (cI, 12, .inl fu)), (n3, .inr (1, [.ref m3])), (m3, .inl (cI, 12, .inl fB)), (n4, .inr (1, [.ref m4])), (m4, .inl (cI, 12, .inl fA)), (n5, .inr (1, [.ref m5])), (m5, .inl (cI, 12, .inl fs)), (dn, .inr (1, [.ref da])), (da, .inl (cI, 12, .inl fq)), (td, .inr (6, [.ref la, .ref lb, .int ll])), (la, .inl (cB, 160, .inl fL)), (lb, .inl (cB, 160, .inl gL)), (M0, .inr (8, [.int th, .int we, .int wm, .int wy, .int ra, .ref tA, .int tn, .ref oA, .int on, .ref rA, .int fi, .int lx, .ref wA, .int wf, .int wl, .int lo, .int ov, .int un, .int aT, .int mi, .int ds, .ref dA, .int a0, .int xp, .ref iA, .int te])), (tA, .inl (cI, 60, .inl zt)), (oA, .inl (cI, 300, .inl zo)), (rA, .inl (cI, 400, .inl zr)), (wA, .inl (cI, 400, .inl zw)), (dA, .inl (cI, 40, .inl zd)), (iA, .inl (cI, 200, .inl zi)), (ol, .inl (cJ, 1, .inr (.inl fo)))]) C0 (c_Desk_next l dC dI cI cB cJ (D0) (y0) (tp) (dc) (rd) (fn) (dn) (td) (md) (fl) (eb) (mb) (E) (M) (v558) ((0 : Int32)) (by first | assumption | (rw [i_wy]; assumption) | exact Or.inl rfl | exact Or.inr rfl) (by first | assumption | (rw [i_wy]; assumption) | exact Or.inl rfl | exact Or.inr rfl)) (cwV 2 hts (gV m_217 m_218 m_219 m_47 m_220) rfl rfl rfl (by decide +kernel) ⟨Nat.le_of_ble_eq_true rfl, Nat.le_of_ble_eq_true rfl⟩) 7 rfl rfl 0 rfl hP hD hS hA [0, 1] [2, 3, 4, 5, 6, 7, 8, 9, 10, 11, 12, 13, 14, 15, 16, 17, 18, 19, 20, 21, 22, 23, 24, 25, 26, 27, 28, 29, 30, 31, 32, 33, 34, 35] rfl rfl (by decide) (by decide) (by decide) rfl hl.1 rfl (Nat.le_of_ble_eq_true rfl) d_Law_law_573 ⟨by show cs + 0 ≤ 42; omega, by show sl + 0 ≤ 1997; omega⟩ (fun r573 u573 H locs hw9 hP hD hS => ?_)
    have h573 : NX E M v558.toInt ((0 : Int32) = 1) r573.toInt := hw9
    have hP : va_P (dC, dI) vwCl [(tp, .inr (2, [.ref ta, .int tl])), (ta, .inl (cB, 60, .inl ft)), (dc, .inr (3, [.ref dcn, .int ng, .int xe])), (dcn, .inr (1, [.ref dca])), (dca, .inl (cI, 12, .inl fd)), (rd, .inr (4, [.ref r1, .ref r2, .long sz, .int ix, .int ty])), (r1, .inr (1, [.ref q1])), (q1, .inl (cI, 12, .inl fr1)), (r2, .inr (1, [.ref q2])), (q2, .inl (cI, 12, .inl fr2)), (fn, .inr (5, [.ref n1, .ref n2, .ref n3, .ref n4, .ref n5, .int en, .long dg, .int ct, .int pw])), (n1, .inr (1, [.ref m1])), (m1, .inl (cI, 12, .inl fr)), (n2, .inr (1, [.ref m2])), (m2, .inl (cI, 12, .inl fu)), (n3, .inr (1, [.ref m3])), (m3, .inl (cI, 12, .inl fB)), (n4, .inr (1, [.ref m4])), (m4, .inl (cI, 12, .inl fA)), (n5, .inr (1, [.ref m5])), (m5, .inl (cI, 12, .inl fs)), (dn, .inr (1, [.ref da])), (da, .inl (cI, 12, .inl fq)), (td, .inr (6, [.ref la, .ref lb, .int ll])), (la, .inl (cB, 160, .inl fL)), (lb, .inl (cB, 160, .inl gL)), (M0, .inr (8, [.int th, .int we, .int wm, .int wy, .int ra, .ref tA, .int tn, .ref oA, .int on, .ref rA, .int fi, .int lx, .ref wA, .int wf, .int wl, .int lo, .int ov, .int un, .int aT, .int mi, .int ds, .ref dA, .int a0, .int xp, .ref iA, .int te])), (tA, .inl (cI, 60, .inl zt)), (oA, .inl (cI, 300, .inl zo)), (rA, .inl (cI, 400, .inl zr)), (wA, .inl (cI, 400, .inl zw)), (dA, .inl (cI, 40, .inl zd)), (iA, .inl (cI, 200, .inl zi)), (ol, .inl (cJ, 1, .inr (.inl fo))), (D0, .inr (7, [.ref y0, .ref tp, .ref dc, .ref rd, .ref fn, .ref dn, .ref td, .int md, .int fl])), (y0, .inr (0, [.int eb, .int mb]))] H := hP
    have hD : va_D A [(tp, .inr (2, [.ref ta, .int tl])), (ta, .inl (cB, 60, .inl ft)), (dc, .inr (3, [.ref dcn, .int ng, .int xe])), (dcn, .inr (1, [.ref dca])), (dca, .inl (cI, 12, .inl fd)), (rd, .inr (4, [.ref r1, .ref r2, .long sz, .int ix, .int ty])), (r1, .inr (1, [.ref q1])), (q1, .inl (cI, 12, .inl fr1)), (r2, .inr (1, [.ref q2])), (q2, .inl (cI, 12, .inl fr2)), (fn, .inr (5, [.ref n1, .ref n2, .ref n3, .ref n4, .ref n5, .int en, .long dg, .int ct, .int pw])), (n1, .inr (1, [.ref m1])), (m1, .inl (cI, 12, .inl fr)), (n2, .inr (1, [.ref m2])), (m2, .inl (cI, 12, .inl fu)), (n3, .inr (1, [.ref m3])), (m3, .inl (cI, 12, .inl fB)), (n4, .inr (1, [.ref m4])), (m4, .inl (cI, 12, .inl fA)), (n5, .inr (1, [.ref m5])), (m5, .inl (cI, 12, .inl fs)), (dn, .inr (1, [.ref da])), (da, .inl (cI, 12, .inl fq)), (td, .inr (6, [.ref la, .ref lb, .int ll])), (la, .inl (cB, 160, .inl fL)), (lb, .inl (cB, 160, .inl gL)), (M0, .inr (8, [.int th, .int we, .int wm, .int wy, .int ra, .ref tA, .int tn, .ref oA, .int on, .ref rA, .int fi, .int lx, .ref wA, .int wf, .int wl, .int lo, .int ov, .int un, .int aT, .int mi, .int ds, .ref dA, .int a0, .int xp, .ref iA, .int te])), (tA, .inl (cI, 60, .inl zt)), (oA, .inl (cI, 300, .inl zo)), (rA, .inl (cI, 400, .inl zr)), (wA, .inl (cI, 400, .inl zw)), (dA, .inl (cI, 40, .inl zd)), (iA, .inl (cI, 200, .inl zi)), (ol, .inl (cJ, 1, .inr (.inl fo))), (D0, .inr (7, [.ref y0, .ref tp, .ref dc, .ref rd, .ref fn, .ref dn, .ref td, .int md, .int fl])), (y0, .inr (0, [.int eb, .int mb]))] := hD
    refine lv_aload_n hx hb d_Law_law_576 rfl (lv_at hl 2 rfl) ?_
    refine lv_aload_n hx hb d_Law_law_577 rfl (lv_at hl 4 rfl) ?_
    refine lv_iload hx hb d_Law_law_578 (lv_at hl 0 rfl) ?_
    refine lv_iconst (v := 1) hx hb d_Law_law_580 (by decide) ?_
    refine lv_iadd hx hb d_Law_law_581 ?_
    refine lv_topi (fun v581 e581 => ?_)
    have t581 : v581.toInt = (k : Int) + 1 := by rw [e581]; exact q_iadd ti (show (1 : Int32).toInt = 1 by decide) (by omega)
    refine va_sld hx hb hX hbl hbA hS (q_in t581 (by omega)) d_Law_law_582 ?_
    refine lv_topi (fun v582 e582 => ?_)
    refine lv_i2l hx hb d_Law_law_583 rfl ?_
    refine lv_topl (fun v583 e583 => ?_)
    refine lv_bipush (v := 32) hx hb d_Law_law_584 (by decide) ?_
    refine lv_lshl hx hb d_Law_law_586 rfl ?_
    refine lv_topl (fun v586 e586 => ?_)
    refine lv_aload_n hx hb d_Law_law_587 rfl (lv_at hl 4 rfl) ?_
    refine lv_iload hx hb d_Law_law_588 (lv_at hl 0 rfl) ?_
    refine lv_iconst (v := 2) hx hb d_Law_law_590 (by decide) ?_
    refine lv_iadd hx hb d_Law_law_591 ?_
    refine lv_topi (fun v591 e591 => ?_)
    have t591 : v591.toInt = (k : Int) + 2 := by rw [e591]; exact q_iadd ti (show (2 : Int32).toInt = 2 by decide) (by omega)
    refine va_sld hx hb hX hbl hbA hS (q_in t591 (by omega)) d_Law_law_592 ?_
    refine lv_topi (fun v592 e592 => ?_)
    refine lv_i2l hx hb d_Law_law_593 rfl ?_
    refine lv_topl (fun v593 e593 => ?_)
    refine lv_ldc2 (v := 4294967295) hx hb hown (hts _ m_747) d_Law_law_594 ?_
    refine lv_land hx hb d_Law_law_597 ?_
    refine lv_topl (fun v597 e597 => ?_)
    refine lv_lor hx hb d_Law_law_598 ?_
    refine lv_topl (fun v598 e598 => ?_)
    refine lv_aload_n hx hb d_Law_law_599 rfl (lv_at hl 4 rfl) ?_
    refine lv_iload hx hb d_Law_law_600 (lv_at hl 0 rfl) ?_
    refine lv_iconst (v := 3) hx hb d_Law_law_602 (by decide) ?_
    refine lv_iadd hx hb d_Law_law_603 ?_
    refine lv_topi (fun v603 e603 => ?_)
    have t603 : v603.toInt = (k : Int) + 3 := by rw [e603]; exact q_iadd ti (show (3 : Int32).toInt = 3 by decide) (by omega)
    refine va_sld hx hb hX hbl hbA hS (q_in t603 (by omega)) d_Law_law_604 ?_
    refine lv_topi (fun v604 e604 => ?_)
    refine lv_if_eq (tgt := 612) hx hb d_Law_law_605 (by decide) (fun b605 => ?_) (fun b605 => ?_)
    · skip
      refine lv_iconst (v := 0) hx hb d_Law_law_612 (by decide) ?_
      refine callV_l (wr := [(tp, .inr (2, [.ref ta, .int tl])), (ta, .inl (cB, 60, .inl ft)), (dc, .inr (3, [.ref dcn, .int ng, .int xe])), (dcn, .inr (1, [.ref dca])), (dca, .inl (cI, 12, .inl fd)), (rd, .inr (4, [.ref r1, .ref r2, .long sz, .int ix, .int ty])), (r1, .inr (1, [.ref q1])), (q1, .inl (cI, 12, .inl fr1)), (r2, .inr (1, [.ref q2])), (q2, .inl (cI, 12, .inl fr2)), (fn, .inr (5, [.ref n1, .ref n2, .ref n3, .ref n4, .ref n5, .int en, .long dg, .int ct, .int pw])), (n1, .inr (1, [.ref m1])), (m1, .inl (cI, 12, .inl fr)), (n2, .inr (1, [.ref m2])), (m2, .inl (cI, 12, .inl fu)), (n3, .inr (1, [.ref m3])), (m3, .inl (cI, 12, .inl fB)), (n4, .inr (1, [.ref m4])), (m4, .inl (cI, 12, .inl fA)), (n5, .inr (1, [.ref m5])), (m5, .inl (cI, 12, .inl fs)), (dn, .inr (1, [.ref da])), (da, .inl (cI, 12, .inl fq)), (td, .inr (6, [.ref la, .ref lb, .int ll])), (la, .inl (cB, 160, .inl fL)), (lb, .inl (cB, 160, .inl gL)), (tA, .inl (cI, 60, .inl zt)), (oA, .inl (cI, 300, .inl zo)), (rA, .inl (cI, 400, .inl zr)), (wA, .inl (cI, 400, .inl zw)), (dA, .inl (cI, 40, .inl zd)), (iA, .inl (cI, 200, .inl zi)), (ol, .inl (cJ, 1, .inr (.inl fo))), (D0, .inr (7, [.ref y0, .ref tp, .ref dc, .ref rd, .ref fn, .ref dn, .ref td, .int md, .int fl])), (y0, .inr (0, [.int eb, .int mb]))]) C0 (c_Model_next l dC dI cI cB cJ (M0) (th) (we) (wm) (wy) (ra) (tA) (tn) (oA) (on) (rA) (fi) (lx) (wA) (wf) (wl) (lo) (ov) (un) (aT) (mi) (ds) (dA) (a0) (xp) (iA) (te) (E) (M) (v598) ((0 : Int32)) (by first | assumption | (rw [i_wy]; assumption) | exact Or.inl rfl | exact Or.inr rfl) (by first | assumption | (rw [i_wy]; assumption) | exact Or.inl rfl | exact Or.inr rfl)) (cwV 2 hts (gV m_742 m_743 m_744 m_55 m_745) rfl rfl rfl (by decide +kernel) ⟨Nat.le_of_ble_eq_true rfl, Nat.le_of_ble_eq_true rfl⟩) 8 rfl rfl 0 rfl hP hD hS hA [26] [0, 1, 2, 3, 4, 5, 6, 7, 8, 9, 10, 11, 12, 13, 14, 15, 16, 17, 18, 19, 20, 21, 22, 23, 24, 25, 27, 28, 29, 30, 31, 32, 33, 34, 35] rfl rfl (by decide) (by decide) (by decide) rfl hl.1 rfl (Nat.le_of_ble_eq_true rfl) d_Law_law_613 ⟨by show cs + 0 + 0 ≤ 42; omega, by show sl + 0 + 0 ≤ 1997; omega⟩ (fun r613 u613 H locs hw9 hP hD hS => ?_)
      have h613 : NX E M v598.toInt ((0 : Int32) = 1) r613.toInt := hw9
      have hP : va_P (dC, dI) vwCl [(tp, .inr (2, [.ref ta, .int tl])), (ta, .inl (cB, 60, .inl ft)), (dc, .inr (3, [.ref dcn, .int ng, .int xe])), (dcn, .inr (1, [.ref dca])), (dca, .inl (cI, 12, .inl fd)), (rd, .inr (4, [.ref r1, .ref r2, .long sz, .int ix, .int ty])), (r1, .inr (1, [.ref q1])), (q1, .inl (cI, 12, .inl fr1)), (r2, .inr (1, [.ref q2])), (q2, .inl (cI, 12, .inl fr2)), (fn, .inr (5, [.ref n1, .ref n2, .ref n3, .ref n4, .ref n5, .int en, .long dg, .int ct, .int pw])), (n1, .inr (1, [.ref m1])), (m1, .inl (cI, 12, .inl fr)), (n2, .inr (1, [.ref m2])), (m2, .inl (cI, 12, .inl fu)), (n3, .inr (1, [.ref m3])), (m3, .inl (cI, 12, .inl fB)), (n4, .inr (1, [.ref m4])), (m4, .inl (cI, 12, .inl fA)), (n5, .inr (1, [.ref m5])), (m5, .inl (cI, 12, .inl fs)), (dn, .inr (1, [.ref da])), (da, .inl (cI, 12, .inl fq)), (td, .inr (6, [.ref la, .ref lb, .int ll])), (la, .inl (cB, 160, .inl fL)), (lb, .inl (cB, 160, .inl gL)), (tA, .inl (cI, 60, .inl zt)), (oA, .inl (cI, 300, .inl zo)), (rA, .inl (cI, 400, .inl zr)), (wA, .inl (cI, 400, .inl zw)), (dA, .inl (cI, 40, .inl zd)), (iA, .inl (cI, 200, .inl zi)), (ol, .inl (cJ, 1, .inr (.inl fo))), (D0, .inr (7, [.ref y0, .ref tp, .ref dc, .ref rd, .ref fn, .ref dn, .ref td, .int md, .int fl])), (y0, .inr (0, [.int eb, .int mb])), (M0, .inr (8, [.int 0, .int we, .int wm, .int wy, .int ra, .ref tA, .int tn, .ref oA, .int on, .ref rA, .int fi, .int lx, .ref wA, .int wf, .int wl, .int lo, .int ov, .int un, .int aT, .int mi, .int ds, .ref dA, .int a0, .int xp, .ref iA, .int te]))] H := hP
      have hD : va_D A [(tp, .inr (2, [.ref ta, .int tl])), (ta, .inl (cB, 60, .inl ft)), (dc, .inr (3, [.ref dcn, .int ng, .int xe])), (dcn, .inr (1, [.ref dca])), (dca, .inl (cI, 12, .inl fd)), (rd, .inr (4, [.ref r1, .ref r2, .long sz, .int ix, .int ty])), (r1, .inr (1, [.ref q1])), (q1, .inl (cI, 12, .inl fr1)), (r2, .inr (1, [.ref q2])), (q2, .inl (cI, 12, .inl fr2)), (fn, .inr (5, [.ref n1, .ref n2, .ref n3, .ref n4, .ref n5, .int en, .long dg, .int ct, .int pw])), (n1, .inr (1, [.ref m1])), (m1, .inl (cI, 12, .inl fr)), (n2, .inr (1, [.ref m2])), (m2, .inl (cI, 12, .inl fu)), (n3, .inr (1, [.ref m3])), (m3, .inl (cI, 12, .inl fB)), (n4, .inr (1, [.ref m4])), (m4, .inl (cI, 12, .inl fA)), (n5, .inr (1, [.ref m5])), (m5, .inl (cI, 12, .inl fs)), (dn, .inr (1, [.ref da])), (da, .inl (cI, 12, .inl fq)), (td, .inr (6, [.ref la, .ref lb, .int ll])), (la, .inl (cB, 160, .inl fL)), (lb, .inl (cB, 160, .inl gL)), (tA, .inl (cI, 60, .inl zt)), (oA, .inl (cI, 300, .inl zo)), (rA, .inl (cI, 400, .inl zr)), (wA, .inl (cI, 400, .inl zw)), (dA, .inl (cI, 40, .inl zd)), (iA, .inl (cI, 200, .inl zi)), (ol, .inl (cJ, 1, .inr (.inl fo))), (D0, .inr (7, [.ref y0, .ref tp, .ref dc, .ref rd, .ref fn, .ref dn, .ref td, .int md, .int fl])), (y0, .inr (0, [.int eb, .int mb])), (M0, .inr (8, [.int 0, .int we, .int wm, .int wy, .int ra, .ref tA, .int tn, .ref oA, .int on, .ref rA, .int fi, .int lx, .ref wA, .int wf, .int wl, .int lo, .int ov, .int un, .int aT, .int mi, .int ds, .ref dA, .int a0, .int xp, .ref iA, .int te]))] := hD
      have av598 : v598 = v558 := by simp only [e541, e542, e543, e546, e551, e552, e553, e557, e558, e563, e564, e581, e582, e583, e586, e591, e592, e593, e597, e598, e603, e604]
      try rw [av598] at h613
      refine W.lcmp hx hb d_Law_law_616 ?_
      refine lv_if_eq (tgt := 622) hx hb d_Law_law_617 (by decide) (fun b617 => ?_) (fun b617 => ?_)
      · skip
        refine W.widen (k := cs + 1) (n := sl + 6) (by show cs + 0 + 0 ≤ cs + 1; omega) (by show sl + 0 + 0 ≤ sl + 6; omega) ?_
        exact next (md) (fl) (eb) (mb) (tl) (ft) (ng) (xe) (fd) (sz) (ix) (ty) (fr1) (fr2) (en) (dg) (ct) (pw) (fr) (fu) (fB) (fA) (fs) (fq) (ll) (fL) (gL) (0) (we) (wm) (wy) (ra) (tn) (on) (fi) (lx) (wf) (wl) (lo) (ov) (un) (aT) (mi) (ds) (a0) (xp) (te) (zt) (zo) (zr) (zw) (zd) (zi) (fo) (E) (M) (T) (len) (wt) H locs ls (i_LD) (i_LM) (i_wy) (i_md) (i_ra) (i_TD) (i_TM) (i_OD) (i_OM) (fun h => absurd rfl h) (va_Psub hP [33, 34, 0, 1, 2, 3, 4, 5, 6, 7, 8, 9, 10, 11, 12, 13, 14, 15, 16, 17, 18, 19, 20, 21, 22, 23, 24, 25, 35, 26, 27, 28, 29, 30, 31, 32] rfl) (hD.sub [33, 34, 0, 1, 2, 3, 4, 5, 6, 7, 8, 9, 10, 11, 12, 13, 14, 15, 16, 17, 18, 19, 20, 21, 22, 23, 24, 25, 35, 26, 27, 28, 29, 30, 31, 32] (by decide) rfl) hS (lv_sub hl [0, 1, 2, 3, 4] rfl)
      · skip
        exact absurd ((q_cmp_eq rfl rfl).mpr (NX_uniq h573 h613)) b617
    · skip
      have q605 : v604 = v564 := by simp only [e541, e542, e543, e546, e551, e552, e553, e557, e558, e563, e564, e581, e582, e583, e586, e591, e592, e593, e597, e598, e603, e604]
      exact absurd (q605.trans b565) b605
  · skip
    refine lv_iconst (v := 1) hx hb d_Law_law_568 (by decide) ?_
    refine lv_goto (tgt := 573) hx hb d_Law_law_569 (by decide) ?_
    refine callV_l (wr := [(tp, .inr (2, [.ref ta, .int tl])), (ta, .inl (cB, 60, .inl ft)), (dc, .inr (3, [.ref dcn, .int ng, .int xe])), (dcn, .inr (1, [.ref dca])), (dca, .inl (cI, 12, .inl fd)), (rd, .inr (4, [.ref r1, .ref r2, .long sz, .int ix, .int ty])), (r1, .inr (1, [.ref q1])), (q1, .inl (cI, 12, .inl fr1)), (r2, .inr (1, [.ref q2])), (q2, .inl (cI, 12, .inl fr2)), (fn, .inr (5, [.ref n1, .ref n2, .ref n3, .ref n4, .ref n5, .int en, .long dg, .int ct, .int pw])), (n1, .inr (1, [.ref m1])), (m1, .inl (cI, 12, .inl fr)), (n2, .inr (1, [.ref m2])), (m2, .inl (cI, 12, .inl fu)), (n3, .inr (1, [.ref m3])), (m3, .inl (cI, 12, .inl fB)), (n4, .inr (1, [.ref m4])), (m4, .inl (cI, 12, .inl fA)), (n5, .inr (1, [.ref m5])), (m5, .inl (cI, 12, .inl fs)), (dn, .inr (1, [.ref da])), (da, .inl (cI, 12, .inl fq)), (td, .inr (6, [.ref la, .ref lb, .int ll])), (la, .inl (cB, 160, .inl fL)), (lb, .inl (cB, 160, .inl gL)), (M0, .inr (8, [.int th, .int we, .int wm, .int wy, .int ra, .ref tA, .int tn, .ref oA, .int on, .ref rA, .int fi, .int lx, .ref wA, .int wf, .int wl, .int lo, .int ov, .int un, .int aT, .int mi, .int ds, .ref dA, .int a0, .int xp, .ref iA, .int te])), (tA, .inl (cI, 60, .inl zt)), (oA, .inl (cI, 300, .inl zo)), (rA, .inl (cI, 400, .inl zr)), (wA, .inl (cI, 400, .inl zw)), (dA, .inl (cI, 40, .inl zd)), (iA, .inl (cI, 200, .inl zi)), (ol, .inl (cJ, 1, .inr (.inl fo)))]) C0 (c_Desk_next l dC dI cI cB cJ (D0) (y0) (tp) (dc) (rd) (fn) (dn) (td) (md) (fl) (eb) (mb) (E) (M) (v558) ((1 : Int32)) (by first | assumption | (rw [i_wy]; assumption) | exact Or.inl rfl | exact Or.inr rfl) (by first | assumption | (rw [i_wy]; assumption) | exact Or.inl rfl | exact Or.inr rfl)) (cwV 2 hts (gV m_217 m_218 m_219 m_47 m_220) rfl rfl rfl (by decide +kernel) ⟨Nat.le_of_ble_eq_true rfl, Nat.le_of_ble_eq_true rfl⟩) 7 rfl rfl 0 rfl hP hD hS hA [0, 1] [2, 3, 4, 5, 6, 7, 8, 9, 10, 11, 12, 13, 14, 15, 16, 17, 18, 19, 20, 21, 22, 23, 24, 25, 26, 27, 28, 29, 30, 31, 32, 33, 34, 35] rfl rfl (by decide) (by decide) (by decide) rfl hl.1 rfl (Nat.le_of_ble_eq_true rfl) d_Law_law_573 ⟨by show cs + 0 ≤ 42; omega, by show sl + 0 ≤ 1997; omega⟩ (fun r573 u573 H locs hw9 hP hD hS => ?_)
    have h573 : NX E M v558.toInt ((1 : Int32) = 1) r573.toInt := hw9
    have hP : va_P (dC, dI) vwCl [(tp, .inr (2, [.ref ta, .int tl])), (ta, .inl (cB, 60, .inl ft)), (dc, .inr (3, [.ref dcn, .int ng, .int xe])), (dcn, .inr (1, [.ref dca])), (dca, .inl (cI, 12, .inl fd)), (rd, .inr (4, [.ref r1, .ref r2, .long sz, .int ix, .int ty])), (r1, .inr (1, [.ref q1])), (q1, .inl (cI, 12, .inl fr1)), (r2, .inr (1, [.ref q2])), (q2, .inl (cI, 12, .inl fr2)), (fn, .inr (5, [.ref n1, .ref n2, .ref n3, .ref n4, .ref n5, .int en, .long dg, .int ct, .int pw])), (n1, .inr (1, [.ref m1])), (m1, .inl (cI, 12, .inl fr)), (n2, .inr (1, [.ref m2])), (m2, .inl (cI, 12, .inl fu)), (n3, .inr (1, [.ref m3])), (m3, .inl (cI, 12, .inl fB)), (n4, .inr (1, [.ref m4])), (m4, .inl (cI, 12, .inl fA)), (n5, .inr (1, [.ref m5])), (m5, .inl (cI, 12, .inl fs)), (dn, .inr (1, [.ref da])), (da, .inl (cI, 12, .inl fq)), (td, .inr (6, [.ref la, .ref lb, .int ll])), (la, .inl (cB, 160, .inl fL)), (lb, .inl (cB, 160, .inl gL)), (M0, .inr (8, [.int th, .int we, .int wm, .int wy, .int ra, .ref tA, .int tn, .ref oA, .int on, .ref rA, .int fi, .int lx, .ref wA, .int wf, .int wl, .int lo, .int ov, .int un, .int aT, .int mi, .int ds, .ref dA, .int a0, .int xp, .ref iA, .int te])), (tA, .inl (cI, 60, .inl zt)), (oA, .inl (cI, 300, .inl zo)), (rA, .inl (cI, 400, .inl zr)), (wA, .inl (cI, 400, .inl zw)), (dA, .inl (cI, 40, .inl zd)), (iA, .inl (cI, 200, .inl zi)), (ol, .inl (cJ, 1, .inr (.inl fo))), (D0, .inr (7, [.ref y0, .ref tp, .ref dc, .ref rd, .ref fn, .ref dn, .ref td, .int md, .int fl])), (y0, .inr (0, [.int eb, .int mb]))] H := hP
    have hD : va_D A [(tp, .inr (2, [.ref ta, .int tl])), (ta, .inl (cB, 60, .inl ft)), (dc, .inr (3, [.ref dcn, .int ng, .int xe])), (dcn, .inr (1, [.ref dca])), (dca, .inl (cI, 12, .inl fd)), (rd, .inr (4, [.ref r1, .ref r2, .long sz, .int ix, .int ty])), (r1, .inr (1, [.ref q1])), (q1, .inl (cI, 12, .inl fr1)), (r2, .inr (1, [.ref q2])), (q2, .inl (cI, 12, .inl fr2)), (fn, .inr (5, [.ref n1, .ref n2, .ref n3, .ref n4, .ref n5, .int en, .long dg, .int ct, .int pw])), (n1, .inr (1, [.ref m1])), (m1, .inl (cI, 12, .inl fr)), (n2, .inr (1, [.ref m2])), (m2, .inl (cI, 12, .inl fu)), (n3, .inr (1, [.ref m3])), (m3, .inl (cI, 12, .inl fB)), (n4, .inr (1, [.ref m4])), (m4, .inl (cI, 12, .inl fA)), (n5, .inr (1, [.ref m5])), (m5, .inl (cI, 12, .inl fs)), (dn, .inr (1, [.ref da])), (da, .inl (cI, 12, .inl fq)), (td, .inr (6, [.ref la, .ref lb, .int ll])), (la, .inl (cB, 160, .inl fL)), (lb, .inl (cB, 160, .inl gL)), (M0, .inr (8, [.int th, .int we, .int wm, .int wy, .int ra, .ref tA, .int tn, .ref oA, .int on, .ref rA, .int fi, .int lx, .ref wA, .int wf, .int wl, .int lo, .int ov, .int un, .int aT, .int mi, .int ds, .ref dA, .int a0, .int xp, .ref iA, .int te])), (tA, .inl (cI, 60, .inl zt)), (oA, .inl (cI, 300, .inl zo)), (rA, .inl (cI, 400, .inl zr)), (wA, .inl (cI, 400, .inl zw)), (dA, .inl (cI, 40, .inl zd)), (iA, .inl (cI, 200, .inl zi)), (ol, .inl (cJ, 1, .inr (.inl fo))), (D0, .inr (7, [.ref y0, .ref tp, .ref dc, .ref rd, .ref fn, .ref dn, .ref td, .int md, .int fl])), (y0, .inr (0, [.int eb, .int mb]))] := hD
    refine lv_aload_n hx hb d_Law_law_576 rfl (lv_at hl 2 rfl) ?_
    refine lv_aload_n hx hb d_Law_law_577 rfl (lv_at hl 4 rfl) ?_
    refine lv_iload hx hb d_Law_law_578 (lv_at hl 0 rfl) ?_
    refine lv_iconst (v := 1) hx hb d_Law_law_580 (by decide) ?_
    refine lv_iadd hx hb d_Law_law_581 ?_
    refine lv_topi (fun v581 e581 => ?_)
    have t581 : v581.toInt = (k : Int) + 1 := by rw [e581]; exact q_iadd ti (show (1 : Int32).toInt = 1 by decide) (by omega)
    refine va_sld hx hb hX hbl hbA hS (q_in t581 (by omega)) d_Law_law_582 ?_
    refine lv_topi (fun v582 e582 => ?_)
    refine lv_i2l hx hb d_Law_law_583 rfl ?_
    refine lv_topl (fun v583 e583 => ?_)
    refine lv_bipush (v := 32) hx hb d_Law_law_584 (by decide) ?_
    refine lv_lshl hx hb d_Law_law_586 rfl ?_
    refine lv_topl (fun v586 e586 => ?_)
    refine lv_aload_n hx hb d_Law_law_587 rfl (lv_at hl 4 rfl) ?_
    refine lv_iload hx hb d_Law_law_588 (lv_at hl 0 rfl) ?_
    refine lv_iconst (v := 2) hx hb d_Law_law_590 (by decide) ?_
    refine lv_iadd hx hb d_Law_law_591 ?_
    refine lv_topi (fun v591 e591 => ?_)
    have t591 : v591.toInt = (k : Int) + 2 := by rw [e591]; exact q_iadd ti (show (2 : Int32).toInt = 2 by decide) (by omega)
    refine va_sld hx hb hX hbl hbA hS (q_in t591 (by omega)) d_Law_law_592 ?_
    refine lv_topi (fun v592 e592 => ?_)
    refine lv_i2l hx hb d_Law_law_593 rfl ?_
    refine lv_topl (fun v593 e593 => ?_)
    refine lv_ldc2 (v := 4294967295) hx hb hown (hts _ m_747) d_Law_law_594 ?_
    refine lv_land hx hb d_Law_law_597 ?_
    refine lv_topl (fun v597 e597 => ?_)
    refine lv_lor hx hb d_Law_law_598 ?_
    refine lv_topl (fun v598 e598 => ?_)
    refine lv_aload_n hx hb d_Law_law_599 rfl (lv_at hl 4 rfl) ?_
    refine lv_iload hx hb d_Law_law_600 (lv_at hl 0 rfl) ?_
    refine lv_iconst (v := 3) hx hb d_Law_law_602 (by decide) ?_
    refine lv_iadd hx hb d_Law_law_603 ?_
    refine lv_topi (fun v603 e603 => ?_)
    have t603 : v603.toInt = (k : Int) + 3 := by rw [e603]; exact q_iadd ti (show (3 : Int32).toInt = 3 by decide) (by omega)
    refine va_sld hx hb hX hbl hbA hS (q_in t603 (by omega)) d_Law_law_604 ?_
    refine lv_topi (fun v604 e604 => ?_)
    refine lv_if_eq (tgt := 612) hx hb d_Law_law_605 (by decide) (fun b605 => ?_) (fun b605 => ?_)
    · skip
      have q605 : v604 = v564 := by simp only [e541, e542, e543, e546, e551, e552, e553, e557, e558, e563, e564, e581, e582, e583, e586, e591, e592, e593, e597, e598, e603, e604]
      exact absurd (q605.symm.trans b605) b565
    · skip
      refine lv_iconst (v := 1) hx hb d_Law_law_608 (by decide) ?_
      refine lv_goto (tgt := 613) hx hb d_Law_law_609 (by decide) ?_
      refine callV_l (wr := [(tp, .inr (2, [.ref ta, .int tl])), (ta, .inl (cB, 60, .inl ft)), (dc, .inr (3, [.ref dcn, .int ng, .int xe])), (dcn, .inr (1, [.ref dca])), (dca, .inl (cI, 12, .inl fd)), (rd, .inr (4, [.ref r1, .ref r2, .long sz, .int ix, .int ty])), (r1, .inr (1, [.ref q1])), (q1, .inl (cI, 12, .inl fr1)), (r2, .inr (1, [.ref q2])), (q2, .inl (cI, 12, .inl fr2)), (fn, .inr (5, [.ref n1, .ref n2, .ref n3, .ref n4, .ref n5, .int en, .long dg, .int ct, .int pw])), (n1, .inr (1, [.ref m1])), (m1, .inl (cI, 12, .inl fr)), (n2, .inr (1, [.ref m2])), (m2, .inl (cI, 12, .inl fu)), (n3, .inr (1, [.ref m3])), (m3, .inl (cI, 12, .inl fB)), (n4, .inr (1, [.ref m4])), (m4, .inl (cI, 12, .inl fA)), (n5, .inr (1, [.ref m5])), (m5, .inl (cI, 12, .inl fs)), (dn, .inr (1, [.ref da])), (da, .inl (cI, 12, .inl fq)), (td, .inr (6, [.ref la, .ref lb, .int ll])), (la, .inl (cB, 160, .inl fL)), (lb, .inl (cB, 160, .inl gL)), (tA, .inl (cI, 60, .inl zt)), (oA, .inl (cI, 300, .inl zo)), (rA, .inl (cI, 400, .inl zr)), (wA, .inl (cI, 400, .inl zw)), (dA, .inl (cI, 40, .inl zd)), (iA, .inl (cI, 200, .inl zi)), (ol, .inl (cJ, 1, .inr (.inl fo))), (D0, .inr (7, [.ref y0, .ref tp, .ref dc, .ref rd, .ref fn, .ref dn, .ref td, .int md, .int fl])), (y0, .inr (0, [.int eb, .int mb]))]) C0 (c_Model_next l dC dI cI cB cJ (M0) (th) (we) (wm) (wy) (ra) (tA) (tn) (oA) (on) (rA) (fi) (lx) (wA) (wf) (wl) (lo) (ov) (un) (aT) (mi) (ds) (dA) (a0) (xp) (iA) (te) (E) (M) (v598) ((1 : Int32)) (by first | assumption | (rw [i_wy]; assumption) | exact Or.inl rfl | exact Or.inr rfl) (by first | assumption | (rw [i_wy]; assumption) | exact Or.inl rfl | exact Or.inr rfl)) (cwV 2 hts (gV m_742 m_743 m_744 m_55 m_745) rfl rfl rfl (by decide +kernel) ⟨Nat.le_of_ble_eq_true rfl, Nat.le_of_ble_eq_true rfl⟩) 8 rfl rfl 0 rfl hP hD hS hA [26] [0, 1, 2, 3, 4, 5, 6, 7, 8, 9, 10, 11, 12, 13, 14, 15, 16, 17, 18, 19, 20, 21, 22, 23, 24, 25, 27, 28, 29, 30, 31, 32, 33, 34, 35] rfl rfl (by decide) (by decide) (by decide) rfl hl.1 rfl (Nat.le_of_ble_eq_true rfl) d_Law_law_613 ⟨by show cs + 0 + 0 ≤ 42; omega, by show sl + 0 + 0 ≤ 1997; omega⟩ (fun r613 u613 H locs hw9 hP hD hS => ?_)
      have h613 : NX E M v598.toInt ((1 : Int32) = 1) r613.toInt := hw9
      have hP : va_P (dC, dI) vwCl [(tp, .inr (2, [.ref ta, .int tl])), (ta, .inl (cB, 60, .inl ft)), (dc, .inr (3, [.ref dcn, .int ng, .int xe])), (dcn, .inr (1, [.ref dca])), (dca, .inl (cI, 12, .inl fd)), (rd, .inr (4, [.ref r1, .ref r2, .long sz, .int ix, .int ty])), (r1, .inr (1, [.ref q1])), (q1, .inl (cI, 12, .inl fr1)), (r2, .inr (1, [.ref q2])), (q2, .inl (cI, 12, .inl fr2)), (fn, .inr (5, [.ref n1, .ref n2, .ref n3, .ref n4, .ref n5, .int en, .long dg, .int ct, .int pw])), (n1, .inr (1, [.ref m1])), (m1, .inl (cI, 12, .inl fr)), (n2, .inr (1, [.ref m2])), (m2, .inl (cI, 12, .inl fu)), (n3, .inr (1, [.ref m3])), (m3, .inl (cI, 12, .inl fB)), (n4, .inr (1, [.ref m4])), (m4, .inl (cI, 12, .inl fA)), (n5, .inr (1, [.ref m5])), (m5, .inl (cI, 12, .inl fs)), (dn, .inr (1, [.ref da])), (da, .inl (cI, 12, .inl fq)), (td, .inr (6, [.ref la, .ref lb, .int ll])), (la, .inl (cB, 160, .inl fL)), (lb, .inl (cB, 160, .inl gL)), (tA, .inl (cI, 60, .inl zt)), (oA, .inl (cI, 300, .inl zo)), (rA, .inl (cI, 400, .inl zr)), (wA, .inl (cI, 400, .inl zw)), (dA, .inl (cI, 40, .inl zd)), (iA, .inl (cI, 200, .inl zi)), (ol, .inl (cJ, 1, .inr (.inl fo))), (D0, .inr (7, [.ref y0, .ref tp, .ref dc, .ref rd, .ref fn, .ref dn, .ref td, .int md, .int fl])), (y0, .inr (0, [.int eb, .int mb])), (M0, .inr (8, [.int 0, .int we, .int wm, .int wy, .int ra, .ref tA, .int tn, .ref oA, .int on, .ref rA, .int fi, .int lx, .ref wA, .int wf, .int wl, .int lo, .int ov, .int un, .int aT, .int mi, .int ds, .ref dA, .int a0, .int xp, .ref iA, .int te]))] H := hP
      have hD : va_D A [(tp, .inr (2, [.ref ta, .int tl])), (ta, .inl (cB, 60, .inl ft)), (dc, .inr (3, [.ref dcn, .int ng, .int xe])), (dcn, .inr (1, [.ref dca])), (dca, .inl (cI, 12, .inl fd)), (rd, .inr (4, [.ref r1, .ref r2, .long sz, .int ix, .int ty])), (r1, .inr (1, [.ref q1])), (q1, .inl (cI, 12, .inl fr1)), (r2, .inr (1, [.ref q2])), (q2, .inl (cI, 12, .inl fr2)), (fn, .inr (5, [.ref n1, .ref n2, .ref n3, .ref n4, .ref n5, .int en, .long dg, .int ct, .int pw])), (n1, .inr (1, [.ref m1])), (m1, .inl (cI, 12, .inl fr)), (n2, .inr (1, [.ref m2])), (m2, .inl (cI, 12, .inl fu)), (n3, .inr (1, [.ref m3])), (m3, .inl (cI, 12, .inl fB)), (n4, .inr (1, [.ref m4])), (m4, .inl (cI, 12, .inl fA)), (n5, .inr (1, [.ref m5])), (m5, .inl (cI, 12, .inl fs)), (dn, .inr (1, [.ref da])), (da, .inl (cI, 12, .inl fq)), (td, .inr (6, [.ref la, .ref lb, .int ll])), (la, .inl (cB, 160, .inl fL)), (lb, .inl (cB, 160, .inl gL)), (tA, .inl (cI, 60, .inl zt)), (oA, .inl (cI, 300, .inl zo)), (rA, .inl (cI, 400, .inl zr)), (wA, .inl (cI, 400, .inl zw)), (dA, .inl (cI, 40, .inl zd)), (iA, .inl (cI, 200, .inl zi)), (ol, .inl (cJ, 1, .inr (.inl fo))), (D0, .inr (7, [.ref y0, .ref tp, .ref dc, .ref rd, .ref fn, .ref dn, .ref td, .int md, .int fl])), (y0, .inr (0, [.int eb, .int mb])), (M0, .inr (8, [.int 0, .int we, .int wm, .int wy, .int ra, .ref tA, .int tn, .ref oA, .int on, .ref rA, .int fi, .int lx, .ref wA, .int wf, .int wl, .int lo, .int ov, .int un, .int aT, .int mi, .int ds, .ref dA, .int a0, .int xp, .ref iA, .int te]))] := hD
      have av598 : v598 = v558 := by simp only [e541, e542, e543, e546, e551, e552, e553, e557, e558, e563, e564, e581, e582, e583, e586, e591, e592, e593, e597, e598, e603, e604]
      try rw [av598] at h613
      refine W.lcmp hx hb d_Law_law_616 ?_
      refine lv_if_eq (tgt := 622) hx hb d_Law_law_617 (by decide) (fun b617 => ?_) (fun b617 => ?_)
      · skip
        refine W.widen (k := cs + 1) (n := sl + 6) (by show cs + 0 + 0 ≤ cs + 1; omega) (by show sl + 0 + 0 ≤ sl + 6; omega) ?_
        exact next (md) (fl) (eb) (mb) (tl) (ft) (ng) (xe) (fd) (sz) (ix) (ty) (fr1) (fr2) (en) (dg) (ct) (pw) (fr) (fu) (fB) (fA) (fs) (fq) (ll) (fL) (gL) (0) (we) (wm) (wy) (ra) (tn) (on) (fi) (lx) (wf) (wl) (lo) (ov) (un) (aT) (mi) (ds) (a0) (xp) (te) (zt) (zo) (zr) (zw) (zd) (zi) (fo) (E) (M) (T) (len) (wt) H locs ls (i_LD) (i_LM) (i_wy) (i_md) (i_ra) (i_TD) (i_TM) (i_OD) (i_OM) (fun h => absurd rfl h) (va_Psub hP [33, 34, 0, 1, 2, 3, 4, 5, 6, 7, 8, 9, 10, 11, 12, 13, 14, 15, 16, 17, 18, 19, 20, 21, 22, 23, 24, 25, 35, 26, 27, 28, 29, 30, 31, 32] rfl) (hD.sub [33, 34, 0, 1, 2, 3, 4, 5, 6, 7, 8, 9, 10, 11, 12, 13, 14, 15, 16, 17, 18, 19, 20, 21, 22, 23, 24, 25, 35, 26, 27, 28, 29, 30, 31, 32] (by decide) rfl) hS (lv_sub hl [0, 1, 2, 3, 4] rfl)
      · skip
        exact absurd ((q_cmp_eq rfl rfl).mpr (NX_uniq h573 h613)) b617
end LD9
