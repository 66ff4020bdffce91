/-! THE LAW: case 9 -/
section LD9
set_option maxHeartbeats 8000000 in
set_option maxRecDepth 100000 in
theorem law_425 {p : Program} {l : Launch} {e : Env} {s : State} {m : MethodId} {below : List Frame} {meth : Method} {c : Code} {dC : Nat → ClassId} {dI : Nat → Nat → Nat} {cI cB cJ : ClassId} {A : Nat → Prop} {Q : State → Prop} {b L : Nat} {xs : Nat → Int32} {D0 y0 tp dc rd fn dn td ta dcn dca r1 q1 r2 q2 n1 m1 n2 m2 n3 m3 n4 m4 n5 m5 da la lb M0 tA oA rA wA dA iA ol : Nat} (htr : l.stackTraces = false) (X0 : lwX dC dI cI cB cJ p s m b meth c L xs) (hL : L ≤ 2048) (hA : ∀ q : Nat, s.heap.size ≤ q → A q) (hAl : ∀ q : Nat, A q → s.heap.size ≤ q) {cs sl : Nat} (hcs : cs + 1 ≤ 1064) (hsl : sl + 6 ≤ 10173) {i : Int32} {k : Nat} (ti : i.toInt = (k : Int)) (hk : k + 4 ≤ L) (next : LK p l e s m below meth c dC dI cI cB cJ A Q b D0 y0 tp dc rd fn dn td ta dcn dca r1 q1 r2 q2 n1 m1 n2 m2 n3 m3 n4 m4 n5 m5 da la lb M0 tA oA rA wA dA iA ol i 511 (cs + 1) (sl + 6)) : LK p l e s m below meth c dC dI cI cB cJ A Q b D0 y0 tp dc rd fn dn td ta dcn dca r1 q1 r2 q2 n1 m1 n2 m2 n3 m3 n4 m4 n5 m5 da la lb M0 tA oA rA wA dA iA ol i 425 cs sl := by
  obtain ⟨C0, hth, hcw, hSK, hX, hbl⟩ := X0
  obtain ⟨hx, hb, hml, hown, hts, hr, hlocks, hK, hN⟩ := id C0
  have hbA : ¬ A b := fun h => absurd (hAl _ h) (by omega)
  have hlow : ∀ q, q < s.heap.size → ¬ A q := fun q h h2 => absurd (hAl _ h2) (by omega)
  intro md fl eb mb tl ft ng xe fd sz ix ty fr1 fr2 en dg ct pw fr fu fB fA fs fq ll fL gL th we wm wy ra tn on fi lx wf wl lo ov un aT mi ds a0 xp te zt zo zr zw zd zi fo E M T len wt H locs ls i_LD i_LM i_wy i_md i_ra i_TD i_TM i_OD i_OM hP hD hS hl
  refine lv_aload_n hx hb d_Law_law_425 rfl (lv_at hl 3 rfl) ?_
  refine lv_aload_n hx hb d_Law_law_426 rfl (lv_at hl 4 rfl) ?_
  refine lv_iload hx hb d_Law_law_427 (lv_at hl 0 rfl) ?_
  refine lv_iconst (v := 1) hx hb d_Law_law_429 (by decide) ?_
  refine lv_iadd hx hb d_Law_law_430 ?_
  refine lv_topi (fun v430 e430 => ?_)
  have t430 : v430.toInt = (k : Int) + 1 := by rw [e430]; exact q_iadd ti (show (1 : Int32).toInt = 1 by decide) (by omega)
  refine va_sld hx hb hX hbl hbA hS (q_in t430 (by omega)) d_Law_law_431 ?_
  refine lv_topi (fun v431 e431 => ?_)
  refine lv_i2l hx hb d_Law_law_432 rfl ?_
  refine lv_topl (fun v432 e432 => ?_)
  refine lv_bipush (v := 32) hx hb d_Law_law_433 (by decide) ?_
  refine lv_lshl hx hb d_Law_law_435 rfl ?_
  refine lv_topl (fun v435 e435 => ?_)
  refine lv_aload_n hx hb d_Law_law_436 rfl (lv_at hl 4 rfl) ?_
  refine lv_iload hx hb d_Law_law_437 (lv_at hl 0 rfl) ?_
  refine lv_iconst (v := 2) hx hb d_Law_law_439 (by decide) ?_
  refine lv_iadd hx hb d_Law_law_440 ?_
  refine lv_topi (fun v440 e440 => ?_)
  have t440 : v440.toInt = (k : Int) + 2 := by rw [e440]; exact q_iadd ti (show (2 : Int32).toInt = 2 by decide) (by omega)
  refine va_sld hx hb hX hbl hbA hS (q_in t440 (by omega)) d_Law_law_441 ?_
  refine lv_topi (fun v441 e441 => ?_)
  refine lv_i2l hx hb d_Law_law_442 rfl ?_
  refine lv_topl (fun v442 e442 => ?_)
  refine lv_ldc2 (v := 4294967295) hx hb hown (hts _ m_743) d_Law_law_443 ?_
  refine lv_land hx hb d_Law_law_446 ?_
  refine lv_topl (fun v446 e446 => ?_)
  refine lv_lor hx hb d_Law_law_447 ?_
  refine lv_topl (fun v447 e447 => ?_)
  refine lv_aload_n hx hb d_Law_law_448 rfl (lv_at hl 4 rfl) ?_
  refine lv_iload hx hb d_Law_law_449 (lv_at hl 0 rfl) ?_
  refine lv_iconst (v := 3) hx hb d_Law_law_451 (by decide) ?_
  refine lv_iadd hx hb d_Law_law_452 ?_
  refine lv_topi (fun v452 e452 => ?_)
  have t452 : v452.toInt = (k : Int) + 3 := by rw [e452]; exact q_iadd ti (show (3 : Int32).toInt = 3 by decide) (by omega)
  refine va_sld hx hb hX hbl hbA hS (q_in t452 (by omega)) d_Law_law_453 ?_
  refine lv_topi (fun v453 e453 => ?_)
  refine lv_if_eq (tgt := 461) hx hb d_Law_law_454 (by decide) (fun b454 => ?_) (fun b454 => ?_)
  · skip
    refine lv_iconst (v := 0) hx hb d_Law_law_461 (by decide) ?_
    refine callV_l (wr := [(tp, .inr (2, [.ref ta, .int tl])), (ta, .inl (cB, 60, .inl ft)), (dc, .inr (3, [.ref dcn, .int ng, .int xe])), (dcn, .inr (1, [.ref dca])), (dca, .inl (cI, 12, .inl fd)), (rd, .inr (4, [.ref r1, .ref r2, .long sz, .int ix, .int ty])), (r1, .inr (1, [.ref q1])), (q1, .inl (cI, 12, .inl fr1)), (r2, .inr (1, [.ref q2])), (q2, .inl (cI, 12, .inl fr2)), (fn, .inr (5, [.ref n1, .ref n2, .ref n3, .ref n4, .ref n5, .int en, .long dg, .int ct, .int pw])), (n1, .inr (1, [.ref m1])), (m1, .inl (cI, 12, .inl fr)), (n2, .inr (1, [.ref m2])), (m2, .inl (cI, 12, .inl fu)), (n3, .inr (1, [.ref m3])), (m3, .inl (cI, 12, .inl fB)), (n4, .inr (1, [.ref m4])), (m4, .inl (cI, 12, .inl fA)), (n5, .inr (1, [.ref m5])), (m5, .inl (cI, 12, .inl fs)), (dn, .inr (1, [.ref da])), (da, .inl (cI, 12, .inl fq)), (td, .inr (6, [.ref la, .ref lb, .int ll])), (la, .inl (cB, 160, .inl fL)), (lb, .inl (cB, 160, .inl gL)), (M0, .inr (8, [.int th, .int we, .int wm, .int wy, .int ra, .ref tA, .int tn, .ref oA, .int on, .ref rA, .int fi, .int lx, .ref wA, .int wf, .int wl, .int lo, .int ov, .int un, .int aT, .int mi, .int ds, .ref dA, .int a0, .int xp, .ref iA, .int te])), (tA, .inl (cI, 60, .inl zt)), (oA, .inl (cI, 300, .inl zo)), (rA, .inl (cI, 400, .inl zr)), (wA, .inl (cI, 400, .inl zw)), (dA, .inl (cI, 40, .inl zd)), (iA, .inl (cI, 200, .inl zi)), (ol, .inl (cJ, 1, .inr (.inl fo)))]) C0 (c_Desk_next l dC dI cI cB cJ (D0) (y0) (tp) (dc) (rd) (fn) (dn) (td) (md) (fl) (eb) (mb) (E) (M) (v447) ((0 : Int32)) (by first | assumption | (rw [i_wy]; assumption) | exact Or.inl rfl | exact Or.inr rfl) (by first | assumption | (rw [i_wy]; assumption) | exact Or.inl rfl | exact Or.inr rfl)) (cwV 2 hts (gV m_217 m_218 m_219 m_47 m_220) rfl rfl rfl (by decide +kernel) ⟨Nat.le_of_ble_eq_true rfl, Nat.le_of_ble_eq_true rfl⟩) 7 rfl rfl 0 rfl hP hD hS hA [0, 1] [2, 3, 4, 5, 6, 7, 8, 9, 10, 11, 12, 13, 14, 15, 16, 17, 18, 19, 20, 21, 22, 23, 24, 25, 26, 27, 28, 29, 30, 31, 32, 33, 34, 35] rfl rfl (by decide) (by decide) (by decide) rfl hl.1 rfl (Nat.le_of_ble_eq_true rfl) d_Law_law_462 ⟨by show cs + 0 ≤ 1064; omega, by show sl + 0 ≤ 10173; omega⟩ (fun r462 u462 H locs hw9 hP hD hS => ?_)
    have h462 : NX E M v447.toInt ((0 : Int32) = 1) r462.toInt := hw9
    have hP : va_P (dC, dI) vwCl [(tp, .inr (2, [.ref ta, .int tl])), (ta, .inl (cB, 60, .inl ft)), (dc, .inr (3, [.ref dcn, .int ng, .int xe])), (dcn, .inr (1, [.ref dca])), (dca, .inl (cI, 12, .inl fd)), (rd, .inr (4, [.ref r1, .ref r2, .long sz, .int ix, .int ty])), (r1, .inr (1, [.ref q1])), (q1, .inl (cI, 12, .inl fr1)), (r2, .inr (1, [.ref q2])), (q2, .inl (cI, 12, .inl fr2)), (fn, .inr (5, [.ref n1, .ref n2, .ref n3, .ref n4, .ref n5, .int en, .long dg, .int ct, .int pw])), (n1, .inr (1, [.ref m1])), (m1, .inl (cI, 12, .inl fr)), (n2, .inr (1, [.ref m2])), (m2, .inl (cI, 12, .inl fu)), (n3, .inr (1, [.ref m3])), (m3, .inl (cI, 12, .inl fB)), (n4, .inr (1, [.ref m4])), (m4, .inl (cI, 12, .inl fA)), (n5, .inr (1, [.ref m5])), (m5, .inl (cI, 12, .inl fs)), (dn, .inr (1, [.ref da])), (da, .inl (cI, 12, .inl fq)), (td, .inr (6, [.ref la, .ref lb, .int ll])), (la, .inl (cB, 160, .inl fL)), (lb, .inl (cB, 160, .inl gL)), (M0, .inr (8, [.int th, .int we, .int wm, .int wy, .int ra, .ref tA, .int tn, .ref oA, .int on, .ref rA, .int fi, .int lx, .ref wA, .int wf, .int wl, .int lo, .int ov, .int un, .int aT, .int mi, .int ds, .ref dA, .int a0, .int xp, .ref iA, .int te])), (tA, .inl (cI, 60, .inl zt)), (oA, .inl (cI, 300, .inl zo)), (rA, .inl (cI, 400, .inl zr)), (wA, .inl (cI, 400, .inl zw)), (dA, .inl (cI, 40, .inl zd)), (iA, .inl (cI, 200, .inl zi)), (ol, .inl (cJ, 1, .inr (.inl fo))), (D0, .inr (7, [.ref y0, .ref tp, .ref dc, .ref rd, .ref fn, .ref dn, .ref td, .int md, .int fl])), (y0, .inr (0, [.int eb, .int mb]))] H := hP
    have hD : va_D A [(tp, .inr (2, [.ref ta, .int tl])), (ta, .inl (cB, 60, .inl ft)), (dc, .inr (3, [.ref dcn, .int ng, .int xe])), (dcn, .inr (1, [.ref dca])), (dca, .inl (cI, 12, .inl fd)), (rd, .inr (4, [.ref r1, .ref r2, .long sz, .int ix, .int ty])), (r1, .inr (1, [.ref q1])), (q1, .inl (cI, 12, .inl fr1)), (r2, .inr (1, [.ref q2])), (q2, .inl (cI, 12, .inl fr2)), (fn, .inr (5, [.ref n1, .ref n2, .ref n3, .ref n4, .ref n5, .int en, .long dg, .int ct, .int pw])), (n1, .inr (1, [.ref m1])), (m1, .inl (cI, 12, .inl fr)), (n2, .inr (1, [.ref m2])), (m2, .inl (cI, 12, .inl fu)), (n3, .inr (1, [.ref m3])), (m3, .inl (cI, 12, .inl fB)), (n4, .inr (1, [.ref m4])), (m4, .inl (cI, 12, .inl fA)), (n5, .inr (1, [.ref m5])), (m5, .inl (cI, 12, .inl fs)), (dn, .inr (1, [.ref da])), (da, .inl (cI, 12, .inl fq)), (td, .inr (6, [.ref la, .ref lb, .int ll])), (la, .inl (cB, 160, .inl fL)), (lb, .inl (cB, 160, .inl gL)), (M0, .inr (8, [.int th, .int we, .int wm, .int wy, .int ra, .ref tA, .int tn, .ref oA, .int on, .ref rA, .int fi, .int lx, .ref wA, .int wf, .int wl, .int lo, .int ov, .int un, .int aT, .int mi, .int ds, .ref dA, .int a0, .int xp, .ref iA, .int te])), (tA, .inl (cI, 60, .inl zt)), (oA, .inl (cI, 300, .inl zo)), (rA, .inl (cI, 400, .inl zr)), (wA, .inl (cI, 400, .inl zw)), (dA, .inl (cI, 40, .inl zd)), (iA, .inl (cI, 200, .inl zi)), (ol, .inl (cJ, 1, .inr (.inl fo))), (D0, .inr (7, [.ref y0, .ref tp, .ref dc, .ref rd, .ref fn, .ref dn, .ref td, .int md, .int fl])), (y0, .inr (0, [.int eb, .int mb]))] := hD
    refine lv_aload_n hx hb d_Law_law_465 rfl (lv_at hl 2 rfl) ?_
    refine lv_aload_n hx hb d_Law_law_466 rfl (lv_at hl 4 rfl) ?_
    refine lv_iload hx hb d_Law_law_467 (lv_at hl 0 rfl) ?_
    refine lv_iconst (v := 1) hx hb d_Law_law_469 (by decide) ?_
    refine lv_iadd hx hb d_Law_law_470 ?_
    refine lv_topi (fun v470 e470 => ?_)
    have t470 : v470.toInt = (k : Int) + 1 := by rw [e470]; exact q_iadd ti (show (1 : Int32).toInt = 1 by decide) (by omega)
    refine va_sld hx hb hX hbl hbA hS (q_in t470 (by omega)) d_Law_law_471 ?_
    refine lv_topi (fun v471 e471 => ?_)
    refine lv_i2l hx hb d_Law_law_472 rfl ?_
    refine lv_topl (fun v472 e472 => ?_)
    refine lv_bipush (v := 32) hx hb d_Law_law_473 (by decide) ?_
    refine lv_lshl hx hb d_Law_law_475 rfl ?_
    refine lv_topl (fun v475 e475 => ?_)
    refine lv_aload_n hx hb d_Law_law_476 rfl (lv_at hl 4 rfl) ?_
    refine lv_iload hx hb d_Law_law_477 (lv_at hl 0 rfl) ?_
    refine lv_iconst (v := 2) hx hb d_Law_law_479 (by decide) ?_
    refine lv_iadd hx hb d_Law_law_480 ?_
    refine lv_topi (fun v480 e480 => ?_)
    have t480 : v480.toInt = (k : Int) + 2 := by rw [e480]; exact q_iadd ti (show (2 : Int32).toInt = 2 by decide) (by omega)
    refine va_sld hx hb hX hbl hbA hS (q_in t480 (by omega)) d_Law_law_481 ?_
    refine lv_topi (fun v481 e481 => ?_)
    refine lv_i2l hx hb d_Law_law_482 rfl ?_
    refine lv_topl (fun v482 e482 => ?_)
    refine lv_ldc2 (v := 4294967295) hx hb hown (hts _ m_743) d_Law_law_483 ?_
    refine lv_land hx hb d_Law_law_486 ?_
    refine lv_topl (fun v486 e486 => ?_)
    refine lv_lor hx hb d_Law_law_487 ?_
    refine lv_topl (fun v487 e487 => ?_)
    refine lv_aload_n hx hb d_Law_law_488 rfl (lv_at hl 4 rfl) ?_
    refine lv_iload hx hb d_Law_law_489 (lv_at hl 0 rfl) ?_
    refine lv_iconst (v := 3) hx hb d_Law_law_491 (by decide) ?_
    refine lv_iadd hx hb d_Law_law_492 ?_
    refine lv_topi (fun v492 e492 => ?_)
    have t492 : v492.toInt = (k : Int) + 3 := by rw [e492]; exact q_iadd ti (show (3 : Int32).toInt = 3 by decide) (by omega)
    refine va_sld hx hb hX hbl hbA hS (q_in t492 (by omega)) d_Law_law_493 ?_
    refine lv_topi (fun v493 e493 => ?_)
    refine lv_if_eq (tgt := 501) hx hb d_Law_law_494 (by decide) (fun b494 => ?_) (fun b494 => ?_)
    · skip
      refine lv_iconst (v := 0) hx hb d_Law_law_501 (by decide) ?_
      refine callV_l (wr := [(tp, .inr (2, [.ref ta, .int tl])), (ta, .inl (cB, 60, .inl ft)), (dc, .inr (3, [.ref dcn, .int ng, .int xe])), (dcn, .inr (1, [.ref dca])), (dca, .inl (cI, 12, .inl fd)), (rd, .inr (4, [.ref r1, .ref r2, .long sz, .int ix, .int ty])), (r1, .inr (1, [.ref q1])), (q1, .inl (cI, 12, .inl fr1)), (r2, .inr (1, [.ref q2])), (q2, .inl (cI, 12, .inl fr2)), (fn, .inr (5, [.ref n1, .ref n2, .ref n3, .ref n4, .ref n5, .int en, .long dg, .int ct, .int pw])), (n1, .inr (1, [.ref m1])), (m1, .inl (cI, 12, .inl fr)), (n2, .inr (1, [.ref m2])), (m2, .inl (cI, 12, .inl fu)), (n3, .inr (1, [.ref m3])), (m3, .inl (cI, 12, .inl fB)), (n4, .inr (1, [.ref m4])), (m4, .inl (cI, 12, .inl fA)), (n5, .inr (1, [.ref m5])), (m5, .inl (cI, 12, .inl fs)), (dn, .inr (1, [.ref da])), (da, .inl (cI, 12, .inl fq)), (td, .inr (6, [.ref la, .ref lb, .int ll])), (la, .inl (cB, 160, .inl fL)), (lb, .inl (cB, 160, .inl gL)), (tA, .inl (cI, 60, .inl zt)), (oA, .inl (cI, 300, .inl zo)), (rA, .inl (cI, 400, .inl zr)), (wA, .inl (cI, 400, .inl zw)), (dA, .inl (cI, 40, .inl zd)), (iA, .inl (cI, 200, .inl zi)), (ol, .inl (cJ, 1, .inr (.inl fo))), (D0, .inr (7, [.ref y0, .ref tp, .ref dc, .ref rd, .ref fn, .ref dn, .ref td, .int md, .int fl])), (y0, .inr (0, [.int eb, .int mb]))]) C0 (c_Model_next l dC dI cI cB cJ (M0) (th) (we) (wm) (wy) (ra) (tA) (tn) (oA) (on) (rA) (fi) (lx) (wA) (wf) (wl) (lo) (ov) (un) (aT) (mi) (ds) (dA) (a0) (xp) (iA) (te) (E) (M) (v487) ((0 : Int32)) (by first | assumption | (rw [i_wy]; assumption) | exact Or.inl rfl | exact Or.inr rfl) (by first | assumption | (rw [i_wy]; assumption) | exact Or.inl rfl | exact Or.inr rfl)) (cwV 2 hts (gV m_738 m_739 m_740 m_55 m_741) rfl rfl rfl (by decide +kernel) ⟨Nat.le_of_ble_eq_true rfl, Nat.le_of_ble_eq_true rfl⟩) 8 rfl rfl 0 rfl hP hD hS hA [26] [0, 1, 2, 3, 4, 5, 6, 7, 8, 9, 10, 11, 12, 13, 14, 15, 16, 17, 18, 19, 20, 21, 22, 23, 24, 25, 27, 28, 29, 30, 31, 32, 33, 34, 35] rfl rfl (by decide) (by decide) (by decide) rfl hl.1 rfl (Nat.le_of_ble_eq_true rfl) d_Law_law_502 ⟨by show cs + 0 + 0 ≤ 1064; omega, by show sl + 0 + 0 ≤ 10173; omega⟩ (fun r502 u502 H locs hw9 hP hD hS => ?_)
      have h502 : NX E M v487.toInt ((0 : Int32) = 1) r502.toInt := hw9
      have hP : va_P (dC, dI) vwCl [(tp, .inr (2, [.ref ta, .int tl])), (ta, .inl (cB, 60, .inl ft)), (dc, .inr (3, [.ref dcn, .int ng, .int xe])), (dcn, .inr (1, [.ref dca])), (dca, .inl (cI, 12, .inl fd)), (rd, .inr (4, [.ref r1, .ref r2, .long sz, .int ix, .int ty])), (r1, .inr (1, [.ref q1])), (q1, .inl (cI, 12, .inl fr1)), (r2, .inr (1, [.ref q2])), (q2, .inl (cI, 12, .inl fr2)), (fn, .inr (5, [.ref n1, .ref n2, .ref n3, .ref n4, .ref n5, .int en, .long dg, .int ct, .int pw])), (n1, .inr (1, [.ref m1])), (m1, .inl (cI, 12, .inl fr)), (n2, .inr (1, [.ref m2])), (m2, .inl (cI, 12, .inl fu)), (n3, .inr (1, [.ref m3])), (m3, .inl (cI, 12, .inl fB)), (n4, .inr (1, [.ref m4])), (m4, .inl (cI, 12, .inl fA)), (n5, .inr (1, [.ref m5])), (m5, .inl (cI, 12, .inl fs)), (dn, .inr (1, [.ref da])), (da, .inl (cI, 12, .inl fq)), (td, .inr (6, [.ref la, .ref lb, .int ll])), (la, .inl (cB, 160, .inl fL)), (lb, .inl (cB, 160, .inl gL)), (tA, .inl (cI, 60, .inl zt)), (oA, .inl (cI, 300, .inl zo)), (rA, .inl (cI, 400, .inl zr)), (wA, .inl (cI, 400, .inl zw)), (dA, .inl (cI, 40, .inl zd)), (iA, .inl (cI, 200, .inl zi)), (ol, .inl (cJ, 1, .inr (.inl fo))), (D0, .inr (7, [.ref y0, .ref tp, .ref dc, .ref rd, .ref fn, .ref dn, .ref td, .int md, .int fl])), (y0, .inr (0, [.int eb, .int mb])), (M0, .inr (8, [.int 0, .int we, .int wm, .int wy, .int ra, .ref tA, .int tn, .ref oA, .int on, .ref rA, .int fi, .int lx, .ref wA, .int wf, .int wl, .int lo, .int ov, .int un, .int aT, .int mi, .int ds, .ref dA, .int a0, .int xp, .ref iA, .int te]))] H := hP
      have hD : va_D A [(tp, .inr (2, [.ref ta, .int tl])), (ta, .inl (cB, 60, .inl ft)), (dc, .inr (3, [.ref dcn, .int ng, .int xe])), (dcn, .inr (1, [.ref dca])), (dca, .inl (cI, 12, .inl fd)), (rd, .inr (4, [.ref r1, .ref r2, .long sz, .int ix, .int ty])), (r1, .inr (1, [.ref q1])), (q1, .inl (cI, 12, .inl fr1)), (r2, .inr (1, [.ref q2])), (q2, .inl (cI, 12, .inl fr2)), (fn, .inr (5, [.ref n1, .ref n2, .ref n3, .ref n4, .ref n5, .int en, .long dg, .int ct, .int pw])), (n1, .inr (1, [.ref m1])), (m1, .inl (cI, 12, .inl fr)), (n2, .inr (1, [.ref m2])), (m2, .inl (cI, 12, .inl fu)), (n3, .inr (1, [.ref m3])), (m3, .inl (cI, 12, .inl fB)), (n4, .inr (1, [.ref m4])), (m4, .inl (cI, 12, .inl fA)), (n5, .inr (1, [.ref m5])), (m5, .inl (cI, 12, .inl fs)), (dn, .inr (1, [.ref da])), (da, .inl (cI, 12, .inl fq)), (td, .inr (6, [.ref la, .ref lb, .int ll])), (la, .inl (cB, 160, .inl fL)), (lb, .inl (cB, 160, .inl gL)), (tA, .inl (cI, 60, .inl zt)), (oA, .inl (cI, 300, .inl zo)), (rA, .inl (cI, 400, .inl zr)), (wA, .inl (cI, 400, .inl zw)), (dA, .inl (cI, 40, .inl zd)), (iA, .inl (cI, 200, .inl zi)), (ol, .inl (cJ, 1, .inr (.inl fo))), (D0, .inr (7, [.ref y0, .ref tp, .ref dc, .ref rd, .ref fn, .ref dn, .ref td, .int md, .int fl])), (y0, .inr (0, [.int eb, .int mb])), (M0, .inr (8, [.int 0, .int we, .int wm, .int wy, .int ra, .ref tA, .int tn, .ref oA, .int on, .ref rA, .int fi, .int lx, .ref wA, .int wf, .int wl, .int lo, .int ov, .int un, .int aT, .int mi, .int ds, .ref dA, .int a0, .int xp, .ref iA, .int te]))] := hD
      have av487 : v487 = v447 := by simp only [e430, e431, e432, e435, e440, e441, e442, e446, e447, e452, e453, e470, e471, e472, e475, e480, e481, e482, e486, e487, e492, e493]
      try rw [av487] at h502
      refine W.lcmp hx hb d_Law_law_505 ?_
      refine lv_if_eq (tgt := 511) hx hb d_Law_law_506 (by decide) (fun b506 => ?_) (fun b506 => ?_)
      · skip
        refine W.widen (k := cs + 1) (n := sl + 6) (by show cs + 0 + 0 ≤ cs + 1; omega) (by show sl + 0 + 0 ≤ sl + 6; omega) ?_
        exact next (md) (fl) (eb) (mb) (tl) (ft) (ng) (xe) (fd) (sz) (ix) (ty) (fr1) (fr2) (en) (dg) (ct) (pw) (fr) (fu) (fB) (fA) (fs) (fq) (ll) (fL) (gL) (0) (we) (wm) (wy) (ra) (tn) (on) (fi) (lx) (wf) (wl) (lo) (ov) (un) (aT) (mi) (ds) (a0) (xp) (te) (zt) (zo) (zr) (zw) (zd) (zi) (fo) (E) (M) (T) (len) (wt) H locs ls (i_LD) (i_LM) (i_wy) (i_md) (i_ra) (i_TD) (i_TM) (i_OD) (i_OM) (va_Psub hP [33, 34, 0, 1, 2, 3, 4, 5, 6, 7, 8, 9, 10, 11, 12, 13, 14, 15, 16, 17, 18, 19, 20, 21, 22, 23, 24, 25, 35, 26, 27, 28, 29, 30, 31, 32] rfl) (hD.sub [33, 34, 0, 1, 2, 3, 4, 5, 6, 7, 8, 9, 10, 11, 12, 13, 14, 15, 16, 17, 18, 19, 20, 21, 22, 23, 24, 25, 35, 26, 27, 28, 29, 30, 31, 32] (by decide) rfl) hS (lv_sub hl [0, 1, 2, 3, 4] rfl)
      · skip
        exact absurd ((q_cmp_eq rfl rfl).mpr (NX_uniq h462 h502)) b506
    · skip
      have q494 : v493 = v453 := by simp only [e430, e431, e432, e435, e440, e441, e442, e446, e447, e452, e453, e470, e471, e472, e475, e480, e481, e482, e486, e487, e492, e493]
      exact absurd (q494.trans b454) b494
  · skip
    refine lv_iconst (v := 1) hx hb d_Law_law_457 (by decide) ?_
    refine lv_goto (tgt := 462) hx hb d_Law_law_458 (by decide) ?_
    refine callV_l (wr := [(tp, .inr (2, [.ref ta, .int tl])), (ta, .inl (cB, 60, .inl ft)), (dc, .inr (3, [.ref dcn, .int ng, .int xe])), (dcn, .inr (1, [.ref dca])), (dca, .inl (cI, 12, .inl fd)), (rd, .inr (4, [.ref r1, .ref r2, .long sz, .int ix, .int ty])), (r1, .inr (1, [.ref q1])), (q1, .inl (cI, 12, .inl fr1)), (r2, .inr (1, [.ref q2])), (q2, .inl (cI, 12, .inl fr2)), (fn, .inr (5, [.ref n1, .ref n2, .ref n3, .ref n4, .ref n5, .int en, .long dg, .int ct, .int pw])), (n1, .inr (1, [.ref m1])), (m1, .inl (cI, 12, .inl fr)), (n2, .inr (1, [.ref m2])), (m2, .inl (cI, 12, .inl fu)), (n3, .inr (1, [.ref m3])), (m3, .inl (cI, 12, .inl fB)), (n4, .inr (1, [.ref m4])), (m4, .inl (cI, 12, .inl fA)), (n5, .inr (1, [.ref m5])), (m5, .inl (cI, 12, .inl fs)), (dn, .inr (1, [.ref da])), (da, .inl (cI, 12, .inl fq)), (td, .inr (6, [.ref la, .ref lb, .int ll])), (la, .inl (cB, 160, .inl fL)), (lb, .inl (cB, 160, .inl gL)), (M0, .inr (8, [.int th, .int we, .int wm, .int wy, .int ra, .ref tA, .int tn, .ref oA, .int on, .ref rA, .int fi, .int lx, .ref wA, .int wf, .int wl, .int lo, .int ov, .int un, .int aT, .int mi, .int ds, .ref dA, .int a0, .int xp, .ref iA, .int te])), (tA, .inl (cI, 60, .inl zt)), (oA, .inl (cI, 300, .inl zo)), (rA, .inl (cI, 400, .inl zr)), (wA, .inl (cI, 400, .inl zw)), (dA, .inl (cI, 40, .inl zd)), (iA, .inl (cI, 200, .inl zi)), (ol, .inl (cJ, 1, .inr (.inl fo)))]) C0 (c_Desk_next l dC dI cI cB cJ (D0) (y0) (tp) (dc) (rd) (fn) (dn) (td) (md) (fl) (eb) (mb) (E) (M) (v447) ((1 : Int32)) (by first | assumption | (rw [i_wy]; assumption) | exact Or.inl rfl | exact Or.inr rfl) (by first | assumption | (rw [i_wy]; assumption) | exact Or.inl rfl | exact Or.inr rfl)) (cwV 2 hts (gV m_217 m_218 m_219 m_47 m_220) rfl rfl rfl (by decide +kernel) ⟨Nat.le_of_ble_eq_true rfl, Nat.le_of_ble_eq_true rfl⟩) 7 rfl rfl 0 rfl hP hD hS hA [0, 1] [2, 3, 4, 5, 6, 7, 8, 9, 10, 11, 12, 13, 14, 15, 16, 17, 18, 19, 20, 21, 22, 23, 24, 25, 26, 27, 28, 29, 30, 31, 32, 33, 34, 35] rfl rfl (by decide) (by decide) (by decide) rfl hl.1 rfl (Nat.le_of_ble_eq_true rfl) d_Law_law_462 ⟨by show cs + 0 ≤ 1064; omega, by show sl + 0 ≤ 10173; omega⟩ (fun r462 u462 H locs hw9 hP hD hS => ?_)
    have h462 : NX E M v447.toInt ((1 : Int32) = 1) r462.toInt := hw9
    have hP : va_P (dC, dI) vwCl [(tp, .inr (2, [.ref ta, .int tl])), (ta, .inl (cB, 60, .inl ft)), (dc, .inr (3, [.ref dcn, .int ng, .int xe])), (dcn, .inr (1, [.ref dca])), (dca, .inl (cI, 12, .inl fd)), (rd, .inr (4, [.ref r1, .ref r2, .long sz, .int ix, .int ty])), (r1, .inr (1, [.ref q1])), (q1, .inl (cI, 12, .inl fr1)), (r2, .inr (1, [.ref q2])), (q2, .inl (cI, 12, .inl fr2)), (fn, .inr (5, [.ref n1, .ref n2, .ref n3, .ref n4, .ref n5, .int en, .long dg, .int ct, .int pw])), (n1, .inr (1, [.ref m1])), (m1, .inl (cI, 12, .inl fr)), (n2, .inr (1, [.ref m2])), (m2, .inl (cI, 12, .inl fu)), (n3, .inr (1, [.ref m3])), (m3, .inl (cI, 12, .inl fB)), (n4, .inr (1, [.ref m4])), (m4, .inl (cI, 12, .inl fA)), (n5, .inr (1, [.ref m5])), (m5, .inl (cI, 12, .inl fs)), (dn, .inr (1, [.ref da])), (da, .inl (cI, 12, .inl fq)), (td, .inr (6, [.ref la, .ref lb, .int ll])), (la, .inl (cB, 160, .inl fL)), (lb, .inl (cB, 160, .inl gL)), (M0, .inr (8, [.int th, .int we, .int wm, .int wy, .int ra, .ref tA, .int tn, .ref oA, .int on, .ref rA, .int fi, .int lx, .ref wA, .int wf, .int wl, .int lo, .int ov, .int un, .int aT, .int mi, .int ds, .ref dA, .int a0, .int xp, .ref iA, .int te])), (tA, .inl (cI, 60, .inl zt)), (oA, .inl (cI, 300, .inl zo)), (rA, .inl (cI, 400, .inl zr)), (wA, .inl (cI, 400, .inl zw)), (dA, .inl (cI, 40, .inl zd)), (iA, .inl (cI, 200, .inl zi)), (ol, .inl (cJ, 1, .inr (.inl fo))), (D0, .inr (7, [.ref y0, .ref tp, .ref dc, .ref rd, .ref fn, .ref dn, .ref td, .int md, .int fl])), (y0, .inr (0, [.int eb, .int mb]))] H := hP
    have hD : va_D A [(tp, .inr (2, [.ref ta, .int tl])), (ta, .inl (cB, 60, .inl ft)), (dc, .inr (3, [.ref dcn, .int ng, .int xe])), (dcn, .inr (1, [.ref dca])), (dca, .inl (cI, 12, .inl fd)), (rd, .inr (4, [.ref r1, .ref r2, .long sz, .int ix, .int ty])), (r1, .inr (1, [.ref q1])), (q1, .inl (cI, 12, .inl fr1)), (r2, .inr (1, [.ref q2])), (q2, .inl (cI, 12, .inl fr2)), (fn, .inr (5, [.ref n1, .ref n2, .ref n3, .ref n4, .ref n5, .int en, .long dg, .int ct, .int pw])), (n1, .inr (1, [.ref m1])), (m1, .inl (cI, 12, .inl fr)), (n2, .inr (1, [.ref m2])), (m2, .inl (cI, 12, .inl fu)), (n3, .inr (1, [.ref m3])), (m3, .inl (cI, 12, .inl fB)), (n4, .inr (1, [.ref m4])), (m4, .inl (cI, 12, .inl fA)), (n5, .inr (1, [.ref m5])), (m5, .inl (cI, 12, .inl fs)), (dn, .inr (1, [.ref da])), (da, .inl (cI, 12, .inl fq)), (td, .inr (6, [.ref la, .ref lb, .int ll])), (la, .inl (cB, 160, .inl fL)), (lb, .inl (cB, 160, .inl gL)), (M0, .inr (8, [.int th, .int we, .int wm, .int wy, .int ra, .ref tA, .int tn, .ref oA, .int on, .ref rA, .int fi, .int lx, .ref wA, .int wf, .int wl, .int lo, .int ov, .int un, .int aT, .int mi, .int ds, .ref dA, .int a0, .int xp, .ref iA, .int te])), (tA, .inl (cI, 60, .inl zt)), (oA, .inl (cI, 300, .inl zo)), (rA, .inl (cI, 400, .inl zr)), (wA, .inl (cI, 400, .inl zw)), (dA, .inl (cI, 40, .inl zd)), (iA, .inl (cI, 200, .inl zi)), (ol, .inl (cJ, 1, .inr (.inl fo))), (D0, .inr (7, [.ref y0, .ref tp, .ref dc, .ref rd, .ref fn, .ref dn, .ref td, .int md, .int fl])), (y0, .inr (0, [.int eb, .int mb]))] := hD
    refine lv_aload_n hx hb d_Law_law_465 rfl (lv_at hl 2 rfl) ?_
    refine lv_aload_n hx hb d_Law_law_466 rfl (lv_at hl 4 rfl) ?_
    refine lv_iload hx hb d_Law_law_467 (lv_at hl 0 rfl) ?_
    refine lv_iconst (v := 1) hx hb d_Law_law_469 (by decide) ?_
    refine lv_iadd hx hb d_Law_law_470 ?_
    refine lv_topi (fun v470 e470 => ?_)
    have t470 : v470.toInt = (k : Int) + 1 := by rw [e470]; exact q_iadd ti (show (1 : Int32).toInt = 1 by decide) (by omega)
    refine va_sld hx hb hX hbl hbA hS (q_in t470 (by omega)) d_Law_law_471 ?_
    refine lv_topi (fun v471 e471 => ?_)
    refine lv_i2l hx hb d_Law_law_472 rfl ?_
    refine lv_topl (fun v472 e472 => ?_)
    refine lv_bipush (v := 32) hx hb d_Law_law_473 (by decide) ?_
    refine lv_lshl hx hb d_Law_law_475 rfl ?_
    refine lv_topl (fun v475 e475 => ?_)
    refine lv_aload_n hx hb d_Law_law_476 rfl (lv_at hl 4 rfl) ?_
    refine lv_iload hx hb d_Law_law_477 (lv_at hl 0 rfl) ?_
    refine lv_iconst (v := 2) hx hb d_Law_law_479 (by decide) ?_
    refine lv_iadd hx hb d_Law_law_480 ?_
    refine lv_topi (fun v480 e480 => ?_)
    have t480 : v480.toInt = (k : Int) + 2 := by rw [e480]; exact q_iadd ti (show (2 : Int32).toInt = 2 by decide) (by omega)
    refine va_sld hx hb hX hbl hbA hS (q_in t480 (by omega)) d_Law_law_481 ?_
    refine lv_topi (fun v481 e481 => ?_)
    refine lv_i2l hx hb d_Law_law_482 rfl ?_
    refine lv_topl (fun v482 e482 => ?_)
    refine lv_ldc2 (v := 4294967295) hx hb hown (hts _ m_743) d_Law_law_483 ?_
    refine lv_land hx hb d_Law_law_486 ?_
    refine lv_topl (fun v486 e486 => ?_)
    refine lv_lor hx hb d_Law_law_487 ?_
    refine lv_topl (fun v487 e487 => ?_)
    refine lv_aload_n hx hb d_Law_law_488 rfl (lv_at hl 4 rfl) ?_
    refine lv_iload hx hb d_Law_law_489 (lv_at hl 0 rfl) ?_
    refine lv_iconst (v := 3) hx hb d_Law_law_491 (by decide) ?_
    refine lv_iadd hx hb d_Law_law_492 ?_
    refine lv_topi (fun v492 e492 => ?_)
    have t492 : v492.toInt = (k : Int) + 3 := by rw [e492]; exact q_iadd ti (show (3 : Int32).toInt = 3 by decide) (by omega)
    refine va_sld hx hb hX hbl hbA hS (q_in t492 (by omega)) d_Law_law_493 ?_
    refine lv_topi (fun v493 e493 => ?_)
    refine lv_if_eq (tgt := 501) hx hb d_Law_law_494 (by decide) (fun b494 => ?_) (fun b494 => ?_)
    · skip
      have q494 : v493 = v453 := by simp only [e430, e431, e432, e435, e440, e441, e442, e446, e447, e452, e453, e470, e471, e472, e475, e480, e481, e482, e486, e487, e492, e493]
      exact absurd (q494.symm.trans b494) b454
    · skip
      refine lv_iconst (v := 1) hx hb d_Law_law_497 (by decide) ?_
      refine lv_goto (tgt := 502) hx hb d_Law_law_498 (by decide) ?_
      refine callV_l (wr := [(tp, .inr (2, [.ref ta, .int tl])), (ta, .inl (cB, 60, .inl ft)), (dc, .inr (3, [.ref dcn, .int ng, .int xe])), (dcn, .inr (1, [.ref dca])), (dca, .inl (cI, 12, .inl fd)), (rd, .inr (4, [.ref r1, .ref r2, .long sz, .int ix, .int ty])), (r1, .inr (1, [.ref q1])), (q1, .inl (cI, 12, .inl fr1)), (r2, .inr (1, [.ref q2])), (q2, .inl (cI, 12, .inl fr2)), (fn, .inr (5, [.ref n1, .ref n2, .ref n3, .ref n4, .ref n5, .int en, .long dg, .int ct, .int pw])), (n1, .inr (1, [.ref m1])), (m1, .inl (cI, 12, .inl fr)), (n2, .inr (1, [.ref m2])), (m2, .inl (cI, 12, .inl fu)), (n3, .inr (1, [.ref m3])), (m3, .inl (cI, 12, .inl fB)), (n4, .inr (1, [.ref m4])), (m4, .inl (cI, 12, .inl fA)), (n5, .inr (1, [.ref m5])), (m5, .inl (cI, 12, .inl fs)), (dn, .inr (1, [.ref da])), (da, .inl (cI, 12, .inl fq)), (td, .inr (6, [.ref la, .ref lb, .int ll])), (la, .inl (cB, 160, .inl fL)), (lb, .inl (cB, 160, .inl gL)), (tA, .inl (cI, 60, .inl zt)), (oA, .inl (cI, 300, .inl zo)), (rA, .inl (cI, 400, .inl zr)), (wA, .inl (cI, 400, .inl zw)), (dA, .inl (cI, 40, .inl zd)), (iA, .inl (cI, 200, .inl zi)), (ol, .inl (cJ, 1, .inr (.inl fo))), (D0, .inr (7, [.ref y0, .ref tp, .ref dc, .ref rd, .ref fn, .ref dn, .ref td, .int md, .int fl])), (y0, .inr (0, [.int eb, .int mb]))]) C0 (c_Model_next l dC dI cI cB cJ (M0) (th) (we) (wm) (wy) (ra) (tA) (tn) (oA) (on) (rA) (fi) (lx) (wA) (wf) (wl) (lo) (ov) (un) (aT) (mi) (ds) (dA) (a0) (xp) (iA) (te) (E) (M) (v487) ((1 : Int32)) (by first | assumption | (rw [i_wy]; assumption) | exact Or.inl rfl | exact Or.inr rfl) (by first | assumption | (rw [i_wy]; assumption) | exact Or.inl rfl | exact Or.inr rfl)) (cwV 2 hts (gV m_738 m_739 m_740 m_55 m_741) rfl rfl rfl (by decide +kernel) ⟨Nat.le_of_ble_eq_true rfl, Nat.le_of_ble_eq_true rfl⟩) 8 rfl rfl 0 rfl hP hD hS hA [26] [0, 1, 2, 3, 4, 5, 6, 7, 8, 9, 10, 11, 12, 13, 14, 15, 16, 17, 18, 19, 20, 21, 22, 23, 24, 25, 27, 28, 29, 30, 31, 32, 33, 34, 35] rfl rfl (by decide) (by decide) (by decide) rfl hl.1 rfl (Nat.le_of_ble_eq_true rfl) d_Law_law_502 ⟨by show cs + 0 + 0 ≤ 1064; omega, by show sl + 0 + 0 ≤ 10173; omega⟩ (fun r502 u502 H locs hw9 hP hD hS => ?_)
      have h502 : NX E M v487.toInt ((1 : Int32) = 1) r502.toInt := hw9
      have hP : va_P (dC, dI) vwCl [(tp, .inr (2, [.ref ta, .int tl])), (ta, .inl (cB, 60, .inl ft)), (dc, .inr (3, [.ref dcn, .int ng, .int xe])), (dcn, .inr (1, [.ref dca])), (dca, .inl (cI, 12, .inl fd)), (rd, .inr (4, [.ref r1, .ref r2, .long sz, .int ix, .int ty])), (r1, .inr (1, [.ref q1])), (q1, .inl (cI, 12, .inl fr1)), (r2, .inr (1, [.ref q2])), (q2, .inl (cI, 12, .inl fr2)), (fn, .inr (5, [.ref n1, .ref n2, .ref n3, .ref n4, .ref n5, .int en, .long dg, .int ct, .int pw])), (n1, .inr (1, [.ref m1])), (m1, .inl (cI, 12, .inl fr)), (n2, .inr (1, [.ref m2])), (m2, .inl (cI, 12, .inl fu)), (n3, .inr (1, [.ref m3])), (m3, .inl (cI, 12, .inl fB)), (n4, .inr (1, [.ref m4])), (m4, .inl (cI, 12, .inl fA)), (n5, .inr (1, [.ref m5])), (m5, .inl (cI, 12, .inl fs)), (dn, .inr (1, [.ref da])), (da, .inl (cI, 12, .inl fq)), (td, .inr (6, [.ref la, .ref lb, .int ll])), (la, .inl (cB, 160, .inl fL)), (lb, .inl (cB, 160, .inl gL)), (tA, .inl (cI, 60, .inl zt)), (oA, .inl (cI, 300, .inl zo)), (rA, .inl (cI, 400, .inl zr)), (wA, .inl (cI, 400, .inl zw)), (dA, .inl (cI, 40, .inl zd)), (iA, .inl (cI, 200, .inl zi)), (ol, .inl (cJ, 1, .inr (.inl fo))), (D0, .inr (7, [.ref y0, .ref tp, .ref dc, .ref rd, .ref fn, .ref dn, .ref td, .int md, .int fl])), (y0, .inr (0, [.int eb, .int mb])), (M0, .inr (8, [.int 0, .int we, .int wm, .int wy, .int ra, .ref tA, .int tn, .ref oA, .int on, .ref rA, .int fi, .int lx, .ref wA, .int wf, .int wl, .int lo, .int ov, .int un, .int aT, .int mi, .int ds, .ref dA, .int a0, .int xp, .ref iA, .int te]))] H := hP
      have hD : va_D A [(tp, .inr (2, [.ref ta, .int tl])), (ta, .inl (cB, 60, .inl ft)), (dc, .inr (3, [.ref dcn, .int ng, .int xe])), (dcn, .inr (1, [.ref dca])), (dca, .inl (cI, 12, .inl fd)), (rd, .inr (4, [.ref r1, .ref r2, .long sz, .int ix, .int ty])), (r1, .inr (1, [.ref q1])), (q1, .inl (cI, 12, .inl fr1)), (r2, .inr (1, [.ref q2])), (q2, .inl (cI, 12, .inl fr2)), (fn, .inr (5, [.ref n1, .ref n2, .ref n3, .ref n4, .ref n5, .int en, .long dg, .int ct, .int pw])), (n1, .inr (1, [.ref m1])), (m1, .inl (cI, 12, .inl fr)), (n2, .inr (1, [.ref m2])), (m2, .inl (cI, 12, .inl fu)), (n3, .inr (1, [.ref m3])), (m3, .inl (cI, 12, .inl fB)), (n4, .inr (1, [.ref m4])), (m4, .inl (cI, 12, .inl fA)), (n5, .inr (1, [.ref m5])), (m5, .inl (cI, 12, .inl fs)), (dn, .inr (1, [.ref da])), (da, .inl (cI, 12, .inl fq)), (td, .inr (6, [.ref la, .ref lb, .int ll])), (la, .inl (cB, 160, .inl fL)), (lb, .inl (cB, 160, .inl gL)), (tA, .inl (cI, 60, .inl zt)), (oA, .inl (cI, 300, .inl zo)), (rA, .inl (cI, 400, .inl zr)), (wA, .inl (cI, 400, .inl zw)), (dA, .inl (cI, 40, .inl zd)), (iA, .inl (cI, 200, .inl zi)), (ol, .inl (cJ, 1, .inr (.inl fo))), (D0, .inr (7, [.ref y0, .ref tp, .ref dc, .ref rd, .ref fn, .ref dn, .ref td, .int md, .int fl])), (y0, .inr (0, [.int eb, .int mb])), (M0, .inr (8, [.int 0, .int we, .int wm, .int wy, .int ra, .ref tA, .int tn, .ref oA, .int on, .ref rA, .int fi, .int lx, .ref wA, .int wf, .int wl, .int lo, .int ov, .int un, .int aT, .int mi, .int ds, .ref dA, .int a0, .int xp, .ref iA, .int te]))] := hD
      have av487 : v487 = v447 := by simp only [e430, e431, e432, e435, e440, e441, e442, e446, e447, e452, e453, e470, e471, e472, e475, e480, e481, e482, e486, e487, e492, e493]
      try rw [av487] at h502
      refine W.lcmp hx hb d_Law_law_505 ?_
      refine lv_if_eq (tgt := 511) hx hb d_Law_law_506 (by decide) (fun b506 => ?_) (fun b506 => ?_)
      · skip
        refine W.widen (k := cs + 1) (n := sl + 6) (by show cs + 0 + 0 ≤ cs + 1; omega) (by show sl + 0 + 0 ≤ sl + 6; omega) ?_
        exact next (md) (fl) (eb) (mb) (tl) (ft) (ng) (xe) (fd) (sz) (ix) (ty) (fr1) (fr2) (en) (dg) (ct) (pw) (fr) (fu) (fB) (fA) (fs) (fq) (ll) (fL) (gL) (0) (we) (wm) (wy) (ra) (tn) (on) (fi) (lx) (wf) (wl) (lo) (ov) (un) (aT) (mi) (ds) (a0) (xp) (te) (zt) (zo) (zr) (zw) (zd) (zi) (fo) (E) (M) (T) (len) (wt) H locs ls (i_LD) (i_LM) (i_wy) (i_md) (i_ra) (i_TD) (i_TM) (i_OD) (i_OM) (va_Psub hP [33, 34, 0, 1, 2, 3, 4, 5, 6, 7, 8, 9, 10, 11, 12, 13, 14, 15, 16, 17, 18, 19, 20, 21, 22, 23, 24, 25, 35, 26, 27, 28, 29, 30, 31, 32] rfl) (hD.sub [33, 34, 0, 1, 2, 3, 4, 5, 6, 7, 8, 9, 10, 11, 12, 13, 14, 15, 16, 17, 18, 19, 20, 21, 22, 23, 24, 25, 35, 26, 27, 28, 29, 30, 31, 32] (by decide) rfl) hS (lv_sub hl [0, 1, 2, 3, 4] rfl)
      · skip
        exact absurd ((q_cmp_eq rfl rfl).mpr (NX_uniq h462 h502)) b506
end LD9
