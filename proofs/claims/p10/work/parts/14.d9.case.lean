/-! THE LAW: case 9 -/
section LD9
set_option maxHeartbeats 8000000 in
set_option maxRecDepth 100000 in
theorem law_453 {p : Program} {l : Launch} {e : Env} {s : State} {m : MethodId} {below : List Frame} {meth : Method} {c : Code} {dC : Nat → ClassId} {dI : Nat → Nat → Nat} {cI cB cJ : ClassId} {A : Nat → Prop} {Q : State → Prop} {b L : Nat} {xs : Nat → Int32} {D0 y0 tp dc rd fn dn td ta dcn dca r1 q1 r2 q2 n1 m1 n2 m2 n3 m3 n4 m4 n5 m5 da la lb M0 tA oA rA wA dA iA ol : Nat} (htr : l.stackTraces = false) (X0 : lwX dC dI cI cB cJ p s m b meth c L xs) (hL : L ≤ 2048) (hA : ∀ q : Nat, s.heap.size ≤ q → A q) (hAl : ∀ q : Nat, A q → s.heap.size ≤ q) {cs sl : Nat} (hcs : cs + 1 ≤ 1064) (hsl : sl + 6 ≤ 10173) {i : Int32} {k : Nat} (ti : i.toInt = (k : Int)) (hk : k + 4 ≤ L) (next : LK p l e s m below meth c dC dI cI cB cJ A Q b D0 y0 tp dc rd fn dn td ta dcn dca r1 q1 r2 q2 n1 m1 n2 m2 n3 m3 n4 m4 n5 m5 da la lb M0 tA oA rA wA dA iA ol i 538 (cs + 1) (sl + 6)) : LK p l e s m below meth c dC dI cI cB cJ A Q b D0 y0 tp dc rd fn dn td ta dcn dca r1 q1 r2 q2 n1 m1 n2 m2 n3 m3 n4 m4 n5 m5 da la lb M0 tA oA rA wA dA iA ol i 453 cs sl := by
  obtain ⟨C0, hth, hcw, hSK, hX, hbl⟩ := X0
  obtain ⟨hx, hb, hml, hown, hts, hr, hlocks, hK, hN⟩ := id C0
  have hbA : ¬ A b := fun h => absurd (hAl _ h) (by omega)
  have hlow : ∀ q, q < s.heap.size → ¬ A q := fun q h h2 => absurd (hAl _ h2) (by omega)
  intro md fl eb mb tl ft ng xe fd sz ix ty fr1 fr2 en dg ct pw fr fu fB fA fs fq ll fL gL th we wm wy ra tn on fi lx wf wl lo ov un aT mi ds a0 xp te zt zo zr zw zd zi fo E M T len wt H locs ls i_LD i_LM i_wy i_md i_ra i_TD i_TM i_OD i_OM hP hD hS hl
  refine lv_aload_n hx hb d_Law_law_453 rfl (lv_at hl 3 rfl) ?_
  refine lv_aload_n hx hb d_Law_law_454 rfl (lv_at hl 4 rfl) ?_
  refine lv_iload hx hb d_Law_law_455 (lv_at hl 0 rfl) ?_
  refine lv_iconst (v := 1) hx hb d_Law_law_457 (by decide) ?_
  refine lv_iadd hx hb d_Law_law_458 ?_
  refine lv_topi (fun v458 e458 => ?_)
  have t458 : v458.toInt = (k : Int) + 1 := by rw [e458]; exact q_iadd ti (show (1 : Int32).toInt = 1 by decide) (by omega)
  refine va_sld hx hb hX hbl hbA hS (q_in t458 (by omega)) d_Law_law_459 ?_
  refine lv_topi (fun v459 e459 => ?_)
  refine lv_i2l hx hb d_Law_law_460 rfl ?_
  refine lv_topl (fun v460 e460 => ?_)
  refine lv_bipush (v := 32) hx hb d_Law_law_461 (by decide) ?_
  refine lv_lshl hx hb d_Law_law_463 rfl ?_
  refine lv_topl (fun v463 e463 => ?_)
  refine lv_aload_n hx hb d_Law_law_464 rfl (lv_at hl 4 rfl) ?_
  refine lv_iload hx hb d_Law_law_465 (lv_at hl 0 rfl) ?_
  refine lv_iconst (v := 2) hx hb d_Law_law_467 (by decide) ?_
  refine lv_iadd hx hb d_Law_law_468 ?_
  refine lv_topi (fun v468 e468 => ?_)
  have t468 : v468.toInt = (k : Int) + 2 := by rw [e468]; exact q_iadd ti (show (2 : Int32).toInt = 2 by decide) (by omega)
  refine va_sld hx hb hX hbl hbA hS (q_in t468 (by omega)) d_Law_law_469 ?_
  refine lv_topi (fun v469 e469 => ?_)
  refine lv_i2l hx hb d_Law_law_470 rfl ?_
  refine lv_topl (fun v470 e470 => ?_)
  refine lv_ldc2 (v := 4294967295) hx hb hown (hts _ m_747) d_Law_law_471 ?_
  refine lv_land hx hb d_Law_law_474 ?_
  refine lv_topl (fun v474 e474 => ?_)
  refine lv_lor hx hb d_Law_law_475 ?_
  refine lv_topl (fun v475 e475 => ?_)
  refine lv_aload_n hx hb d_Law_law_476 rfl (lv_at hl 4 rfl) ?_
  refine lv_iload hx hb d_Law_law_477 (lv_at hl 0 rfl) ?_
  refine lv_iconst (v := 3) hx hb d_Law_law_479 (by decide) ?_
  refine lv_iadd hx hb d_Law_law_480 ?_
  refine lv_topi (fun v480 e480 => ?_)
  have t480 : v480.toInt = (k : Int) + 3 := by rw [e480]; exact q_iadd ti (show (3 : Int32).toInt = 3 by decide) (by omega)
  refine va_sld hx hb hX hbl hbA hS (q_in t480 (by omega)) d_Law_law_481 ?_
  refine lv_topi (fun v481 e481 => ?_)
  refine lv_if_eq (tgt := 489) hx hb d_Law_law_482 (by decide) (fun b482 => ?_) (fun b482 => ?_)
  · skip
    refine lv_iconst (v := 0) hx hb d_Law_law_489 (by decide) ?_
    refine callV_l (wr := [(tp, .inr (2, [.ref ta, .int tl])), (ta, .inl (cB, 60, .inl ft)), (dc, .inr (3, [.ref dcn, .int ng, .int xe])), (dcn, .inr (1, [.ref dca])), (dca, .inl (cI, 12, .inl fd)), (rd, .inr (4, [.ref r1, .ref r2, .long sz, .int ix, .int ty])), (r1, .inr (1, [.ref q1])), (q1, .inl (cI, 12, .inl fr1)), (r2, .inr (1, [.ref q2])), (q2, .inl (cI, 12, .inl fr2)), (fn, .inr (5, [.ref n1, .ref n2, .ref n3, .ref n4, .ref n5, .int en, .long dg, .int ct, .int pw])), (n1, .inr (1, [.ref m1])), (m1, .inl (cI, 12, .inl fr)), (n2, .inr (1, [.ref m2])), (m2, .inl (cI, 12, .inl fu)), (n3, .inr (1, [.ref m3])), (m3, .inl (cI, 12, .inl fB)), (n4, .inr (1, [.ref m4])), (m4, .inl (cI, 12, .inl fA)), (n5, .inr (1, [.ref m5])), (m5, .inl (cI, 12, .inl fs)), (dn, .inr (1, [.ref da])), (da, .inl (cI, 12, .inl fq)), (td, .inr (6, [.ref la, .ref lb, .int ll])), (la, .inl (cB, 160, .inl fL)), (lb, .inl (cB, 160, .inl gL)), (M0, .inr (8, [.int th, .int we, .int wm, .int wy, .int ra, .ref tA, .int tn, .ref oA, .int on, .ref rA, .int fi, .int lx, .ref wA, .int wf, .int wl, .int lo, .int ov, .int un, .int aT, .int mi, .int ds, .ref dA, .int a0, .int xp, .ref iA, .int te])), (tA, .inl (cI, 60, .inl zt)), (oA, .inl (cI, 300, .inl zo)), (rA, .inl (cI, 400, .inl zr)), (wA, .inl (cI, 400, .inl zw)), (dA, .inl (cI, 40, .inl zd)), (iA, .inl (cI, 200, .inl zi)), (ol, .inl (cJ, 1, .inr (.inl fo)))]) C0 (c_Desk_next l dC dI cI cB cJ (D0) (y0) (tp) (dc) (rd) (fn) (dn) (td) (md) (fl) (eb) (mb) (E) (M) (v475) ((0 : Int32)) (by first | assumption | (rw [i_wy]; assumption) | exact Or.inl rfl | exact Or.inr rfl) (by first | assumption | (rw [i_wy]; assumption) | exact Or.inl rfl | exact Or.inr rfl)) (cwV 2 hts (gV m_217 m_218 m_219 m_47 m_220) rfl rfl rfl (by decide +kernel) ⟨Nat.le_of_ble_eq_true rfl, Nat.le_of_ble_eq_true rfl⟩) 7 rfl rfl 0 rfl hP hD hS hA [0, 1] [2, 3, 4, 5, 6, 7, 8, 9, 10, 11, 12, 13, 14, 15, 16, 17, 18, 19, 20, 21, 22, 23, 24, 25, 26, 27, 28, 29, 30, 31, 32, 33, 34, 35] rfl rfl (by decide) (by decide) (by decide) rfl hl.1 rfl (Nat.le_of_ble_eq_true rfl) d_Law_law_490 ⟨by show cs + 0 ≤ 1064; omega, by show sl + 0 ≤ 10173; omega⟩ (fun r490 u490 H locs hw9 hP hD hS => ?_)
    have h490 : NX E M v475.toInt ((0 : Int32) = 1) r490.toInt := hw9
    have hP : va_P (dC, dI) vwCl [(tp, .inr (2, [.ref ta, .int tl])), (ta, .inl (cB, 60, .inl ft)), (dc, .inr (3, [.ref dcn, .int ng, .int xe])), (dcn, .inr (1, [.ref dca])), (dca, .inl (cI, 12, .inl fd)), (rd, .inr (4, [.ref r1, .ref r2, .long sz, .int ix, .int ty])), (r1, .inr (1, [.ref q1])), (q1, .inl (cI, 12, .inl fr1)), (r2, .inr (1, [.ref q2])), (q2, .inl (cI, 12, .inl fr2)), (fn, .inr (5, [.ref n1, .ref n2, .ref n3, .ref n4, .ref n5, .int en, .long dg, .int ct, .int pw])), (n1, .inr (1, [.ref m1])), (m1, .inl (cI, 12, .inl fr)), (n2, .inr (1, [.ref m2])), (m2, .inl (cI, 12, .inl fu)), (n3, .inr (1, [.ref m3])), (m3, .inl (cI, 12, .inl fB)), (n4, .inr (1, [.ref m4])), (m4, .inl (cI, 12, .inl fA)), (n5, .inr (1, [.ref m5])), (m5, .inl (cI, 12, .inl fs)), (dn, .inr (1, [.ref da])), (da, .inl (cI, 12, .inl fq)), (td, .inr (6, [.ref la, .ref lb, .int ll])), (la, .inl (cB, 160, .inl fL)), (lb, .inl (cB, 160, .inl gL)), (M0, .inr (8, [.int th, .int we, .int wm, .int wy, .int ra, .ref tA, .int tn, .ref oA, .int on, .ref rA, .int fi, .int lx, .ref wA, .int wf, .int wl, .int lo, .int ov, .int un, .int aT, .int mi, .int ds, .ref dA, .int a0, .int xp, .ref iA, .int te])), (tA, .inl (cI, 60, .inl zt)), (oA, .inl (cI, 300, .inl zo)), (rA, .inl (cI, 400, .inl zr)), (wA, .inl (cI, 400, .inl zw)), (dA, .inl (cI, 40, .inl zd)), (iA, .inl (cI, 200, .inl zi)), (ol, .inl (cJ, 1, .inr (.inl fo))), (D0, .inr (7, [.ref y0, .ref tp, .ref dc, .ref rd, .ref fn, .ref dn, .ref td, .int md, .int fl])), (y0, .inr (0, [.int eb, .int mb]))] H := hP
    have hD : va_D A [(tp, .inr (2, [.ref ta, .int tl])), (ta, .inl (cB, 60, .inl ft)), (dc, .inr (3, [.ref dcn, .int ng, .int xe])), (dcn, .inr (1, [.ref dca])), (dca, .inl (cI, 12, .inl fd)), (rd, .inr (4, [.ref r1, .ref r2, .long sz, .int ix, .int ty])), (r1, .inr (1, [.ref q1])), (q1, .inl (cI, 12, .inl fr1)), (r2, .inr (1, [.ref q2])), (q2, .inl (cI, 12, .inl fr2)), (fn, .inr (5, [.ref n1, .ref n2, .ref n3, .ref n4, .ref n5, .int en, .long dg, .int ct, .int pw])), (n1, .inr (1, [.ref m1])), (m1, .inl (cI, 12, .inl fr)), (n2, .inr (1, [.ref m2])), (m2, .inl (cI, 12, .inl fu)), (n3, .inr (1, [.ref m3])), (m3, .inl (cI, 12, .inl fB)), (n4, .inr (1, [.ref m4])), (m4, .inl (cI, 12, .inl fA)), (n5, .inr (1, [.ref m5])), (m5, .inl (cI, 12, .inl fs)), (dn, .inr (1, [.ref da])), (da, .inl (cI, 12, .inl fq)), (td, .inr (6, [.ref la, .ref lb, .int ll])), (la, .inl (cB, 160, .inl fL)), (lb, .inl (cB, 160, .inl gL)), (M0, .inr (8, [.int th, .int we, .int wm, .int wy, .int ra, .ref tA, .int tn, .ref oA, .int on, .ref rA, .int fi, .int lx, .ref wA, .int wf, .int wl, .int lo, .int ov, .int un, .int aT, .int mi, .int ds, .ref dA, .int a0, .int xp, .ref iA, .int te])), (tA, .inl (cI, 60, .inl zt)), (oA, .inl (cI, 300, .inl zo)), (rA, .inl (cI, 400, .inl zr)), (wA, .inl (cI, 400, .inl zw)), (dA, .inl (cI, 40, .inl zd)), (iA, .inl (cI, 200, .inl zi)), (ol, .inl (cJ, 1, .inr (.inl fo))), (D0, .inr (7, [.ref y0, .ref tp, .ref dc, .ref rd, .ref fn, .ref dn, .ref td, .int md, .int fl])), (y0, .inr (0, [.int eb, .int mb]))] := hD
    refine lv_pop2_2 hx hb d_Law_law_493 rfl ?_
    refine lv_aload_n hx hb d_Law_law_494 rfl (lv_at hl 2 rfl) ?_
    refine lv_aload_n hx hb d_Law_law_495 rfl (lv_at hl 4 rfl) ?_
    refine lv_iload hx hb d_Law_law_496 (lv_at hl 0 rfl) ?_
    refine lv_iconst (v := 1) hx hb d_Law_law_498 (by decide) ?_
    refine lv_iadd hx hb d_Law_law_499 ?_
    refine lv_topi (fun v499 e499 => ?_)
    have t499 : v499.toInt = (k : Int) + 1 := by rw [e499]; exact q_iadd ti (show (1 : Int32).toInt = 1 by decide) (by omega)
    refine va_sld hx hb hX hbl hbA hS (q_in t499 (by omega)) d_Law_law_500 ?_
    refine lv_topi (fun v500 e500 => ?_)
    refine lv_i2l hx hb d_Law_law_501 rfl ?_
    refine lv_topl (fun v501 e501 => ?_)
    refine lv_bipush (v := 32) hx hb d_Law_law_502 (by decide) ?_
    refine lv_lshl hx hb d_Law_law_504 rfl ?_
    refine lv_topl (fun v504 e504 => ?_)
    refine lv_aload_n hx hb d_Law_law_505 rfl (lv_at hl 4 rfl) ?_
    refine lv_iload hx hb d_Law_law_506 (lv_at hl 0 rfl) ?_
    refine lv_iconst (v := 2) hx hb d_Law_law_508 (by decide) ?_
    refine lv_iadd hx hb d_Law_law_509 ?_
    refine lv_topi (fun v509 e509 => ?_)
    have t509 : v509.toInt = (k : Int) + 2 := by rw [e509]; exact q_iadd ti (show (2 : Int32).toInt = 2 by decide) (by omega)
    refine va_sld hx hb hX hbl hbA hS (q_in t509 (by omega)) d_Law_law_510 ?_
    refine lv_topi (fun v510 e510 => ?_)
    refine lv_i2l hx hb d_Law_law_511 rfl ?_
    refine lv_topl (fun v511 e511 => ?_)
    refine lv_ldc2 (v := 4294967295) hx hb hown (hts _ m_747) d_Law_law_512 ?_
    refine lv_land hx hb d_Law_law_515 ?_
    refine lv_topl (fun v515 e515 => ?_)
    refine lv_lor hx hb d_Law_law_516 ?_
    refine lv_topl (fun v516 e516 => ?_)
    refine lv_aload_n hx hb d_Law_law_517 rfl (lv_at hl 4 rfl) ?_
    refine lv_iload hx hb d_Law_law_518 (lv_at hl 0 rfl) ?_
    refine lv_iconst (v := 3) hx hb d_Law_law_520 (by decide) ?_
    refine lv_iadd hx hb d_Law_law_521 ?_
    refine lv_topi (fun v521 e521 => ?_)
    have t521 : v521.toInt = (k : Int) + 3 := by rw [e521]; exact q_iadd ti (show (3 : Int32).toInt = 3 by decide) (by omega)
    refine va_sld hx hb hX hbl hbA hS (q_in t521 (by omega)) d_Law_law_522 ?_
    refine lv_topi (fun v522 e522 => ?_)
    refine lv_if_eq (tgt := 530) hx hb d_Law_law_523 (by decide) (fun b523 => ?_) (fun b523 => ?_)
    · skip
      refine lv_iconst (v := 0) hx hb d_Law_law_530 (by decide) ?_
      refine callV_l (wr := [(tp, .inr (2, [.ref ta, .int tl])), (ta, .inl (cB, 60, .inl ft)), (dc, .inr (3, [.ref dcn, .int ng, .int xe])), (dcn, .inr (1, [.ref dca])), (dca, .inl (cI, 12, .inl fd)), (rd, .inr (4, [.ref r1, .ref r2, .long sz, .int ix, .int ty])), (r1, .inr (1, [.ref q1])), (q1, .inl (cI, 12, .inl fr1)), (r2, .inr (1, [.ref q2])), (q2, .inl (cI, 12, .inl fr2)), (fn, .inr (5, [.ref n1, .ref n2, .ref n3, .ref n4, .ref n5, .int en, .long dg, .int ct, .int pw])), (n1, .inr (1, [.ref m1])), (m1, .inl (cI, 12, .inl fr)), (n2, .inr (1, [.ref m2])), (m2, .inl (cI, 12, .inl fu)), (n3, .inr (1, [.ref m3])), (m3, .inl (cI, 12, .inl fB)), (n4, .inr (1, [.ref m4])), (m4, .inl (cI, 12, .inl fA)), (n5, .inr (1, [.ref m5])), (m5, .inl (cI, 12, .inl fs)), (dn, .inr (1, [.ref da])), (da, .inl (cI, 12, .inl fq)), (td, .inr (6, [.ref la, .ref lb, .int ll])), (la, .inl (cB, 160, .inl fL)), (lb, .inl (cB, 160, .inl gL)), (tA, .inl (cI, 60, .inl zt)), (oA, .inl (cI, 300, .inl zo)), (rA, .inl (cI, 400, .inl zr)), (wA, .inl (cI, 400, .inl zw)), (dA, .inl (cI, 40, .inl zd)), (iA, .inl (cI, 200, .inl zi)), (ol, .inl (cJ, 1, .inr (.inl fo))), (D0, .inr (7, [.ref y0, .ref tp, .ref dc, .ref rd, .ref fn, .ref dn, .ref td, .int md, .int fl])), (y0, .inr (0, [.int eb, .int mb]))]) C0 (c_Model_next l dC dI cI cB cJ (M0) (th) (we) (wm) (wy) (ra) (tA) (tn) (oA) (on) (rA) (fi) (lx) (wA) (wf) (wl) (lo) (ov) (un) (aT) (mi) (ds) (dA) (a0) (xp) (iA) (te) (E) (M) (v516) ((0 : Int32)) (by first | assumption | (rw [i_wy]; assumption) | exact Or.inl rfl | exact Or.inr rfl) (by first | assumption | (rw [i_wy]; assumption) | exact Or.inl rfl | exact Or.inr rfl)) (cwV 2 hts (gV m_742 m_743 m_744 m_55 m_745) rfl rfl rfl (by decide +kernel) ⟨Nat.le_of_ble_eq_true rfl, Nat.le_of_ble_eq_true rfl⟩) 8 rfl rfl 0 rfl hP hD hS hA [26] [0, 1, 2, 3, 4, 5, 6, 7, 8, 9, 10, 11, 12, 13, 14, 15, 16, 17, 18, 19, 20, 21, 22, 23, 24, 25, 27, 28, 29, 30, 31, 32, 33, 34, 35] rfl rfl (by decide) (by decide) (by decide) rfl hl.1 rfl (Nat.le_of_ble_eq_true rfl) d_Law_law_531 ⟨by show cs + 0 + 0 ≤ 1064; omega, by show sl + 0 + 0 ≤ 10173; omega⟩ (fun r531 u531 H locs hw9 hP hD hS => ?_)
      have h531 : NX E M v516.toInt ((0 : Int32) = 1) r531.toInt := hw9
      have hP : va_P (dC, dI) vwCl [(tp, .inr (2, [.ref ta, .int tl])), (ta, .inl (cB, 60, .inl ft)), (dc, .inr (3, [.ref dcn, .int ng, .int xe])), (dcn, .inr (1, [.ref dca])), (dca, .inl (cI, 12, .inl fd)), (rd, .inr (4, [.ref r1, .ref r2, .long sz, .int ix, .int ty])), (r1, .inr (1, [.ref q1])), (q1, .inl (cI, 12, .inl fr1)), (r2, .inr (1, [.ref q2])), (q2, .inl (cI, 12, .inl fr2)), (fn, .inr (5, [.ref n1, .ref n2, .ref n3, .ref n4, .ref n5, .int en, .long dg, .int ct, .int pw])), (n1, .inr (1, [.ref m1])), (m1, .inl (cI, 12, .inl fr)), (n2, .inr (1, [.ref m2])), (m2, .inl (cI, 12, .inl fu)), (n3, .inr (1, [.ref m3])), (m3, .inl (cI, 12, .inl fB)), (n4, .inr (1, [.ref m4])), (m4, .inl (cI, 12, .inl fA)), (n5, .inr (1, [.ref m5])), (m5, .inl (cI, 12, .inl fs)), (dn, .inr (1, [.ref da])), (da, .inl (cI, 12, .inl fq)), (td, .inr (6, [.ref la, .ref lb, .int ll])), (la, .inl (cB, 160, .inl fL)), (lb, .inl (cB, 160, .inl gL)), (tA, .inl (cI, 60, .inl zt)), (oA, .inl (cI, 300, .inl zo)), (rA, .inl (cI, 400, .inl zr)), (wA, .inl (cI, 400, .inl zw)), (dA, .inl (cI, 40, .inl zd)), (iA, .inl (cI, 200, .inl zi)), (ol, .inl (cJ, 1, .inr (.inl fo))), (D0, .inr (7, [.ref y0, .ref tp, .ref dc, .ref rd, .ref fn, .ref dn, .ref td, .int md, .int fl])), (y0, .inr (0, [.int eb, .int mb])), (M0, .inr (8, [.int 0, .int we, .int wm, .int wy, .int ra, .ref tA, .int tn, .ref oA, .int on, .ref rA, .int fi, .int lx, .ref wA, .int wf, .int wl, .int lo, .int ov, .int un, .int aT, .int mi, .int ds, .ref dA, .int a0, .int xp, .ref iA, .int te]))] H := hP
      have hD : va_D A [(tp, .inr (2, [.ref ta, .int tl])), (ta, .inl (cB, 60, .inl ft)), (dc, .inr (3, [.ref dcn, .int ng, .int xe])), (dcn, .inr (1, [.ref dca])), (dca, .inl (cI, 12, .inl fd)), (rd, .inr (4, [.ref r1, .ref r2, .long sz, .int ix, .int ty])), (r1, .inr (1, [.ref q1])), (q1, .inl (cI, 12, .inl fr1)), (r2, .inr (1, [.ref q2])), (q2, .inl (cI, 12, .inl fr2)), (fn, .inr (5, [.ref n1, .ref n2, .ref n3, .ref n4, .ref n5, .int en, .long dg, .int ct, .int pw])), (n1, .inr (1, [.ref m1])), (m1, .inl (cI, 12, .inl fr)), (n2, .inr (1, [.ref m2])), (m2, .inl (cI, 12, .inl fu)), (n3, .inr (1, [.ref m3])), (m3, .inl (cI, 12, .inl fB)), (n4, .inr (1, [.ref m4])), (m4, .inl (cI, 12, .inl fA)), (n5, .inr (1, [.ref m5])), (m5, .inl (cI, 12, .inl fs)), (dn, .inr (1, [.ref da])), (da, .inl (cI, 12, .inl fq)), (td, .inr (6, [.ref la, .ref lb, .int ll])), (la, .inl (cB, 160, .inl fL)), (lb, .inl (cB, 160, .inl gL)), (tA, .inl (cI, 60, .inl zt)), (oA, .inl (cI, 300, .inl zo)), (rA, .inl (cI, 400, .inl zr)), (wA, .inl (cI, 400, .inl zw)), (dA, .inl (cI, 40, .inl zd)), (iA, .inl (cI, 200, .inl zi)), (ol, .inl (cJ, 1, .inr (.inl fo))), (D0, .inr (7, [.ref y0, .ref tp, .ref dc, .ref rd, .ref fn, .ref dn, .ref td, .int md, .int fl])), (y0, .inr (0, [.int eb, .int mb])), (M0, .inr (8, [.int 0, .int we, .int wm, .int wy, .int ra, .ref tA, .int tn, .ref oA, .int on, .ref rA, .int fi, .int lx, .ref wA, .int wf, .int wl, .int lo, .int ov, .int un, .int aT, .int mi, .int ds, .ref dA, .int a0, .int xp, .ref iA, .int te]))] := hD
      have av516 : v516 = v475 := by simp only [e458, e459, e460, e463, e468, e469, e470, e474, e475, e480, e481, e499, e500, e501, e504, e509, e510, e511, e515, e516, e521, e522]
      try rw [av516] at h531
      refine lv_pop2_2 hx hb d_Law_law_534 rfl ?_
      refine lv_goto (tgt := 538) hx hb d_Law_law_535 (by decide) ?_
      refine W.widen (k := cs + 1) (n := sl + 6) (by show cs + 0 + 0 ≤ cs + 1; omega) (by show sl + 0 + 0 ≤ sl + 6; omega) ?_
      exact next (md) (fl) (eb) (mb) (tl) (ft) (ng) (xe) (fd) (sz) (ix) (ty) (fr1) (fr2) (en) (dg) (ct) (pw) (fr) (fu) (fB) (fA) (fs) (fq) (ll) (fL) (gL) (0) (we) (wm) (wy) (ra) (tn) (on) (fi) (lx) (wf) (wl) (lo) (ov) (un) (aT) (mi) (ds) (a0) (xp) (te) (zt) (zo) (zr) (zw) (zd) (zi) (fo) (E) (M) (T) (len) (wt) H locs ls (i_LD) (i_LM) (i_wy) (i_md) (i_ra) (i_TD) (i_TM) (i_OD) (i_OM) (va_Psub hP [33, 34, 0, 1, 2, 3, 4, 5, 6, 7, 8, 9, 10, 11, 12, 13, 14, 15, 16, 17, 18, 19, 20, 21, 22, 23, 24, 25, 35, 26, 27, 28, 29, 30, 31, 32] rfl) (hD.sub [33, 34, 0, 1, 2, 3, 4, 5, 6, 7, 8, 9, 10, 11, 12, 13, 14, 15, 16, 17, 18, 19, 20, 21, 22, 23, 24, 25, 35, 26, 27, 28, 29, 30, 31, 32] (by decide) rfl) hS (lv_sub hl [0, 1, 2, 3, 4] rfl)
    · skip
      have q523 : v522 = v481 := by simp only [e458, e459, e460, e463, e468, e469, e470, e474, e475, e480, e481, e499, e500, e501, e504, e509, e510, e511, e515, e516, e521, e522]
      exact absurd (q523.trans b482) b523
  · skip
    refine lv_iconst (v := 1) hx hb d_Law_law_485 (by decide) ?_
    refine lv_goto (tgt := 490) hx hb d_Law_law_486 (by decide) ?_
    refine callV_l (wr := [(tp, .inr (2, [.ref ta, .int tl])), (ta, .inl (cB, 60, .inl ft)), (dc, .inr (3, [.ref dcn, .int ng, .int xe])), (dcn, .inr (1, [.ref dca])), (dca, .inl (cI, 12, .inl fd)), (rd, .inr (4, [.ref r1, .ref r2, .long sz, .int ix, .int ty])), (r1, .inr (1, [.ref q1])), (q1, .inl (cI, 12, .inl fr1)), (r2, .inr (1, [.ref q2])), (q2, .inl (cI, 12, .inl fr2)), (fn, .inr (5, [.ref n1, .ref n2, .ref n3, .ref n4, .ref n5, .int en, .long dg, .int ct, .int pw])), (n1, .inr (1, [.ref m1])), (m1, .inl (cI, 12, .inl fr)), (n2, .inr (1, [.ref m2])), (m2, .inl (cI, 12, .inl fu)), (n3, .inr (1, [.ref m3])), (m3, .inl (cI, 12, .inl fB)), (n4, .inr (1, [.ref m4])), (m4, .inl (cI, 12, .inl fA)), (n5, .inr (1, [.ref m5])), (m5, .inl (cI, 12, .inl fs)), (dn, .inr (1, [.ref da])), (da, .inl (cI, 12, .inl fq)), (td, .inr (6, [.ref la, .ref lb, .int ll])), (la, .inl (cB, 160, .inl fL)), (lb, .inl (cB, 160, .inl gL)), (M0, .inr (8, [.int th, .int we, .int wm, .int wy, .int ra, .ref tA, .int tn, .ref oA, .int on, .ref rA, .int fi, .int lx, .ref wA, .int wf, .int wl, .int lo, .int ov, .int un, .int aT, .int mi, .int ds, .ref dA, .int a0, .int xp, .ref iA, .int te])), (tA, .inl (cI, 60, .inl zt)), (oA, .inl (cI, 300, .inl zo)), (rA, .inl (cI, 400, .inl zr)), (wA, .inl (cI, 400, .inl zw)), (dA, .inl (cI, 40, .inl zd)), (iA, .inl (cI, 200, .inl zi)), (ol, .inl (cJ, 1, .inr (.inl fo)))]) C0 (c_Desk_next l dC dI cI cB cJ (D0) (y0) (tp) (dc) (rd) (fn) (dn) (td) (md) (fl) (eb) (mb) (E) (M) (v475) ((1 : Int32)) (by first | assumption | (rw [i_wy]; assumption) | exact Or.inl rfl | exact Or.inr rfl) (by first | assumption | (rw [i_wy]; assumption) | exact Or.inl rfl | exact Or.inr rfl)) (cwV 2 hts (gV m_217 m_218 m_219 m_47 m_220) rfl rfl rfl (by decide +kernel) ⟨Nat.le_of_ble_eq_true rfl, Nat.le_of_ble_eq_true rfl⟩) 7 rfl rfl 0 rfl hP hD hS hA [0, 1] [2, 3, 4, 5, 6, 7, 8, 9, 10, 11, 12, 13, 14, 15, 16, 17, 18, 19, 20, 21, 22, 23, 24, 25, 26, 27, 28, 29, 30, 31, 32, 33, 34, 35] rfl rfl (by decide) (by decide) (by decide) rfl hl.1 rfl (Nat.le_of_ble_eq_true rfl) d_Law_law_490 ⟨by show cs + 0 ≤ 1064; omega, by show sl + 0 ≤ 10173; omega⟩ (fun r490 u490 H locs hw9 hP hD hS => ?_)
    have h490 : NX E M v475.toInt ((1 : Int32) = 1) r490.toInt := hw9
    have hP : va_P (dC, dI) vwCl [(tp, .inr (2, [.ref ta, .int tl])), (ta, .inl (cB, 60, .inl ft)), (dc, .inr (3, [.ref dcn, .int ng, .int xe])), (dcn, .inr (1, [.ref dca])), (dca, .inl (cI, 12, .inl fd)), (rd, .inr (4, [.ref r1, .ref r2, .long sz, .int ix, .int ty])), (r1, .inr (1, [.ref q1])), (q1, .inl (cI, 12, .inl fr1)), (r2, .inr (1, [.ref q2])), (q2, .inl (cI, 12, .inl fr2)), (fn, .inr (5, [.ref n1, .ref n2, .ref n3, .ref n4, .ref n5, .int en, .long dg, .int ct, .int pw])), (n1, .inr (1, [.ref m1])), (m1, .inl (cI, 12, .inl fr)), (n2, .inr (1, [.ref m2])), (m2, .inl (cI, 12, .inl fu)), (n3, .inr (1, [.ref m3])), (m3, .inl (cI, 12, .inl fB)), (n4, .inr (1, [.ref m4])), (m4, .inl (cI, 12, .inl fA)), (n5, .inr (1, [.ref m5])), (m5, .inl (cI, 12, .inl fs)), (dn, .inr (1, [.ref da])), (da, .inl (cI, 12, .inl fq)), (td, .inr (6, [.ref la, .ref lb, .int ll])), (la, .inl (cB, 160, .inl fL)), (lb, .inl (cB, 160, .inl gL)), (M0, .inr (8, [.int th, .int we, .int wm, .int wy, .int ra, .ref tA, .int tn, .ref oA, .int on, .ref rA, .int fi, .int lx, .ref wA, .int wf, .int wl, .int lo, .int ov, .int un, .int aT, .int mi, .int ds, .ref dA, .int a0, .int xp, .ref iA, .int te])), (tA, .inl (cI, 60, .inl zt)), (oA, .inl (cI, 300, .inl zo)), (rA, .inl (cI, 400, .inl zr)), (wA, .inl (cI, 400, .inl zw)), (dA, .inl (cI, 40, .inl zd)), (iA, .inl (cI, 200, .inl zi)), (ol, .inl (cJ, 1, .inr (.inl fo))), (D0, .inr (7, [.ref y0, .ref tp, .ref dc, .ref rd, .ref fn, .ref dn, .ref td, .int md, .int fl])), (y0, .inr (0, [.int eb, .int mb]))] H := hP
    have hD : va_D A [(tp, .inr (2, [.ref ta, .int tl])), (ta, .inl (cB, 60, .inl ft)), (dc, .inr (3, [.ref dcn, .int ng, .int xe])), (dcn, .inr (1, [.ref dca])), (dca, .inl (cI, 12, .inl fd)), (rd, .inr (4, [.ref r1, .ref r2, .long sz, .int ix, .int ty])), (r1, .inr (1, [.ref q1])), (q1, .inl (cI, 12, .inl fr1)), (r2, .inr (1, [.ref q2])), (q2, .inl (cI, 12, .inl fr2)), (fn, .inr (5, [.ref n1, .ref n2, .ref n3, .ref n4, .ref n5, .int en, .long dg, .int ct, .int pw])), (n1, .inr (1, [.ref m1])), (m1, .inl (cI, 12, .inl fr)), (n2, .inr (1, [.ref m2])), (m2, .inl (cI, 12, .inl fu)), (n3, .inr (1, [.ref m3])), (m3, .inl (cI, 12, .inl fB)), (n4, .inr (1, [.ref m4])), (m4, .inl (cI, 12, .inl fA)), (n5, .inr (1, [.ref m5])), (m5, .inl (cI, 12, .inl fs)), (dn, .inr (1, [.ref da])), (da, .inl (cI, 12, .inl fq)), (td, .inr (6, [.ref la, .ref lb, .int ll])), (la, .inl (cB, 160, .inl fL)), (lb, .inl (cB, 160, .inl gL)), (M0, .inr (8, [.int th, .int we, .int wm, .int wy, .int ra, .ref tA, .int tn, .ref oA, .int on, .ref rA, .int fi, .int lx, .ref wA, .int wf, .int wl, .int lo, .int ov, .int un, .int aT, .int mi, .int ds, .ref dA, .int a0, .int xp, .ref iA, .int te])), (tA, .inl (cI, 60, .inl zt)), (oA, .inl (cI, 300, .inl zo)), (rA, .inl (cI, 400, .inl zr)), (wA, .inl (cI, 400, .inl zw)), (dA, .inl (cI, 40, .inl zd)), (iA, .inl (cI, 200, .inl zi)), (ol, .inl (cJ, 1, .inr (.inl fo))), (D0, .inr (7, [.ref y0, .ref tp, .ref dc, .ref rd, .ref fn, .ref dn, .ref td, .int md, .int fl])), (y0, .inr (0, [.int eb, .int mb]))] := hD
    refine lv_pop2_2 hx hb d_Law_law_493 rfl ?_
    refine lv_aload_n hx hb d_Law_law_494 rfl (lv_at hl 2 rfl) ?_
    refine lv_aload_n hx hb d_Law_law_495 rfl (lv_at hl 4 rfl) ?_
    refine lv_iload hx hb d_Law_law_496 (lv_at hl 0 rfl) ?_
    refine lv_iconst (v := 1) hx hb d_Law_law_498 (by decide) ?_
    refine lv_iadd hx hb d_Law_law_499 ?_
    refine lv_topi (fun v499 e499 => ?_)
    have t499 : v499.toInt = (k : Int) + 1 := by rw [e499]; exact q_iadd ti (show (1 : Int32).toInt = 1 by decide) (by omega)
    refine va_sld hx hb hX hbl hbA hS (q_in t499 (by omega)) d_Law_law_500 ?_
    refine lv_topi (fun v500 e500 => ?_)
    refine lv_i2l hx hb d_Law_law_501 rfl ?_
    refine lv_topl (fun v501 e501 => ?_)
    refine lv_bipush (v := 32) hx hb d_Law_law_502 (by decide) ?_
    refine lv_lshl hx hb d_Law_law_504 rfl ?_
    refine lv_topl (fun v504 e504 => ?_)
    refine lv_aload_n hx hb d_Law_law_505 rfl (lv_at hl 4 rfl) ?_
    refine lv_iload hx hb d_Law_law_506 (lv_at hl 0 rfl) ?_
    refine lv_iconst (v := 2) hx hb d_Law_law_508 (by decide) ?_
    refine lv_iadd hx hb d_Law_law_509 ?_
    refine lv_topi (fun v509 e509 => ?_)
    have t509 : v509.toInt = (k : Int) + 2 := by rw [e509]; exact q_iadd ti (show (2 : Int32).toInt = 2 by decide) (by omega)
    refine va_sld hx hb hX hbl hbA hS (q_in t509 (by omega)) d_Law_law_510 ?_
    refine lv_topi (fun v510 e510 => ?_)
    refine lv_i2l hx hb d_Law_law_511 rfl ?_
    refine lv_topl (fun v511 e511 => ?_)
    refine lv_ldc2 (v := 4294967295) hx hb hown (hts _ m_747) d_Law_law_512 ?_
    refine lv_land hx hb d_Law_law_515 ?_
    refine lv_topl (fun v515 e515 => ?_)
    refine lv_lor hx hb d_Law_law_516 ?_
    refine lv_topl (fun v516 e516 => ?_)
    refine lv_aload_n hx hb d_Law_law_517 rfl (lv_at hl 4 rfl) ?_
    refine lv_iload hx hb d_Law_law_518 (lv_at hl 0 rfl) ?_
    refine lv_iconst (v := 3) hx hb d_Law_law_520 (by decide) ?_
    refine lv_iadd hx hb d_Law_law_521 ?_
    refine lv_topi (fun v521 e521 => ?_)
    have t521 : v521.toInt = (k : Int) + 3 := by rw [e521]; exact q_iadd ti (show (3 : Int32).toInt = 3 by decide) (by omega)
    refine va_sld hx hb hX hbl hbA hS (q_in t521 (by omega)) d_Law_law_522 ?_
    refine lv_topi (fun v522 e522 => ?_)
    refine lv_if_eq (tgt := 530) hx hb d_Law_law_523 (by decide) (fun b523 => ?_) (fun b523 => ?_)
    · skip
      have q523 : v522 = v481 := by simp only [e458, e459, e460, e463, e468, e469, e470, e474, e475, e480, e481, e499, e500, e501, e504, e509, e510, e511, e515, e516, e521, e522]
      exact absurd (q523.symm.trans b523) b482
    · skip
      refine lv_iconst (v := 1) hx hb d_Law_law_526 (by decide) ?_
      refine lv_goto (tgt := 531) hx hb d_Law_law_527 (by decide) ?_
      refine callV_l (wr := [(tp, .inr (2, [.ref ta, .int tl])), (ta, .inl (cB, 60, .inl ft)), (dc, .inr (3, [.ref dcn, .int ng, .int xe])), (dcn, .inr (1, [.ref dca])), (dca, .inl (cI, 12, .inl fd)), (rd, .inr (4, [.ref r1, .ref r2, .long sz, .int ix, .int ty])), (r1, .inr (1, [.ref q1])), (q1, .inl (cI, 12, .inl fr1)), (r2, .inr (1, [.ref q2])), (q2, .inl (cI, 12, .inl fr2)), (fn, .inr (5, [.ref n1, .ref n2, .ref n3, .ref n4, .ref n5, .int en, .long dg, .int ct, .int pw])), (n1, .inr (1, [.ref m1])), (m1, .inl (cI, 12, .inl fr)), (n2, .inr (1, [.ref m2])), (m2, .inl (cI, 12, .inl fu)), (n3, .inr (1, [.ref m3])), (m3, .inl (cI, 12, .inl fB)), (n4, .inr (1, [.ref m4])), (m4, .inl (cI, 12, .inl fA)), (n5, .inr (1, [.ref m5])), (m5, .inl (cI, 12, .inl fs)), (dn, .inr (1, [.ref da])), (da, .inl (cI, 12, .inl fq)), (td, .inr (6, [.ref la, .ref lb, .int ll])), (la, .inl (cB, 160, .inl fL)), (lb, .inl (cB, 160, .inl gL)), (tA, .inl (cI, 60, .inl zt)), (oA, .inl (cI, 300, .inl zo)), (rA, .inl (cI, 400, .inl zr)), (wA, .inl (cI, 400, .inl zw)), (dA, .inl (cI, 40, .inl zd)), (iA, .inl (cI, 200, .inl zi)), (ol, .inl (cJ, 1, .inr (.inl fo))), (D0, .inr (7, [.ref y0, .ref tp, .ref dc, .ref rd, .ref fn, .ref dn, .ref td, .int md, .int fl])), (y0, .inr (0, [.int eb, .int mb]))]) C0 (c_Model_next l dC dI cI cB cJ (M0) (th) (we) (wm) (wy) (ra) (tA) (tn) (oA) (on) (rA) (fi) (lx) (wA) (wf) (wl) (lo) (ov) (un) (aT) (mi) (ds) (dA) (a0) (xp) (iA) (te) (E) (M) (v516) ((1 : Int32)) (by first | assumption | (rw [i_wy]; assumption) | exact Or.inl rfl | exact Or.inr rfl) (by first | assumption | (rw [i_wy]; assumption) | exact Or.inl rfl | exact Or.inr rfl)) (cwV 2 hts (gV m_742 m_743 m_744 m_55 m_745) rfl rfl rfl (by decide +kernel) ⟨Nat.le_of_ble_eq_true rfl, Nat.le_of_ble_eq_true rfl⟩) 8 rfl rfl 0 rfl hP hD hS hA [26] [0, 1, 2, 3, 4, 5, 6, 7, 8, 9, 10, 11, 12, 13, 14, 15, 16, 17, 18, 19, 20, 21, 22, 23, 24, 25, 27, 28, 29, 30, 31, 32, 33, 34, 35] rfl rfl (by decide) (by decide) (by decide) rfl hl.1 rfl (Nat.le_of_ble_eq_true rfl) d_Law_law_531 ⟨by show cs + 0 + 0 ≤ 1064; omega, by show sl + 0 + 0 ≤ 10173; omega⟩ (fun r531 u531 H locs hw9 hP hD hS => ?_)
      have h531 : NX E M v516.toInt ((1 : Int32) = 1) r531.toInt := hw9
      have hP : va_P (dC, dI) vwCl [(tp, .inr (2, [.ref ta, .int tl])), (ta, .inl (cB, 60, .inl ft)), (dc, .inr (3, [.ref dcn, .int ng, .int xe])), (dcn, .inr (1, [.ref dca])), (dca, .inl (cI, 12, .inl fd)), (rd, .inr (4, [.ref r1, .ref r2, .long sz, .int ix, .int ty])), (r1, .inr (1, [.ref q1])), (q1, .inl (cI, 12, .inl fr1)), (r2, .inr (1, [.ref q2])), (q2, .inl (cI, 12, .inl fr2)), (fn, .inr (5, [.ref n1, .ref n2, .ref n3, .ref n4, .ref n5, .int en, .long dg, .int ct, .int pw])), (n1, .inr (1, [.ref m1])), (m1, .inl (cI, 12, .inl fr)), (n2, .inr (1, [.ref m2])), (m2, .inl (cI, 12, .inl fu)), (n3, .inr (1, [.ref m3])), (m3, .inl (cI, 12, .inl fB)), (n4, .inr (1, [.ref m4])), (m4, .inl (cI, 12, .inl fA)), (n5, .inr (1, [.ref m5])), (m5, .inl (cI, 12, .inl fs)), (dn, .inr (1, [.ref da])), (da, .inl (cI, 12, .inl fq)), (td, .inr (6, [.ref la, .ref lb, .int ll])), (la, .inl (cB, 160, .inl fL)), (lb, .inl (cB, 160, .inl gL)), (tA, .inl (cI, 60, .inl zt)), (oA, .inl (cI, 300, .inl zo)), (rA, .inl (cI, 400, .inl zr)), (wA, .inl (cI, 400, .inl zw)), (dA, .inl (cI, 40, .inl zd)), (iA, .inl (cI, 200, .inl zi)), (ol, .inl (cJ, 1, .inr (.inl fo))), (D0, .inr (7, [.ref y0, .ref tp, .ref dc, .ref rd, .ref fn, .ref dn, .ref td, .int md, .int fl])), (y0, .inr (0, [.int eb, .int mb])), (M0, .inr (8, [.int 0, .int we, .int wm, .int wy, .int ra, .ref tA, .int tn, .ref oA, .int on, .ref rA, .int fi, .int lx, .ref wA, .int wf, .int wl, .int lo, .int ov, .int un, .int aT, .int mi, .int ds, .ref dA, .int a0, .int xp, .ref iA, .int te]))] H := hP
      have hD : va_D A [(tp, .inr (2, [.ref ta, .int tl])), (ta, .inl (cB, 60, .inl ft)), (dc, .inr (3, [.ref dcn, .int ng, .int xe])), (dcn, .inr (1, [.ref dca])), (dca, .inl (cI, 12, .inl fd)), (rd, .inr (4, [.ref r1, .ref r2, .long sz, .int ix, .int ty])), (r1, .inr (1, [.ref q1])), (q1, .inl (cI, 12, .inl fr1)), (r2, .inr (1, [.ref q2])), (q2, .inl (cI, 12, .inl fr2)), (fn, .inr (5, [.ref n1, .ref n2, .ref n3, .ref n4, .ref n5, .int en, .long dg, .int ct, .int pw])), (n1, .inr (1, [.ref m1])), (m1, .inl (cI, 12, .inl fr)), (n2, .inr (1, [.ref m2])), (m2, .inl (cI, 12, .inl fu)), (n3, .inr (1, [.ref m3])), (m3, .inl (cI, 12, .inl fB)), (n4, .inr (1, [.ref m4])), (m4, .inl (cI, 12, .inl fA)), (n5, .inr (1, [.ref m5])), (m5, .inl (cI, 12, .inl fs)), (dn, .inr (1, [.ref da])), (da, .inl (cI, 12, .inl fq)), (td, .inr (6, [.ref la, .ref lb, .int ll])), (la, .inl (cB, 160, .inl fL)), (lb, .inl (cB, 160, .inl gL)), (tA, .inl (cI, 60, .inl zt)), (oA, .inl (cI, 300, .inl zo)), (rA, .inl (cI, 400, .inl zr)), (wA, .inl (cI, 400, .inl zw)), (dA, .inl (cI, 40, .inl zd)), (iA, .inl (cI, 200, .inl zi)), (ol, .inl (cJ, 1, .inr (.inl fo))), (D0, .inr (7, [.ref y0, .ref tp, .ref dc, .ref rd, .ref fn, .ref dn, .ref td, .int md, .int fl])), (y0, .inr (0, [.int eb, .int mb])), (M0, .inr (8, [.int 0, .int we, .int wm, .int wy, .int ra, .ref tA, .int tn, .ref oA, .int on, .ref rA, .int fi, .int lx, .ref wA, .int wf, .int wl, .int lo, .int ov, .int un, .int aT, .int mi, .int ds, .ref dA, .int a0, .int xp, .ref iA, .int te]))] := hD
      have av516 : v516 = v475 := by simp only [e458, e459, e460, e463, e468, e469, e470, e474, e475, e480, e481, e499, e500, e501, e504, e509, e510, e511, e515, e516, e521, e522]
      try rw [av516] at h531
      refine lv_pop2_2 hx hb d_Law_law_534 rfl ?_
      refine lv_goto (tgt := 538) hx hb d_Law_law_535 (by decide) ?_
      refine W.widen (k := cs + 1) (n := sl + 6) (by show cs + 0 + 0 ≤ cs + 1; omega) (by show sl + 0 + 0 ≤ sl + 6; omega) ?_
      exact next (md) (fl) (eb) (mb) (tl) (ft) (ng) (xe) (fd) (sz) (ix) (ty) (fr1) (fr2) (en) (dg) (ct) (pw) (fr) (fu) (fB) (fA) (fs) (fq) (ll) (fL) (gL) (0) (we) (wm) (wy) (ra) (tn) (on) (fi) (lx) (wf) (wl) (lo) (ov) (un) (aT) (mi) (ds) (a0) (xp) (te) (zt) (zo) (zr) (zw) (zd) (zi) (fo) (E) (M) (T) (len) (wt) H locs ls (i_LD) (i_LM) (i_wy) (i_md) (i_ra) (i_TD) (i_TM) (i_OD) (i_OM) (va_Psub hP [33, 34, 0, 1, 2, 3, 4, 5, 6, 7, 8, 9, 10, 11, 12, 13, 14, 15, 16, 17, 18, 19, 20, 21, 22, 23, 24, 25, 35, 26, 27, 28, 29, 30, 31, 32] rfl) (hD.sub [33, 34, 0, 1, 2, 3, 4, 5, 6, 7, 8, 9, 10, 11, 12, 13, 14, 15, 16, 17, 18, 19, 20, 21, 22, 23, 24, 25, 35, 26, 27, 28, 29, 30, 31, 32] (by decide) rfl) hS (lv_sub hl [0, 1, 2, 3, 4] rfl)
end LD9
