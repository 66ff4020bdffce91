/-! THE LAW: case 7 -/
section LD7
set_option maxHeartbeats 8000000 in
set_option maxRecDepth 100000 in
theorem law_337 {p : Program} {l : Launch} {e : Env} {s : State} {m : MethodId} {below : List Frame} {meth : Method} {c : Code} {dC : Nat → ClassId} {dI : Nat → Nat → Nat} {cI cB cJ : ClassId} {A : Nat → Prop} {Q : State → Prop} {b L : Nat} {xs : Nat → Int32} {D0 y0 tp dc rd fn dn td ta dcn dca r1 q1 r2 q2 n1 m1 n2 m2 n3 m3 n4 m4 n5 m5 da la lb M0 tA oA rA wA dA iA ol : Nat} (htr : l.stackTraces = false) (X0 : lwX dC dI cI cB cJ p s m b meth c L xs) (hL : L ≤ 2048) (hA : ∀ q : Nat, s.heap.size ≤ q → A q) (hAl : ∀ q : Nat, A q → s.heap.size ≤ q) {cs sl : Nat} (hcs : cs + 1 ≤ 1064) (hsl : sl + 6 ≤ 10173) {i : Int32} {k : Nat} (ti : i.toInt = (k : Int)) (hk : k + 4 ≤ L) (next : LK p l e s m below meth c dC dI cI cB cJ A Q b D0 y0 tp dc rd fn dn td ta dcn dca r1 q1 r2 q2 n1 m1 n2 m2 n3 m3 n4 m4 n5 m5 da la lb M0 tA oA rA wA dA iA ol i 538 (cs + 1) (sl + 6)) : LK p l e s m below meth c dC dI cI cB cJ A Q b D0 y0 tp dc rd fn dn td ta dcn dca r1 q1 r2 q2 n1 m1 n2 m2 n3 m3 n4 m4 n5 m5 da la lb M0 tA oA rA wA dA iA ol i 337 cs sl := by
  obtain ⟨C0, hth, hcw, hSK, hX, hbl⟩ := X0
  obtain ⟨hx, hb, hml, hown, hts, hr, hlocks, hK, hN⟩ := id C0
  have hbA : ¬ A b := fun h => absurd (hAl _ h) (by omega)
  have hlow : ∀ q, q < s.heap.size → ¬ A q := fun q h h2 => absurd (hAl _ h2) (by omega)
  intro md fl eb mb tl ft ng xe fd sz ix ty fr1 fr2 en dg ct pw fr fu fB fA fs fq ll fL gL th we wm wy ra tn on fi lx wf wl lo ov un aT mi ds a0 xp te zt zo zr zw zd zi fo E M T len wt H locs ls i_LD i_LM i_wy i_md i_ra i_TD i_TM i_OD i_OM hP hD hS hl
  refine lv_aload_n hx hb d_Law_law_337 rfl (lv_at hl 3 rfl) ?_
  refine lv_aload_n hx hb d_Law_law_338 rfl (lv_at hl 4 rfl) ?_
  refine lv_iload hx hb d_Law_law_339 (lv_at hl 0 rfl) ?_
  refine lv_iconst (v := 1) hx hb d_Law_law_341 (by decide) ?_
  refine lv_iadd hx hb d_Law_law_342 ?_
  refine lv_topi (fun v342 e342 => ?_)
  have t342 : v342.toInt = (k : Int) + 1 := by rw [e342]; exact q_iadd ti (show (1 : Int32).toInt = 1 by decide) (by omega)
  refine va_sld hx hb hX hbl hbA hS (q_in t342 (by omega)) d_Law_law_343 ?_
  refine lv_topi (fun v343 e343 => ?_)
  refine lv_i2l hx hb d_Law_law_344 rfl ?_
  refine lv_topl (fun v344 e344 => ?_)
  refine lv_bipush (v := 32) hx hb d_Law_law_345 (by decide) ?_
  refine lv_lshl hx hb d_Law_law_347 rfl ?_
  refine lv_topl (fun v347 e347 => ?_)
  refine lv_aload_n hx hb d_Law_law_348 rfl (lv_at hl 4 rfl) ?_
  refine lv_iload hx hb d_Law_law_349 (lv_at hl 0 rfl) ?_
  refine lv_iconst (v := 2) hx hb d_Law_law_351 (by decide) ?_
  refine lv_iadd hx hb d_Law_law_352 ?_
  refine lv_topi (fun v352 e352 => ?_)
  have t352 : v352.toInt = (k : Int) + 2 := by rw [e352]; exact q_iadd ti (show (2 : Int32).toInt = 2 by decide) (by omega)
  refine va_sld hx hb hX hbl hbA hS (q_in t352 (by omega)) d_Law_law_353 ?_
  refine lv_topi (fun v353 e353 => ?_)
  refine lv_i2l hx hb d_Law_law_354 rfl ?_
  refine lv_topl (fun v354 e354 => ?_)
  refine lv_ldc2 (v := 4294967295) hx hb hown (hts _ m_747) d_Law_law_355 ?_
  refine lv_land hx hb d_Law_law_358 ?_
  refine lv_topl (fun v358 e358 => ?_)
  refine lv_lor hx hb d_Law_law_359 ?_
  refine lv_topl (fun v359 e359 => ?_)
  refine lv_aload_n hx hb d_Law_law_360 rfl (lv_at hl 1 rfl) ?_
  refine callSW (own := R_Law) (nL := 8) (N := s.heap.size) (n := 3) (wr := [(tp, .inr (2, [.ref ta, .int tl])), (ta, .inl (cB, 60, .inl ft)), (dc, .inr (3, [.ref dcn, .int ng, .int xe])), (dcn, .inr (1, [.ref dca])), (dca, .inl (cI, 12, .inl fd)), (rd, .inr (4, [.ref r1, .ref r2, .long sz, .int ix, .int ty])), (r1, .inr (1, [.ref q1])), (q1, .inl (cI, 12, .inl fr1)), (r2, .inr (1, [.ref q2])), (q2, .inl (cI, 12, .inl fr2)), (fn, .inr (5, [.ref n1, .ref n2, .ref n3, .ref n4, .ref n5, .int en, .long dg, .int ct, .int pw])), (n1, .inr (1, [.ref m1])), (m1, .inl (cI, 12, .inl fr)), (n2, .inr (1, [.ref m2])), (m2, .inl (cI, 12, .inl fu)), (n3, .inr (1, [.ref m3])), (m3, .inl (cI, 12, .inl fB)), (n4, .inr (1, [.ref m4])), (m4, .inl (cI, 12, .inl fA)), (n5, .inr (1, [.ref m5])), (m5, .inl (cI, 12, .inl fs)), (M0, .inr (8, [.int th, .int we, .int wm, .int wy, .int ra, .ref tA, .int tn, .ref oA, .int on, .ref rA, .int fi, .int lx, .ref wA, .int wf, .int wl, .int lo, .int ov, .int un, .int aT, .int mi, .int ds, .ref dA, .int a0, .int xp, .ref iA, .int te])), (tA, .inl (cI, 60, .inl zt)), (oA, .inl (cI, 300, .inl zo)), (rA, .inl (cI, 400, .inl zr)), (wA, .inl (cI, 400, .inl zw)), (dA, .inl (cI, 40, .inl zd)), (iA, .inl (cI, 200, .inl zi))]) hx hb hml hown ⟨hK, hN⟩ (c_Law_exact l htr dC dI cI cB cJ s.heap.size (D0) (y0) (tp) (dc) (rd) (fn) (dn) (td) (md) (fl) (eb) (mb) (E) (M) (da) (fq) (la) (lb) (fL) (gL) (ll) (v359) (ol) (fo) (by first | assumption | (rw [i_wy]; assumption) | exact Or.inl rfl | exact Or.inr rfl) (hN_sub (fun k q h => hAl _ (hD.2 k q h)) [0, 1, 23, 24, 25, 26, 27, 35] rfl)) (Nat.le_of_ble_eq_true rfl) (Nat.le_of_ble_eq_true rfl) (wsW_at (hcw cw_exact (by simp [cwL])) hts hth) (hcw cw_exact (by simp [cwL])) (hts _ m_46) ⟨by decide, by decide⟩ (law_len (by decide +kernel)) (hts _ m_509) (hts _ m_510) hP hD hS hA hSK hlow [0, 1, 23, 24, 25, 26, 27, 35] [2, 3, 4, 5, 6, 7, 8, 9, 10, 11, 12, 13, 14, 15, 16, 17, 18, 19, 20, 21, 22, 28, 29, 30, 31, 32, 33, 34] rfl rfl (by decide) (by decide) (by decide) rfl hl.1 rfl (Nat.le_of_ble_eq_true rfl) d_Law_law_361 ⟨by show cs + 1 ≤ 1064; omega, by show sl + 6 ≤ 10173; omega⟩ (fun r361 u361 H locs hw9 hP hD hS => ?_)
  obtain ⟨kq361, k361, kg361, ll1361, ko361⟩ := u361
  have h361 : (r361 = 0 ∧ isPat E M v359.toInt ∧ ∃ w : List Nat, TL k361 ll1361 w ∧ (ko361 0).toInt = (w.length : Int) ∧ EXW E M v359.toInt w) ∨ (r361 = 1 ∧ ¬ isPat E M v359.toInt ∧ k361 = fL ∧ kg361 = gL ∧ ll1361 = ll) := hw9
  have hP : va_P (dC, dI) vwCl [(tp, .inr (2, [.ref ta, .int tl])), (ta, .inl (cB, 60, .inl ft)), (dc, .inr (3, [.ref dcn, .int ng, .int xe])), (dcn, .inr (1, [.ref dca])), (dca, .inl (cI, 12, .inl fd)), (rd, .inr (4, [.ref r1, .ref r2, .long sz, .int ix, .int ty])), (r1, .inr (1, [.ref q1])), (q1, .inl (cI, 12, .inl fr1)), (r2, .inr (1, [.ref q2])), (q2, .inl (cI, 12, .inl fr2)), (fn, .inr (5, [.ref n1, .ref n2, .ref n3, .ref n4, .ref n5, .int en, .long dg, .int ct, .int pw])), (n1, .inr (1, [.ref m1])), (m1, .inl (cI, 12, .inl fr)), (n2, .inr (1, [.ref m2])), (m2, .inl (cI, 12, .inl fu)), (n3, .inr (1, [.ref m3])), (m3, .inl (cI, 12, .inl fB)), (n4, .inr (1, [.ref m4])), (m4, .inl (cI, 12, .inl fA)), (n5, .inr (1, [.ref m5])), (m5, .inl (cI, 12, .inl fs)), (M0, .inr (8, [.int th, .int we, .int wm, .int wy, .int ra, .ref tA, .int tn, .ref oA, .int on, .ref rA, .int fi, .int lx, .ref wA, .int wf, .int wl, .int lo, .int ov, .int un, .int aT, .int mi, .int ds, .ref dA, .int a0, .int xp, .ref iA, .int te])), (tA, .inl (cI, 60, .inl zt)), (oA, .inl (cI, 300, .inl zo)), (rA, .inl (cI, 400, .inl zr)), (wA, .inl (cI, 400, .inl zw)), (dA, .inl (cI, 40, .inl zd)), (iA, .inl (cI, 200, .inl zi)), (D0, .inr (7, [.ref y0, .ref tp, .ref dc, .ref rd, .ref fn, .ref dn, .ref td, .int md, .int fl])), (y0, .inr (0, [.int eb, .int mb])), (dn, .inr (1, [.ref da])), (da, .inl (cI, 12, .inl kq361)), (td, .inr (6, [.ref la, .ref lb, .int ll1361])), (la, .inl (cB, 160, .inl k361)), (lb, .inl (cB, 160, .inl kg361)), (ol, .inl (cJ, 1, .inr (.inl ko361)))] H := hP
  have hD : va_D A [(tp, .inr (2, [.ref ta, .int tl])), (ta, .inl (cB, 60, .inl ft)), (dc, .inr (3, [.ref dcn, .int ng, .int xe])), (dcn, .inr (1, [.ref dca])), (dca, .inl (cI, 12, .inl fd)), (rd, .inr (4, [.ref r1, .ref r2, .long sz, .int ix, .int ty])), (r1, .inr (1, [.ref q1])), (q1, .inl (cI, 12, .inl fr1)), (r2, .inr (1, [.ref q2])), (q2, .inl (cI, 12, .inl fr2)), (fn, .inr (5, [.ref n1, .ref n2, .ref n3, .ref n4, .ref n5, .int en, .long dg, .int ct, .int pw])), (n1, .inr (1, [.ref m1])), (m1, .inl (cI, 12, .inl fr)), (n2, .inr (1, [.ref m2])), (m2, .inl (cI, 12, .inl fu)), (n3, .inr (1, [.ref m3])), (m3, .inl (cI, 12, .inl fB)), (n4, .inr (1, [.ref m4])), (m4, .inl (cI, 12, .inl fA)), (n5, .inr (1, [.ref m5])), (m5, .inl (cI, 12, .inl fs)), (M0, .inr (8, [.int th, .int we, .int wm, .int wy, .int ra, .ref tA, .int tn, .ref oA, .int on, .ref rA, .int fi, .int lx, .ref wA, .int wf, .int wl, .int lo, .int ov, .int un, .int aT, .int mi, .int ds, .ref dA, .int a0, .int xp, .ref iA, .int te])), (tA, .inl (cI, 60, .inl zt)), (oA, .inl (cI, 300, .inl zo)), (rA, .inl (cI, 400, .inl zr)), (wA, .inl (cI, 400, .inl zw)), (dA, .inl (cI, 40, .inl zd)), (iA, .inl (cI, 200, .inl zi)), (D0, .inr (7, [.ref y0, .ref tp, .ref dc, .ref rd, .ref fn, .ref dn, .ref td, .int md, .int fl])), (y0, .inr (0, [.int eb, .int mb])), (dn, .inr (1, [.ref da])), (da, .inl (cI, 12, .inl kq361)), (td, .inr (6, [.ref la, .ref lb, .int ll1361])), (la, .inl (cB, 160, .inl k361)), (lb, .inl (cB, 160, .inl kg361)), (ol, .inl (cJ, 1, .inr (.inl ko361)))] := hD
  refine lv_istore (lv' := [(5, .int r361), (4, .int i), (3, .ref ol), (2, .ref M0), (1, .ref D0), (0, .ref b)]) hx hb d_Law_law_364 hl (by decide) rfl (fun ls hl => ?_)
  refine lv_aload_n hx hb d_Law_law_366 rfl (lv_at hl 3 rfl) ?_
  refine lv_aload_n hx hb d_Law_law_367 rfl (lv_at hl 5 rfl) ?_
  refine lv_iload hx hb d_Law_law_368 (lv_at hl 1 rfl) ?_
  refine lv_iconst (v := 1) hx hb d_Law_law_370 (by decide) ?_
  refine lv_iadd hx hb d_Law_law_371 ?_
  refine lv_topi (fun v371 e371 => ?_)
  have t371 : v371.toInt = (k : Int) + 1 := by rw [e371]; exact q_iadd ti (show (1 : Int32).toInt = 1 by decide) (by omega)
  refine va_sld hx hb hX hbl hbA hS (q_in t371 (by omega)) d_Law_law_372 ?_
  refine lv_topi (fun v372 e372 => ?_)
  refine lv_i2l hx hb d_Law_law_373 rfl ?_
  refine lv_topl (fun v373 e373 => ?_)
  refine lv_bipush (v := 32) hx hb d_Law_law_374 (by decide) ?_
  refine lv_lshl hx hb d_Law_law_376 rfl ?_
  refine lv_topl (fun v376 e376 => ?_)
  refine lv_aload_n hx hb d_Law_law_377 rfl (lv_at hl 5 rfl) ?_
  refine lv_iload hx hb d_Law_law_378 (lv_at hl 1 rfl) ?_
  refine lv_iconst (v := 2) hx hb d_Law_law_380 (by decide) ?_
  refine lv_iadd hx hb d_Law_law_381 ?_
  refine lv_topi (fun v381 e381 => ?_)
  have t381 : v381.toInt = (k : Int) + 2 := by rw [e381]; exact q_iadd ti (show (2 : Int32).toInt = 2 by decide) (by omega)
  refine va_sld hx hb hX hbl hbA hS (q_in t381 (by omega)) d_Law_law_382 ?_
  refine lv_topi (fun v382 e382 => ?_)
  refine lv_i2l hx hb d_Law_law_383 rfl ?_
  refine lv_topl (fun v383 e383 => ?_)
  refine lv_ldc2 (v := 4294967295) hx hb hown (hts _ m_747) d_Law_law_384 ?_
  refine lv_land hx hb d_Law_law_387 ?_
  refine lv_topl (fun v387 e387 => ?_)
  refine lv_lor hx hb d_Law_law_388 ?_
  refine lv_topl (fun v388 e388 => ?_)
  refine callV_i (wr := [(tp, .inr (2, [.ref ta, .int tl])), (ta, .inl (cB, 60, .inl ft)), (dc, .inr (3, [.ref dcn, .int ng, .int xe])), (dcn, .inr (1, [.ref dca])), (dca, .inl (cI, 12, .inl fd)), (rd, .inr (4, [.ref r1, .ref r2, .long sz, .int ix, .int ty])), (r1, .inr (1, [.ref q1])), (q1, .inl (cI, 12, .inl fr1)), (r2, .inr (1, [.ref q2])), (q2, .inl (cI, 12, .inl fr2)), (fn, .inr (5, [.ref n1, .ref n2, .ref n3, .ref n4, .ref n5, .int en, .long dg, .int ct, .int pw])), (n1, .inr (1, [.ref m1])), (m1, .inl (cI, 12, .inl fr)), (n2, .inr (1, [.ref m2])), (m2, .inl (cI, 12, .inl fu)), (n3, .inr (1, [.ref m3])), (m3, .inl (cI, 12, .inl fB)), (n4, .inr (1, [.ref m4])), (m4, .inl (cI, 12, .inl fA)), (n5, .inr (1, [.ref m5])), (m5, .inl (cI, 12, .inl fs)), (tA, .inl (cI, 60, .inl zt)), (wA, .inl (cI, 400, .inl zw)), (dA, .inl (cI, 40, .inl zd)), (iA, .inl (cI, 200, .inl zi)), (D0, .inr (7, [.ref y0, .ref tp, .ref dc, .ref rd, .ref fn, .ref dn, .ref td, .int md, .int fl])), (y0, .inr (0, [.int eb, .int mb])), (dn, .inr (1, [.ref da])), (da, .inl (cI, 12, .inl kq361)), (td, .inr (6, [.ref la, .ref lb, .int ll1361])), (la, .inl (cB, 160, .inl k361)), (lb, .inl (cB, 160, .inl kg361)), (ol, .inl (cJ, 1, .inr (.inl ko361)))]) C0 (c_Model_exact l dC dI cI cB cJ (M0) (th) (we) (wm) (wy) (ra) (tA) (tn) (oA) (on) (rA) (fi) (lx) (wA) (wf) (wl) (lo) (ov) (un) (aT) (mi) (ds) (dA) (a0) (xp) (iA) (te) (E) (M) (zo) (zr) (v388) (by first | assumption | (rw [i_wy]; assumption) | exact Or.inl rfl | exact Or.inr rfl)) (cwV 1 hts (gV m_696 m_697 m_698 m_55 m_699) rfl rfl rfl (by decide +kernel) ⟨Nat.le_of_ble_eq_true rfl, Nat.le_of_ble_eq_true rfl⟩) 8 rfl rfl 0 rfl hP hD hS hA [21, 23, 24] [0, 1, 2, 3, 4, 5, 6, 7, 8, 9, 10, 11, 12, 13, 14, 15, 16, 17, 18, 19, 20, 22, 25, 26, 27, 28, 29, 30, 31, 32, 33, 34, 35] rfl rfl (by decide) (by decide) (by decide) rfl hl.1 rfl (Nat.le_of_ble_eq_true rfl) d_Law_law_389 ⟨by show cs + 1 + 0 ≤ 1064; omega, by show sl + 6 + 0 ≤ 10173; omega⟩ (fun r389 u389 H locs hw9 hP hD hS => ?_)
  obtain ⟨th1389, ko389, on1389, k389, fi1389, la1389⟩ := u389
  have h389 : (isPat E M v388.toInt ∧ th1389 = 0 ∧ ∃ w : List Nat, TL ko389 on1389 w ∧ r389.toInt = (w.length : Int) ∧ EXW E M v388.toInt w) ∨ (¬ isPat E M v388.toInt ∧ th1389 = 1 ∧ r389 = 0 ∧ ko389 = zo ∧ on1389 = on) := hw9
  have hP : va_P (dC, dI) vwCl [(tp, .inr (2, [.ref ta, .int tl])), (ta, .inl (cB, 60, .inl ft)), (dc, .inr (3, [.ref dcn, .int ng, .int xe])), (dcn, .inr (1, [.ref dca])), (dca, .inl (cI, 12, .inl fd)), (rd, .inr (4, [.ref r1, .ref r2, .long sz, .int ix, .int ty])), (r1, .inr (1, [.ref q1])), (q1, .inl (cI, 12, .inl fr1)), (r2, .inr (1, [.ref q2])), (q2, .inl (cI, 12, .inl fr2)), (fn, .inr (5, [.ref n1, .ref n2, .ref n3, .ref n4, .ref n5, .int en, .long dg, .int ct, .int pw])), (n1, .inr (1, [.ref m1])), (m1, .inl (cI, 12, .inl fr)), (n2, .inr (1, [.ref m2])), (m2, .inl (cI, 12, .inl fu)), (n3, .inr (1, [.ref m3])), (m3, .inl (cI, 12, .inl fB)), (n4, .inr (1, [.ref m4])), (m4, .inl (cI, 12, .inl fA)), (n5, .inr (1, [.ref m5])), (m5, .inl (cI, 12, .inl fs)), (tA, .inl (cI, 60, .inl zt)), (wA, .inl (cI, 400, .inl zw)), (dA, .inl (cI, 40, .inl zd)), (iA, .inl (cI, 200, .inl zi)), (D0, .inr (7, [.ref y0, .ref tp, .ref dc, .ref rd, .ref fn, .ref dn, .ref td, .int md, .int fl])), (y0, .inr (0, [.int eb, .int mb])), (dn, .inr (1, [.ref da])), (da, .inl (cI, 12, .inl kq361)), (td, .inr (6, [.ref la, .ref lb, .int ll1361])), (la, .inl (cB, 160, .inl k361)), (lb, .inl (cB, 160, .inl kg361)), (ol, .inl (cJ, 1, .inr (.inl ko361))), (M0, .inr (8, [.int th1389, .int we, .int wm, .int wy, .int ra, .ref tA, .int tn, .ref oA, .int on1389, .ref rA, .int fi1389, .int la1389, .ref wA, .int wf, .int wl, .int lo, .int ov, .int un, .int aT, .int mi, .int ds, .ref dA, .int a0, .int xp, .ref iA, .int te])), (oA, .inl (cI, 300, .inl ko389)), (rA, .inl (cI, 400, .inl k389))] H := hP
  have hD : va_D A [(tp, .inr (2, [.ref ta, .int tl])), (ta, .inl (cB, 60, .inl ft)), (dc, .inr (3, [.ref dcn, .int ng, .int xe])), (dcn, .inr (1, [.ref dca])), (dca, .inl (cI, 12, .inl fd)), (rd, .inr (4, [.ref r1, .ref r2, .long sz, .int ix, .int ty])), (r1, .inr (1, [.ref q1])), (q1, .inl (cI, 12, .inl fr1)), (r2, .inr (1, [.ref q2])), (q2, .inl (cI, 12, .inl fr2)), (fn, .inr (5, [.ref n1, .ref n2, .ref n3, .ref n4, .ref n5, .int en, .long dg, .int ct, .int pw])), (n1, .inr (1, [.ref m1])), (m1, .inl (cI, 12, .inl fr)), (n2, .inr (1, [.ref m2])), (m2, .inl (cI, 12, .inl fu)), (n3, .inr (1, [.ref m3])), (m3, .inl (cI, 12, .inl fB)), (n4, .inr (1, [.ref m4])), (m4, .inl (cI, 12, .inl fA)), (n5, .inr (1, [.ref m5])), (m5, .inl (cI, 12, .inl fs)), (tA, .inl (cI, 60, .inl zt)), (wA, .inl (cI, 400, .inl zw)), (dA, .inl (cI, 40, .inl zd)), (iA, .inl (cI, 200, .inl zi)), (D0, .inr (7, [.ref y0, .ref tp, .ref dc, .ref rd, .ref fn, .ref dn, .ref td, .int md, .int fl])), (y0, .inr (0, [.int eb, .int mb])), (dn, .inr (1, [.ref da])), (da, .inl (cI, 12, .inl kq361)), (td, .inr (6, [.ref la, .ref lb, .int ll1361])), (la, .inl (cB, 160, .inl k361)), (lb, .inl (cB, 160, .inl kg361)), (ol, .inl (cJ, 1, .inr (.inl ko361))), (M0, .inr (8, [.int th1389, .int we, .int wm, .int wy, .int ra, .ref tA, .int tn, .ref oA, .int on1389, .ref rA, .int fi1389, .int la1389, .ref wA, .int wf, .int wl, .int lo, .int ov, .int un, .int aT, .int mi, .int ds, .ref dA, .int a0, .int xp, .ref iA, .int te])), (oA, .inl (cI, 300, .inl ko389)), (rA, .inl (cI, 400, .inl k389))] := hD
  have av388 : v388 = v359 := by simp only [e342, e343, e344, e347, e352, e353, e354, e358, e359, e371, e372, e373, e376, e381, e382, e383, e387, e388]
  try rw [av388] at h389
  refine lv_istore (lv' := [(6, .int r389), (5, .int r361), (4, .int i), (3, .ref ol), (2, .ref M0), (1, .ref D0), (0, .ref b)]) hx hb d_Law_law_392 hl (by decide) rfl (fun ls hl => ?_)
  refine lv_goto (tgt := 538) hx hb d_Law_law_394 (by decide) ?_
  obtain ⟨-, w9, g1, g2⟩ := EXL_tie i_OD i_OM h361 h389
  refine W.widen (k := cs + 1) (n := sl + 6) (by show cs + 1 + 0 ≤ cs + 1; omega) (by show sl + 6 + 0 ≤ sl + 6; omega) ?_
  exact next (md) (fl) (eb) (mb) (tl) (ft) (ng) (xe) (fd) (sz) (ix) (ty) (fr1) (fr2) (en) (dg) (ct) (pw) (fr) (fu) (fB) (fA) (fs) (kq361) (ll1361) (k361) (kg361) (th1389) (we) (wm) (wy) (ra) (tn) (on1389) (fi1389) (la1389) (wf) (wl) (lo) (ov) (un) (aT) (mi) (ds) (a0) (xp) (te) (zt) (ko389) (k389) (zw) (zd) (zi) (ko361) (E) (M) (T) (len) (w9) H locs ls (i_LD) (i_LM) (i_wy) (i_md) (i_ra) (i_TD) (i_TM) (g1) (g2) (va_Psub hP [25, 26, 0, 1, 2, 3, 4, 5, 6, 7, 8, 9, 10, 11, 12, 13, 14, 15, 16, 17, 18, 19, 20, 27, 28, 29, 30, 31, 33, 21, 34, 35, 22, 23, 24, 32] rfl) (hD.sub [25, 26, 0, 1, 2, 3, 4, 5, 6, 7, 8, 9, 10, 11, 12, 13, 14, 15, 16, 17, 18, 19, 20, 27, 28, 29, 30, 31, 33, 21, 34, 35, 22, 23, 24, 32] (by decide) rfl) hS (lv_sub hl [2, 3, 4, 5, 6] rfl)
end LD7
