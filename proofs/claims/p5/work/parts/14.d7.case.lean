/-! THE LAW: case 7 -/
section LD7
set_option maxHeartbeats 8000000 in
set_option maxRecDepth 100000 in
theorem law_364 {p : Program} {l : Launch} {e : Env} {s : State} {m : MethodId} {below : List Frame} {meth : Method} {c : Code} {dC : Nat → ClassId} {dI : Nat → Nat → Nat} {cI cB cJ : ClassId} {A : Nat → Prop} {Q : State → Prop} {b L : Nat} {xs : Nat → Int32} {D0 y0 tp dc rd fn dn td ta dcn dca r1 q1 r2 q2 n1 m1 n2 m2 n3 m3 n4 m4 n5 m5 da la lb M0 tA oA rA wA dA iA ol : Nat} (htr : l.stackTraces = false) (X0 : lwX dC dI cI cB cJ p s m b meth c L xs) (hL : L ≤ 2048) (hA : ∀ q : Nat, s.heap.size ≤ q → A q) (hAl : ∀ q : Nat, A q → s.heap.size ≤ q) {cs sl : Nat} (hcs : cs + 1 ≤ 1064) (hsl : sl + 6 ≤ 10173) {i : Int32} {k : Nat} (ti : i.toInt = (k : Int)) (hk : k + 4 ≤ L) (next : LK p l e s m below meth c dC dI cI cB cJ A Q b D0 y0 tp dc rd fn dn td ta dcn dca r1 q1 r2 q2 n1 m1 n2 m2 n3 m3 n4 m4 n5 m5 da la lb M0 tA oA rA wA dA iA ol i 537 (cs + 1) (sl + 6)) : LK p l e s m below meth c dC dI cI cB cJ A Q b D0 y0 tp dc rd fn dn td ta dcn dca r1 q1 r2 q2 n1 m1 n2 m2 n3 m3 n4 m4 n5 m5 da la lb M0 tA oA rA wA dA iA ol i 364 cs sl := by
  obtain ⟨C0, hth, hcw, hSK, hX, hbl⟩ := X0
  obtain ⟨hx, hb, hml, hown, hts, hr, hlocks, hK, hN⟩ := id C0
  have hbA : ¬ A b := fun h => absurd (hAl _ h) (by omega)
  have hlow : ∀ q, q < s.heap.size → ¬ A q := fun q h h2 => absurd (hAl _ h2) (by omega)
  intro md fl eb mb tl ft ng xe fd sz ix ty fr1 fr2 en dg ct pw fr fu fB fA fs fq ll fL gL th we wm wy ra tn on fi lx wf wl lo ov un aT mi ds a0 xp te zt zo zr zw zd zi fo E M T len wt H locs ls i_LD i_LM i_wy i_md i_ra i_TD i_TM i_OD i_OM hP hD hS hl
  refine lv_aload_n hx hb d_Law_law_364 rfl (lv_at hl 3 rfl) ?_
  refine lv_aload_n hx hb d_Law_law_365 rfl (lv_at hl 4 rfl) ?_
  refine lv_iload hx hb d_Law_law_366 (lv_at hl 0 rfl) ?_
  refine lv_iconst (v := 1) hx hb d_Law_law_368 (by decide) ?_
  refine lv_iadd hx hb d_Law_law_369 ?_
  refine lv_topi (fun v369 e369 => ?_)
  have t369 : v369.toInt = (k : Int) + 1 := by rw [e369]; exact q_iadd ti (show (1 : Int32).toInt = 1 by decide) (by omega)
  refine va_sld hx hb hX hbl hbA hS (q_in t369 (by omega)) d_Law_law_370 ?_
  refine lv_topi (fun v370 e370 => ?_)
  refine lv_i2l hx hb d_Law_law_371 rfl ?_
  refine lv_topl (fun v371 e371 => ?_)
  refine lv_bipush (v := 32) hx hb d_Law_law_372 (by decide) ?_
  refine lv_lshl hx hb d_Law_law_374 rfl ?_
  refine lv_topl (fun v374 e374 => ?_)
  refine lv_aload_n hx hb d_Law_law_375 rfl (lv_at hl 4 rfl) ?_
  refine lv_iload hx hb d_Law_law_376 (lv_at hl 0 rfl) ?_
  refine lv_iconst (v := 2) hx hb d_Law_law_378 (by decide) ?_
  refine lv_iadd hx hb d_Law_law_379 ?_
  refine lv_topi (fun v379 e379 => ?_)
  have t379 : v379.toInt = (k : Int) + 2 := by rw [e379]; exact q_iadd ti (show (2 : Int32).toInt = 2 by decide) (by omega)
  refine va_sld hx hb hX hbl hbA hS (q_in t379 (by omega)) d_Law_law_380 ?_
  refine lv_topi (fun v380 e380 => ?_)
  refine lv_i2l hx hb d_Law_law_381 rfl ?_
  refine lv_topl (fun v381 e381 => ?_)
  refine lv_ldc2 (v := 4294967295) hx hb hown (hts _ m_747) d_Law_law_382 ?_
  refine lv_land hx hb d_Law_law_385 ?_
  refine lv_topl (fun v385 e385 => ?_)
  refine lv_lor hx hb d_Law_law_386 ?_
  refine lv_topl (fun v386 e386 => ?_)
  refine lv_aload_n hx hb d_Law_law_387 rfl (lv_at hl 1 rfl) ?_
  refine callSW (own := R_Law) (nL := 8) (N := s.heap.size) (n := 3) (wr := [(tp, .inr (2, [.ref ta, .int tl])), (ta, .inl (cB, 60, .inl ft)), (dc, .inr (3, [.ref dcn, .int ng, .int xe])), (dcn, .inr (1, [.ref dca])), (dca, .inl (cI, 12, .inl fd)), (rd, .inr (4, [.ref r1, .ref r2, .long sz, .int ix, .int ty])), (r1, .inr (1, [.ref q1])), (q1, .inl (cI, 12, .inl fr1)), (r2, .inr (1, [.ref q2])), (q2, .inl (cI, 12, .inl fr2)), (fn, .inr (5, [.ref n1, .ref n2, .ref n3, .ref n4, .ref n5, .int en, .long dg, .int ct, .int pw])), (n1, .inr (1, [.ref m1])), (m1, .inl (cI, 12, .inl fr)), (n2, .inr (1, [.ref m2])), (m2, .inl (cI, 12, .inl fu)), (n3, .inr (1, [.ref m3])), (m3, .inl (cI, 12, .inl fB)), (n4, .inr (1, [.ref m4])), (m4, .inl (cI, 12, .inl fA)), (n5, .inr (1, [.ref m5])), (m5, .inl (cI, 12, .inl fs)), (M0, .inr (8, [.int th, .int we, .int wm, .int wy, .int ra, .ref tA, .int tn, .ref oA, .int on, .ref rA, .int fi, .int lx, .ref wA, .int wf, .int wl, .int lo, .int ov, .int un, .int aT, .int mi, .int ds, .ref dA, .int a0, .int xp, .ref iA, .int te])), (tA, .inl (cI, 60, .inl zt)), (oA, .inl (cI, 300, .inl zo)), (rA, .inl (cI, 400, .inl zr)), (wA, .inl (cI, 400, .inl zw)), (dA, .inl (cI, 40, .inl zd)), (iA, .inl (cI, 200, .inl zi))]) hx hb hml hown ⟨hK, hN⟩ (c_Law_exact l htr dC dI cI cB cJ s.heap.size (D0) (y0) (tp) (dc) (rd) (fn) (dn) (td) (md) (fl) (eb) (mb) (E) (M) (da) (fq) (la) (lb) (fL) (gL) (ll) (v386) (ol) (fo) (by first | assumption | (rw [i_wy]; assumption) | exact Or.inl rfl | exact Or.inr rfl) (hN_sub (fun k q h => hAl _ (hD.2 k q h)) [0, 1, 23, 24, 25, 26, 27, 35] rfl)) (Nat.le_of_ble_eq_true rfl) (Nat.le_of_ble_eq_true rfl) (wsW_at (hcw cw_exact (by simp [cwL])) hts hth) (hcw cw_exact (by simp [cwL])) (hts _ m_46) ⟨by decide, by decide⟩ (law_len (by decide +kernel)) (hts _ m_509) (hts _ m_510) hP hD hS hA hSK hlow [0, 1, 23, 24, 25, 26, 27, 35] [2, 3, 4, 5, 6, 7, 8, 9, 10, 11, 12, 13, 14, 15, 16, 17, 18, 19, 20, 21, 22, 28, 29, 30, 31, 32, 33, 34] rfl rfl (by decide) (by decide) (by decide) rfl hl.1 rfl (Nat.le_of_ble_eq_true rfl) d_Law_law_388 ⟨by show cs + 1 ≤ 1064; omega, by show sl + 6 ≤ 10173; omega⟩ (fun r388 u388 H locs hw9 hP hD hS => ?_)
  obtain ⟨kq388, k388, kg388, ll1388, ko388⟩ := u388
  have h388 : (r388 = 0 ∧ isPat E M v386.toInt ∧ ∃ w : List Nat, TL k388 ll1388 w ∧ (ko388 0).toInt = (w.length : Int) ∧ EXW E M v386.toInt w) ∨ (r388 = 1 ∧ ¬ isPat E M v386.toInt ∧ k388 = fL ∧ kg388 = gL ∧ ll1388 = ll) := hw9
  have hP : va_P (dC, dI) vwCl [(tp, .inr (2, [.ref ta, .int tl])), (ta, .inl (cB, 60, .inl ft)), (dc, .inr (3, [.ref dcn, .int ng, .int xe])), (dcn, .inr (1, [.ref dca])), (dca, .inl (cI, 12, .inl fd)), (rd, .inr (4, [.ref r1, .ref r2, .long sz, .int ix, .int ty])), (r1, .inr (1, [.ref q1])), (q1, .inl (cI, 12, .inl fr1)), (r2, .inr (1, [.ref q2])), (q2, .inl (cI, 12, .inl fr2)), (fn, .inr (5, [.ref n1, .ref n2, .ref n3, .ref n4, .ref n5, .int en, .long dg, .int ct, .int pw])), (n1, .inr (1, [.ref m1])), (m1, .inl (cI, 12, .inl fr)), (n2, .inr (1, [.ref m2])), (m2, .inl (cI, 12, .inl fu)), (n3, .inr (1, [.ref m3])), (m3, .inl (cI, 12, .inl fB)), (n4, .inr (1, [.ref m4])), (m4, .inl (cI, 12, .inl fA)), (n5, .inr (1, [.ref m5])), (m5, .inl (cI, 12, .inl fs)), (M0, .inr (8, [.int th, .int we, .int wm, .int wy, .int ra, .ref tA, .int tn, .ref oA, .int on, .ref rA, .int fi, .int lx, .ref wA, .int wf, .int wl, .int lo, .int ov, .int un, .int aT, .int mi, .int ds, .ref dA, .int a0, .int xp, .ref iA, .int te])), (tA, .inl (cI, 60, .inl zt)), (oA, .inl (cI, 300, .inl zo)), (rA, .inl (cI, 400, .inl zr)), (wA, .inl (cI, 400, .inl zw)), (dA, .inl (cI, 40, .inl zd)), (iA, .inl (cI, 200, .inl zi)), (D0, .inr (7, [.ref y0, .ref tp, .ref dc, .ref rd, .ref fn, .ref dn, .ref td, .int md, .int fl])), (y0, .inr (0, [.int eb, .int mb])), (dn, .inr (1, [.ref da])), (da, .inl (cI, 12, .inl kq388)), (td, .inr (6, [.ref la, .ref lb, .int ll1388])), (la, .inl (cB, 160, .inl k388)), (lb, .inl (cB, 160, .inl kg388)), (ol, .inl (cJ, 1, .inr (.inl ko388)))] H := hP
  have hD : va_D A [(tp, .inr (2, [.ref ta, .int tl])), (ta, .inl (cB, 60, .inl ft)), (dc, .inr (3, [.ref dcn, .int ng, .int xe])), (dcn, .inr (1, [.ref dca])), (dca, .inl (cI, 12, .inl fd)), (rd, .inr (4, [.ref r1, .ref r2, .long sz, .int ix, .int ty])), (r1, .inr (1, [.ref q1])), (q1, .inl (cI, 12, .inl fr1)), (r2, .inr (1, [.ref q2])), (q2, .inl (cI, 12, .inl fr2)), (fn, .inr (5, [.ref n1, .ref n2, .ref n3, .ref n4, .ref n5, .int en, .long dg, .int ct, .int pw])), (n1, .inr (1, [.ref m1])), (m1, .inl (cI, 12, .inl fr)), (n2, .inr (1, [.ref m2])), (m2, .inl (cI, 12, .inl fu)), (n3, .inr (1, [.ref m3])), (m3, .inl (cI, 12, .inl fB)), (n4, .inr (1, [.ref m4])), (m4, .inl (cI, 12, .inl fA)), (n5, .inr (1, [.ref m5])), (m5, .inl (cI, 12, .inl fs)), (M0, .inr (8, [.int th, .int we, .int wm, .int wy, .int ra, .ref tA, .int tn, .ref oA, .int on, .ref rA, .int fi, .int lx, .ref wA, .int wf, .int wl, .int lo, .int ov, .int un, .int aT, .int mi, .int ds, .ref dA, .int a0, .int xp, .ref iA, .int te])), (tA, .inl (cI, 60, .inl zt)), (oA, .inl (cI, 300, .inl zo)), (rA, .inl (cI, 400, .inl zr)), (wA, .inl (cI, 400, .inl zw)), (dA, .inl (cI, 40, .inl zd)), (iA, .inl (cI, 200, .inl zi)), (D0, .inr (7, [.ref y0, .ref tp, .ref dc, .ref rd, .ref fn, .ref dn, .ref td, .int md, .int fl])), (y0, .inr (0, [.int eb, .int mb])), (dn, .inr (1, [.ref da])), (da, .inl (cI, 12, .inl kq388)), (td, .inr (6, [.ref la, .ref lb, .int ll1388])), (la, .inl (cB, 160, .inl k388)), (lb, .inl (cB, 160, .inl kg388)), (ol, .inl (cJ, 1, .inr (.inl ko388)))] := hD
  refine lv_istore (lv' := [(5, .int r388), (4, .int i), (3, .ref ol), (2, .ref M0), (1, .ref D0), (0, .ref b)]) hx hb d_Law_law_391 hl (by decide) rfl (fun ls hl => ?_)
  refine lv_aload_n hx hb d_Law_law_393 rfl (lv_at hl 3 rfl) ?_
  refine lv_aload_n hx hb d_Law_law_394 rfl (lv_at hl 5 rfl) ?_
  refine lv_iload hx hb d_Law_law_395 (lv_at hl 1 rfl) ?_
  refine lv_iconst (v := 1) hx hb d_Law_law_397 (by decide) ?_
  refine lv_iadd hx hb d_Law_law_398 ?_
  refine lv_topi (fun v398 e398 => ?_)
  have t398 : v398.toInt = (k : Int) + 1 := by rw [e398]; exact q_iadd ti (show (1 : Int32).toInt = 1 by decide) (by omega)
  refine va_sld hx hb hX hbl hbA hS (q_in t398 (by omega)) d_Law_law_399 ?_
  refine lv_topi (fun v399 e399 => ?_)
  refine lv_i2l hx hb d_Law_law_400 rfl ?_
  refine lv_topl (fun v400 e400 => ?_)
  refine lv_bipush (v := 32) hx hb d_Law_law_401 (by decide) ?_
  refine lv_lshl hx hb d_Law_law_403 rfl ?_
  refine lv_topl (fun v403 e403 => ?_)
  refine lv_aload_n hx hb d_Law_law_404 rfl (lv_at hl 5 rfl) ?_
  refine lv_iload hx hb d_Law_law_405 (lv_at hl 1 rfl) ?_
  refine lv_iconst (v := 2) hx hb d_Law_law_407 (by decide) ?_
  refine lv_iadd hx hb d_Law_law_408 ?_
  refine lv_topi (fun v408 e408 => ?_)
  have t408 : v408.toInt = (k : Int) + 2 := by rw [e408]; exact q_iadd ti (show (2 : Int32).toInt = 2 by decide) (by omega)
  refine va_sld hx hb hX hbl hbA hS (q_in t408 (by omega)) d_Law_law_409 ?_
  refine lv_topi (fun v409 e409 => ?_)
  refine lv_i2l hx hb d_Law_law_410 rfl ?_
  refine lv_topl (fun v410 e410 => ?_)
  refine lv_ldc2 (v := 4294967295) hx hb hown (hts _ m_747) d_Law_law_411 ?_
  refine lv_land hx hb d_Law_law_414 ?_
  refine lv_topl (fun v414 e414 => ?_)
  refine lv_lor hx hb d_Law_law_415 ?_
  refine lv_topl (fun v415 e415 => ?_)
  refine callV_i (wr := [(tp, .inr (2, [.ref ta, .int tl])), (ta, .inl (cB, 60, .inl ft)), (dc, .inr (3, [.ref dcn, .int ng, .int xe])), (dcn, .inr (1, [.ref dca])), (dca, .inl (cI, 12, .inl fd)), (rd, .inr (4, [.ref r1, .ref r2, .long sz, .int ix, .int ty])), (r1, .inr (1, [.ref q1])), (q1, .inl (cI, 12, .inl fr1)), (r2, .inr (1, [.ref q2])), (q2, .inl (cI, 12, .inl fr2)), (fn, .inr (5, [.ref n1, .ref n2, .ref n3, .ref n4, .ref n5, .int en, .long dg, .int ct, .int pw])), (n1, .inr (1, [.ref m1])), (m1, .inl (cI, 12, .inl fr)), (n2, .inr (1, [.ref m2])), (m2, .inl (cI, 12, .inl fu)), (n3, .inr (1, [.ref m3])), (m3, .inl (cI, 12, .inl fB)), (n4, .inr (1, [.ref m4])), (m4, .inl (cI, 12, .inl fA)), (n5, .inr (1, [.ref m5])), (m5, .inl (cI, 12, .inl fs)), (tA, .inl (cI, 60, .inl zt)), (wA, .inl (cI, 400, .inl zw)), (dA, .inl (cI, 40, .inl zd)), (iA, .inl (cI, 200, .inl zi)), (D0, .inr (7, [.ref y0, .ref tp, .ref dc, .ref rd, .ref fn, .ref dn, .ref td, .int md, .int fl])), (y0, .inr (0, [.int eb, .int mb])), (dn, .inr (1, [.ref da])), (da, .inl (cI, 12, .inl kq388)), (td, .inr (6, [.ref la, .ref lb, .int ll1388])), (la, .inl (cB, 160, .inl k388)), (lb, .inl (cB, 160, .inl kg388)), (ol, .inl (cJ, 1, .inr (.inl ko388)))]) C0 (c_Model_exact l dC dI cI cB cJ (M0) (th) (we) (wm) (wy) (ra) (tA) (tn) (oA) (on) (rA) (fi) (lx) (wA) (wf) (wl) (lo) (ov) (un) (aT) (mi) (ds) (dA) (a0) (xp) (iA) (te) (E) (M) (zo) (zr) (v415) (by first | assumption | (rw [i_wy]; assumption) | exact Or.inl rfl | exact Or.inr rfl)) (cwV 1 hts (gV m_696 m_697 m_698 m_55 m_699) rfl rfl rfl (by decide +kernel) ⟨Nat.le_of_ble_eq_true rfl, Nat.le_of_ble_eq_true rfl⟩) 8 rfl rfl 0 rfl hP hD hS hA [21, 23, 24] [0, 1, 2, 3, 4, 5, 6, 7, 8, 9, 10, 11, 12, 13, 14, 15, 16, 17, 18, 19, 20, 22, 25, 26, 27, 28, 29, 30, 31, 32, 33, 34, 35] rfl rfl (by decide) (by decide) (by decide) rfl hl.1 rfl (Nat.le_of_ble_eq_true rfl) d_Law_law_416 ⟨by show cs + 1 + 0 ≤ 1064; omega, by show sl + 6 + 0 ≤ 10173; omega⟩ (fun r416 u416 H locs hw9 hP hD hS => ?_)
  obtain ⟨th1416, ko416, on1416, k416, fi1416, la1416⟩ := u416
  have h416 : (isPat E M v415.toInt ∧ th1416 = 0 ∧ ∃ w : List Nat, TL ko416 on1416 w ∧ r416.toInt = (w.length : Int) ∧ EXW E M v415.toInt w) ∨ (¬ isPat E M v415.toInt ∧ th1416 = 1 ∧ r416 = 0 ∧ ko416 = zo ∧ on1416 = on) := hw9
  have hP : va_P (dC, dI) vwCl [(tp, .inr (2, [.ref ta, .int tl])), (ta, .inl (cB, 60, .inl ft)), (dc, .inr (3, [.ref dcn, .int ng, .int xe])), (dcn, .inr (1, [.ref dca])), (dca, .inl (cI, 12, .inl fd)), (rd, .inr (4, [.ref r1, .ref r2, .long sz, .int ix, .int ty])), (r1, .inr (1, [.ref q1])), (q1, .inl (cI, 12, .inl fr1)), (r2, .inr (1, [.ref q2])), (q2, .inl (cI, 12, .inl fr2)), (fn, .inr (5, [.ref n1, .ref n2, .ref n3, .ref n4, .ref n5, .int en, .long dg, .int ct, .int pw])), (n1, .inr (1, [.ref m1])), (m1, .inl (cI, 12, .inl fr)), (n2, .inr (1, [.ref m2])), (m2, .inl (cI, 12, .inl fu)), (n3, .inr (1, [.ref m3])), (m3, .inl (cI, 12, .inl fB)), (n4, .inr (1, [.ref m4])), (m4, .inl (cI, 12, .inl fA)), (n5, .inr (1, [.ref m5])), (m5, .inl (cI, 12, .inl fs)), (tA, .inl (cI, 60, .inl zt)), (wA, .inl (cI, 400, .inl zw)), (dA, .inl (cI, 40, .inl zd)), (iA, .inl (cI, 200, .inl zi)), (D0, .inr (7, [.ref y0, .ref tp, .ref dc, .ref rd, .ref fn, .ref dn, .ref td, .int md, .int fl])), (y0, .inr (0, [.int eb, .int mb])), (dn, .inr (1, [.ref da])), (da, .inl (cI, 12, .inl kq388)), (td, .inr (6, [.ref la, .ref lb, .int ll1388])), (la, .inl (cB, 160, .inl k388)), (lb, .inl (cB, 160, .inl kg388)), (ol, .inl (cJ, 1, .inr (.inl ko388))), (M0, .inr (8, [.int th1416, .int we, .int wm, .int wy, .int ra, .ref tA, .int tn, .ref oA, .int on1416, .ref rA, .int fi1416, .int la1416, .ref wA, .int wf, .int wl, .int lo, .int ov, .int un, .int aT, .int mi, .int ds, .ref dA, .int a0, .int xp, .ref iA, .int te])), (oA, .inl (cI, 300, .inl ko416)), (rA, .inl (cI, 400, .inl k416))] H := hP
  have hD : va_D A [(tp, .inr (2, [.ref ta, .int tl])), (ta, .inl (cB, 60, .inl ft)), (dc, .inr (3, [.ref dcn, .int ng, .int xe])), (dcn, .inr (1, [.ref dca])), (dca, .inl (cI, 12, .inl fd)), (rd, .inr (4, [.ref r1, .ref r2, .long sz, .int ix, .int ty])), (r1, .inr (1, [.ref q1])), (q1, .inl (cI, 12, .inl fr1)), (r2, .inr (1, [.ref q2])), (q2, .inl (cI, 12, .inl fr2)), (fn, .inr (5, [.ref n1, .ref n2, .ref n3, .ref n4, .ref n5, .int en, .long dg, .int ct, .int pw])), (n1, .inr (1, [.ref m1])), (m1, .inl (cI, 12, .inl fr)), (n2, .inr (1, [.ref m2])), (m2, .inl (cI, 12, .inl fu)), (n3, .inr (1, [.ref m3])), (m3, .inl (cI, 12, .inl fB)), (n4, .inr (1, [.ref m4])), (m4, .inl (cI, 12, .inl fA)), (n5, .inr (1, [.ref m5])), (m5, .inl (cI, 12, .inl fs)), (tA, .inl (cI, 60, .inl zt)), (wA, .inl (cI, 400, .inl zw)), (dA, .inl (cI, 40, .inl zd)), (iA, .inl (cI, 200, .inl zi)), (D0, .inr (7, [.ref y0, .ref tp, .ref dc, .ref rd, .ref fn, .ref dn, .ref td, .int md, .int fl])), (y0, .inr (0, [.int eb, .int mb])), (dn, .inr (1, [.ref da])), (da, .inl (cI, 12, .inl kq388)), (td, .inr (6, [.ref la, .ref lb, .int ll1388])), (la, .inl (cB, 160, .inl k388)), (lb, .inl (cB, 160, .inl kg388)), (ol, .inl (cJ, 1, .inr (.inl ko388))), (M0, .inr (8, [.int th1416, .int we, .int wm, .int wy, .int ra, .ref tA, .int tn, .ref oA, .int on1416, .ref rA, .int fi1416, .int la1416, .ref wA, .int wf, .int wl, .int lo, .int ov, .int un, .int aT, .int mi, .int ds, .ref dA, .int a0, .int xp, .ref iA, .int te])), (oA, .inl (cI, 300, .inl ko416)), (rA, .inl (cI, 400, .inl k416))] := hD
  have av415 : v415 = v386 := by simp only [e369, e370, e371, e374, e379, e380, e381, e385, e386, e398, e399, e400, e403, e408, e409, e410, e414, e415]
  try rw [av415] at h416
  refine lv_istore (lv' := [(6, .int r416), (5, .int r388), (4, .int i), (3, .ref ol), (2, .ref M0), (1, .ref D0), (0, .ref b)]) hx hb d_Law_law_419 hl (by decide) rfl (fun ls hl => ?_)
  refine lv_goto (tgt := 537) hx hb d_Law_law_421 (by decide) ?_
  obtain ⟨-, w9, g1, g2⟩ := EXL_tie i_OD i_OM h388 h416
  refine W.widen (k := cs + 1) (n := sl + 6) (by show cs + 1 + 0 ≤ cs + 1; omega) (by show sl + 6 + 0 ≤ sl + 6; omega) ?_
  exact next (md) (fl) (eb) (mb) (tl) (ft) (ng) (xe) (fd) (sz) (ix) (ty) (fr1) (fr2) (en) (dg) (ct) (pw) (fr) (fu) (fB) (fA) (fs) (kq388) (ll1388) (k388) (kg388) (th1416) (we) (wm) (wy) (ra) (tn) (on1416) (fi1416) (la1416) (wf) (wl) (lo) (ov) (un) (aT) (mi) (ds) (a0) (xp) (te) (zt) (ko416) (k416) (zw) (zd) (zi) (ko388) (E) (M) (T) (len) (w9) H locs ls (i_LD) (i_LM) (i_wy) (i_md) (i_ra) (i_TD) (i_TM) (g1) (g2) (va_Psub hP [25, 26, 0, 1, 2, 3, 4, 5, 6, 7, 8, 9, 10, 11, 12, 13, 14, 15, 16, 17, 18, 19, 20, 27, 28, 29, 30, 31, 33, 21, 34, 35, 22, 23, 24, 32] rfl) (hD.sub [25, 26, 0, 1, 2, 3, 4, 5, 6, 7, 8, 9, 10, 11, 12, 13, 14, 15, 16, 17, 18, 19, 20, 27, 28, 29, 30, 31, 33, 21, 34, 35, 22, 23, 24, 32] (by decide) rfl) hS (lv_sub hl [2, 3, 4, 5, 6] rfl)
end LD7
