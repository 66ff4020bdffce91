/-! THE LAW: the loop -/
section LL
set_option maxHeartbeats 8000000 in
set_option maxRecDepth 100000 in
theorem law_J {p : Program} {l : Launch} {e : Env} {s : State} {m : MethodId} {below : List Frame} {meth : Method} {c : Code} {dC : Nat → ClassId} {dI : Nat → Nat → Nat} {cI cB cJ : ClassId} {A : Nat → Prop} {Q : State → Prop} {b L : Nat} {xs : Nat → Int32} {D0 y0 tp dc rd fn dn td ta dcn dca r1 q1 r2 q2 n1 m1 n2 m2 n3 m3 n4 m4 n5 m5 da la lb M0 tA oA rA wA dA iA ol : Nat} (htr : l.stackTraces = false) (X0 : lwX dC dI cI cB cJ p s m b meth c L xs) (hL : L ≤ 2048) (hA : ∀ q : Nat, s.heap.size ≤ q → A q) (hAl : ∀ q : Nat, A q → s.heap.size ≤ q) {cs sl : Nat} {i : Int32} {k : Nat} (ti : i.toInt = (k : Int)) (hk : k + 4 ≤ L) (next : ∀ j : Int32, j.toInt = ((k + 4 : Nat) : Int) → LK p l e s m below meth c dC dI cI cB cJ A Q b D0 y0 tp dc rd fn dn td ta dcn dca r1 q1 r2 q2 n1 m1 n2 m2 n3 m3 n4 m4 n5 m5 da la lb M0 tA oA rA wA dA iA ol j 23 cs sl) : LK p l e s m below meth c dC dI cI cB cJ A Q b D0 y0 tp dc rd fn dn td ta dcn dca r1 q1 r2 q2 n1 m1 n2 m2 n3 m3 n4 m4 n5 m5 da la lb M0 tA oA rA wA dA iA ol i 538 cs sl := by
  obtain ⟨C0, hth, hcw, hSK, hX, hbl⟩ := X0
  obtain ⟨hx, hb, hml, hown, hts, hr, hlocks, hK, hN⟩ := id C0
  have hbA : ¬ A b := fun h => absurd (hAl _ h) (by omega)
  have hlow : ∀ q, q < s.heap.size → ¬ A q := fun q h h2 => absurd (hAl _ h2) (by omega)
  intro md fl eb mb tl ft ng xe fd sz ix ty fr1 fr2 en dg ct pw fr fu fB fA fs fq ll fL gL th we wm wy ra tn on fi lx wf wl lo ov un aT mi ds a0 xp te zt zo zr zw zd zi fo E M T len wt H locs ls i_LD i_LM i_wy i_md i_ra i_TD i_TM i_OD i_OM hP hD hS hl
  obtain ⟨v538, e538⟩ : ∃ y : Int32, y = i + 4 := ⟨_, rfl⟩
  have t538 : v538.toInt = (k : Int) + 4 := by rw [e538]; exact q_iadd ti (show (4 : Int32).toInt = 4 by decide) (by omega)
  refine lv_iinc (v := v538) (lv' := [(4, .int v538), (3, .ref ol), (2, .ref M0), (1, .ref D0), (0, .ref b)]) hx hb d_Law_law_538 hl (k := 0) rfl (by rw [e538]; rfl) (by decide) rfl (fun ls hl => ?_)
  refine lv_goto (tgt := 23) hx hb d_Law_law_541 (by decide) ?_
  exact (next v538 (by rw [t538]; omega)) (md) (fl) (eb) (mb) (tl) (ft) (ng) (xe) (fd) (sz) (ix) (ty) (fr1) (fr2) (en) (dg) (ct) (pw) (fr) (fu) (fB) (fA) (fs) (fq) (ll) (fL) (gL) (th) (we) (wm) (wy) (ra) (tn) (on) (fi) (lx) (wf) (wl) (lo) (ov) (un) (aT) (mi) (ds) (a0) (xp) (te) (zt) (zo) (zr) (zw) (zd) (zi) (fo) (E) (M) (T) (len) (wt) H locs ls (i_LD) (i_LM) (i_wy) (i_md) (i_ra) (i_TD) (i_TM) (i_OD) (i_OM) (va_Psub hP [0, 1, 2, 3, 4, 5, 6, 7, 8, 9, 10, 11, 12, 13, 14, 15, 16, 17, 18, 19, 20, 21, 22, 23, 24, 25, 26, 27, 28, 29, 30, 31, 32, 33, 34, 35] rfl) (hD.sub [0, 1, 2, 3, 4, 5, 6, 7, 8, 9, 10, 11, 12, 13, 14, 15, 16, 17, 18, 19, 20, 21, 22, 23, 24, 25, 26, 27, 28, 29, 30, 31, 32, 33, 34, 35] (by decide) rfl) hS (lv_sub hl [0, 1, 2, 3, 4] rfl)
set_option maxHeartbeats 8000000 in
set_option maxRecDepth 100000 in
theorem law_head {p : Program} {l : Launch} {e : Env} {s : State} {m : MethodId} {below : List Frame} {meth : Method} {c : Code} {dC : Nat → ClassId} {dI : Nat → Nat → Nat} {cI cB cJ : ClassId} {A : Nat → Prop} {b L : Nat} {xs : Nat → Int32} {D0 y0 tp dc rd fn dn td ta dcn dca r1 q1 r2 q2 n1 m1 n2 m2 n3 m3 n4 m4 n5 m5 da la lb M0 tA oA rA wA dA iA ol : Nat} (htr : l.stackTraces = false) (X0 : lwX dC dI cI cB cJ p s m b meth c L xs) (hL : L ≤ 2048) (hA : ∀ q : Nat, s.heap.size ≤ q → A q) (hAl : ∀ q : Nat, A q → s.heap.size ≤ q) {cs sl : Nat} (hcs : cs ≤ 1064) (hsl : sl ≤ 10173) {i : Int32} {k : Nat} (ti : i.toInt = (k : Int)) (body : k + 4 ≤ L → cs + 1 ≤ 1064 ∧ sl + 6 ≤ 10173 ∧ LK p l e s m below meth c dC dI cI cB cJ A (lw_Z below #[Value.ref b] s) b D0 y0 tp dc rd fn dn td ta dcn dca r1 q1 r2 q2 n1 m1 n2 m2 n3 m3 n4 m4 n5 m5 da la lb M0 tA oA rA wA dA iA ol i 538 (cs + 1) (sl + 6)) : LK p l e s m below meth c dC dI cI cB cJ A (lw_Z below #[Value.ref b] s) b D0 y0 tp dc rd fn dn td ta dcn dca r1 q1 r2 q2 n1 m1 n2 m2 n3 m3 n4 m4 n5 m5 da la lb M0 tA oA rA wA dA iA ol i 23 cs sl := by
  obtain ⟨C0, hth, hcw, hSK, hX, hbl⟩ := id X0
  obtain ⟨hx, hb, hml, hown, hts, hr, hlocks, hK, hN⟩ := id C0
  have hbA : ¬ A b := fun h => absurd (hAl _ h) (by omega)
  have hlow : ∀ q, q < s.heap.size → ¬ A q := fun q h h2 => absurd (hAl _ h2) (by omega)
  intro md fl eb mb tl ft ng xe fd sz ix ty fr1 fr2 en dg ct pw fr fu fB fA fs fq ll fL gL th we wm wy ra tn on fi lx wf wl lo ov un aT mi ds a0 xp te zt zo zr zw zd zi fo E M T len wt H locs ls i_LD i_LM i_wy i_md i_ra i_TD i_TM i_OD i_OM hP hD hS hl
  refine lv_iload hx hb d_Law_law_23 (lv_at hl 0 rfl) ?_
  refine lv_aload_n hx hb d_Law_law_25 rfl (lv_at hl 4 rfl) ?_
  refine va_slen hx hb hX hbl hbA hS d_Law_law_26 ?_
  refine lv_topi (fun v26 e26 => ?_)
  have t26 : v26.toInt = (L : Int) := by rw [e26]; exact nL_int (by omega)
  refine lv_iconst (v := 4) hx hb d_Law_law_27 (by decide) ?_
  refine lv_isub hx hb d_Law_law_28 ?_
  refine lv_topi (fun v28 e28 => ?_)
  have t28 : v28.toInt = (L : Int) - 4 := by rw [e28]; exact q_isub t26 (show (4 : Int32).toInt = 4 by decide) (by omega)
  refine lv_icmp_gt (tgt := 544) hx hb d_Law_law_29 (by decide) (fun b29 => ?_) (fun b29 => ?_)
  · skip
    rw [q_ilt t28 ti] at b29
    refine lv_iconst (v := 1) hx hb d_Law_law_544 (by decide) ?_
    refine va_forget (fun q hq => hAl _ (hS.2.2 q hq)) ?_
    refine W.widen (k := 1064) (n := 10173) hcs hsl ?_
    exact lw_ret hx hb hr hlocks d_Law_law_545
  · skip
    rw [q_ilt t28 ti] at b29
    have hk : k + 4 ≤ L := by omega
    obtain ⟨hc1, hs1, next⟩ := body hk
    refine lv_aload_n hx hb d_Law_law_32 rfl (lv_at hl 4 rfl) ?_
    refine lv_iload hx hb d_Law_law_33 (lv_at hl 0 rfl) ?_
    refine va_sld hx hb hX hbl hbA hS (q_in ti (by omega)) d_Law_law_35 ?_
    refine lv_topi (fun v35 e35 => ?_)
    refine lv_bipush (v := 15) hx hb d_Law_law_36 (by decide) ?_
    refine lv_iand hx hb d_Law_law_38 ?_
    refine lv_topi (fun v38 e38 => ?_)
    obtain ⟨z9, tz⟩ : ∃ z : Int, v38.toInt = z := ⟨_, rfl⟩
    rcases (show z9 = 0 ∨ z9 = 1 ∨ z9 = 2 ∨ z9 = 3 ∨ z9 = 4 ∨ z9 = 5 ∨ z9 = 6 ∨ z9 = 7 ∨ z9 = 8 ∨ z9 = 9 ∨ (z9 < 0 ∨ 9 < z9) by omega) with w9 | w9 | w9 | w9 | w9 | w9 | w9 | w9 | w9 | w9 | w9
    · skip
      refine lv_tableIn (off := 53) (tgt := 92) hx hb d_Law_law_39 (by rw [tz]; omega) (by rw [tz]; omega) (by rw [tz, w9]; rfl) (by decide) ?_
      exact (law_92 htr X0 hL hA hAl hc1 hs1 ti hk next) (md) (fl) (eb) (mb) (tl) (ft) (ng) (xe) (fd) (sz) (ix) (ty) (fr1) (fr2) (en) (dg) (ct) (pw) (fr) (fu) (fB) (fA) (fs) (fq) (ll) (fL) (gL) (th) (we) (wm) (wy) (ra) (tn) (on) (fi) (lx) (wf) (wl) (lo) (ov) (un) (aT) (mi) (ds) (a0) (xp) (te) (zt) (zo) (zr) (zw) (zd) (zi) (fo) (E) (M) (T) (len) (wt) H locs ls (i_LD) (i_LM) (i_wy) (i_md) (i_ra) (i_TD) (i_TM) (i_OD) (i_OM) (va_Psub hP [0, 1, 2, 3, 4, 5, 6, 7, 8, 9, 10, 11, 12, 13, 14, 15, 16, 17, 18, 19, 20, 21, 22, 23, 24, 25, 26, 27, 28, 29, 30, 31, 32, 33, 34, 35] rfl) (hD.sub [0, 1, 2, 3, 4, 5, 6, 7, 8, 9, 10, 11, 12, 13, 14, 15, 16, 17, 18, 19, 20, 21, 22, 23, 24, 25, 26, 27, 28, 29, 30, 31, 32, 33, 34, 35] (by decide) rfl) hS (lv_sub hl [0, 1, 2, 3, 4] rfl)
    · skip
      refine lv_tableIn (off := 90) (tgt := 129) hx hb d_Law_law_39 (by rw [tz]; omega) (by rw [tz]; omega) (by rw [tz, w9]; rfl) (by decide) ?_
      exact (law_129 htr X0 hL hA hAl hc1 hs1 ti hk next) (md) (fl) (eb) (mb) (tl) (ft) (ng) (xe) (fd) (sz) (ix) (ty) (fr1) (fr2) (en) (dg) (ct) (pw) (fr) (fu) (fB) (fA) (fs) (fq) (ll) (fL) (gL) (th) (we) (wm) (wy) (ra) (tn) (on) (fi) (lx) (wf) (wl) (lo) (ov) (un) (aT) (mi) (ds) (a0) (xp) (te) (zt) (zo) (zr) (zw) (zd) (zi) (fo) (E) (M) (T) (len) (wt) H locs ls (i_LD) (i_LM) (i_wy) (i_md) (i_ra) (i_TD) (i_TM) (i_OD) (i_OM) (va_Psub hP [0, 1, 2, 3, 4, 5, 6, 7, 8, 9, 10, 11, 12, 13, 14, 15, 16, 17, 18, 19, 20, 21, 22, 23, 24, 25, 26, 27, 28, 29, 30, 31, 32, 33, 34, 35] rfl) (hD.sub [0, 1, 2, 3, 4, 5, 6, 7, 8, 9, 10, 11, 12, 13, 14, 15, 16, 17, 18, 19, 20, 21, 22, 23, 24, 25, 26, 27, 28, 29, 30, 31, 32, 33, 34, 35] (by decide) rfl) hS (lv_sub hl [0, 1, 2, 3, 4] rfl)
    · skip
      refine lv_tableIn (off := 115) (tgt := 154) hx hb d_Law_law_39 (by rw [tz]; omega) (by rw [tz]; omega) (by rw [tz, w9]; rfl) (by decide) ?_
      exact (law_154 htr X0 hL hA hAl hc1 hs1 ti hk next) (md) (fl) (eb) (mb) (tl) (ft) (ng) (xe) (fd) (sz) (ix) (ty) (fr1) (fr2) (en) (dg) (ct) (pw) (fr) (fu) (fB) (fA) (fs) (fq) (ll) (fL) (gL) (th) (we) (wm) (wy) (ra) (tn) (on) (fi) (lx) (wf) (wl) (lo) (ov) (un) (aT) (mi) (ds) (a0) (xp) (te) (zt) (zo) (zr) (zw) (zd) (zi) (fo) (E) (M) (T) (len) (wt) H locs ls (i_LD) (i_LM) (i_wy) (i_md) (i_ra) (i_TD) (i_TM) (i_OD) (i_OM) (va_Psub hP [0, 1, 2, 3, 4, 5, 6, 7, 8, 9, 10, 11, 12, 13, 14, 15, 16, 17, 18, 19, 20, 21, 22, 23, 24, 25, 26, 27, 28, 29, 30, 31, 32, 33, 34, 35] rfl) (hD.sub [0, 1, 2, 3, 4, 5, 6, 7, 8, 9, 10, 11, 12, 13, 14, 15, 16, 17, 18, 19, 20, 21, 22, 23, 24, 25, 26, 27, 28, 29, 30, 31, 32, 33, 34, 35] (by decide) rfl) hS (lv_sub hl [0, 1, 2, 3, 4] rfl)
    · skip
      refine lv_tableIn (off := 184) (tgt := 223) hx hb d_Law_law_39 (by rw [tz]; omega) (by rw [tz]; omega) (by rw [tz, w9]; rfl) (by decide) ?_
      exact (law_223 htr X0 hL hA hAl hc1 hs1 ti hk next) (md) (fl) (eb) (mb) (tl) (ft) (ng) (xe) (fd) (sz) (ix) (ty) (fr1) (fr2) (en) (dg) (ct) (pw) (fr) (fu) (fB) (fA) (fs) (fq) (ll) (fL) (gL) (th) (we) (wm) (wy) (ra) (tn) (on) (fi) (lx) (wf) (wl) (lo) (ov) (un) (aT) (mi) (ds) (a0) (xp) (te) (zt) (zo) (zr) (zw) (zd) (zi) (fo) (E) (M) (T) (len) (wt) H locs ls (i_LD) (i_LM) (i_wy) (i_md) (i_ra) (i_TD) (i_TM) (i_OD) (i_OM) (va_Psub hP [0, 1, 2, 3, 4, 5, 6, 7, 8, 9, 10, 11, 12, 13, 14, 15, 16, 17, 18, 19, 20, 21, 22, 23, 24, 25, 26, 27, 28, 29, 30, 31, 32, 33, 34, 35] rfl) (hD.sub [0, 1, 2, 3, 4, 5, 6, 7, 8, 9, 10, 11, 12, 13, 14, 15, 16, 17, 18, 19, 20, 21, 22, 23, 24, 25, 26, 27, 28, 29, 30, 31, 32, 33, 34, 35] (by decide) rfl) hS (lv_sub hl [0, 1, 2, 3, 4] rfl)
    · skip
      refine lv_tableIn (off := 200) (tgt := 239) hx hb d_Law_law_39 (by rw [tz]; omega) (by rw [tz]; omega) (by rw [tz, w9]; rfl) (by decide) ?_
      exact (law_239 htr X0 hL hA hAl hc1 hs1 ti hk next) (md) (fl) (eb) (mb) (tl) (ft) (ng) (xe) (fd) (sz) (ix) (ty) (fr1) (fr2) (en) (dg) (ct) (pw) (fr) (fu) (fB) (fA) (fs) (fq) (ll) (fL) (gL) (th) (we) (wm) (wy) (ra) (tn) (on) (fi) (lx) (wf) (wl) (lo) (ov) (un) (aT) (mi) (ds) (a0) (xp) (te) (zt) (zo) (zr) (zw) (zd) (zi) (fo) (E) (M) (T) (len) (wt) H locs ls (i_LD) (i_LM) (i_wy) (i_md) (i_ra) (i_TD) (i_TM) (i_OD) (i_OM) (va_Psub hP [0, 1, 2, 3, 4, 5, 6, 7, 8, 9, 10, 11, 12, 13, 14, 15, 16, 17, 18, 19, 20, 21, 22, 23, 24, 25, 26, 27, 28, 29, 30, 31, 32, 33, 34, 35] rfl) (hD.sub [0, 1, 2, 3, 4, 5, 6, 7, 8, 9, 10, 11, 12, 13, 14, 15, 16, 17, 18, 19, 20, 21, 22, 23, 24, 25, 26, 27, 28, 29, 30, 31, 32, 33, 34, 35] (by decide) rfl) hS (lv_sub hl [0, 1, 2, 3, 4] rfl)
    · skip
      refine lv_tableIn (off := 213) (tgt := 252) hx hb d_Law_law_39 (by rw [tz]; omega) (by rw [tz]; omega) (by rw [tz, w9]; rfl) (by decide) ?_
      exact (law_252 htr X0 hL hA hAl hc1 hs1 ti hk next) (md) (fl) (eb) (mb) (tl) (ft) (ng) (xe) (fd) (sz) (ix) (ty) (fr1) (fr2) (en) (dg) (ct) (pw) (fr) (fu) (fB) (fA) (fs) (fq) (ll) (fL) (gL) (th) (we) (wm) (wy) (ra) (tn) (on) (fi) (lx) (wf) (wl) (lo) (ov) (un) (aT) (mi) (ds) (a0) (xp) (te) (zt) (zo) (zr) (zw) (zd) (zi) (fo) (E) (M) (T) (len) (wt) H locs ls (i_LD) (i_LM) (i_wy) (i_md) (i_ra) (i_TD) (i_TM) (i_OD) (i_OM) (va_Psub hP [0, 1, 2, 3, 4, 5, 6, 7, 8, 9, 10, 11, 12, 13, 14, 15, 16, 17, 18, 19, 20, 21, 22, 23, 24, 25, 26, 27, 28, 29, 30, 31, 32, 33, 34, 35] rfl) (hD.sub [0, 1, 2, 3, 4, 5, 6, 7, 8, 9, 10, 11, 12, 13, 14, 15, 16, 17, 18, 19, 20, 21, 22, 23, 24, 25, 26, 27, 28, 29, 30, 31, 32, 33, 34, 35] (by decide) rfl) hS (lv_sub hl [0, 1, 2, 3, 4] rfl)
    · skip
      refine lv_tableIn (off := 238) (tgt := 277) hx hb d_Law_law_39 (by rw [tz]; omega) (by rw [tz]; omega) (by rw [tz, w9]; rfl) (by decide) ?_
      exact (law_277 htr X0 hL hA hAl hc1 hs1 ti hk next) (md) (fl) (eb) (mb) (tl) (ft) (ng) (xe) (fd) (sz) (ix) (ty) (fr1) (fr2) (en) (dg) (ct) (pw) (fr) (fu) (fB) (fA) (fs) (fq) (ll) (fL) (gL) (th) (we) (wm) (wy) (ra) (tn) (on) (fi) (lx) (wf) (wl) (lo) (ov) (un) (aT) (mi) (ds) (a0) (xp) (te) (zt) (zo) (zr) (zw) (zd) (zi) (fo) (E) (M) (T) (len) (wt) H locs ls (i_LD) (i_LM) (i_wy) (i_md) (i_ra) (i_TD) (i_TM) (i_OD) (i_OM) (va_Psub hP [0, 1, 2, 3, 4, 5, 6, 7, 8, 9, 10, 11, 12, 13, 14, 15, 16, 17, 18, 19, 20, 21, 22, 23, 24, 25, 26, 27, 28, 29, 30, 31, 32, 33, 34, 35] rfl) (hD.sub [0, 1, 2, 3, 4, 5, 6, 7, 8, 9, 10, 11, 12, 13, 14, 15, 16, 17, 18, 19, 20, 21, 22, 23, 24, 25, 26, 27, 28, 29, 30, 31, 32, 33, 34, 35] (by decide) rfl) hS (lv_sub hl [0, 1, 2, 3, 4] rfl)
    · skip
      refine lv_tableIn (off := 298) (tgt := 337) hx hb d_Law_law_39 (by rw [tz]; omega) (by rw [tz]; omega) (by rw [tz, w9]; rfl) (by decide) ?_
      exact (law_337 htr X0 hL hA hAl hc1 hs1 ti hk next) (md) (fl) (eb) (mb) (tl) (ft) (ng) (xe) (fd) (sz) (ix) (ty) (fr1) (fr2) (en) (dg) (ct) (pw) (fr) (fu) (fB) (fA) (fs) (fq) (ll) (fL) (gL) (th) (we) (wm) (wy) (ra) (tn) (on) (fi) (lx) (wf) (wl) (lo) (ov) (un) (aT) (mi) (ds) (a0) (xp) (te) (zt) (zo) (zr) (zw) (zd) (zi) (fo) (E) (M) (T) (len) (wt) H locs ls (i_LD) (i_LM) (i_wy) (i_md) (i_ra) (i_TD) (i_TM) (i_OD) (i_OM) (va_Psub hP [0, 1, 2, 3, 4, 5, 6, 7, 8, 9, 10, 11, 12, 13, 14, 15, 16, 17, 18, 19, 20, 21, 22, 23, 24, 25, 26, 27, 28, 29, 30, 31, 32, 33, 34, 35] rfl) (hD.sub [0, 1, 2, 3, 4, 5, 6, 7, 8, 9, 10, 11, 12, 13, 14, 15, 16, 17, 18, 19, 20, 21, 22, 23, 24, 25, 26, 27, 28, 29, 30, 31, 32, 33, 34, 35] (by decide) rfl) hS (lv_sub hl [0, 1, 2, 3, 4] rfl)
    · skip
      refine lv_tableIn (off := 358) (tgt := 397) hx hb d_Law_law_39 (by rw [tz]; omega) (by rw [tz]; omega) (by rw [tz, w9]; rfl) (by decide) ?_
      exact (law_397 htr X0 hL hA hAl hc1 hs1 ti hk next) (md) (fl) (eb) (mb) (tl) (ft) (ng) (xe) (fd) (sz) (ix) (ty) (fr1) (fr2) (en) (dg) (ct) (pw) (fr) (fu) (fB) (fA) (fs) (fq) (ll) (fL) (gL) (th) (we) (wm) (wy) (ra) (tn) (on) (fi) (lx) (wf) (wl) (lo) (ov) (un) (aT) (mi) (ds) (a0) (xp) (te) (zt) (zo) (zr) (zw) (zd) (zi) (fo) (E) (M) (T) (len) (wt) H locs ls (i_LD) (i_LM) (i_wy) (i_md) (i_ra) (i_TD) (i_TM) (i_OD) (i_OM) (va_Psub hP [0, 1, 2, 3, 4, 5, 6, 7, 8, 9, 10, 11, 12, 13, 14, 15, 16, 17, 18, 19, 20, 21, 22, 23, 24, 25, 26, 27, 28, 29, 30, 31, 32, 33, 34, 35] rfl) (hD.sub [0, 1, 2, 3, 4, 5, 6, 7, 8, 9, 10, 11, 12, 13, 14, 15, 16, 17, 18, 19, 20, 21, 22, 23, 24, 25, 26, 27, 28, 29, 30, 31, 32, 33, 34, 35] (by decide) rfl) hS (lv_sub hl [0, 1, 2, 3, 4] rfl)
    · skip
      refine lv_tableIn (off := 414) (tgt := 453) hx hb d_Law_law_39 (by rw [tz]; omega) (by rw [tz]; omega) (by rw [tz, w9]; rfl) (by decide) ?_
      exact (law_453 htr X0 hL hA hAl hc1 hs1 ti hk next) (md) (fl) (eb) (mb) (tl) (ft) (ng) (xe) (fd) (sz) (ix) (ty) (fr1) (fr2) (en) (dg) (ct) (pw) (fr) (fu) (fB) (fA) (fs) (fq) (ll) (fL) (gL) (th) (we) (wm) (wy) (ra) (tn) (on) (fi) (lx) (wf) (wl) (lo) (ov) (un) (aT) (mi) (ds) (a0) (xp) (te) (zt) (zo) (zr) (zw) (zd) (zi) (fo) (E) (M) (T) (len) (wt) H locs ls (i_LD) (i_LM) (i_wy) (i_md) (i_ra) (i_TD) (i_TM) (i_OD) (i_OM) (va_Psub hP [0, 1, 2, 3, 4, 5, 6, 7, 8, 9, 10, 11, 12, 13, 14, 15, 16, 17, 18, 19, 20, 21, 22, 23, 24, 25, 26, 27, 28, 29, 30, 31, 32, 33, 34, 35] rfl) (hD.sub [0, 1, 2, 3, 4, 5, 6, 7, 8, 9, 10, 11, 12, 13, 14, 15, 16, 17, 18, 19, 20, 21, 22, 23, 24, 25, 26, 27, 28, 29, 30, 31, 32, 33, 34, 35] (by decide) rfl) hS (lv_sub hl [0, 1, 2, 3, 4] rfl)
    · skip
      refine lv_tableOut (tgt := 538) hx hb d_Law_law_39 (by rw [tz]; exact w9) (by decide) ?_
      refine W.widen (k := cs + 1) (n := sl + 6) (by show cs ≤ cs + 1; omega) (by show sl ≤ sl + 6; omega) ?_
      exact next (md) (fl) (eb) (mb) (tl) (ft) (ng) (xe) (fd) (sz) (ix) (ty) (fr1) (fr2) (en) (dg) (ct) (pw) (fr) (fu) (fB) (fA) (fs) (fq) (ll) (fL) (gL) (th) (we) (wm) (wy) (ra) (tn) (on) (fi) (lx) (wf) (wl) (lo) (ov) (un) (aT) (mi) (ds) (a0) (xp) (te) (zt) (zo) (zr) (zw) (zd) (zi) (fo) (E) (M) (T) (len) (wt) H locs ls (i_LD) (i_LM) (i_wy) (i_md) (i_ra) (i_TD) (i_TM) (i_OD) (i_OM) (va_Psub hP [0, 1, 2, 3, 4, 5, 6, 7, 8, 9, 10, 11, 12, 13, 14, 15, 16, 17, 18, 19, 20, 21, 22, 23, 24, 25, 26, 27, 28, 29, 30, 31, 32, 33, 34, 35] rfl) (hD.sub [0, 1, 2, 3, 4, 5, 6, 7, 8, 9, 10, 11, 12, 13, 14, 15, 16, 17, 18, 19, 20, 21, 22, 23, 24, 25, 26, 27, 28, 29, 30, 31, 32, 33, 34, 35] (by decide) rfl) hS (lv_sub hl [0, 1, 2, 3, 4] rfl)
theorem law_loop {p : Program} {l : Launch} {e : Env} {s : State} {m : MethodId} {below : List Frame} {meth : Method} {c : Code} {dC : Nat → ClassId} {dI : Nat → Nat → Nat} {cI cB cJ : ClassId} {A : Nat → Prop} {b L : Nat} {xs : Nat → Int32} {D0 y0 tp dc rd fn dn td ta dcn dca r1 q1 r2 q2 n1 m1 n2 m2 n3 m3 n4 m4 n5 m5 da la lb M0 tA oA rA wA dA iA ol : Nat} (htr : l.stackTraces = false) (X0 : lwX dC dI cI cB cJ p s m b meth c L xs) (hL : L ≤ 2048) (hA : ∀ q : Nat, s.heap.size ≤ q → A q) (hAl : ∀ q : Nat, A q → s.heap.size ≤ q) : ∀ (n cs sl k : Nat) (i : Int32), i.toInt = (k : Int) → L < k + 4 + 4 * n → cs + n ≤ 1064 → sl + 6 * n ≤ 10173 → LK p l e s m below meth c dC dI cI cB cJ A (lw_Z below #[Value.ref b] s) b D0 y0 tp dc rd fn dn td ta dcn dca r1 q1 r2 q2 n1 m1 n2 m2 n3 m3 n4 m4 n5 m5 da la lb M0 tA oA rA wA dA iA ol i 23 cs sl := by
  intro n
  induction n with
  | zero => exact fun cs sl k i ti hn h1 h2 => law_head htr X0 hL hA hAl (by omega) (by omega) ti (fun h => absurd h (by omega))
  | succ n ih => exact fun cs sl k i ti hn h1 h2 => law_head htr X0 hL hA hAl (by omega) (by omega) ti (fun h => ⟨by omega, by omega, law_J htr X0 hL hA hAl ti h (fun j tj => ih (cs + 1) (sl + 6) (k + 4) j tj (by omega) (by omega) (by omega))⟩)
end LL
