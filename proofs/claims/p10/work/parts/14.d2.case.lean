/-! THE LAW: case 2 -/
section LD2
set_option maxHeartbeats 8000000 in
set_option maxRecDepth 100000 in
theorem law_154 {p : Program} {l : Launch} {e : Env} {s : State} {m : MethodId} {below : List Frame} {meth : Method} {c : Code} {dC : Nat → ClassId} {dI : Nat → Nat → Nat} {cI cB cJ : ClassId} {A : Nat → Prop} {Q : State → Prop} {b L : Nat} {xs : Nat → Int32} {D0 y0 tp dc rd fn dn td ta dcn dca r1 q1 r2 q2 n1 m1 n2 m2 n3 m3 n4 m4 n5 m5 da la lb M0 tA oA rA wA dA iA ol : Nat} (htr : l.stackTraces = false) (X0 : lwX dC dI cI cB cJ p s m b meth c L xs) (hL : L ≤ 2048) (hA : ∀ q : Nat, s.heap.size ≤ q → A q) (hAl : ∀ q : Nat, A q → s.heap.size ≤ q) {cs sl : Nat} (hcs : cs + 1 ≤ 1064) (hsl : sl + 6 ≤ 10173) {i : Int32} {k : Nat} (ti : i.toInt = (k : Int)) (hk : k + 4 ≤ L) (next : LK p l e s m below meth c dC dI cI cB cJ A Q b D0 y0 tp dc rd fn dn td ta dcn dca r1 q1 r2 q2 n1 m1 n2 m2 n3 m3 n4 m4 n5 m5 da la lb M0 tA oA rA wA dA iA ol i 538 (cs + 1) (sl + 6)) : LK p l e s m below meth c dC dI cI cB cJ A Q b D0 y0 tp dc rd fn dn td ta dcn dca r1 q1 r2 q2 n1 m1 n2 m2 n3 m3 n4 m4 n5 m5 da la lb M0 tA oA rA wA dA iA ol i 154 cs sl := by
  obtain ⟨C0, hth, hcw, hSK, hX, hbl⟩ := X0
  obtain ⟨hx, hb, hml, hown, hts, hr, hlocks, hK, hN⟩ := id C0
  have hbA : ¬ A b := fun h => absurd (hAl _ h) (by omega)
  have hlow : ∀ q, q < s.heap.size → ¬ A q := fun q h h2 => absurd (hAl _ h2) (by omega)
  intro md fl eb mb tl ft ng xe fd sz ix ty fr1 fr2 en dg ct pw fr fu fB fA fs fq ll fL gL th we wm wy ra tn on fi lx wf wl lo ov un aT mi ds a0 xp te zt zo zr zw zd zi fo E M T len wt H locs ls i_LD i_LM i_wy i_md i_ra i_TD i_TM i_OD i_OM hP hD hS hl
  refine lv_aload_n hx hb d_Law_law_154 rfl (lv_at hl 3 rfl) ?_
  refine lv_aload_n hx hb d_Law_law_155 rfl (lv_at hl 4 rfl) ?_
  refine lv_iload hx hb d_Law_law_156 (lv_at hl 0 rfl) ?_
  refine lv_iconst (v := 1) hx hb d_Law_law_158 (by decide) ?_
  refine lv_iadd hx hb d_Law_law_159 ?_
  refine lv_topi (fun v159 e159 => ?_)
  have t159 : v159.toInt = (k : Int) + 1 := by rw [e159]; exact q_iadd ti (show (1 : Int32).toInt = 1 by decide) (by omega)
  refine va_sld hx hb hX hbl hbA hS (q_in t159 (by omega)) d_Law_law_160 ?_
  refine lv_topi (fun v160 e160 => ?_)
  refine lv_i2l hx hb d_Law_law_161 rfl ?_
  refine lv_topl (fun v161 e161 => ?_)
  refine lv_bipush (v := 32) hx hb d_Law_law_162 (by decide) ?_
  refine lv_lshl hx hb d_Law_law_164 rfl ?_
  refine lv_topl (fun v164 e164 => ?_)
  refine lv_aload_n hx hb d_Law_law_165 rfl (lv_at hl 4 rfl) ?_
  refine lv_iload hx hb d_Law_law_166 (lv_at hl 0 rfl) ?_
  refine lv_iconst (v := 2) hx hb d_Law_law_168 (by decide) ?_
  refine lv_iadd hx hb d_Law_law_169 ?_
  refine lv_topi (fun v169 e169 => ?_)
  have t169 : v169.toInt = (k : Int) + 2 := by rw [e169]; exact q_iadd ti (show (2 : Int32).toInt = 2 by decide) (by omega)
  refine va_sld hx hb hX hbl hbA hS (q_in t169 (by omega)) d_Law_law_170 ?_
  refine lv_topi (fun v170 e170 => ?_)
  refine lv_i2l hx hb d_Law_law_171 rfl ?_
  refine lv_topl (fun v171 e171 => ?_)
  refine lv_ldc2 (v := 4294967295) hx hb hown (hts _ m_747) d_Law_law_172 ?_
  refine lv_land hx hb d_Law_law_175 ?_
  refine lv_topl (fun v175 e175 => ?_)
  refine lv_lor hx hb d_Law_law_176 ?_
  refine lv_topl (fun v176 e176 => ?_)
  refine lv_aload_n hx hb d_Law_law_177 rfl (lv_at hl 4 rfl) ?_
  refine lv_iload hx hb d_Law_law_178 (lv_at hl 0 rfl) ?_
  refine lv_iconst (v := 3) hx hb d_Law_law_180 (by decide) ?_
  refine lv_iadd hx hb d_Law_law_181 ?_
  refine lv_topi (fun v181 e181 => ?_)
  have t181 : v181.toInt = (k : Int) + 3 := by rw [e181]; exact q_iadd ti (show (3 : Int32).toInt = 3 by decide) (by omega)
  refine va_sld hx hb hX hbl hbA hS (q_in t181 (by omega)) d_Law_law_182 ?_
  refine lv_topi (fun v182 e182 => ?_)
  refine callV_i (wr := [(y0, .inr (0, [.int eb, .int mb])), (dc, .inr (3, [.ref dcn, .int ng, .int xe])), (dcn, .inr (1, [.ref dca])), (dca, .inl (cI, 12, .inl fd)), (rd, .inr (4, [.ref r1, .ref r2, .long sz, .int ix, .int ty])), (r1, .inr (1, [.ref q1])), (q1, .inl (cI, 12, .inl fr1)), (r2, .inr (1, [.ref q2])), (q2, .inl (cI, 12, .inl fr2)), (fn, .inr (5, [.ref n1, .ref n2, .ref n3, .ref n4, .ref n5, .int en, .long dg, .int ct, .int pw])), (n1, .inr (1, [.ref m1])), (m1, .inl (cI, 12, .inl fr)), (n2, .inr (1, [.ref m2])), (m2, .inl (cI, 12, .inl fu)), (n3, .inr (1, [.ref m3])), (m3, .inl (cI, 12, .inl fB)), (n4, .inr (1, [.ref m4])), (m4, .inl (cI, 12, .inl fA)), (n5, .inr (1, [.ref m5])), (m5, .inl (cI, 12, .inl fs)), (dn, .inr (1, [.ref da])), (da, .inl (cI, 12, .inl fq)), (td, .inr (6, [.ref la, .ref lb, .int ll])), (la, .inl (cB, 160, .inl fL)), (lb, .inl (cB, 160, .inl gL)), (M0, .inr (8, [.int th, .int we, .int wm, .int wy, .int ra, .ref tA, .int tn, .ref oA, .int on, .ref rA, .int fi, .int lx, .ref wA, .int wf, .int wl, .int lo, .int ov, .int un, .int aT, .int mi, .int ds, .ref dA, .int a0, .int xp, .ref iA, .int te])), (tA, .inl (cI, 60, .inl zt)), (oA, .inl (cI, 300, .inl zo)), (rA, .inl (cI, 400, .inl zr)), (wA, .inl (cI, 400, .inl zw)), (dA, .inl (cI, 40, .inl zd)), (iA, .inl (cI, 200, .inl zi)), (ol, .inl (cJ, 1, .inr (.inl fo)))]) C0 (c_Desk_type l dC dI cI cB cJ (D0) (y0) (tp) (dc) (rd) (fn) (dn) (td) (md) (fl) (ta) (ft) (tl) (T) (len) (v176) (v182) (by first | assumption | (rw [i_wy]; assumption) | exact Or.inl rfl | exact Or.inr rfl)) (cwV 2 hts (gV m_198 m_199 m_200 m_47 m_201) rfl rfl rfl (by decide +kernel) ⟨Nat.le_of_ble_eq_true rfl, Nat.le_of_ble_eq_true rfl⟩) 7 rfl rfl 0 rfl hP hD hS hA [0, 2, 3] [1, 4, 5, 6, 7, 8, 9, 10, 11, 12, 13, 14, 15, 16, 17, 18, 19, 20, 21, 22, 23, 24, 25, 26, 27, 28, 29, 30, 31, 32, 33, 34, 35] rfl rfl (by decide) (by decide) (by decide) rfl hl.1 rfl (Nat.le_of_ble_eq_true rfl) d_Law_law_183 ⟨by show cs + 0 ≤ 1064; omega, by show sl + 0 ≤ 10173; omega⟩ (fun r183 u183 H locs hw9 hP hD hS => ?_)
  obtain ⟨k183, lx183⟩ := u183
  have h183 : (r183 = 1 ∧ putC len v176 v182 ∧ TP k183 lx183 (putT T len v176 v182.toInt.toNat) (len + v182.toInt.toNat)) ∨ (r183 = 0 ∧ ¬ putC len v176 v182 ∧ k183 = ft ∧ lx183 = tl) := hw9
  have hP : va_P (dC, dI) vwCl [(y0, .inr (0, [.int eb, .int mb])), (dc, .inr (3, [.ref dcn, .int ng, .int xe])), (dcn, .inr (1, [.ref dca])), (dca, .inl (cI, 12, .inl fd)), (rd, .inr (4, [.ref r1, .ref r2, .long sz, .int ix, .int ty])), (r1, .inr (1, [.ref q1])), (q1, .inl (cI, 12, .inl fr1)), (r2, .inr (1, [.ref q2])), (q2, .inl (cI, 12, .inl fr2)), (fn, .inr (5, [.ref n1, .ref n2, .ref n3, .ref n4, .ref n5, .int en, .long dg, .int ct, .int pw])), (n1, .inr (1, [.ref m1])), (m1, .inl (cI, 12, .inl fr)), (n2, .inr (1, [.ref m2])), (m2, .inl (cI, 12, .inl fu)), (n3, .inr (1, [.ref m3])), (m3, .inl (cI, 12, .inl fB)), (n4, .inr (1, [.ref m4])), (m4, .inl (cI, 12, .inl fA)), (n5, .inr (1, [.ref m5])), (m5, .inl (cI, 12, .inl fs)), (dn, .inr (1, [.ref da])), (da, .inl (cI, 12, .inl fq)), (td, .inr (6, [.ref la, .ref lb, .int ll])), (la, .inl (cB, 160, .inl fL)), (lb, .inl (cB, 160, .inl gL)), (M0, .inr (8, [.int th, .int we, .int wm, .int wy, .int ra, .ref tA, .int tn, .ref oA, .int on, .ref rA, .int fi, .int lx, .ref wA, .int wf, .int wl, .int lo, .int ov, .int un, .int aT, .int mi, .int ds, .ref dA, .int a0, .int xp, .ref iA, .int te])), (tA, .inl (cI, 60, .inl zt)), (oA, .inl (cI, 300, .inl zo)), (rA, .inl (cI, 400, .inl zr)), (wA, .inl (cI, 400, .inl zw)), (dA, .inl (cI, 40, .inl zd)), (iA, .inl (cI, 200, .inl zi)), (ol, .inl (cJ, 1, .inr (.inl fo))), (D0, .inr (7, [.ref y0, .ref tp, .ref dc, .ref rd, .ref fn, .ref dn, .ref td, .int md, .int fl])), (tp, .inr (2, [.ref ta, .int lx183])), (ta, .inl (cB, 60, .inl k183))] H := hP
  have hD : va_D A [(y0, .inr (0, [.int eb, .int mb])), (dc, .inr (3, [.ref dcn, .int ng, .int xe])), (dcn, .inr (1, [.ref dca])), (dca, .inl (cI, 12, .inl fd)), (rd, .inr (4, [.ref r1, .ref r2, .long sz, .int ix, .int ty])), (r1, .inr (1, [.ref q1])), (q1, .inl (cI, 12, .inl fr1)), (r2, .inr (1, [.ref q2])), (q2, .inl (cI, 12, .inl fr2)), (fn, .inr (5, [.ref n1, .ref n2, .ref n3, .ref n4, .ref n5, .int en, .long dg, .int ct, .int pw])), (n1, .inr (1, [.ref m1])), (m1, .inl (cI, 12, .inl fr)), (n2, .inr (1, [.ref m2])), (m2, .inl (cI, 12, .inl fu)), (n3, .inr (1, [.ref m3])), (m3, .inl (cI, 12, .inl fB)), (n4, .inr (1, [.ref m4])), (m4, .inl (cI, 12, .inl fA)), (n5, .inr (1, [.ref m5])), (m5, .inl (cI, 12, .inl fs)), (dn, .inr (1, [.ref da])), (da, .inl (cI, 12, .inl fq)), (td, .inr (6, [.ref la, .ref lb, .int ll])), (la, .inl (cB, 160, .inl fL)), (lb, .inl (cB, 160, .inl gL)), (M0, .inr (8, [.int th, .int we, .int wm, .int wy, .int ra, .ref tA, .int tn, .ref oA, .int on, .ref rA, .int fi, .int lx, .ref wA, .int wf, .int wl, .int lo, .int ov, .int un, .int aT, .int mi, .int ds, .ref dA, .int a0, .int xp, .ref iA, .int te])), (tA, .inl (cI, 60, .inl zt)), (oA, .inl (cI, 300, .inl zo)), (rA, .inl (cI, 400, .inl zr)), (wA, .inl (cI, 400, .inl zw)), (dA, .inl (cI, 40, .inl zd)), (iA, .inl (cI, 200, .inl zi)), (ol, .inl (cJ, 1, .inr (.inl fo))), (D0, .inr (7, [.ref y0, .ref tp, .ref dc, .ref rd, .ref fn, .ref dn, .ref td, .int md, .int fl])), (tp, .inr (2, [.ref ta, .int lx183])), (ta, .inl (cB, 60, .inl k183))] := hD
  refine lv_pop hx hb d_Law_law_186 rfl ?_
  refine lv_aload_n hx hb d_Law_law_187 rfl (lv_at hl 2 rfl) ?_
  refine lv_aload_n hx hb d_Law_law_188 rfl (lv_at hl 4 rfl) ?_
  refine lv_iload hx hb d_Law_law_189 (lv_at hl 0 rfl) ?_
  refine lv_iconst (v := 1) hx hb d_Law_law_191 (by decide) ?_
  refine lv_iadd hx hb d_Law_law_192 ?_
  refine lv_topi (fun v192 e192 => ?_)
  have t192 : v192.toInt = (k : Int) + 1 := by rw [e192]; exact q_iadd ti (show (1 : Int32).toInt = 1 by decide) (by omega)
  refine va_sld hx hb hX hbl hbA hS (q_in t192 (by omega)) d_Law_law_193 ?_
  refine lv_topi (fun v193 e193 => ?_)
  refine lv_i2l hx hb d_Law_law_194 rfl ?_
  refine lv_topl (fun v194 e194 => ?_)
  refine lv_bipush (v := 32) hx hb d_Law_law_195 (by decide) ?_
  refine lv_lshl hx hb d_Law_law_197 rfl ?_
  refine lv_topl (fun v197 e197 => ?_)
  refine lv_aload_n hx hb d_Law_law_198 rfl (lv_at hl 4 rfl) ?_
  refine lv_iload hx hb d_Law_law_199 (lv_at hl 0 rfl) ?_
  refine lv_iconst (v := 2) hx hb d_Law_law_201 (by decide) ?_
  refine lv_iadd hx hb d_Law_law_202 ?_
  refine lv_topi (fun v202 e202 => ?_)
  have t202 : v202.toInt = (k : Int) + 2 := by rw [e202]; exact q_iadd ti (show (2 : Int32).toInt = 2 by decide) (by omega)
  refine va_sld hx hb hX hbl hbA hS (q_in t202 (by omega)) d_Law_law_203 ?_
  refine lv_topi (fun v203 e203 => ?_)
  refine lv_i2l hx hb d_Law_law_204 rfl ?_
  refine lv_topl (fun v204 e204 => ?_)
  refine lv_ldc2 (v := 4294967295) hx hb hown (hts _ m_747) d_Law_law_205 ?_
  refine lv_land hx hb d_Law_law_208 ?_
  refine lv_topl (fun v208 e208 => ?_)
  refine lv_lor hx hb d_Law_law_209 ?_
  refine lv_topl (fun v209 e209 => ?_)
  refine lv_aload_n hx hb d_Law_law_210 rfl (lv_at hl 4 rfl) ?_
  refine lv_iload hx hb d_Law_law_211 (lv_at hl 0 rfl) ?_
  refine lv_iconst (v := 3) hx hb d_Law_law_213 (by decide) ?_
  refine lv_iadd hx hb d_Law_law_214 ?_
  refine lv_topi (fun v214 e214 => ?_)
  have t214 : v214.toInt = (k : Int) + 3 := by rw [e214]; exact q_iadd ti (show (3 : Int32).toInt = 3 by decide) (by omega)
  refine va_sld hx hb hX hbl hbA hS (q_in t214 (by omega)) d_Law_law_215 ?_
  refine lv_topi (fun v215 e215 => ?_)
  refine callV_i (wr := [(y0, .inr (0, [.int eb, .int mb])), (dc, .inr (3, [.ref dcn, .int ng, .int xe])), (dcn, .inr (1, [.ref dca])), (dca, .inl (cI, 12, .inl fd)), (rd, .inr (4, [.ref r1, .ref r2, .long sz, .int ix, .int ty])), (r1, .inr (1, [.ref q1])), (q1, .inl (cI, 12, .inl fr1)), (r2, .inr (1, [.ref q2])), (q2, .inl (cI, 12, .inl fr2)), (fn, .inr (5, [.ref n1, .ref n2, .ref n3, .ref n4, .ref n5, .int en, .long dg, .int ct, .int pw])), (n1, .inr (1, [.ref m1])), (m1, .inl (cI, 12, .inl fr)), (n2, .inr (1, [.ref m2])), (m2, .inl (cI, 12, .inl fu)), (n3, .inr (1, [.ref m3])), (m3, .inl (cI, 12, .inl fB)), (n4, .inr (1, [.ref m4])), (m4, .inl (cI, 12, .inl fA)), (n5, .inr (1, [.ref m5])), (m5, .inl (cI, 12, .inl fs)), (dn, .inr (1, [.ref da])), (da, .inl (cI, 12, .inl fq)), (td, .inr (6, [.ref la, .ref lb, .int ll])), (la, .inl (cB, 160, .inl fL)), (lb, .inl (cB, 160, .inl gL)), (oA, .inl (cI, 300, .inl zo)), (rA, .inl (cI, 400, .inl zr)), (wA, .inl (cI, 400, .inl zw)), (dA, .inl (cI, 40, .inl zd)), (iA, .inl (cI, 200, .inl zi)), (ol, .inl (cJ, 1, .inr (.inl fo))), (D0, .inr (7, [.ref y0, .ref tp, .ref dc, .ref rd, .ref fn, .ref dn, .ref td, .int md, .int fl])), (tp, .inr (2, [.ref ta, .int lx183])), (ta, .inl (cB, 60, .inl k183))]) C0 (c_Model_type l dC dI cI cB cJ (M0) (th) (we) (wm) (wy) (ra) (tA) (tn) (oA) (on) (rA) (fi) (lx) (wA) (wf) (wl) (lo) (ov) (un) (aT) (mi) (ds) (dA) (a0) (xp) (iA) (te) (zt) (T) (len) (v209) (v215) (by first | assumption | (rw [i_wy]; assumption) | exact Or.inl rfl | exact Or.inr rfl)) (cwV 2 hts (gV m_627 m_628 m_629 m_55 m_630) rfl rfl rfl (by decide +kernel) ⟨Nat.le_of_ble_eq_true rfl, Nat.le_of_ble_eq_true rfl⟩) 8 rfl rfl 0 rfl hP hD hS hA [25, 26] [0, 1, 2, 3, 4, 5, 6, 7, 8, 9, 10, 11, 12, 13, 14, 15, 16, 17, 18, 19, 20, 21, 22, 23, 24, 27, 28, 29, 30, 31, 32, 33, 34, 35] rfl rfl (by decide) (by decide) (by decide) rfl hl.1 rfl (Nat.le_of_ble_eq_true rfl) d_Law_law_216 ⟨by show cs + 0 + 0 ≤ 1064; omega, by show sl + 0 + 0 ≤ 10173; omega⟩ (fun r216 u216 H locs hw9 hP hD hS => ?_)
  obtain ⟨k216, tn1216⟩ := u216
  have h216 : (r216 = 1 ∧ putC len v209 v215 ∧ TP k216 tn1216 (putT T len v209 v215.toInt.toNat) (len + v215.toInt.toNat)) ∨ (r216 = 0 ∧ ¬ putC len v209 v215 ∧ k216 = zt ∧ tn1216 = tn) := hw9
  have hP : va_P (dC, dI) vwCl [(y0, .inr (0, [.int eb, .int mb])), (dc, .inr (3, [.ref dcn, .int ng, .int xe])), (dcn, .inr (1, [.ref dca])), (dca, .inl (cI, 12, .inl fd)), (rd, .inr (4, [.ref r1, .ref r2, .long sz, .int ix, .int ty])), (r1, .inr (1, [.ref q1])), (q1, .inl (cI, 12, .inl fr1)), (r2, .inr (1, [.ref q2])), (q2, .inl (cI, 12, .inl fr2)), (fn, .inr (5, [.ref n1, .ref n2, .ref n3, .ref n4, .ref n5, .int en, .long dg, .int ct, .int pw])), (n1, .inr (1, [.ref m1])), (m1, .inl (cI, 12, .inl fr)), (n2, .inr (1, [.ref m2])), (m2, .inl (cI, 12, .inl fu)), (n3, .inr (1, [.ref m3])), (m3, .inl (cI, 12, .inl fB)), (n4, .inr (1, [.ref m4])), (m4, .inl (cI, 12, .inl fA)), (n5, .inr (1, [.ref m5])), (m5, .inl (cI, 12, .inl fs)), (dn, .inr (1, [.ref da])), (da, .inl (cI, 12, .inl fq)), (td, .inr (6, [.ref la, .ref lb, .int ll])), (la, .inl (cB, 160, .inl fL)), (lb, .inl (cB, 160, .inl gL)), (oA, .inl (cI, 300, .inl zo)), (rA, .inl (cI, 400, .inl zr)), (wA, .inl (cI, 400, .inl zw)), (dA, .inl (cI, 40, .inl zd)), (iA, .inl (cI, 200, .inl zi)), (ol, .inl (cJ, 1, .inr (.inl fo))), (D0, .inr (7, [.ref y0, .ref tp, .ref dc, .ref rd, .ref fn, .ref dn, .ref td, .int md, .int fl])), (tp, .inr (2, [.ref ta, .int lx183])), (ta, .inl (cB, 60, .inl k183)), (M0, .inr (8, [.int 0, .int we, .int wm, .int wy, .int ra, .ref tA, .int tn1216, .ref oA, .int on, .ref rA, .int fi, .int lx, .ref wA, .int wf, .int wl, .int lo, .int ov, .int un, .int aT, .int mi, .int ds, .ref dA, .int a0, .int xp, .ref iA, .int te])), (tA, .inl (cI, 60, .inl k216))] H := hP
  have hD : va_D A [(y0, .inr (0, [.int eb, .int mb])), (dc, .inr (3, [.ref dcn, .int ng, .int xe])), (dcn, .inr (1, [.ref dca])), (dca, .inl (cI, 12, .inl fd)), (rd, .inr (4, [.ref r1, .ref r2, .long sz, .int ix, .int ty])), (r1, .inr (1, [.ref q1])), (q1, .inl (cI, 12, .inl fr1)), (r2, .inr (1, [.ref q2])), (q2, .inl (cI, 12, .inl fr2)), (fn, .inr (5, [.ref n1, .ref n2, .ref n3, .ref n4, .ref n5, .int en, .long dg, .int ct, .int pw])), (n1, .inr (1, [.ref m1])), (m1, .inl (cI, 12, .inl fr)), (n2, .inr (1, [.ref m2])), (m2, .inl (cI, 12, .inl fu)), (n3, .inr (1, [.ref m3])), (m3, .inl (cI, 12, .inl fB)), (n4, .inr (1, [.ref m4])), (m4, .inl (cI, 12, .inl fA)), (n5, .inr (1, [.ref m5])), (m5, .inl (cI, 12, .inl fs)), (dn, .inr (1, [.ref da])), (da, .inl (cI, 12, .inl fq)), (td, .inr (6, [.ref la, .ref lb, .int ll])), (la, .inl (cB, 160, .inl fL)), (lb, .inl (cB, 160, .inl gL)), (oA, .inl (cI, 300, .inl zo)), (rA, .inl (cI, 400, .inl zr)), (wA, .inl (cI, 400, .inl zw)), (dA, .inl (cI, 40, .inl zd)), (iA, .inl (cI, 200, .inl zi)), (ol, .inl (cJ, 1, .inr (.inl fo))), (D0, .inr (7, [.ref y0, .ref tp, .ref dc, .ref rd, .ref fn, .ref dn, .ref td, .int md, .int fl])), (tp, .inr (2, [.ref ta, .int lx183])), (ta, .inl (cB, 60, .inl k183)), (M0, .inr (8, [.int 0, .int we, .int wm, .int wy, .int ra, .ref tA, .int tn1216, .ref oA, .int on, .ref rA, .int fi, .int lx, .ref wA, .int wf, .int wl, .int lo, .int ov, .int un, .int aT, .int mi, .int ds, .ref dA, .int a0, .int xp, .ref iA, .int te])), (tA, .inl (cI, 60, .inl k216))] := hD
  have av209 : v209 = v176 := by simp only [e159, e160, e161, e164, e169, e170, e171, e175, e176, e181, e182, e192, e193, e194, e197, e202, e203, e204, e208, e209, e214, e215]
  try rw [av209] at h216
  have av215 : v215 = v182 := by simp only [e159, e160, e161, e164, e169, e170, e171, e175, e176, e181, e182, e192, e193, e194, e197, e202, e203, e204, e208, e209, e214, e215]
  try rw [av215] at h216
  refine lv_pop hx hb d_Law_law_219 rfl ?_
  refine lv_goto (tgt := 538) hx hb d_Law_law_220 (by decide) ?_
  obtain ⟨-, T9, len9, g1, g2⟩ := TP_tie i_TD i_TM h183 h216
  refine W.widen (k := cs + 1) (n := sl + 6) (by show cs + 0 + 0 ≤ cs + 1; omega) (by show sl + 0 + 0 ≤ sl + 6; omega) ?_
  exact next (md) (fl) (eb) (mb) (lx183) (k183) (ng) (xe) (fd) (sz) (ix) (ty) (fr1) (fr2) (en) (dg) (ct) (pw) (fr) (fu) (fB) (fA) (fs) (fq) (ll) (fL) (gL) (0) (we) (wm) (wy) (ra) (tn1216) (on) (fi) (lx) (wf) (wl) (lo) (ov) (un) (aT) (mi) (ds) (a0) (xp) (te) (k216) (zo) (zr) (zw) (zd) (zi) (fo) (E) (M) (T9) (len9) (wt) H locs ls (i_LD) (i_LM) (i_wy) (i_md) (i_ra) (g1) (g2) (i_OD) (i_OM) (va_Psub hP [31, 0, 32, 33, 1, 2, 3, 4, 5, 6, 7, 8, 9, 10, 11, 12, 13, 14, 15, 16, 17, 18, 19, 20, 21, 22, 23, 24, 34, 35, 25, 26, 27, 28, 29, 30] rfl) (hD.sub [31, 0, 32, 33, 1, 2, 3, 4, 5, 6, 7, 8, 9, 10, 11, 12, 13, 14, 15, 16, 17, 18, 19, 20, 21, 22, 23, 24, 34, 35, 25, 26, 27, 28, 29, 30] (by decide) rfl) hS (lv_sub hl [0, 1, 2, 3, 4] rfl)
end LD2
