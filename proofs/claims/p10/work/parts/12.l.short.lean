set_option maxHeartbeats 4000000 in
set_option maxRecDepth 100000 in
theorem L_Model_sayTried_50 {p : Program} {l : Launch} {e : Env} {s : State} {m : MethodId} {below : List Frame} {meth : Method} {c : Code} {dC : Nat → ClassId} {dI : Nat → Nat → Nat} {cI cB cJ : ClassId} {A : Nat → Prop} (h0 : Nat) (th : Int32) (we : Int32) (wm : Int32) (wy : Int32) (ra : Int32) (tA : Nat) (tn : Int32) (oA : Nat) (on : Int32) (rA : Nat) (fi : Int32) (la : Int32) (wA : Nat) (wf : Int32) (wl : Int32) (lo : Int32) (ov : Int32) (un : Int32) (aT : Int32) (mi : Int32) (ds : Int32) (dA : Nat) (a0 : Int32) (xp : Int32) (iA : Nat) (te : Int32) (fo : Nat → Int32) (ft : Nat → Int32) (w : List Nat) (x : Int32) (nn : Nat) (tv : Int) (C0 : cx dC dI cI cB cJ R_Model b_Model_sayTried 4 none p s m ([.ref h0, .int x] : List Value).toArray meth c) (hA : ∀ q : Nat, s.heap.size ≤ q → A q) (hT : TL fo on w) (hwl : w.length ≤ 1) (hnn : x.toInt = (nn : Int)) (hn1 : 1 ≤ nn) (hn99 : nn ≤ 99) (hdg : ∀ j, j < nn → 0 ≤ (ft j).toInt ∧ (ft j).toInt ≤ 9) (hlast : nn = 1 ∨ ¬ (ft (nn - 1)).toInt = 0) (hte : te.toInt = tv) (htv : -99 ≤ tv ∧ tv ≤ 99) : ∀ n : Nat, (∀ (x3 : Int32) (c9 : Nat) (ko : Nat → Int32) (on1 : Int32) (wq : List Nat) (H : Heap) (locs : List Loc) (ls : Array Slot), nn - c9 < n → x3.toInt = ((1 + c9 : Nat) : Int) → x.toInt = (nn : Int) → (TL ko on1 (wq ++ dl ft 1 c9)) → (wq.length ≤ 3) → ((nn = 1 ∧ wq = w ++ dl ft 0 1) ∨ (1 < nn ∧ wq = w ++ dl ft 0 1 ++ [46])) → (c9 ≤ nn - 1) → va_P (dC, dI) vwCl [(h0, .inr (8, [.int th, .int we, .int wm, .int wy, .int ra, .ref tA, .int tn, .ref oA, .int on1, .ref rA, .int fi, .int la, .ref wA, .int wf, .int wl, .int lo, .int ov, .int un, .int aT, .int mi, .int ds, .ref dA, .int a0, .int xp, .ref iA, .int te])), (oA, .inl (cI, 300, .inl ko)), (iA, .inl (cI, 200, .inl ft))] H → va_D A [(h0, .inr (8, [.int th, .int we, .int wm, .int wy, .int ra, .ref tA, .int tn, .ref oA, .int on1, .ref rA, .int fi, .int la, .ref wA, .int wf, .int wl, .int lo, .int ov, .int un, .int aT, .int mi, .int ds, .ref dA, .int a0, .int xp, .ref iA, .int te])), (oA, .inl (cI, 300, .inl ko)), (iA, .inl (cI, 200, .inl ft))] → va_S A s.heap H locs → lv_has ls 4 [(3, .int x3), (2, .int x), (0, .ref h0)] → W p l e ({ frames := 1, cells := 0, slots := 0, locals := 21 } : Room) s m ([.ref h0, .int x] : List Value).toArray below meth c H locs 0 0 (MQ below (va_Qv (fun (u : (Nat → Int32) × (Int32)) => TL u.1 u.2 (w ++ (SAYd ft nn ++ expS tv))) (poG dC dI A (fun u : (Nat → Int32) × (Int32) => [(h0, .inr (8, [.int th, .int we, .int wm, .int wy, .int ra, .ref tA, .int tn, .ref oA, .int u.2, .ref rA, .int fi, .int la, .ref wA, .int wf, .int wl, .int lo, .int ov, .int un, .int aT, .int mi, .int ds, .ref dA, .int a0, .int xp, .ref iA, .int te])), (oA, .inl (cI, 300, .inl u.1)), (iA, .inl (cI, 200, .inl ft))])) A) ([.ref h0, .int x] : List Value).toArray s 0 0 A) (F0 m 50 ls [])) := by
  obtain ⟨hx, hb, hml, hown, hts, hr, hlocks, hK, hN⟩ := id C0
  intro n
  induction n with
  | zero => exact fun _ _ _ _ _ _ _ _ h0 _ _ _ _ _ _ _ _ _ _ => absurd h0 (Nat.not_lt_zero _)
  | succ n ih =>
    intro x3 c9 ko on1 wq H locs ls hn9 t_x3 t_x hTL hwq3 hwq hc9 hP hD hS hl
    have r_x3 := q_r32 x3
    have r_x := q_r32 x
    refine lv_iload_n hx hb d_Model_sayTried_50 rfl (lv_at hl 0 rfl) ?_
    refine lv_iload_n hx hb d_Model_sayTried_51 rfl (lv_at hl 1 rfl) ?_
    refine lv_icmp_ge (tgt := 74) hx hb d_Model_sayTried_52 (by decide) (fun b52 => ?_) (fun b52 => ?_)
    · skip
      rw [q_ile t_x t_x3] at b52
      refine lv_aload_n hx hb d_Model_sayTried_74 rfl (lv_at hl 2 rfl) ?_
      refine lv_bipush (v := 101) hx hb d_Model_sayTried_75 (by decide) ?_
      refine callV_v (wr := [(iA, .inl (cI, 200, .inl ft))]) C0 (c_Model_say l dC dI cI cB cJ (h0) (th) (we) (wm) (wy) (ra) (tA) (tn) (oA) (on1) (rA) (fi) (la) (wA) (wf) (wl) (lo) (ov) (un) (aT) (mi) (ds) (dA) (a0) (xp) (iA) (te) (ko) ((wq ++ dl ft 1 c9)) ((101 : Int32)) ((101 : Nat)) (by exact hTL) (by decide) (by simp only [List.length_append, List.length_singleton, dl_len]; omega)) (cwV 1 hts (gV m_712 m_713 m_39 m_55 m_714) rfl rfl rfl (by decide +kernel) ⟨Nat.le_of_ble_eq_true rfl, Nat.le_of_ble_eq_true rfl⟩) 8 rfl rfl 0 rfl hP hD hS hA [0, 1] [2] rfl rfl (by decide) (by decide) (by decide) rfl hl.1 rfl (Nat.le_of_ble_eq_true rfl) d_Model_sayTried_77 ⟨Nat.le_of_ble_eq_true rfl, Nat.le_of_ble_eq_true rfl⟩ (fun u77 H locs hw9 hP hD hS => ?_)
      obtain ⟨k77, on177⟩ := u77
      have h77 : TL k77 on177 ((wq ++ dl ft 1 c9) ++ [(101 : Nat)]) := hw9
      have hP : va_P (dC, dI) vwCl [(iA, .inl (cI, 200, .inl ft)), (h0, .inr (8, [.int th, .int we, .int wm, .int wy, .int ra, .ref tA, .int tn, .ref oA, .int on177, .ref rA, .int fi, .int la, .ref wA, .int wf, .int wl, .int lo, .int ov, .int un, .int aT, .int mi, .int ds, .ref dA, .int a0, .int xp, .ref iA, .int te])), (oA, .inl (cI, 300, .inl k77))] H := hP
      have hD : va_D A [(iA, .inl (cI, 200, .inl ft)), (h0, .inr (8, [.int th, .int we, .int wm, .int wy, .int ra, .ref tA, .int tn, .ref oA, .int on177, .ref rA, .int fi, .int la, .ref wA, .int wf, .int wl, .int lo, .int ov, .int un, .int aT, .int mi, .int ds, .ref dA, .int a0, .int xp, .ref iA, .int te])), (oA, .inl (cI, 300, .inl k77))] := hD
      refine lv_aload_n hx hb d_Model_sayTried_80 rfl (lv_at hl 2 rfl) ?_
      refine va_get (D := (dC, dI)) (ci := 8) (v := .int te) (C := R_Model) (T := F_Model) (N := 26) hx hb hts u_Model hown hK hP 1 rfl rfl 25 (by decide) (hts _ m_588) (fun _ h9 => h9) rfl d_Model_sayTried_81 ?_
      refine lv_if_ge (tgt := 93) hx hb d_Model_sayTried_84 (by decide) (fun b84 => ?_) (fun b84 => ?_)
      · skip
        rw [q_ile (show (0 : Int32).toInt = 0 by decide) hte] at b84
        obtain ⟨xa, hxa⟩ : ∃ xa : Nat, tv = (xa : Int) := ⟨tv.toNat, by omega⟩
        refine lv_aload_n hx hb d_Model_sayTried_93 rfl (lv_at hl 2 rfl) ?_
        refine va_get (D := (dC, dI)) (ci := 8) (v := .int te) (C := R_Model) (T := F_Model) (N := 26) hx hb hts u_Model hown hK hP 1 rfl rfl 25 (by decide) (hts _ m_588) (fun _ h9 => h9) rfl d_Model_sayTried_94 ?_
        refine lv_if_ge (tgt := 108) hx hb d_Model_sayTried_97 (by decide) (fun b97 => ?_) (fun b97 => ?_)
        · skip
          rw [q_ile (show (0 : Int32).toInt = 0 by decide) hte] at b97
          refine lv_aload_n hx hb d_Model_sayTried_108 rfl (lv_at hl 2 rfl) ?_
          refine va_get (D := (dC, dI)) (ci := 8) (v := .int te) (C := R_Model) (T := F_Model) (N := 26) hx hb hts u_Model hown hK hP 1 rfl rfl 25 (by decide) (hts _ m_588) (fun _ h9 => h9) rfl d_Model_sayTried_109 ?_
          refine lv_istore_n (lv' := [(3, .int te), (2, .int x), (0, .ref h0)]) hx hb d_Model_sayTried_112 rfl hl (by decide) rfl (fun ls hl => ?_)
          refine lv_iload_n hx hb d_Model_sayTried_113 rfl (lv_at hl 0 rfl) ?_
          refine lv_bipush (v := 9) hx hb d_Model_sayTried_114 (by decide) ?_
          refine lv_icmp_le (tgt := 130) hx hb d_Model_sayTried_116 (by decide) (fun b116 => ?_) (fun b116 => ?_)
          · skip
            rw [q_ile hte (show (9 : Int32).toInt = 9 by decide)] at b116
            refine lv_aload_n hx hb d_Model_sayTried_130 rfl (lv_at hl 2 rfl) ?_
            refine lv_bipush (v := 48) hx hb d_Model_sayTried_131 (by decide) ?_
            refine lv_iload_n hx hb d_Model_sayTried_133 rfl (lv_at hl 0 rfl) ?_
            refine lv_bipush (v := 10) hx hb d_Model_sayTried_134 (by decide) ?_
            refine lv_irem hx hb d_Model_sayTried_136 (by decide) ?_
            refine lv_topi (fun v136 e136 => ?_)
            have t136 : v136.toInt = ((xa % 10 : Nat) : Int) := by rw [e136]; first | exact (q_irem hte (show (10 : Int32).toInt = 10 by decide) (by omega)).trans (by omega) | exact (q_irem t104 (show (10 : Int32).toInt = 10 by decide) (by omega)).trans (by omega)
            refine lv_iadd hx hb d_Model_sayTried_137 ?_
            refine lv_topi (fun v137 e137 => ?_)
            have t137 : v137.toInt = 48 + (((xa % 10 : Nat) : Int)) := by rw [e137]; exact q_iadd (show (48 : Int32).toInt = 48 by decide) t136 (by omega)
            refine callV_v (wr := [(iA, .inl (cI, 200, .inl ft))]) C0 (c_Model_say l dC dI cI cB cJ (h0) (th) (we) (wm) (wy) (ra) (tA) (tn) (oA) (on177) (rA) (fi) (la) (wA) (wf) (wl) (lo) (ov) (un) (aT) (mi) (ds) (dA) (a0) (xp) (iA) (te) (k77) (((wq ++ dl ft 1 c9) ++ [101])) (v137) (48 + xa % 10) (by exact h77) (by exact t137.trans (by omega)) (by simp only [List.length_append, List.length_singleton, dl_len]; omega)) (cwV 1 hts (gV m_712 m_713 m_39 m_55 m_714) rfl rfl rfl (by decide +kernel) ⟨Nat.le_of_ble_eq_true rfl, Nat.le_of_ble_eq_true rfl⟩) 8 rfl rfl 0 rfl hP hD hS hA [1, 2] [0] rfl rfl (by decide) (by decide) (by decide) rfl hl.1 rfl (Nat.le_of_ble_eq_true rfl) d_Model_sayTried_138 ⟨Nat.le_of_ble_eq_true rfl, Nat.le_of_ble_eq_true rfl⟩ (fun u138 H locs hw9 hP hD hS => ?_)
            obtain ⟨k138, on1138⟩ := u138
            have h138 : TL k138 on1138 ((((wq ++ dl ft 1 c9) ++ [101])) ++ [(48 + xa % 10)]) := hw9
            have hP : va_P (dC, dI) vwCl [(iA, .inl (cI, 200, .inl ft)), (h0, .inr (8, [.int th, .int we, .int wm, .int wy, .int ra, .ref tA, .int tn, .ref oA, .int on1138, .ref rA, .int fi, .int la, .ref wA, .int wf, .int wl, .int lo, .int ov, .int un, .int aT, .int mi, .int ds, .ref dA, .int a0, .int xp, .ref iA, .int te])), (oA, .inl (cI, 300, .inl k138))] H := hP
            have hD : va_D A [(iA, .inl (cI, 200, .inl ft)), (h0, .inr (8, [.int th, .int we, .int wm, .int wy, .int ra, .ref tA, .int tn, .ref oA, .int on1138, .ref rA, .int fi, .int la, .ref wA, .int wf, .int wl, .int lo, .int ov, .int un, .int aT, .int mi, .int ds, .ref dA, .int a0, .int xp, .ref iA, .int te])), (oA, .inl (cI, 300, .inl k138))] := hD
            exact Cv.ret C0 (u := (k138, on1138)) (Nat.le_of_ble_eq_true rfl) (Nat.le_of_ble_eq_true rfl) (by show TL k138 on1138 (w ++ (SAYd ft nn ++ expS tv)); rw [← List.append_assoc, ← SAY_w hn1 hwq, hxa, ← say_p1 (by omega), show nn - 1 = c9 by omega]; exact h138) hP hD hS [1, 2, 0] (by decide) rfl d_Model_sayTried_141
          · skip
            rw [q_ile hte (show (9 : Int32).toInt = 9 by decide)] at b116
            refine lv_aload_n hx hb d_Model_sayTried_119 rfl (lv_at hl 2 rfl) ?_
            refine lv_bipush (v := 48) hx hb d_Model_sayTried_120 (by decide) ?_
            refine lv_iload_n hx hb d_Model_sayTried_122 rfl (lv_at hl 0 rfl) ?_
            refine lv_bipush (v := 10) hx hb d_Model_sayTried_123 (by decide) ?_
            refine lv_idiv hx hb d_Model_sayTried_125 (by decide) ?_
            refine lv_topi (fun v125 e125 => ?_)
            have t125 : v125.toInt = ((xa / 10 : Nat) : Int) := by rw [e125]; first | exact (q_idiv hte (show (10 : Int32).toInt = 10 by decide) (by omega)).trans (by omega) | exact (q_idiv t104 (show (10 : Int32).toInt = 10 by decide) (by omega)).trans (by omega)
            refine lv_iadd hx hb d_Model_sayTried_126 ?_
            refine lv_topi (fun v126 e126 => ?_)
            have t126 : v126.toInt = 48 + (((xa / 10 : Nat) : Int)) := by rw [e126]; exact q_iadd (show (48 : Int32).toInt = 48 by decide) t125 (by omega)
            refine callV_v (wr := [(iA, .inl (cI, 200, .inl ft))]) C0 (c_Model_say l dC dI cI cB cJ (h0) (th) (we) (wm) (wy) (ra) (tA) (tn) (oA) (on177) (rA) (fi) (la) (wA) (wf) (wl) (lo) (ov) (un) (aT) (mi) (ds) (dA) (a0) (xp) (iA) (te) (k77) (((wq ++ dl ft 1 c9) ++ [101])) (v126) (48 + xa / 10) (by exact h77) (by exact t126.trans (by omega)) (by simp only [List.length_append, List.length_singleton, dl_len]; omega)) (cwV 1 hts (gV m_712 m_713 m_39 m_55 m_714) rfl rfl rfl (by decide +kernel) ⟨Nat.le_of_ble_eq_true rfl, Nat.le_of_ble_eq_true rfl⟩) 8 rfl rfl 0 rfl hP hD hS hA [1, 2] [0] rfl rfl (by decide) (by decide) (by decide) rfl hl.1 rfl (Nat.le_of_ble_eq_true rfl) d_Model_sayTried_127 ⟨Nat.le_of_ble_eq_true rfl, Nat.le_of_ble_eq_true rfl⟩ (fun u127 H locs hw9 hP hD hS => ?_)
            obtain ⟨k127, on1127⟩ := u127
            have h127 : TL k127 on1127 ((((wq ++ dl ft 1 c9) ++ [101])) ++ [(48 + xa / 10)]) := hw9
            have hP : va_P (dC, dI) vwCl [(iA, .inl (cI, 200, .inl ft)), (h0, .inr (8, [.int th, .int we, .int wm, .int wy, .int ra, .ref tA, .int tn, .ref oA, .int on1127, .ref rA, .int fi, .int la, .ref wA, .int wf, .int wl, .int lo, .int ov, .int un, .int aT, .int mi, .int ds, .ref dA, .int a0, .int xp, .ref iA, .int te])), (oA, .inl (cI, 300, .inl k127))] H := hP
            have hD : va_D A [(iA, .inl (cI, 200, .inl ft)), (h0, .inr (8, [.int th, .int we, .int wm, .int wy, .int ra, .ref tA, .int tn, .ref oA, .int on1127, .ref rA, .int fi, .int la, .ref wA, .int wf, .int wl, .int lo, .int ov, .int un, .int aT, .int mi, .int ds, .ref dA, .int a0, .int xp, .ref iA, .int te])), (oA, .inl (cI, 300, .inl k127))] := hD
            refine lv_aload_n hx hb d_Model_sayTried_130 rfl (lv_at hl 2 rfl) ?_
            refine lv_bipush (v := 48) hx hb d_Model_sayTried_131 (by decide) ?_
            refine lv_iload_n hx hb d_Model_sayTried_133 rfl (lv_at hl 0 rfl) ?_
            refine lv_bipush (v := 10) hx hb d_Model_sayTried_134 (by decide) ?_
            refine lv_irem hx hb d_Model_sayTried_136 (by decide) ?_
            refine lv_topi (fun v136 e136 => ?_)
            have t136 : v136.toInt = ((xa % 10 : Nat) : Int) := by rw [e136]; first | exact (q_irem hte (show (10 : Int32).toInt = 10 by decide) (by omega)).trans (by omega) | exact (q_irem t104 (show (10 : Int32).toInt = 10 by decide) (by omega)).trans (by omega)
            refine lv_iadd hx hb d_Model_sayTried_137 ?_
            refine lv_topi (fun v137 e137 => ?_)
            have t137 : v137.toInt = 48 + (((xa % 10 : Nat) : Int)) := by rw [e137]; exact q_iadd (show (48 : Int32).toInt = 48 by decide) t136 (by omega)
            refine callV_v (wr := [(iA, .inl (cI, 200, .inl ft))]) C0 (c_Model_say l dC dI cI cB cJ (h0) (th) (we) (wm) (wy) (ra) (tA) (tn) (oA) (on1127) (rA) (fi) (la) (wA) (wf) (wl) (lo) (ov) (un) (aT) (mi) (ds) (dA) (a0) (xp) (iA) (te) (k127) ((((wq ++ dl ft 1 c9) ++ [101]) ++ [48 + xa / 10])) (v137) (48 + xa % 10) (by exact h127) (by exact t137.trans (by omega)) (by simp only [List.length_append, List.length_singleton, dl_len]; omega)) (cwV 1 hts (gV m_712 m_713 m_39 m_55 m_714) rfl rfl rfl (by decide +kernel) ⟨Nat.le_of_ble_eq_true rfl, Nat.le_of_ble_eq_true rfl⟩) 8 rfl rfl 0 rfl hP hD hS hA [1, 2] [0] rfl rfl (by decide) (by decide) (by decide) rfl hl.1 rfl (Nat.le_of_ble_eq_true rfl) d_Model_sayTried_138 ⟨Nat.le_of_ble_eq_true rfl, Nat.le_of_ble_eq_true rfl⟩ (fun u138 H locs hw9 hP hD hS => ?_)
            obtain ⟨k138, on1138⟩ := u138
            have h138 : TL k138 on1138 (((((wq ++ dl ft 1 c9) ++ [101]) ++ [48 + xa / 10])) ++ [(48 + xa % 10)]) := hw9
            have hP : va_P (dC, dI) vwCl [(iA, .inl (cI, 200, .inl ft)), (h0, .inr (8, [.int th, .int we, .int wm, .int wy, .int ra, .ref tA, .int tn, .ref oA, .int on1138, .ref rA, .int fi, .int la, .ref wA, .int wf, .int wl, .int lo, .int ov, .int un, .int aT, .int mi, .int ds, .ref dA, .int a0, .int xp, .ref iA, .int te])), (oA, .inl (cI, 300, .inl k138))] H := hP
            have hD : va_D A [(iA, .inl (cI, 200, .inl ft)), (h0, .inr (8, [.int th, .int we, .int wm, .int wy, .int ra, .ref tA, .int tn, .ref oA, .int on1138, .ref rA, .int fi, .int la, .ref wA, .int wf, .int wl, .int lo, .int ov, .int un, .int aT, .int mi, .int ds, .ref dA, .int a0, .int xp, .ref iA, .int te])), (oA, .inl (cI, 300, .inl k138))] := hD
            exact Cv.ret C0 (u := (k138, on1138)) (Nat.le_of_ble_eq_true rfl) (Nat.le_of_ble_eq_true rfl) (by show TL k138 on1138 (w ++ (SAYd ft nn ++ expS tv)); rw [← List.append_assoc, ← SAY_w hn1 hwq, hxa, ← say_p2 (by omega), show nn - 1 = c9 by omega]; exact h138) hP hD hS [1, 2, 0] (by decide) rfl d_Model_sayTried_141
        · skip
          rw [q_ile (show (0 : Int32).toInt = 0 by decide) hte] at b97
          exact absurd b97 (by omega)
      · skip
        rw [q_ile (show (0 : Int32).toInt = 0 by decide) hte] at b84
        obtain ⟨xa, hxa⟩ : ∃ xa : Nat, tv = -(xa : Int) := ⟨(-tv).toNat, by omega⟩
        refine lv_aload_n hx hb d_Model_sayTried_87 rfl (lv_at hl 2 rfl) ?_
        refine lv_bipush (v := 45) hx hb d_Model_sayTried_88 (by decide) ?_
        refine callV_v (wr := [(iA, .inl (cI, 200, .inl ft))]) C0 (c_Model_say l dC dI cI cB cJ (h0) (th) (we) (wm) (wy) (ra) (tA) (tn) (oA) (on177) (rA) (fi) (la) (wA) (wf) (wl) (lo) (ov) (un) (aT) (mi) (ds) (dA) (a0) (xp) (iA) (te) (k77) (((wq ++ dl ft 1 c9) ++ [101])) ((45 : Int32)) ((45 : Nat)) (by exact h77) (by decide) (by simp only [List.length_append, List.length_singleton, dl_len]; omega)) (cwV 1 hts (gV m_712 m_713 m_39 m_55 m_714) rfl rfl rfl (by decide +kernel) ⟨Nat.le_of_ble_eq_true rfl, Nat.le_of_ble_eq_true rfl⟩) 8 rfl rfl 0 rfl hP hD hS hA [1, 2] [0] rfl rfl (by decide) (by decide) (by decide) rfl hl.1 rfl (Nat.le_of_ble_eq_true rfl) d_Model_sayTried_90 ⟨Nat.le_of_ble_eq_true rfl, Nat.le_of_ble_eq_true rfl⟩ (fun u90 H locs hw9 hP hD hS => ?_)
        obtain ⟨k90, on190⟩ := u90
        have h90 : TL k90 on190 ((((wq ++ dl ft 1 c9) ++ [101])) ++ [(45 : Nat)]) := hw9
        have hP : va_P (dC, dI) vwCl [(iA, .inl (cI, 200, .inl ft)), (h0, .inr (8, [.int th, .int we, .int wm, .int wy, .int ra, .ref tA, .int tn, .ref oA, .int on190, .ref rA, .int fi, .int la, .ref wA, .int wf, .int wl, .int lo, .int ov, .int un, .int aT, .int mi, .int ds, .ref dA, .int a0, .int xp, .ref iA, .int te])), (oA, .inl (cI, 300, .inl k90))] H := hP
        have hD : va_D A [(iA, .inl (cI, 200, .inl ft)), (h0, .inr (8, [.int th, .int we, .int wm, .int wy, .int ra, .ref tA, .int tn, .ref oA, .int on190, .ref rA, .int fi, .int la, .ref wA, .int wf, .int wl, .int lo, .int ov, .int un, .int aT, .int mi, .int ds, .ref dA, .int a0, .int xp, .ref iA, .int te])), (oA, .inl (cI, 300, .inl k90))] := hD
        refine lv_aload_n hx hb d_Model_sayTried_93 rfl (lv_at hl 2 rfl) ?_
        refine va_get (D := (dC, dI)) (ci := 8) (v := .int te) (C := R_Model) (T := F_Model) (N := 26) hx hb hts u_Model hown hK hP 1 rfl rfl 25 (by decide) (hts _ m_588) (fun _ h9 => h9) rfl d_Model_sayTried_94 ?_
        refine lv_if_ge (tgt := 108) hx hb d_Model_sayTried_97 (by decide) (fun b97 => ?_) (fun b97 => ?_)
        · skip
          rw [q_ile (show (0 : Int32).toInt = 0 by decide) hte] at b97
          exact absurd b97 (by omega)
        · skip
          rw [q_ile (show (0 : Int32).toInt = 0 by decide) hte] at b97
          refine lv_aload_n hx hb d_Model_sayTried_100 rfl (lv_at hl 2 rfl) ?_
          refine va_get (D := (dC, dI)) (ci := 8) (v := .int te) (C := R_Model) (T := F_Model) (N := 26) hx hb hts u_Model hown hK hP 1 rfl rfl 25 (by decide) (hts _ m_588) (fun _ h9 => h9) rfl d_Model_sayTried_101 ?_
          refine lv_ineg hx hb d_Model_sayTried_104 ?_
          refine lv_topi (fun v104 e104 => ?_)
          have t104 : v104.toInt = -(tv) := by rw [e104]; exact q_ineg hte (by omega)
          refine lv_goto (tgt := 112) hx hb d_Model_sayTried_105 (by decide) ?_
          refine lv_istore_n (lv' := [(3, .int v104), (2, .int x), (0, .ref h0)]) hx hb d_Model_sayTried_112 rfl hl (by decide) rfl (fun ls hl => ?_)
          refine lv_iload_n hx hb d_Model_sayTried_113 rfl (lv_at hl 0 rfl) ?_
          refine lv_bipush (v := 9) hx hb d_Model_sayTried_114 (by decide) ?_
          refine lv_icmp_le (tgt := 130) hx hb d_Model_sayTried_116 (by decide) (fun b116 => ?_) (fun b116 => ?_)
          · skip
            rw [q_ile t104 (show (9 : Int32).toInt = 9 by decide)] at b116
            refine lv_aload_n hx hb d_Model_sayTried_130 rfl (lv_at hl 2 rfl) ?_
            refine lv_bipush (v := 48) hx hb d_Model_sayTried_131 (by decide) ?_
            refine lv_iload_n hx hb d_Model_sayTried_133 rfl (lv_at hl 0 rfl) ?_
            refine lv_bipush (v := 10) hx hb d_Model_sayTried_134 (by decide) ?_
            refine lv_irem hx hb d_Model_sayTried_136 (by decide) ?_
            refine lv_topi (fun v136 e136 => ?_)
            have t136 : v136.toInt = ((xa % 10 : Nat) : Int) := by rw [e136]; first | exact (q_irem hte (show (10 : Int32).toInt = 10 by decide) (by omega)).trans (by omega) | exact (q_irem t104 (show (10 : Int32).toInt = 10 by decide) (by omega)).trans (by omega)
            refine lv_iadd hx hb d_Model_sayTried_137 ?_
            refine lv_topi (fun v137 e137 => ?_)
            have t137 : v137.toInt = 48 + (((xa % 10 : Nat) : Int)) := by rw [e137]; exact q_iadd (show (48 : Int32).toInt = 48 by decide) t136 (by omega)
            refine callV_v (wr := [(iA, .inl (cI, 200, .inl ft))]) C0 (c_Model_say l dC dI cI cB cJ (h0) (th) (we) (wm) (wy) (ra) (tA) (tn) (oA) (on190) (rA) (fi) (la) (wA) (wf) (wl) (lo) (ov) (un) (aT) (mi) (ds) (dA) (a0) (xp) (iA) (te) (k90) ((((wq ++ dl ft 1 c9) ++ [101]) ++ [45])) (v137) (48 + xa % 10) (by exact h90) (by exact t137.trans (by omega)) (by simp only [List.length_append, List.length_singleton, dl_len]; omega)) (cwV 1 hts (gV m_712 m_713 m_39 m_55 m_714) rfl rfl rfl (by decide +kernel) ⟨Nat.le_of_ble_eq_true rfl, Nat.le_of_ble_eq_true rfl⟩) 8 rfl rfl 0 rfl hP hD hS hA [1, 2] [0] rfl rfl (by decide) (by decide) (by decide) rfl hl.1 rfl (Nat.le_of_ble_eq_true rfl) d_Model_sayTried_138 ⟨Nat.le_of_ble_eq_true rfl, Nat.le_of_ble_eq_true rfl⟩ (fun u138 H locs hw9 hP hD hS => ?_)
            obtain ⟨k138, on1138⟩ := u138
            have h138 : TL k138 on1138 (((((wq ++ dl ft 1 c9) ++ [101]) ++ [45])) ++ [(48 + xa % 10)]) := hw9
            have hP : va_P (dC, dI) vwCl [(iA, .inl (cI, 200, .inl ft)), (h0, .inr (8, [.int th, .int we, .int wm, .int wy, .int ra, .ref tA, .int tn, .ref oA, .int on1138, .ref rA, .int fi, .int la, .ref wA, .int wf, .int wl, .int lo, .int ov, .int un, .int aT, .int mi, .int ds, .ref dA, .int a0, .int xp, .ref iA, .int te])), (oA, .inl (cI, 300, .inl k138))] H := hP
            have hD : va_D A [(iA, .inl (cI, 200, .inl ft)), (h0, .inr (8, [.int th, .int we, .int wm, .int wy, .int ra, .ref tA, .int tn, .ref oA, .int on1138, .ref rA, .int fi, .int la, .ref wA, .int wf, .int wl, .int lo, .int ov, .int un, .int aT, .int mi, .int ds, .ref dA, .int a0, .int xp, .ref iA, .int te])), (oA, .inl (cI, 300, .inl k138))] := hD
            exact Cv.ret C0 (u := (k138, on1138)) (Nat.le_of_ble_eq_true rfl) (Nat.le_of_ble_eq_true rfl) (by show TL k138 on1138 (w ++ (SAYd ft nn ++ expS tv)); rw [← List.append_assoc, ← SAY_w hn1 hwq, hxa, ← say_n1 (by omega) (by omega), show nn - 1 = c9 by omega]; exact h138) hP hD hS [1, 2, 0] (by decide) rfl d_Model_sayTried_141
          · skip
            rw [q_ile t104 (show (9 : Int32).toInt = 9 by decide)] at b116
            refine lv_aload_n hx hb d_Model_sayTried_119 rfl (lv_at hl 2 rfl) ?_
            refine lv_bipush (v := 48) hx hb d_Model_sayTried_120 (by decide) ?_
            refine lv_iload_n hx hb d_Model_sayTried_122 rfl (lv_at hl 0 rfl) ?_
            refine lv_bipush (v := 10) hx hb d_Model_sayTried_123 (by decide) ?_
            refine lv_idiv hx hb d_Model_sayTried_125 (by decide) ?_
            refine lv_topi (fun v125 e125 => ?_)
            have t125 : v125.toInt = ((xa / 10 : Nat) : Int) := by rw [e125]; first | exact (q_idiv hte (show (10 : Int32).toInt = 10 by decide) (by omega)).trans (by omega) | exact (q_idiv t104 (show (10 : Int32).toInt = 10 by decide) (by omega)).trans (by omega)
            refine lv_iadd hx hb d_Model_sayTried_126 ?_
            refine lv_topi (fun v126 e126 => ?_)
            have t126 : v126.toInt = 48 + (((xa / 10 : Nat) : Int)) := by rw [e126]; exact q_iadd (show (48 : Int32).toInt = 48 by decide) t125 (by omega)
            refine callV_v (wr := [(iA, .inl (cI, 200, .inl ft))]) C0 (c_Model_say l dC dI cI cB cJ (h0) (th) (we) (wm) (wy) (ra) (tA) (tn) (oA) (on190) (rA) (fi) (la) (wA) (wf) (wl) (lo) (ov) (un) (aT) (mi) (ds) (dA) (a0) (xp) (iA) (te) (k90) ((((wq ++ dl ft 1 c9) ++ [101]) ++ [45])) (v126) (48 + xa / 10) (by exact h90) (by exact t126.trans (by omega)) (by simp only [List.length_append, List.length_singleton, dl_len]; omega)) (cwV 1 hts (gV m_712 m_713 m_39 m_55 m_714) rfl rfl rfl (by decide +kernel) ⟨Nat.le_of_ble_eq_true rfl, Nat.le_of_ble_eq_true rfl⟩) 8 rfl rfl 0 rfl hP hD hS hA [1, 2] [0] rfl rfl (by decide) (by decide) (by decide) rfl hl.1 rfl (Nat.le_of_ble_eq_true rfl) d_Model_sayTried_127 ⟨Nat.le_of_ble_eq_true rfl, Nat.le_of_ble_eq_true rfl⟩ (fun u127 H locs hw9 hP hD hS => ?_)
            obtain ⟨k127, on1127⟩ := u127
            have h127 : TL k127 on1127 (((((wq ++ dl ft 1 c9) ++ [101]) ++ [45])) ++ [(48 + xa / 10)]) := hw9
            have hP : va_P (dC, dI) vwCl [(iA, .inl (cI, 200, .inl ft)), (h0, .inr (8, [.int th, .int we, .int wm, .int wy, .int ra, .ref tA, .int tn, .ref oA, .int on1127, .ref rA, .int fi, .int la, .ref wA, .int wf, .int wl, .int lo, .int ov, .int un, .int aT, .int mi, .int ds, .ref dA, .int a0, .int xp, .ref iA, .int te])), (oA, .inl (cI, 300, .inl k127))] H := hP
            have hD : va_D A [(iA, .inl (cI, 200, .inl ft)), (h0, .inr (8, [.int th, .int we, .int wm, .int wy, .int ra, .ref tA, .int tn, .ref oA, .int on1127, .ref rA, .int fi, .int la, .ref wA, .int wf, .int wl, .int lo, .int ov, .int un, .int aT, .int mi, .int ds, .ref dA, .int a0, .int xp, .ref iA, .int te])), (oA, .inl (cI, 300, .inl k127))] := hD
            refine lv_aload_n hx hb d_Model_sayTried_130 rfl (lv_at hl 2 rfl) ?_
            refine lv_bipush (v := 48) hx hb d_Model_sayTried_131 (by decide) ?_
            refine lv_iload_n hx hb d_Model_sayTried_133 rfl (lv_at hl 0 rfl) ?_
            refine lv_bipush (v := 10) hx hb d_Model_sayTried_134 (by decide) ?_
            refine lv_irem hx hb d_Model_sayTried_136 (by decide) ?_
            refine lv_topi (fun v136 e136 => ?_)
            have t136 : v136.toInt = ((xa % 10 : Nat) : Int) := by rw [e136]; first | exact (q_irem hte (show (10 : Int32).toInt = 10 by decide) (by omega)).trans (by omega) | exact (q_irem t104 (show (10 : Int32).toInt = 10 by decide) (by omega)).trans (by omega)
            refine lv_iadd hx hb d_Model_sayTried_137 ?_
            refine lv_topi (fun v137 e137 => ?_)
            have t137 : v137.toInt = 48 + (((xa % 10 : Nat) : Int)) := by rw [e137]; exact q_iadd (show (48 : Int32).toInt = 48 by decide) t136 (by omega)
            refine callV_v (wr := [(iA, .inl (cI, 200, .inl ft))]) C0 (c_Model_say l dC dI cI cB cJ (h0) (th) (we) (wm) (wy) (ra) (tA) (tn) (oA) (on1127) (rA) (fi) (la) (wA) (wf) (wl) (lo) (ov) (un) (aT) (mi) (ds) (dA) (a0) (xp) (iA) (te) (k127) (((((wq ++ dl ft 1 c9) ++ [101]) ++ [45]) ++ [48 + xa / 10])) (v137) (48 + xa % 10) (by exact h127) (by exact t137.trans (by omega)) (by simp only [List.length_append, List.length_singleton, dl_len]; omega)) (cwV 1 hts (gV m_712 m_713 m_39 m_55 m_714) rfl rfl rfl (by decide +kernel) ⟨Nat.le_of_ble_eq_true rfl, Nat.le_of_ble_eq_true rfl⟩) 8 rfl rfl 0 rfl hP hD hS hA [1, 2] [0] rfl rfl (by decide) (by decide) (by decide) rfl hl.1 rfl (Nat.le_of_ble_eq_true rfl) d_Model_sayTried_138 ⟨Nat.le_of_ble_eq_true rfl, Nat.le_of_ble_eq_true rfl⟩ (fun u138 H locs hw9 hP hD hS => ?_)
            obtain ⟨k138, on1138⟩ := u138
            have h138 : TL k138 on1138 ((((((wq ++ dl ft 1 c9) ++ [101]) ++ [45]) ++ [48 + xa / 10])) ++ [(48 + xa % 10)]) := hw9
            have hP : va_P (dC, dI) vwCl [(iA, .inl (cI, 200, .inl ft)), (h0, .inr (8, [.int th, .int we, .int wm, .int wy, .int ra, .ref tA, .int tn, .ref oA, .int on1138, .ref rA, .int fi, .int la, .ref wA, .int wf, .int wl, .int lo, .int ov, .int un, .int aT, .int mi, .int ds, .ref dA, .int a0, .int xp, .ref iA, .int te])), (oA, .inl (cI, 300, .inl k138))] H := hP
            have hD : va_D A [(iA, .inl (cI, 200, .inl ft)), (h0, .inr (8, [.int th, .int we, .int wm, .int wy, .int ra, .ref tA, .int tn, .ref oA, .int on1138, .ref rA, .int fi, .int la, .ref wA, .int wf, .int wl, .int lo, .int ov, .int un, .int aT, .int mi, .int ds, .ref dA, .int a0, .int xp, .ref iA, .int te])), (oA, .inl (cI, 300, .inl k138))] := hD
            exact Cv.ret C0 (u := (k138, on1138)) (Nat.le_of_ble_eq_true rfl) (Nat.le_of_ble_eq_true rfl) (by show TL k138 on1138 (w ++ (SAYd ft nn ++ expS tv)); rw [← List.append_assoc, ← SAY_w hn1 hwq, hxa, ← say_n2 (by omega) (by omega), show nn - 1 = c9 by omega]; exact h138) hP hD hS [1, 2, 0] (by decide) rfl d_Model_sayTried_141
    · skip
      rw [q_ile t_x t_x3] at b52
      have hd1 := hdg (1 + c9) (by omega)
      have hd11 := rdg_i hd1.1
      refine lv_aload_n hx hb d_Model_sayTried_55 rfl (lv_at hl 2 rfl) ?_
      refine lv_bipush (v := 48) hx hb d_Model_sayTried_56 (by decide) ?_
      refine lv_aload_n hx hb d_Model_sayTried_58 rfl (lv_at hl 2 rfl) ?_
      refine va_get (D := (dC, dI)) (ci := 8) (v := .ref iA) (C := R_Model) (T := F_Model) (N := 26) hx hb hts u_Model hown hK hP 0 rfl rfl 24 (by decide) (hts _ m_587) (fun _ h9 => h9) rfl d_Model_sayTried_59 ?_
      refine lv_iload_n hx hb d_Model_sayTried_62 rfl (lv_at hl 0 rfl) ?_
      refine va_iald hx hb hK hP 2 0 rfl rfl (q_in t_x3 (by omega)) d_Model_sayTried_63 ?_
      refine lv_topi (fun v63 e63 => ?_)
      rw [q_cl (k := 1 + c9) (t_x3)] at e63
      have t63 : v63.toInt = (rdg ft (1 + c9) : Int) := by rw [e63]; exact rdg_i (hdg _ (by omega)).1
      refine lv_iadd hx hb d_Model_sayTried_64 ?_
      refine lv_topi (fun v64 e64 => ?_)
      have t64 : v64.toInt = 48 + ((rdg ft (1 + c9) : Int)) := by rw [e64]; exact q_iadd (show (48 : Int32).toInt = 48 by decide) t63 (by omega)
      refine callV_v (wr := [(iA, .inl (cI, 200, .inl ft))]) C0 (c_Model_say l dC dI cI cB cJ (h0) (th) (we) (wm) (wy) (ra) (tA) (tn) (oA) (on1) (rA) (fi) (la) (wA) (wf) (wl) (lo) (ov) (un) (aT) (mi) (ds) (dA) (a0) (xp) (iA) (te) (ko) ((wq ++ dl ft 1 c9)) (v64) (48 + rdg ft (1 + c9)) (by exact hTL) (by exact t64.trans (by omega)) (by simp only [List.length_append, List.length_singleton, dl_len]; omega)) (cwV 1 hts (gV m_712 m_713 m_39 m_55 m_714) rfl rfl rfl (by decide +kernel) ⟨Nat.le_of_ble_eq_true rfl, Nat.le_of_ble_eq_true rfl⟩) 8 rfl rfl 0 rfl hP hD hS hA [0, 1] [2] rfl rfl (by decide) (by decide) (by decide) rfl hl.1 rfl (Nat.le_of_ble_eq_true rfl) d_Model_sayTried_65 ⟨Nat.le_of_ble_eq_true rfl, Nat.le_of_ble_eq_true rfl⟩ (fun u65 H locs hw9 hP hD hS => ?_)
      obtain ⟨k65, on165⟩ := u65
      have h65 : TL k65 on165 ((wq ++ dl ft 1 c9) ++ [(48 + rdg ft (1 + c9))]) := hw9
      have hP : va_P (dC, dI) vwCl [(iA, .inl (cI, 200, .inl ft)), (h0, .inr (8, [.int th, .int we, .int wm, .int wy, .int ra, .ref tA, .int tn, .ref oA, .int on165, .ref rA, .int fi, .int la, .ref wA, .int wf, .int wl, .int lo, .int ov, .int un, .int aT, .int mi, .int ds, .ref dA, .int a0, .int xp, .ref iA, .int te])), (oA, .inl (cI, 300, .inl k65))] H := hP
      have hD : va_D A [(iA, .inl (cI, 200, .inl ft)), (h0, .inr (8, [.int th, .int we, .int wm, .int wy, .int ra, .ref tA, .int tn, .ref oA, .int on165, .ref rA, .int fi, .int la, .ref wA, .int wf, .int wl, .int lo, .int ov, .int un, .int aT, .int mi, .int ds, .ref dA, .int a0, .int xp, .ref iA, .int te])), (oA, .inl (cI, 300, .inl k65))] := hD
      obtain ⟨v68, e68⟩ : ∃ y : Int32, y = x3 + 1 := ⟨_, rfl⟩
      have t68 : v68.toInt = ((1 + c9 : Nat) : Int) + 1 := by rw [e68]; exact q_iadd t_x3 (show (1 : Int32).toInt = 1 by decide) (by omega)
      refine lv_iinc (v := v68) (lv' := [(3, .int v68), (2, .int x), (0, .ref h0)]) hx hb d_Model_sayTried_68 hl (k := 0) rfl (by rw [e68]; rfl) (by decide) rfl (fun ls hl => ?_)
      refine lv_goto (tgt := 50) hx hb d_Model_sayTried_71 (by decide) ?_
      exact ih (v68) (c9 + 1) (k65) (on165) (wq) H locs ls (by omega) ((t68).trans (by omega)) ((t_x).trans (by omega)) (by rw [show dl ft 1 (c9 + 1) = dl ft 1 c9 ++ [48 + rdg ft (1 + c9)] from rfl, ← List.append_assoc]; exact h65) (by exact hwq3) (by exact hwq) (by omega) (va_Psub hP [1, 2, 0] rfl) (hD.sub [1, 2, 0] (by decide) rfl) hS (lv_sub hl [0, 1, 2] rfl)
set_option maxHeartbeats 4000000 in
set_option maxRecDepth 100000 in
theorem L_Model_sayTried_24 {p : Program} {l : Launch} {e : Env} {s : State} {m : MethodId} {below : List Frame} {meth : Method} {c : Code} {dC : Nat → ClassId} {dI : Nat → Nat → Nat} {cI cB cJ : ClassId} {A : Nat → Prop} (h0 : Nat) (th : Int32) (we : Int32) (wm : Int32) (wy : Int32) (ra : Int32) (tA : Nat) (tn : Int32) (oA : Nat) (on : Int32) (rA : Nat) (fi : Int32) (la : Int32) (wA : Nat) (wf : Int32) (wl : Int32) (lo : Int32) (ov : Int32) (un : Int32) (aT : Int32) (mi : Int32) (ds : Int32) (dA : Nat) (a0 : Int32) (xp : Int32) (iA : Nat) (te : Int32) (fo : Nat → Int32) (ft : Nat → Int32) (w : List Nat) (x : Int32) (nn : Nat) (tv : Int) (C0 : cx dC dI cI cB cJ R_Model b_Model_sayTried 4 none p s m ([.ref h0, .int x] : List Value).toArray meth c) (hA : ∀ q : Nat, s.heap.size ≤ q → A q) (hT : TL fo on w) (hwl : w.length ≤ 1) (hnn : x.toInt = (nn : Int)) (hn1 : 1 ≤ nn) (hn99 : nn ≤ 99) (hdg : ∀ j, j < nn → 0 ≤ (ft j).toInt ∧ (ft j).toInt ≤ 9) (hlast : nn = 1 ∨ ¬ (ft (nn - 1)).toInt = 0) (hte : te.toInt = tv) (htv : -99 ≤ tv ∧ tv ≤ 99) : (∀  (H : Heap) (locs : List Loc) (ls : Array Slot), x.toInt = (nn : Int) → va_P (dC, dI) vwCl [(h0, .inr (8, [.int th, .int we, .int wm, .int wy, .int ra, .ref tA, .int tn, .ref oA, .int on, .ref rA, .int fi, .int la, .ref wA, .int wf, .int wl, .int lo, .int ov, .int un, .int aT, .int mi, .int ds, .ref dA, .int a0, .int xp, .ref iA, .int te])), (oA, .inl (cI, 300, .inl fo)), (iA, .inl (cI, 200, .inl ft))] H → va_D A [(h0, .inr (8, [.int th, .int we, .int wm, .int wy, .int ra, .ref tA, .int tn, .ref oA, .int on, .ref rA, .int fi, .int la, .ref wA, .int wf, .int wl, .int lo, .int ov, .int un, .int aT, .int mi, .int ds, .ref dA, .int a0, .int xp, .ref iA, .int te])), (oA, .inl (cI, 300, .inl fo)), (iA, .inl (cI, 200, .inl ft))] → va_S A s.heap H locs → lv_has ls 4 [(2, .int x), (0, .ref h0)] → W p l e ({ frames := 1, cells := 0, slots := 0, locals := 21 } : Room) s m ([.ref h0, .int x] : List Value).toArray below meth c H locs 0 0 (MQ below (va_Qv (fun (u : (Nat → Int32) × (Int32)) => TL u.1 u.2 (w ++ (SAYd ft nn ++ expS tv))) (poG dC dI A (fun u : (Nat → Int32) × (Int32) => [(h0, .inr (8, [.int th, .int we, .int wm, .int wy, .int ra, .ref tA, .int tn, .ref oA, .int u.2, .ref rA, .int fi, .int la, .ref wA, .int wf, .int wl, .int lo, .int ov, .int un, .int aT, .int mi, .int ds, .ref dA, .int a0, .int xp, .ref iA, .int te])), (oA, .inl (cI, 300, .inl u.1)), (iA, .inl (cI, 200, .inl ft))])) A) ([.ref h0, .int x] : List Value).toArray s 0 0 A) (F0 m 24 ls [])) := by
  obtain ⟨hx, hb, hml, hown, hts, hr, hlocks, hK, hN⟩ := id C0
  intro  H locs ls t_x hP hD hS hl
  have r_x := q_r32 x
  have hd0 := hdg 0 (by omega)
  have hd00 := rdg_i hd0.1
  refine lv_aload_n hx hb d_Model_sayTried_24 rfl (lv_at hl 1 rfl) ?_
  refine lv_bipush (v := 48) hx hb d_Model_sayTried_25 (by decide) ?_
  refine lv_aload_n hx hb d_Model_sayTried_27 rfl (lv_at hl 1 rfl) ?_
  refine va_get (D := (dC, dI)) (ci := 8) (v := .ref iA) (C := R_Model) (T := F_Model) (N := 26) hx hb hts u_Model hown hK hP 0 rfl rfl 24 (by decide) (hts _ m_587) (fun _ h9 => h9) rfl d_Model_sayTried_28 ?_
  refine lv_iconst (v := 0) hx hb d_Model_sayTried_31 (by decide) ?_
  refine va_iald hx hb hK hP 2 0 rfl rfl (q_in (show (0 : Int32).toInt = 0 by decide) (by omega)) d_Model_sayTried_32 ?_
  refine lv_topi (fun v32 e32 => ?_)
  rw [q_cl (k := 0) ((show (0 : Int32).toInt = 0 by decide))] at e32
  have t32 : v32.toInt = (rdg ft 0 : Int) := by rw [e32]; exact rdg_i (hdg 0 (by omega)).1
  refine lv_iadd hx hb d_Model_sayTried_33 ?_
  refine lv_topi (fun v33 e33 => ?_)
  have t33 : v33.toInt = 48 + (rdg ft 0 : Int) := by rw [e33]; exact q_iadd (show (48 : Int32).toInt = 48 by decide) t32 (by omega)
  refine callV_v (wr := [(iA, .inl (cI, 200, .inl ft))]) C0 (c_Model_say l dC dI cI cB cJ (h0) (th) (we) (wm) (wy) (ra) (tA) (tn) (oA) (on) (rA) (fi) (la) (wA) (wf) (wl) (lo) (ov) (un) (aT) (mi) (ds) (dA) (a0) (xp) (iA) (te) (fo) (w) (v33) (48 + rdg ft 0) (by exact hT) (by exact t33.trans (by omega)) (by omega)) (cwV 1 hts (gV m_712 m_713 m_39 m_55 m_714) rfl rfl rfl (by decide +kernel) ⟨Nat.le_of_ble_eq_true rfl, Nat.le_of_ble_eq_true rfl⟩) 8 rfl rfl 0 rfl hP hD hS hA [0, 1] [2] rfl rfl (by decide) (by decide) (by decide) rfl hl.1 rfl (Nat.le_of_ble_eq_true rfl) d_Model_sayTried_34 ⟨Nat.le_of_ble_eq_true rfl, Nat.le_of_ble_eq_true rfl⟩ (fun u34 H locs hw9 hP hD hS => ?_)
  obtain ⟨k34, on134⟩ := u34
  have h34 : TL k34 on134 (w ++ [(48 + rdg ft 0)]) := hw9
  have hP : va_P (dC, dI) vwCl [(iA, .inl (cI, 200, .inl ft)), (h0, .inr (8, [.int th, .int we, .int wm, .int wy, .int ra, .ref tA, .int tn, .ref oA, .int on134, .ref rA, .int fi, .int la, .ref wA, .int wf, .int wl, .int lo, .int ov, .int un, .int aT, .int mi, .int ds, .ref dA, .int a0, .int xp, .ref iA, .int te])), (oA, .inl (cI, 300, .inl k34))] H := hP
  have hD : va_D A [(iA, .inl (cI, 200, .inl ft)), (h0, .inr (8, [.int th, .int we, .int wm, .int wy, .int ra, .ref tA, .int tn, .ref oA, .int on134, .ref rA, .int fi, .int la, .ref wA, .int wf, .int wl, .int lo, .int ov, .int un, .int aT, .int mi, .int ds, .ref dA, .int a0, .int xp, .ref iA, .int te])), (oA, .inl (cI, 300, .inl k34))] := hD
  refine lv_iload_n hx hb d_Model_sayTried_37 rfl (lv_at hl 0 rfl) ?_
  refine lv_iconst (v := 1) hx hb d_Model_sayTried_38 (by decide) ?_
  refine lv_icmp_le (tgt := 48) hx hb d_Model_sayTried_39 (by decide) (fun b39 => ?_) (fun b39 => ?_)
  · skip
    rw [q_ile t_x (show (1 : Int32).toInt = 1 by decide)] at b39
    refine lv_iconst (v := 1) hx hb d_Model_sayTried_48 (by decide) ?_
    refine lv_istore_n (lv' := [(3, .int 1), (2, .int x), (0, .ref h0)]) hx hb d_Model_sayTried_49 rfl hl (by decide) rfl (fun ls hl => ?_)
    exact L_Model_sayTried_50 (h0) (th) (we) (wm) (wy) (ra) (tA) (tn) (oA) (on) (rA) (fi) (la) (wA) (wf) (wl) (lo) (ov) (un) (aT) (mi) (ds) (dA) (a0) (xp) (iA) (te) (fo) (ft) (w) (x) (nn) (tv) C0 hA (hT) (hwl) (hnn) (hn1) (hn99) (hdg) (hlast) (hte) (htv) _ (1) (0) (k34) (on134) (w ++ dl ft 0 1) H locs ls (Nat.lt_succ_self _) (((show (1 : Int32).toInt = 1 by decide)).trans (by omega)) ((t_x).trans (by omega)) (by exact (List.append_nil (w ++ dl ft 0 1)).symm ▸ h34) (by simp only [List.length_append, List.length_singleton, dl_len]; omega) (by exact Or.inl ⟨by omega, rfl⟩) (by omega) (va_Psub hP [1, 2, 0] rfl) (hD.sub [1, 2, 0] (by decide) rfl) hS (lv_sub hl [0, 1, 2] rfl)
  · skip
    rw [q_ile t_x (show (1 : Int32).toInt = 1 by decide)] at b39
    refine lv_aload_n hx hb d_Model_sayTried_42 rfl (lv_at hl 1 rfl) ?_
    refine lv_bipush (v := 46) hx hb d_Model_sayTried_43 (by decide) ?_
    refine callV_v (wr := [(iA, .inl (cI, 200, .inl ft))]) C0 (c_Model_say l dC dI cI cB cJ (h0) (th) (we) (wm) (wy) (ra) (tA) (tn) (oA) (on134) (rA) (fi) (la) (wA) (wf) (wl) (lo) (ov) (un) (aT) (mi) (ds) (dA) (a0) (xp) (iA) (te) (k34) ((w ++ [48 + rdg ft 0])) ((46 : Int32)) ((46 : Nat)) (by exact h34) (by decide) (by simp only [List.length_append, List.length_singleton, dl_len]; omega)) (cwV 1 hts (gV m_712 m_713 m_39 m_55 m_714) rfl rfl rfl (by decide +kernel) ⟨Nat.le_of_ble_eq_true rfl, Nat.le_of_ble_eq_true rfl⟩) 8 rfl rfl 0 rfl hP hD hS hA [1, 2] [0] rfl rfl (by decide) (by decide) (by decide) rfl hl.1 rfl (Nat.le_of_ble_eq_true rfl) d_Model_sayTried_45 ⟨Nat.le_of_ble_eq_true rfl, Nat.le_of_ble_eq_true rfl⟩ (fun u45 H locs hw9 hP hD hS => ?_)
    obtain ⟨k45, on145⟩ := u45
    have h45 : TL k45 on145 ((w ++ [48 + rdg ft 0]) ++ [(46 : Nat)]) := hw9
    have hP : va_P (dC, dI) vwCl [(iA, .inl (cI, 200, .inl ft)), (h0, .inr (8, [.int th, .int we, .int wm, .int wy, .int ra, .ref tA, .int tn, .ref oA, .int on145, .ref rA, .int fi, .int la, .ref wA, .int wf, .int wl, .int lo, .int ov, .int un, .int aT, .int mi, .int ds, .ref dA, .int a0, .int xp, .ref iA, .int te])), (oA, .inl (cI, 300, .inl k45))] H := hP
    have hD : va_D A [(iA, .inl (cI, 200, .inl ft)), (h0, .inr (8, [.int th, .int we, .int wm, .int wy, .int ra, .ref tA, .int tn, .ref oA, .int on145, .ref rA, .int fi, .int la, .ref wA, .int wf, .int wl, .int lo, .int ov, .int un, .int aT, .int mi, .int ds, .ref dA, .int a0, .int xp, .ref iA, .int te])), (oA, .inl (cI, 300, .inl k45))] := hD
    refine lv_iconst (v := 1) hx hb d_Model_sayTried_48 (by decide) ?_
    refine lv_istore_n (lv' := [(3, .int 1), (2, .int x), (0, .ref h0)]) hx hb d_Model_sayTried_49 rfl hl (by decide) rfl (fun ls hl => ?_)
    exact L_Model_sayTried_50 (h0) (th) (we) (wm) (wy) (ra) (tA) (tn) (oA) (on) (rA) (fi) (la) (wA) (wf) (wl) (lo) (ov) (un) (aT) (mi) (ds) (dA) (a0) (xp) (iA) (te) (fo) (ft) (w) (x) (nn) (tv) C0 hA (hT) (hwl) (hnn) (hn1) (hn99) (hdg) (hlast) (hte) (htv) _ (1) (0) (k45) (on145) (w ++ dl ft 0 1 ++ [46]) H locs ls (Nat.lt_succ_self _) (((show (1 : Int32).toInt = 1 by decide)).trans (by omega)) ((t_x).trans (by omega)) (by exact (List.append_nil (w ++ dl ft 0 1 ++ [46])).symm ▸ h45) (by simp only [List.length_append, List.length_singleton, dl_len]; omega) (by exact Or.inr ⟨by omega, rfl⟩) (by omega) (va_Psub hP [1, 2, 0] rfl) (hD.sub [1, 2, 0] (by decide) rfl) hS (lv_sub hl [0, 1, 2] rfl)
set_option maxHeartbeats 4000000 in
set_option maxRecDepth 100000 in
theorem c_Model_sayTried (l : Launch) (dC : Nat → ClassId) (dI : Nat → Nat → Nat) (cI cB cJ : ClassId) (h0 : Nat) (th : Int32) (we : Int32) (wm : Int32) (wy : Int32) (ra : Int32) (tA : Nat) (tn : Int32) (oA : Nat) (on : Int32) (rA : Nat) (fi : Int32) (la : Int32) (wA : Nat) (wf : Int32) (wl : Int32) (lo : Int32) (ov : Int32) (un : Int32) (aT : Int32) (mi : Int32) (ds : Int32) (dA : Nat) (a0 : Int32) (xp : Int32) (iA : Nat) (te : Int32) (fo : Nat → Int32) (ft : Nat → Int32) (w : List Nat) (x : Int32) (nn : Nat) (tv : Int) (hT : TL fo on w) (hwl : w.length ≤ 1) (hnn : x.toInt = (nn : Int)) (hn1 : 1 ≤ nn) (hn99 : nn ≤ 99) (hdg : ∀ j, j < nn → 0 ≤ (ft j).toInt ∧ (ft j).toInt ≤ 9) (hlast : nn = 1 ∨ ¬ (ft (nn - 1)).toInt = 0) (hte : te.toInt = tv) (htv : -99 ≤ tv ∧ tv ≤ 99) : Cv l dC dI cI cB cJ y_Model_sayTried w_Model_sayTried ({ frames := 1, cells := 0, slots := 0, locals := 21 } : Room) [.ref h0, .int x] [(h0, .inr (8, [.int th, .int we, .int wm, .int wy, .int ra, .ref tA, .int tn, .ref oA, .int on, .ref rA, .int fi, .int la, .ref wA, .int wf, .int wl, .int lo, .int ov, .int un, .int aT, .int mi, .int ds, .ref dA, .int a0, .int xp, .ref iA, .int te])), (oA, .inl (cI, 300, .inl fo)), (iA, .inl (cI, 200, .inl ft))] (fun (u : (Nat → Int32) × (Int32)) => TL u.1 u.2 (w ++ (SAYd ft nn ++ expS tv))) (fun u : (Nat → Int32) × (Int32) => [(h0, .inr (8, [.int th, .int we, .int wm, .int wy, .int ra, .ref tA, .int tn, .ref oA, .int u.2, .ref rA, .int fi, .int la, .ref wA, .int wf, .int wl, .int lo, .int ov, .int un, .int aT, .int mi, .int ds, .ref dA, .int a0, .int xp, .ref iA, .int te])), (oA, .inl (cI, 300, .inl u.1)), (iA, .inl (cI, 200, .inl ft))]) := by
  refine Cv.intro (cc := b_Model_sayTried) (maxL := 4) (plainFor_of_name (by decide)) rfl (Nat.le_of_ble_eq_true rfl) ?_
  intro p e s m below meth c A ls C0 hin hA hP hD hS hl
  obtain ⟨hx, hb, hml, hown, hts, hr, hlocks, hK, hN⟩ := id C0
  obtain ⟨H, hH⟩ : ∃ H, H = s.heap := ⟨_, rfl⟩
  have hP : va_P (dC, dI) vwCl [(h0, .inr (8, [.int th, .int we, .int wm, .int wy, .int ra, .ref tA, .int tn, .ref oA, .int on, .ref rA, .int fi, .int la, .ref wA, .int wf, .int wl, .int lo, .int ov, .int un, .int aT, .int mi, .int ds, .ref dA, .int a0, .int xp, .ref iA, .int te])), (oA, .inl (cI, 300, .inl fo)), (iA, .inl (cI, 200, .inl ft))] s.heap := hP
  have hl : lv_has ls 4 [(0, .ref h0), (1, .int x)] := hl
  have r_x := q_r32 x
  suffices h : ∀ (H : Heap) (locs : List Loc), va_P (dC, dI) vwCl [(h0, .inr (8, [.int th, .int we, .int wm, .int wy, .int ra, .ref tA, .int tn, .ref oA, .int on, .ref rA, .int fi, .int la, .ref wA, .int wf, .int wl, .int lo, .int ov, .int un, .int aT, .int mi, .int ds, .ref dA, .int a0, .int xp, .ref iA, .int te])), (oA, .inl (cI, 300, .inl fo)), (iA, .inl (cI, 200, .inl ft))] H → va_D A [(h0, .inr (8, [.int th, .int we, .int wm, .int wy, .int ra, .ref tA, .int tn, .ref oA, .int on, .ref rA, .int fi, .int la, .ref wA, .int wf, .int wl, .int lo, .int ov, .int un, .int aT, .int mi, .int ds, .ref dA, .int a0, .int xp, .ref iA, .int te])), (oA, .inl (cI, 300, .inl fo)), (iA, .inl (cI, 200, .inl ft))] → va_S A s.heap H locs → W p l e ({ frames := 1, cells := 0, slots := 0, locals := 21 } : Room) s m ([.ref h0, .int x] : List Value).toArray below meth c H locs 0 0 (MQ below (va_Qv (fun (u : (Nat → Int32) × (Int32)) => TL u.1 u.2 (w ++ (SAYd ft nn ++ expS tv))) (poG dC dI A (fun u : (Nat → Int32) × (Int32) => [(h0, .inr (8, [.int th, .int we, .int wm, .int wy, .int ra, .ref tA, .int tn, .ref oA, .int u.2, .ref rA, .int fi, .int la, .ref wA, .int wf, .int wl, .int lo, .int ov, .int un, .int aT, .int mi, .int ds, .ref dA, .int a0, .int xp, .ref iA, .int te])), (oA, .inl (cI, 300, .inl u.1)), (iA, .inl (cI, 200, .inl ft))])) A) ([.ref h0, .int x] : List Value).toArray s 0 0 A) (F0 m 0 ls []) from h _ _ hP hD hS
  clear hP hD hS hH H
  intro H locs hP hD hS
  refine lv_iload_n hx hb d_Model_sayTried_0 rfl (lv_at hl 1 rfl) ?_
  refine lv_istore_n (lv' := [(2, .int x), (0, .ref h0), (1, .int x)]) hx hb d_Model_sayTried_1 rfl hl (by decide) rfl (fun ls hl => ?_)
  refine lv_iload_n hx hb d_Model_sayTried_2 rfl (lv_at hl 0 rfl) ?_
  refine lv_iconst (v := 1) hx hb d_Model_sayTried_3 (by decide) ?_
  refine lv_icmp_le (tgt := 24) hx hb d_Model_sayTried_4 (by decide) (fun b4 => ?_) (fun b4 => ?_)
  · skip
    rw [q_ile hnn (show (1 : Int32).toInt = 1 by decide)] at b4
    exact L_Model_sayTried_24 (h0) (th) (we) (wm) (wy) (ra) (tA) (tn) (oA) (on) (rA) (fi) (la) (wA) (wf) (wl) (lo) (ov) (un) (aT) (mi) (ds) (dA) (a0) (xp) (iA) (te) (fo) (ft) (w) (x) (nn) (tv) C0 hA (hT) (hwl) (hnn) (hn1) (hn99) (hdg) (hlast) (hte) (htv)  H locs ls ((hnn).trans (by omega)) (va_Psub hP [0, 1, 2] rfl) (hD.sub [0, 1, 2] (by decide) rfl) hS (lv_sub hl [0, 1] rfl)
  · skip
    rw [q_ile hnn (show (1 : Int32).toInt = 1 by decide)] at b4
    refine lv_aload_n hx hb d_Model_sayTried_7 rfl (lv_at hl 1 rfl) ?_
    refine va_get (D := (dC, dI)) (ci := 8) (v := .ref iA) (C := R_Model) (T := F_Model) (N := 26) hx hb hts u_Model hown hK hP 0 rfl rfl 24 (by decide) (hts _ m_587) (fun _ h9 => h9) rfl d_Model_sayTried_8 ?_
    refine lv_iload_n hx hb d_Model_sayTried_11 rfl (lv_at hl 0 rfl) ?_
    refine lv_iconst (v := 1) hx hb d_Model_sayTried_12 (by decide) ?_
    refine lv_isub hx hb d_Model_sayTried_13 ?_
    refine lv_topi (fun v13 e13 => ?_)
    have t13 : v13.toInt = (nn : Int) - 1 := by rw [e13]; exact q_isub hnn (show (1 : Int32).toInt = 1 by decide) (by omega)
    refine va_iald hx hb hK hP 2 0 rfl rfl (q_in t13 (by omega)) d_Model_sayTried_14 ?_
    refine lv_topi (fun v14 e14 => ?_)
    rw [q_cl (k := nn - 1) (t13.trans (by omega))] at e14
    have t14 : v14.toInt = (ft (nn - 1)).toInt := by rw [e14]
    refine lv_if_ne (tgt := 24) hx hb d_Model_sayTried_15 (by decide) (fun b15 => ?_) (fun b15 => ?_)
    · skip
      rw [q_ieq t14 (show (0 : Int32).toInt = 0 by decide)] at b15
      exact L_Model_sayTried_24 (h0) (th) (we) (wm) (wy) (ra) (tA) (tn) (oA) (on) (rA) (fi) (la) (wA) (wf) (wl) (lo) (ov) (un) (aT) (mi) (ds) (dA) (a0) (xp) (iA) (te) (fo) (ft) (w) (x) (nn) (tv) C0 hA (hT) (hwl) (hnn) (hn1) (hn99) (hdg) (hlast) (hte) (htv)  H locs ls ((hnn).trans (by omega)) (va_Psub hP [0, 1, 2] rfl) (hD.sub [0, 1, 2] (by decide) rfl) hS (lv_sub hl [0, 1] rfl)
    · skip
      rw [q_ieq t14 (show (0 : Int32).toInt = 0 by decide)] at b15
      exact absurd b15 (hlast.elim (fun h => absurd h (by omega)) id)
set_option maxHeartbeats 4000000 in
set_option maxRecDepth 100000 in
theorem L_Model_shortest_79 {p : Program} {l : Launch} {e : Env} {s : State} {m : MethodId} {below : List Frame} {meth : Method} {c : Code} {dC : Nat → ClassId} {dI : Nat → Nat → Nat} {cI cB cJ : ClassId} {A : Nat → Prop} (h0 : Nat) (th : Int32) (we : Int32) (wm : Int32) (wy : Int32) (ra : Int32) (tA : Nat) (tn : Int32) (oA : Nat) (on : Int32) (rA : Nat) (fi : Int32) (la : Int32) (wA : Nat) (wf : Int32) (wl : Int32) (lo : Int32) (ov : Int32) (un : Int32) (aT : Int32) (mi : Int32) (ds : Int32) (dA : Nat) (a0 : Int32) (xp : Int32) (iA : Nat) (te : Int32) (E : Nat) (M : Nat) (fo : Nat → Int32) (fr : Nat → Int32) (fw : Nat → Int32) (ft : Nat → Int32) (x : Int64) (C0 : cx dC dI cI cB cJ R_Model b_Model_shortest 8 (some .int) p s m ([.ref h0, .long x] : List Value).toArray meth c) (hA : ∀ q : Nat, s.heap.size ≤ q → A q) (hL : LY we wm E M) : ∀ n : Nat, (∀ (x5 : Int32) (nn : Nat) (x3 : Int64) (ko : Nat → Int32) (on1 : Int32) (k : Nat → Int32) (fi1 : Int32) (la1 : Int32) (kw : Nat → Int32) (wf1 : Int32) (wl1 : Int32) (kt : Nat → Int32) (te1 : Int32) (lo1 : Int32) (un1 : Int32) (ov1 : Int32) (q1 : Nat) (q2 : Nat) (H : Heap) (locs : List Loc) (ls : Array Slot), 100 - nn < n → x5.toInt = (nn : Int) → x3.toInt = ((szo E M x.toInt.toNat : Nat) : Int) → (wf1.toInt = (q1 : Int)) → (wl1.toInt = (q2 : Int)) → (WHp kw q1 q2) → (SPV E M (szo E M x.toInt.toNat) (sv kw 400)) → (22 ≤ q1 ∧ q1 ≤ 105) → (TL ko on1 (sgW E M x.toInt)) → (szo E M x.toInt.toNat < iz E M) → (0 < szo E M x.toInt.toNat) → (isPat E M x.toInt) → (1 ≤ nn) → (nn ≤ 17) → (∀ n1, 1 ≤ n1 → n1 < nn → NFc E M (szo E M x.toInt.toNat) (60 - (q1 : Int)) n1) → va_P (dC, dI) vwCl [(h0, .inr (8, [.int 0, .int we, .int wm, .int wy, .int ra, .ref tA, .int tn, .ref oA, .int on1, .ref rA, .int fi1, .int la1, .ref wA, .int wf1, .int wl1, .int lo1, .int ov1, .int un1, .int aT, .int mi, .int ds, .ref dA, .int a0, .int xp, .ref iA, .int te1])), (oA, .inl (cI, 300, .inl ko)), (rA, .inl (cI, 400, .inl k)), (wA, .inl (cI, 400, .inl kw)), (iA, .inl (cI, 200, .inl kt))] H → va_D A [(h0, .inr (8, [.int 0, .int we, .int wm, .int wy, .int ra, .ref tA, .int tn, .ref oA, .int on1, .ref rA, .int fi1, .int la1, .ref wA, .int wf1, .int wl1, .int lo1, .int ov1, .int un1, .int aT, .int mi, .int ds, .ref dA, .int a0, .int xp, .ref iA, .int te1])), (oA, .inl (cI, 300, .inl ko)), (rA, .inl (cI, 400, .inl k)), (wA, .inl (cI, 400, .inl kw)), (iA, .inl (cI, 200, .inl kt))] → va_S A s.heap H locs → lv_has ls 8 [(5, .int x5), (3, .long x3), (0, .ref h0)] → W p l e ({ frames := 4, cells := 0, slots := 0, locals := 109 } : Room) s m ([.ref h0, .long x] : List Value).toArray below meth c H locs 0 0 (MQ below (va_Qi (fun (r : Int32) (u : (Int32) × (Nat → Int32) × (Int32) × (Nat → Int32) × (Int32) × (Int32) × (Nat → Int32) × (Int32) × (Int32) × (Nat → Int32) × (Int32) × (Int32) × (Int32) × (Int32)) => (isPat E M x.toInt ∧ u.1 = 0 ∧ ∃ w : List Nat, TL u.2.1 u.2.2.1 w ∧ r.toInt = (w.length : Int) ∧ SHM E M x.toInt w) ∨ (¬ isPat E M x.toInt ∧ u.1 = 1 ∧ r = 0 ∧ u.2.1 = fo ∧ u.2.2.1 = on)) (poG dC dI A (fun u : (Int32) × (Nat → Int32) × (Int32) × (Nat → Int32) × (Int32) × (Int32) × (Nat → Int32) × (Int32) × (Int32) × (Nat → Int32) × (Int32) × (Int32) × (Int32) × (Int32) => [(h0, .inr (8, [.int u.1, .int we, .int wm, .int wy, .int ra, .ref tA, .int tn, .ref oA, .int u.2.2.1, .ref rA, .int u.2.2.2.2.1, .int u.2.2.2.2.2.1, .ref wA, .int u.2.2.2.2.2.2.2.1, .int u.2.2.2.2.2.2.2.2.1, .int u.2.2.2.2.2.2.2.2.2.2.2.1, .int u.2.2.2.2.2.2.2.2.2.2.2.2.2, .int u.2.2.2.2.2.2.2.2.2.2.2.2.1, .int aT, .int mi, .int ds, .ref dA, .int a0, .int xp, .ref iA, .int u.2.2.2.2.2.2.2.2.2.2.1])), (oA, .inl (cI, 300, .inl u.2.1)), (rA, .inl (cI, 400, .inl u.2.2.2.1)), (wA, .inl (cI, 400, .inl u.2.2.2.2.2.2.1)), (iA, .inl (cI, 200, .inl u.2.2.2.2.2.2.2.2.2.1))])) A) ([.ref h0, .long x] : List Value).toArray s 0 0 A) (F0 m 79 ls [])) := by
  obtain ⟨hx, hb, hml, hown, hts, hr, hlocks, hK, hN⟩ := id C0
  intro n
  induction n with
  | zero => exact fun _ _ _ _ _ _ _ _ _ _ _ _ _ _ _ _ _ _ _ _ _ h0 _ _ _ _ _ _ _ _ _ _ _ _ _ _ _ _ _ _ => absurd h0 (Nat.not_lt_zero _)
  | succ n ih =>
    intro x5 nn x3 ko on1 k fi1 la1 kw wf1 wl1 kt te1 lo1 un1 ov1 q1 q2 H locs ls hn9 t_x5 t_x3 t_wf1 t_wl1 hW hsp hqq hTL hzi hZ0 hpat hnn1 hnn17 hNF hP hD hS hl
    have r_x5 := q_r32 x5
    have r_x3 := q_r64 x3
    obtain ⟨he, hm, hE1, hE2, hM1, hM2⟩ := id hL
    have hbz := p_bias hE1 hE2
    have hem := p_em hE1 hE2 hM1 hM2
    have hiz := iz_sb E M
    have hpm := p_m hM2
    have hpm1 := pw_p M
    have hpe := p_e hE1 hE2
    have hsl := sgW_len E M x.toInt
    refine lv_iload hx hb d_Model_shortest_79 (lv_at hl 0 rfl) ?_
    refine lv_bipush (v := 100) hx hb d_Model_shortest_81 (by decide) ?_
    refine lv_icmp_ge (tgt := 175) hx hb d_Model_shortest_83 (by decide) (fun b83 => ?_) (fun b83 => ?_)
    · skip
      rw [q_ile (show (100 : Int32).toInt = 100 by decide) t_x5] at b83
      exact absurd b83 (by omega)
    · skip
      rw [q_ile (show (100 : Int32).toInt = 100 by decide) t_x5] at b83
      refine lv_aload_n hx hb d_Model_shortest_86 rfl (lv_at hl 2 rfl) ?_
      refine lv_iload hx hb d_Model_shortest_87 (lv_at hl 0 rfl) ?_
      refine lv_iconst (v := 0) hx hb d_Model_shortest_89 (by decide) ?_
      refine callV_v (wr := [(oA, .inl (cI, 300, .inl ko)), (rA, .inl (cI, 400, .inl k))]) C0 (c_Model_cut l dC dI cI cB cJ (h0) ((0 : Int32)) (we) (wm) (wy) (ra) (tA) (tn) (oA) (on1) (rA) (fi1) (la1) (wA) (wf1) (wl1) (lo1) (ov1) (un1) (aT) (mi) (ds) (dA) (a0) (xp) (iA) (te1) (kw) (kt) (x5) ((0 : Int32)) (nn) (q1) (q2) (by exact t_wf1) (by exact t_x5) (by exact hnn1) (by omega) (by omega) (by exact hW)) (cwV 2 hts (gV m_726 m_727 m_42 m_55 m_728) rfl rfl rfl (by decide +kernel) ⟨Nat.le_of_ble_eq_true rfl, Nat.le_of_ble_eq_true rfl⟩) 8 rfl rfl 0 rfl hP hD hS hA [0, 3, 4] [1, 2] rfl rfl (by decide) (by decide) (by decide) rfl hl.1 rfl (Nat.le_of_ble_eq_true rfl) d_Model_shortest_90 ⟨Nat.le_of_ble_eq_true rfl, Nat.le_of_ble_eq_true rfl⟩ (fun u90 H locs hw9 hP hD hS => ?_)
      obtain ⟨k90, te190⟩ := u90
      have h90 : CUTp kw k90 q1 nn (0 : Int32) te190.toInt := hw9
      have hP : va_P (dC, dI) vwCl [(oA, .inl (cI, 300, .inl ko)), (rA, .inl (cI, 400, .inl k)), (h0, .inr (8, [.int 0, .int we, .int wm, .int wy, .int ra, .ref tA, .int tn, .ref oA, .int on1, .ref rA, .int fi1, .int la1, .ref wA, .int wf1, .int wl1, .int lo1, .int ov1, .int un1, .int aT, .int mi, .int ds, .ref dA, .int a0, .int xp, .ref iA, .int te190])), (wA, .inl (cI, 400, .inl kw)), (iA, .inl (cI, 200, .inl k90))] H := hP
      have hD : va_D A [(oA, .inl (cI, 300, .inl ko)), (rA, .inl (cI, 400, .inl k)), (h0, .inr (8, [.int 0, .int we, .int wm, .int wy, .int ra, .ref tA, .int tn, .ref oA, .int on1, .ref rA, .int fi1, .int la1, .ref wA, .int wf1, .int wl1, .int lo1, .int ov1, .int un1, .int aT, .int mi, .int ds, .ref dA, .int a0, .int xp, .ref iA, .int te190])), (wA, .inl (cI, 400, .inl kw)), (iA, .inl (cI, 200, .inl k90))] := hD
      obtain ⟨tza, etza, hta, hva⟩ := CUT_v hnn1 (by omega) (by omega) h90
      refine lv_aload_n hx hb d_Model_shortest_93 rfl (lv_at hl 2 rfl) ?_
      refine lv_iload hx hb d_Model_shortest_94 (lv_at hl 0 rfl) ?_
      refine lv_lload_n hx hb d_Model_shortest_96 rfl (lv_at hl 1 rfl) ?_
      refine callV_i (wr := [(oA, .inl (cI, 300, .inl ko)), (wA, .inl (cI, 400, .inl kw))]) C0 (c_Model_comesBack l dC dI cI cB cJ (h0) ((0 : Int32)) (we) (wm) (wy) (ra) (tA) (tn) (oA) (on1) (rA) (fi1) (la1) (wA) (wf1) (wl1) (lo1) (ov1) (un1) (aT) (mi) (ds) (dA) (a0) (xp) (iA) (te190) (E) (M) (k) (k90) (x5) (nn) (x3) (szo E M x.toInt.toNat) (tza) (by exact hL) (by exact t_x5) (by exact hnn1) (by omega) (by exact h90.1) (by exact h90.2.1) (by exact etza) (by omega) (by omega) (by exact t_x3) (by exact hzi)) (cwV 2 hts (gV m_729 m_730 m_43 m_55 m_731) rfl rfl rfl (by decide +kernel) ⟨Nat.le_of_ble_eq_true rfl, Nat.le_of_ble_eq_true rfl⟩) 8 rfl rfl 0 rfl hP hD hS hA [2, 1, 4] [0, 3] rfl rfl (by decide) (by decide) (by decide) rfl hl.1 rfl (Nat.le_of_ble_eq_true rfl) d_Model_shortest_97 ⟨Nat.le_of_ble_eq_true rfl, Nat.le_of_ble_eq_true rfl⟩ (fun r97 u97 H locs hw9 hP hD hS => ?_)
      obtain ⟨k97, fi197, la197, lo197, un197, ov197⟩ := u97
      have h97 : ∃ (Z1 : Nat) (ix ty : Prop), RS (pv k90 nn * 10 ^ (270 + tza - nn)) (10 ^ 339) E M 0 (¬ (0 : Int32) = 0) Z1 ix ty ∧ ((r97 = 1 ∧ Z1 = (szo E M x.toInt.toNat)) ∨ (r97 = 0 ∧ ¬ Z1 = (szo E M x.toInt.toNat))) := hw9
      have hP : va_P (dC, dI) vwCl [(oA, .inl (cI, 300, .inl ko)), (wA, .inl (cI, 400, .inl kw)), (h0, .inr (8, [.int 0, .int we, .int wm, .int wy, .int ra, .ref tA, .int tn, .ref oA, .int on1, .ref rA, .int fi197, .int la197, .ref wA, .int wf1, .int wl1, .int lo197, .int ov197, .int un197, .int aT, .int mi, .int ds, .ref dA, .int a0, .int xp, .ref iA, .int te190])), (rA, .inl (cI, 400, .inl k97)), (iA, .inl (cI, 200, .inl k90))] H := hP
      have hD : va_D A [(oA, .inl (cI, 300, .inl ko)), (wA, .inl (cI, 400, .inl kw)), (h0, .inr (8, [.int 0, .int we, .int wm, .int wy, .int ra, .ref tA, .int tn, .ref oA, .int on1, .ref rA, .int fi197, .int la197, .ref wA, .int wf1, .int wl1, .int lo197, .int ov197, .int un197, .int aT, .int mi, .int ds, .ref dA, .int a0, .int xp, .ref iA, .int te190])), (rA, .inl (cI, 400, .inl k97)), (iA, .inl (cI, 200, .inl k90))] := hD
      obtain ⟨Z1, ix1, ty1, hrs1, hcb1⟩ := h97
      rw [hva.elim (fun h => h.2) (fun h => absurd rfl h.1)] at hrs1
      refine lv_istore (lv' := [(6, .int r97), (5, .int x5), (3, .long x3), (0, .ref h0)]) hx hb d_Model_shortest_100 hl (by decide) rfl (fun ls hl => ?_)
      refine lv_aload_n hx hb d_Model_shortest_102 rfl (lv_at hl 3 rfl) ?_
      refine lv_iload hx hb d_Model_shortest_103 (lv_at hl 1 rfl) ?_
      refine lv_iconst (v := 1) hx hb d_Model_shortest_105 (by decide) ?_
      refine callV_v (wr := [(oA, .inl (cI, 300, .inl ko)), (rA, .inl (cI, 400, .inl k97))]) C0 (c_Model_cut l dC dI cI cB cJ (h0) ((0 : Int32)) (we) (wm) (wy) (ra) (tA) (tn) (oA) (on1) (rA) (fi197) (la197) (wA) (wf1) (wl1) (lo197) (ov197) (un197) (aT) (mi) (ds) (dA) (a0) (xp) (iA) (te190) (kw) (k90) (x5) ((1 : Int32)) (nn) (q1) (q2) (by exact t_wf1) (by exact t_x5) (by exact hnn1) (by omega) (by omega) (by exact hW)) (cwV 2 hts (gV m_726 m_727 m_42 m_55 m_728) rfl rfl rfl (by decide +kernel) ⟨Nat.le_of_ble_eq_true rfl, Nat.le_of_ble_eq_true rfl⟩) 8 rfl rfl 0 rfl hP hD hS hA [2, 1, 4] [0, 3] rfl rfl (by decide) (by decide) (by decide) rfl hl.1 rfl (Nat.le_of_ble_eq_true rfl) d_Model_shortest_106 ⟨Nat.le_of_ble_eq_true rfl, Nat.le_of_ble_eq_true rfl⟩ (fun u106 H locs hw9 hP hD hS => ?_)
      obtain ⟨k106, te1106⟩ := u106
      have h106 : CUTp kw k106 q1 nn (1 : Int32) te1106.toInt := hw9
      have hP : va_P (dC, dI) vwCl [(oA, .inl (cI, 300, .inl ko)), (rA, .inl (cI, 400, .inl k97)), (h0, .inr (8, [.int 0, .int we, .int wm, .int wy, .int ra, .ref tA, .int tn, .ref oA, .int on1, .ref rA, .int fi197, .int la197, .ref wA, .int wf1, .int wl1, .int lo197, .int ov197, .int un197, .int aT, .int mi, .int ds, .ref dA, .int a0, .int xp, .ref iA, .int te1106])), (wA, .inl (cI, 400, .inl kw)), (iA, .inl (cI, 200, .inl k106))] H := hP
      have hD : va_D A [(oA, .inl (cI, 300, .inl ko)), (rA, .inl (cI, 400, .inl k97)), (h0, .inr (8, [.int 0, .int we, .int wm, .int wy, .int ra, .ref tA, .int tn, .ref oA, .int on1, .ref rA, .int fi197, .int la197, .ref wA, .int wf1, .int wl1, .int lo197, .int ov197, .int un197, .int aT, .int mi, .int ds, .ref dA, .int a0, .int xp, .ref iA, .int te1106])), (wA, .inl (cI, 400, .inl kw)), (iA, .inl (cI, 200, .inl k106))] := hD
      obtain ⟨tzb, etzb, htb, hvb⟩ := CUT_v hnn1 (by omega) (by omega) h106
      refine lv_aload_n hx hb d_Model_shortest_109 rfl (lv_at hl 3 rfl) ?_
      refine lv_iload hx hb d_Model_shortest_110 (lv_at hl 1 rfl) ?_
      refine lv_lload_n hx hb d_Model_shortest_112 rfl (lv_at hl 2 rfl) ?_
      refine callV_i (wr := [(oA, .inl (cI, 300, .inl ko)), (wA, .inl (cI, 400, .inl kw))]) C0 (c_Model_comesBack l dC dI cI cB cJ (h0) ((0 : Int32)) (we) (wm) (wy) (ra) (tA) (tn) (oA) (on1) (rA) (fi197) (la197) (wA) (wf1) (wl1) (lo197) (ov197) (un197) (aT) (mi) (ds) (dA) (a0) (xp) (iA) (te1106) (E) (M) (k97) (k106) (x5) (nn) (x3) (szo E M x.toInt.toNat) (tzb) (by exact hL) (by exact t_x5) (by exact hnn1) (by omega) (by exact h106.1) (by exact h106.2.1) (by exact etzb) (by omega) (by omega) (by exact t_x3) (by exact hzi)) (cwV 2 hts (gV m_729 m_730 m_43 m_55 m_731) rfl rfl rfl (by decide +kernel) ⟨Nat.le_of_ble_eq_true rfl, Nat.le_of_ble_eq_true rfl⟩) 8 rfl rfl 0 rfl hP hD hS hA [2, 1, 4] [0, 3] rfl rfl (by decide) (by decide) (by decide) rfl hl.1 rfl (Nat.le_of_ble_eq_true rfl) d_Model_shortest_113 ⟨Nat.le_of_ble_eq_true rfl, Nat.le_of_ble_eq_true rfl⟩ (fun r113 u113 H locs hw9 hP hD hS => ?_)
      obtain ⟨k113, fi1113, la1113, lo1113, un1113, ov1113⟩ := u113
      have h113 : ∃ (Z1 : Nat) (ix ty : Prop), RS (pv k106 nn * 10 ^ (270 + tzb - nn)) (10 ^ 339) E M 0 (¬ (0 : Int32) = 0) Z1 ix ty ∧ ((r113 = 1 ∧ Z1 = (szo E M x.toInt.toNat)) ∨ (r113 = 0 ∧ ¬ Z1 = (szo E M x.toInt.toNat))) := hw9
      have hP : va_P (dC, dI) vwCl [(oA, .inl (cI, 300, .inl ko)), (wA, .inl (cI, 400, .inl kw)), (h0, .inr (8, [.int 0, .int we, .int wm, .int wy, .int ra, .ref tA, .int tn, .ref oA, .int on1, .ref rA, .int fi1113, .int la1113, .ref wA, .int wf1, .int wl1, .int lo1113, .int ov1113, .int un1113, .int aT, .int mi, .int ds, .ref dA, .int a0, .int xp, .ref iA, .int te1106])), (rA, .inl (cI, 400, .inl k113)), (iA, .inl (cI, 200, .inl k106))] H := hP
      have hD : va_D A [(oA, .inl (cI, 300, .inl ko)), (wA, .inl (cI, 400, .inl kw)), (h0, .inr (8, [.int 0, .int we, .int wm, .int wy, .int ra, .ref tA, .int tn, .ref oA, .int on1, .ref rA, .int fi1113, .int la1113, .ref wA, .int wf1, .int wl1, .int lo1113, .int ov1113, .int un1113, .int aT, .int mi, .int ds, .ref dA, .int a0, .int xp, .ref iA, .int te1106])), (rA, .inl (cI, 400, .inl k113)), (iA, .inl (cI, 200, .inl k106))] := hD
      obtain ⟨Z2, ix2, ty2, hrs2, hcb2⟩ := h113
      rw [hvb.elim (fun h => absurd h.1 (by decide)) (fun h => h.2)] at hrs2
      have hty := SH_try hE1 hE2 hM1 hM2 hZ0 hW hsp hnn1 (by omega) hrs1 hrs2
      refine lv_istore (lv' := [(7, .int r113), (6, .int r97), (5, .int x5), (3, .long x3), (0, .ref h0)]) hx hb d_Model_shortest_116 hl (by decide) rfl (fun ls hl => ?_)
      refine lv_iload hx hb d_Model_shortest_118 (lv_at hl 1 rfl) ?_
      refine lv_if_ne (tgt := 131) hx hb d_Model_shortest_120 (by decide) (fun b120 => ?_) (fun b120 => ?_)
      · skip
        refine lv_iload hx hb d_Model_shortest_131 (lv_at hl 1 rfl) ?_
        refine lv_if_eq (tgt := 158) hx hb d_Model_shortest_133 (by decide) (fun b133 => ?_) (fun b133 => ?_)
        · skip
          exact absurd b133 b120
        · skip
          refine lv_iload hx hb d_Model_shortest_136 (lv_at hl 0 rfl) ?_
          refine lv_if_eq (tgt := 151) hx hb d_Model_shortest_138 (by decide) (fun b138 => ?_) (fun b138 => ?_)
          · skip
            refine lv_aload_n hx hb d_Model_shortest_151 rfl (lv_at hl 4 rfl) ?_
            refine lv_iload hx hb d_Model_shortest_152 (lv_at hl 2 rfl) ?_
            refine lv_iconst (v := 0) hx hb d_Model_shortest_154 (by decide) ?_
            refine callV_v (wr := [(oA, .inl (cI, 300, .inl ko)), (rA, .inl (cI, 400, .inl k113))]) C0 (c_Model_cut l dC dI cI cB cJ (h0) ((0 : Int32)) (we) (wm) (wy) (ra) (tA) (tn) (oA) (on1) (rA) (fi1113) (la1113) (wA) (wf1) (wl1) (lo1113) (ov1113) (un1113) (aT) (mi) (ds) (dA) (a0) (xp) (iA) (te1106) (kw) (k106) (x5) ((0 : Int32)) (nn) (q1) (q2) (by exact t_wf1) (by exact t_x5) (by exact hnn1) (by omega) (by omega) (by exact hW)) (cwV 2 hts (gV m_726 m_727 m_42 m_55 m_728) rfl rfl rfl (by decide +kernel) ⟨Nat.le_of_ble_eq_true rfl, Nat.le_of_ble_eq_true rfl⟩) 8 rfl rfl 0 rfl hP hD hS hA [2, 1, 4] [0, 3] rfl rfl (by decide) (by decide) (by decide) rfl hl.1 rfl (Nat.le_of_ble_eq_true rfl) d_Model_shortest_155 ⟨Nat.le_of_ble_eq_true rfl, Nat.le_of_ble_eq_true rfl⟩ (fun u155 H locs hw9 hP hD hS => ?_)
            obtain ⟨k155, te1155⟩ := u155
            have h155 : CUTp kw k155 q1 nn (0 : Int32) te1155.toInt := hw9
            have hP : va_P (dC, dI) vwCl [(oA, .inl (cI, 300, .inl ko)), (rA, .inl (cI, 400, .inl k113)), (h0, .inr (8, [.int 0, .int we, .int wm, .int wy, .int ra, .ref tA, .int tn, .ref oA, .int on1, .ref rA, .int fi1113, .int la1113, .ref wA, .int wf1, .int wl1, .int lo1113, .int ov1113, .int un1113, .int aT, .int mi, .int ds, .ref dA, .int a0, .int xp, .ref iA, .int te1155])), (wA, .inl (cI, 400, .inl kw)), (iA, .inl (cI, 200, .inl k155))] H := hP
            have hD : va_D A [(oA, .inl (cI, 300, .inl ko)), (rA, .inl (cI, 400, .inl k113)), (h0, .inr (8, [.int 0, .int we, .int wm, .int wy, .int ra, .ref tA, .int tn, .ref oA, .int on1, .ref rA, .int fi1113, .int la1113, .ref wA, .int wf1, .int wl1, .int lo1113, .int ov1113, .int un1113, .int aT, .int mi, .int ds, .ref dA, .int a0, .int xp, .ref iA, .int te1155])), (wA, .inl (cI, 400, .inl kw)), (iA, .inl (cI, 200, .inl k155))] := hD
            have hz1 : Z1 = szo E M x.toInt.toNat := hcb1.elim (fun h => h.2) (fun h => absurd h.1 b120)
            have hz2 : ¬ Z2 = szo E M x.toInt.toNat := hcb2.elim (fun h => absurd (h.1.symm.trans b138) (by decide)) (fun h => h.2)
            obtain ⟨hshc, hlst⟩ := SH_dn hnn1 (by omega) hW hsp hNF (by decide) h155 (hty.2.1 hz1 (Or.inl hz2))
            have htv : -99 ≤ te1155.toInt ∧ te1155.toInt ≤ 99 := by have h9 := h155.2.2; omega
            refine lv_aload_n hx hb d_Model_shortest_158 rfl (lv_at hl 4 rfl) ?_
            refine lv_iload hx hb d_Model_shortest_159 (lv_at hl 2 rfl) ?_
            refine callV_v (wr := [(rA, .inl (cI, 400, .inl k113)), (wA, .inl (cI, 400, .inl kw))]) C0 (c_Model_sayTried l dC dI cI cB cJ (h0) ((0 : Int32)) (we) (wm) (wy) (ra) (tA) (tn) (oA) (on1) (rA) (fi1113) (la1113) (wA) (wf1) (wl1) (lo1113) (ov1113) (un1113) (aT) (mi) (ds) (dA) (a0) (xp) (iA) (te1155) (ko) (k155) (sgW E M x.toInt) (x5) (nn) (te1155.toInt) (by exact hTL) (by exact hsl) (by exact t_x5) (by exact hnn1) (by omega) (by exact h155.1) (by exact hlst) (by rfl) (by exact htv)) (cwV 1 hts (gV m_735 m_736 m_45 m_55 m_737) rfl rfl rfl (by decide +kernel) ⟨Nat.le_of_ble_eq_true rfl, Nat.le_of_ble_eq_true rfl⟩) 8 rfl rfl 0 rfl hP hD hS hA [2, 0, 4] [1, 3] rfl rfl (by decide) (by decide) (by decide) rfl hl.1 rfl (Nat.le_of_ble_eq_true rfl) d_Model_shortest_161 ⟨Nat.le_of_ble_eq_true rfl, Nat.le_of_ble_eq_true rfl⟩ (fun u161 H locs hw9 hP hD hS => ?_)
            obtain ⟨ko161, on1161⟩ := u161
            have h161 : TL ko161 on1161 ((sgW E M x.toInt) ++ (SAYd k155 nn ++ expS te1155.toInt)) := hw9
            have hP : va_P (dC, dI) vwCl [(rA, .inl (cI, 400, .inl k113)), (wA, .inl (cI, 400, .inl kw)), (h0, .inr (8, [.int 0, .int we, .int wm, .int wy, .int ra, .ref tA, .int tn, .ref oA, .int on1161, .ref rA, .int fi1113, .int la1113, .ref wA, .int wf1, .int wl1, .int lo1113, .int ov1113, .int un1113, .int aT, .int mi, .int ds, .ref dA, .int a0, .int xp, .ref iA, .int te1155])), (oA, .inl (cI, 300, .inl ko161)), (iA, .inl (cI, 200, .inl k155))] H := hP
            have hD : va_D A [(rA, .inl (cI, 400, .inl k113)), (wA, .inl (cI, 400, .inl kw)), (h0, .inr (8, [.int 0, .int we, .int wm, .int wy, .int ra, .ref tA, .int tn, .ref oA, .int on1161, .ref rA, .int fi1113, .int la1113, .ref wA, .int wf1, .int wl1, .int lo1113, .int ov1113, .int un1113, .int aT, .int mi, .int ds, .ref dA, .int a0, .int xp, .ref iA, .int te1155])), (oA, .inl (cI, 300, .inl ko161)), (iA, .inl (cI, 200, .inl k155))] := hD
            refine lv_aload_n hx hb d_Model_shortest_164 rfl (lv_at hl 4 rfl) ?_
            refine va_get (D := (dC, dI)) (ci := 8) (v := .int on1161) (C := R_Model) (T := F_Model) (N := 26) hx hb hts u_Model hown hK hP 2 rfl rfl 8 (by decide) (hts _ m_571) (fun _ h9 => h9) rfl d_Model_shortest_165 ?_
            exact Ci.ret C0 (v := on1161) (u := (0, ko161, on1161, k113, fi1113, la1113, kw, wf1, wl1, k155, te1155, lo1113, un1113, ov1113)) (Nat.le_of_ble_eq_true rfl) (Nat.le_of_ble_eq_true rfl) (by show (isPat E M x.toInt ∧ (0 : Int32) = 0 ∧ ∃ w : List Nat, TL ko161 on1161 w ∧ on1161.toInt = (w.length : Int) ∧ SHM E M x.toInt w) ∨ (¬ isPat E M x.toInt ∧ (0 : Int32) = 1 ∧ on1161 = 0 ∧ ko161 = fo ∧ on1161 = on); exact Or.inl ⟨hpat, rfl, SH_fin hnn1 (by omega) h155.1 hzi hZ0 hshc h161⟩) hP hD hS [2, 3, 0, 1, 4] (by decide) rfl d_Model_shortest_168
          · skip
            refine lv_aload_n hx hb d_Model_shortest_141 rfl (lv_at hl 4 rfl) ?_
            refine lv_iload hx hb d_Model_shortest_142 (lv_at hl 2 rfl) ?_
            refine callV_i (wr := [(oA, .inl (cI, 300, .inl ko)), (rA, .inl (cI, 400, .inl k113)), (iA, .inl (cI, 200, .inl k106))]) C0 (c_Model_beside l dC dI cI cB cJ (h0) ((0 : Int32)) (we) (wm) (wy) (ra) (tA) (tn) (oA) (on1) (rA) (fi1113) (la1113) (wA) (wf1) (wl1) (lo1113) (ov1113) (un1113) (aT) (mi) (ds) (dA) (a0) (xp) (iA) (te1106) (kw) (x5) (nn) (q1) (q2) (by exact t_wf1) (by exact t_wl1) (by exact t_x5) (by omega) (by exact hW)) (cwV 1 hts (gV m_732 m_733 m_44 m_55 m_734) rfl rfl rfl (by decide +kernel) ⟨Nat.le_of_ble_eq_true rfl, Nat.le_of_ble_eq_true rfl⟩) 8 rfl rfl 0 rfl hP hD hS hA [2, 1] [0, 3, 4] rfl rfl (by decide) (by decide) (by decide) rfl hl.1 rfl (Nat.le_of_ble_eq_true rfl) d_Model_shortest_144 ⟨Nat.le_of_ble_eq_true rfl, Nat.le_of_ble_eq_true rfl⟩ (fun r144 u144 H locs hw9 hP hD hS => ?_)
            have h144 : (1 ≤ r144.toInt ∧ 10 ^ (400 - (q1 + nn)) < 2 * sv kw (400 - (q1 + nn))) ∨ (r144.toInt < 1 ∧ ¬ 10 ^ (400 - (q1 + nn)) < 2 * sv kw (400 - (q1 + nn))) := hw9
            have hP : va_P (dC, dI) vwCl [(oA, .inl (cI, 300, .inl ko)), (rA, .inl (cI, 400, .inl k113)), (iA, .inl (cI, 200, .inl k106)), (h0, .inr (8, [.int 0, .int we, .int wm, .int wy, .int ra, .ref tA, .int tn, .ref oA, .int on1, .ref rA, .int fi1113, .int la1113, .ref wA, .int wf1, .int wl1, .int lo1113, .int ov1113, .int un1113, .int aT, .int mi, .int ds, .ref dA, .int a0, .int xp, .ref iA, .int te1106])), (wA, .inl (cI, 400, .inl kw))] H := hP
            have hD : va_D A [(oA, .inl (cI, 300, .inl ko)), (rA, .inl (cI, 400, .inl k113)), (iA, .inl (cI, 200, .inl k106)), (h0, .inr (8, [.int 0, .int we, .int wm, .int wy, .int ra, .ref tA, .int tn, .ref oA, .int on1, .ref rA, .int fi1113, .int la1113, .ref wA, .int wf1, .int wl1, .int lo1113, .int ov1113, .int un1113, .int aT, .int mi, .int ds, .ref dA, .int a0, .int xp, .ref iA, .int te1106])), (wA, .inl (cI, 400, .inl kw))] := hD
            have t144 : r144.toInt = r144.toInt := rfl
            refine lv_iconst (v := 1) hx hb d_Model_shortest_147 (by decide) ?_
            refine lv_icmp_ge (tgt := 158) hx hb d_Model_shortest_148 (by decide) (fun b148 => ?_) (fun b148 => ?_)
            · skip
              rw [q_ile (show (1 : Int32).toInt = 1 by decide) t144] at b148
              have hz1 : Z1 = szo E M x.toInt.toNat := hcb1.elim (fun h => h.2) (fun h => absurd h.1 b120)
              have hz2 : Z2 = szo E M x.toInt.toNat := hcb2.elim (fun h => h.2) (fun h => absurd h.1 b138)
              have hbs := h144.elim (fun h => h.2) (fun h => absurd h.1 (by omega))
              obtain ⟨hshc, hlst⟩ := SH_up hnn1 (by omega) hW hsp hNF (by decide) h106 (hty.2.2 hz2 (Or.inr hbs))
              have htv : -99 ≤ te1106.toInt ∧ te1106.toInt ≤ 99 := by have h9 := h106.2.2; omega
              refine lv_aload_n hx hb d_Model_shortest_158 rfl (lv_at hl 4 rfl) ?_
              refine lv_iload hx hb d_Model_shortest_159 (lv_at hl 2 rfl) ?_
              refine callV_v (wr := [(rA, .inl (cI, 400, .inl k113)), (wA, .inl (cI, 400, .inl kw))]) C0 (c_Model_sayTried l dC dI cI cB cJ (h0) ((0 : Int32)) (we) (wm) (wy) (ra) (tA) (tn) (oA) (on1) (rA) (fi1113) (la1113) (wA) (wf1) (wl1) (lo1113) (ov1113) (un1113) (aT) (mi) (ds) (dA) (a0) (xp) (iA) (te1106) (ko) (k106) (sgW E M x.toInt) (x5) (nn) (te1106.toInt) (by exact hTL) (by exact hsl) (by exact t_x5) (by exact hnn1) (by omega) (by exact h106.1) (by exact hlst) (by rfl) (by exact htv)) (cwV 1 hts (gV m_735 m_736 m_45 m_55 m_737) rfl rfl rfl (by decide +kernel) ⟨Nat.le_of_ble_eq_true rfl, Nat.le_of_ble_eq_true rfl⟩) 8 rfl rfl 0 rfl hP hD hS hA [3, 0, 2] [1, 4] rfl rfl (by decide) (by decide) (by decide) rfl hl.1 rfl (Nat.le_of_ble_eq_true rfl) d_Model_shortest_161 ⟨Nat.le_of_ble_eq_true rfl, Nat.le_of_ble_eq_true rfl⟩ (fun u161 H locs hw9 hP hD hS => ?_)
              obtain ⟨ko161, on1161⟩ := u161
              have h161 : TL ko161 on1161 ((sgW E M x.toInt) ++ (SAYd k106 nn ++ expS te1106.toInt)) := hw9
              have hP : va_P (dC, dI) vwCl [(rA, .inl (cI, 400, .inl k113)), (wA, .inl (cI, 400, .inl kw)), (h0, .inr (8, [.int 0, .int we, .int wm, .int wy, .int ra, .ref tA, .int tn, .ref oA, .int on1161, .ref rA, .int fi1113, .int la1113, .ref wA, .int wf1, .int wl1, .int lo1113, .int ov1113, .int un1113, .int aT, .int mi, .int ds, .ref dA, .int a0, .int xp, .ref iA, .int te1106])), (oA, .inl (cI, 300, .inl ko161)), (iA, .inl (cI, 200, .inl k106))] H := hP
              have hD : va_D A [(rA, .inl (cI, 400, .inl k113)), (wA, .inl (cI, 400, .inl kw)), (h0, .inr (8, [.int 0, .int we, .int wm, .int wy, .int ra, .ref tA, .int tn, .ref oA, .int on1161, .ref rA, .int fi1113, .int la1113, .ref wA, .int wf1, .int wl1, .int lo1113, .int ov1113, .int un1113, .int aT, .int mi, .int ds, .ref dA, .int a0, .int xp, .ref iA, .int te1106])), (oA, .inl (cI, 300, .inl ko161)), (iA, .inl (cI, 200, .inl k106))] := hD
              refine lv_aload_n hx hb d_Model_shortest_164 rfl (lv_at hl 4 rfl) ?_
              refine va_get (D := (dC, dI)) (ci := 8) (v := .int on1161) (C := R_Model) (T := F_Model) (N := 26) hx hb hts u_Model hown hK hP 2 rfl rfl 8 (by decide) (hts _ m_571) (fun _ h9 => h9) rfl d_Model_shortest_165 ?_
              exact Ci.ret C0 (v := on1161) (u := (0, ko161, on1161, k113, fi1113, la1113, kw, wf1, wl1, k106, te1106, lo1113, un1113, ov1113)) (Nat.le_of_ble_eq_true rfl) (Nat.le_of_ble_eq_true rfl) (by show (isPat E M x.toInt ∧ (0 : Int32) = 0 ∧ ∃ w : List Nat, TL ko161 on1161 w ∧ on1161.toInt = (w.length : Int) ∧ SHM E M x.toInt w) ∨ (¬ isPat E M x.toInt ∧ (0 : Int32) = 1 ∧ on1161 = 0 ∧ ko161 = fo ∧ on1161 = on); exact Or.inl ⟨hpat, rfl, SH_fin hnn1 (by omega) h106.1 hzi hZ0 hshc h161⟩) hP hD hS [2, 3, 0, 1, 4] (by decide) rfl d_Model_shortest_168
            · skip
              rw [q_ile (show (1 : Int32).toInt = 1 by decide) t144] at b148
              refine lv_aload_n hx hb d_Model_shortest_151 rfl (lv_at hl 4 rfl) ?_
              refine lv_iload hx hb d_Model_shortest_152 (lv_at hl 2 rfl) ?_
              refine lv_iconst (v := 0) hx hb d_Model_shortest_154 (by decide) ?_
              refine callV_v (wr := [(oA, .inl (cI, 300, .inl ko)), (rA, .inl (cI, 400, .inl k113))]) C0 (c_Model_cut l dC dI cI cB cJ (h0) ((0 : Int32)) (we) (wm) (wy) (ra) (tA) (tn) (oA) (on1) (rA) (fi1113) (la1113) (wA) (wf1) (wl1) (lo1113) (ov1113) (un1113) (aT) (mi) (ds) (dA) (a0) (xp) (iA) (te1106) (kw) (k106) (x5) ((0 : Int32)) (nn) (q1) (q2) (by exact t_wf1) (by exact t_x5) (by exact hnn1) (by omega) (by omega) (by exact hW)) (cwV 2 hts (gV m_726 m_727 m_42 m_55 m_728) rfl rfl rfl (by decide +kernel) ⟨Nat.le_of_ble_eq_true rfl, Nat.le_of_ble_eq_true rfl⟩) 8 rfl rfl 0 rfl hP hD hS hA [3, 4, 2] [0, 1] rfl rfl (by decide) (by decide) (by decide) rfl hl.1 rfl (Nat.le_of_ble_eq_true rfl) d_Model_shortest_155 ⟨Nat.le_of_ble_eq_true rfl, Nat.le_of_ble_eq_true rfl⟩ (fun u155 H locs hw9 hP hD hS => ?_)
              obtain ⟨k155, te1155⟩ := u155
              have h155 : CUTp kw k155 q1 nn (0 : Int32) te1155.toInt := hw9
              have hP : va_P (dC, dI) vwCl [(oA, .inl (cI, 300, .inl ko)), (rA, .inl (cI, 400, .inl k113)), (h0, .inr (8, [.int 0, .int we, .int wm, .int wy, .int ra, .ref tA, .int tn, .ref oA, .int on1, .ref rA, .int fi1113, .int la1113, .ref wA, .int wf1, .int wl1, .int lo1113, .int ov1113, .int un1113, .int aT, .int mi, .int ds, .ref dA, .int a0, .int xp, .ref iA, .int te1155])), (wA, .inl (cI, 400, .inl kw)), (iA, .inl (cI, 200, .inl k155))] H := hP
              have hD : va_D A [(oA, .inl (cI, 300, .inl ko)), (rA, .inl (cI, 400, .inl k113)), (h0, .inr (8, [.int 0, .int we, .int wm, .int wy, .int ra, .ref tA, .int tn, .ref oA, .int on1, .ref rA, .int fi1113, .int la1113, .ref wA, .int wf1, .int wl1, .int lo1113, .int ov1113, .int un1113, .int aT, .int mi, .int ds, .ref dA, .int a0, .int xp, .ref iA, .int te1155])), (wA, .inl (cI, 400, .inl kw)), (iA, .inl (cI, 200, .inl k155))] := hD
              have hz1 : Z1 = szo E M x.toInt.toNat := hcb1.elim (fun h => h.2) (fun h => absurd h.1 b120)
              have hz2 : Z2 = szo E M x.toInt.toNat := hcb2.elim (fun h => h.2) (fun h => absurd h.1 b138)
              have hbs := h144.elim (fun h => absurd h.1 (by omega)) (fun h => h.2)
              obtain ⟨hshc, hlst⟩ := SH_dn hnn1 (by omega) hW hsp hNF (by decide) h155 (hty.2.1 hz1 (Or.inr hbs))
              have htv : -99 ≤ te1155.toInt ∧ te1155.toInt ≤ 99 := by have h9 := h155.2.2; omega
              refine lv_aload_n hx hb d_Model_shortest_158 rfl (lv_at hl 4 rfl) ?_
              refine lv_iload hx hb d_Model_shortest_159 (lv_at hl 2 rfl) ?_
              refine callV_v (wr := [(rA, .inl (cI, 400, .inl k113)), (wA, .inl (cI, 400, .inl kw))]) C0 (c_Model_sayTried l dC dI cI cB cJ (h0) ((0 : Int32)) (we) (wm) (wy) (ra) (tA) (tn) (oA) (on1) (rA) (fi1113) (la1113) (wA) (wf1) (wl1) (lo1113) (ov1113) (un1113) (aT) (mi) (ds) (dA) (a0) (xp) (iA) (te1155) (ko) (k155) (sgW E M x.toInt) (x5) (nn) (te1155.toInt) (by exact hTL) (by exact hsl) (by exact t_x5) (by exact hnn1) (by omega) (by exact h155.1) (by exact hlst) (by rfl) (by exact htv)) (cwV 1 hts (gV m_735 m_736 m_45 m_55 m_737) rfl rfl rfl (by decide +kernel) ⟨Nat.le_of_ble_eq_true rfl, Nat.le_of_ble_eq_true rfl⟩) 8 rfl rfl 0 rfl hP hD hS hA [2, 0, 4] [1, 3] rfl rfl (by decide) (by decide) (by decide) rfl hl.1 rfl (Nat.le_of_ble_eq_true rfl) d_Model_shortest_161 ⟨Nat.le_of_ble_eq_true rfl, Nat.le_of_ble_eq_true rfl⟩ (fun u161 H locs hw9 hP hD hS => ?_)
              obtain ⟨ko161, on1161⟩ := u161
              have h161 : TL ko161 on1161 ((sgW E M x.toInt) ++ (SAYd k155 nn ++ expS te1155.toInt)) := hw9
              have hP : va_P (dC, dI) vwCl [(rA, .inl (cI, 400, .inl k113)), (wA, .inl (cI, 400, .inl kw)), (h0, .inr (8, [.int 0, .int we, .int wm, .int wy, .int ra, .ref tA, .int tn, .ref oA, .int on1161, .ref rA, .int fi1113, .int la1113, .ref wA, .int wf1, .int wl1, .int lo1113, .int ov1113, .int un1113, .int aT, .int mi, .int ds, .ref dA, .int a0, .int xp, .ref iA, .int te1155])), (oA, .inl (cI, 300, .inl ko161)), (iA, .inl (cI, 200, .inl k155))] H := hP
              have hD : va_D A [(rA, .inl (cI, 400, .inl k113)), (wA, .inl (cI, 400, .inl kw)), (h0, .inr (8, [.int 0, .int we, .int wm, .int wy, .int ra, .ref tA, .int tn, .ref oA, .int on1161, .ref rA, .int fi1113, .int la1113, .ref wA, .int wf1, .int wl1, .int lo1113, .int ov1113, .int un1113, .int aT, .int mi, .int ds, .ref dA, .int a0, .int xp, .ref iA, .int te1155])), (oA, .inl (cI, 300, .inl ko161)), (iA, .inl (cI, 200, .inl k155))] := hD
              refine lv_aload_n hx hb d_Model_shortest_164 rfl (lv_at hl 4 rfl) ?_
              refine va_get (D := (dC, dI)) (ci := 8) (v := .int on1161) (C := R_Model) (T := F_Model) (N := 26) hx hb hts u_Model hown hK hP 2 rfl rfl 8 (by decide) (hts _ m_571) (fun _ h9 => h9) rfl d_Model_shortest_165 ?_
              exact Ci.ret C0 (v := on1161) (u := (0, ko161, on1161, k113, fi1113, la1113, kw, wf1, wl1, k155, te1155, lo1113, un1113, ov1113)) (Nat.le_of_ble_eq_true rfl) (Nat.le_of_ble_eq_true rfl) (by show (isPat E M x.toInt ∧ (0 : Int32) = 0 ∧ ∃ w : List Nat, TL ko161 on1161 w ∧ on1161.toInt = (w.length : Int) ∧ SHM E M x.toInt w) ∨ (¬ isPat E M x.toInt ∧ (0 : Int32) = 1 ∧ on1161 = 0 ∧ ko161 = fo ∧ on1161 = on); exact Or.inl ⟨hpat, rfl, SH_fin hnn1 (by omega) h155.1 hzi hZ0 hshc h161⟩) hP hD hS [2, 3, 0, 1, 4] (by decide) rfl d_Model_shortest_168
      · skip
        refine lv_iload hx hb d_Model_shortest_123 (lv_at hl 0 rfl) ?_
        refine lv_if_ne (tgt := 131) hx hb d_Model_shortest_125 (by decide) (fun b125 => ?_) (fun b125 => ?_)
        · skip
          refine lv_iload hx hb d_Model_shortest_131 (lv_at hl 1 rfl) ?_
          refine lv_if_eq (tgt := 158) hx hb d_Model_shortest_133 (by decide) (fun b133 => ?_) (fun b133 => ?_)
          · skip
            have hz1 : ¬ Z1 = szo E M x.toInt.toNat := hcb1.elim (fun h => absurd (h.1.symm.trans b120) (by decide)) (fun h => h.2)
            have hz2 : Z2 = szo E M x.toInt.toNat := hcb2.elim (fun h => h.2) (fun h => absurd h.1 b125)
            obtain ⟨hshc, hlst⟩ := SH_up hnn1 (by omega) hW hsp hNF (by decide) h106 (hty.2.2 hz2 (Or.inl hz1))
            have htv : -99 ≤ te1106.toInt ∧ te1106.toInt ≤ 99 := by have h9 := h106.2.2; omega
            refine lv_aload_n hx hb d_Model_shortest_158 rfl (lv_at hl 4 rfl) ?_
            refine lv_iload hx hb d_Model_shortest_159 (lv_at hl 2 rfl) ?_
            refine callV_v (wr := [(wA, .inl (cI, 400, .inl kw)), (rA, .inl (cI, 400, .inl k113))]) C0 (c_Model_sayTried l dC dI cI cB cJ (h0) ((0 : Int32)) (we) (wm) (wy) (ra) (tA) (tn) (oA) (on1) (rA) (fi1113) (la1113) (wA) (wf1) (wl1) (lo1113) (ov1113) (un1113) (aT) (mi) (ds) (dA) (a0) (xp) (iA) (te1106) (ko) (k106) (sgW E M x.toInt) (x5) (nn) (te1106.toInt) (by exact hTL) (by exact hsl) (by exact t_x5) (by exact hnn1) (by omega) (by exact h106.1) (by exact hlst) (by rfl) (by exact htv)) (cwV 1 hts (gV m_735 m_736 m_45 m_55 m_737) rfl rfl rfl (by decide +kernel) ⟨Nat.le_of_ble_eq_true rfl, Nat.le_of_ble_eq_true rfl⟩) 8 rfl rfl 0 rfl hP hD hS hA [2, 0, 4] [1, 3] rfl rfl (by decide) (by decide) (by decide) rfl hl.1 rfl (Nat.le_of_ble_eq_true rfl) d_Model_shortest_161 ⟨Nat.le_of_ble_eq_true rfl, Nat.le_of_ble_eq_true rfl⟩ (fun u161 H locs hw9 hP hD hS => ?_)
            obtain ⟨ko161, on1161⟩ := u161
            have h161 : TL ko161 on1161 ((sgW E M x.toInt) ++ (SAYd k106 nn ++ expS te1106.toInt)) := hw9
            have hP : va_P (dC, dI) vwCl [(wA, .inl (cI, 400, .inl kw)), (rA, .inl (cI, 400, .inl k113)), (h0, .inr (8, [.int 0, .int we, .int wm, .int wy, .int ra, .ref tA, .int tn, .ref oA, .int on1161, .ref rA, .int fi1113, .int la1113, .ref wA, .int wf1, .int wl1, .int lo1113, .int ov1113, .int un1113, .int aT, .int mi, .int ds, .ref dA, .int a0, .int xp, .ref iA, .int te1106])), (oA, .inl (cI, 300, .inl ko161)), (iA, .inl (cI, 200, .inl k106))] H := hP
            have hD : va_D A [(wA, .inl (cI, 400, .inl kw)), (rA, .inl (cI, 400, .inl k113)), (h0, .inr (8, [.int 0, .int we, .int wm, .int wy, .int ra, .ref tA, .int tn, .ref oA, .int on1161, .ref rA, .int fi1113, .int la1113, .ref wA, .int wf1, .int wl1, .int lo1113, .int ov1113, .int un1113, .int aT, .int mi, .int ds, .ref dA, .int a0, .int xp, .ref iA, .int te1106])), (oA, .inl (cI, 300, .inl ko161)), (iA, .inl (cI, 200, .inl k106))] := hD
            refine lv_aload_n hx hb d_Model_shortest_164 rfl (lv_at hl 4 rfl) ?_
            refine va_get (D := (dC, dI)) (ci := 8) (v := .int on1161) (C := R_Model) (T := F_Model) (N := 26) hx hb hts u_Model hown hK hP 2 rfl rfl 8 (by decide) (hts _ m_571) (fun _ h9 => h9) rfl d_Model_shortest_165 ?_
            exact Ci.ret C0 (v := on1161) (u := (0, ko161, on1161, k113, fi1113, la1113, kw, wf1, wl1, k106, te1106, lo1113, un1113, ov1113)) (Nat.le_of_ble_eq_true rfl) (Nat.le_of_ble_eq_true rfl) (by show (isPat E M x.toInt ∧ (0 : Int32) = 0 ∧ ∃ w : List Nat, TL ko161 on1161 w ∧ on1161.toInt = (w.length : Int) ∧ SHM E M x.toInt w) ∨ (¬ isPat E M x.toInt ∧ (0 : Int32) = 1 ∧ on1161 = 0 ∧ ko161 = fo ∧ on1161 = on); exact Or.inl ⟨hpat, rfl, SH_fin hnn1 (by omega) h106.1 hzi hZ0 hshc h161⟩) hP hD hS [2, 3, 1, 0, 4] (by decide) rfl d_Model_shortest_168
          · skip
            exact absurd b120 b133
        · skip
          refine lv_goto (tgt := 169) hx hb d_Model_shortest_128 (by decide) ?_
          obtain ⟨v169, e169⟩ : ∃ y : Int32, y = x5 + 1 := ⟨_, rfl⟩
          have t169 : v169.toInt = (nn : Int) + 1 := by rw [e169]; exact q_iadd t_x5 (show (1 : Int32).toInt = 1 by decide) (by omega)
          refine lv_iinc (v := v169) (lv' := [(5, .int v169), (7, .int r113), (6, .int r97), (3, .long x3), (0, .ref h0)]) hx hb d_Model_shortest_169 hl (k := 2) rfl (by rw [e169]; rfl) (by decide) rfl (fun ls hl => ?_)
          refine lv_goto (tgt := 79) hx hb d_Model_shortest_172 (by decide) ?_
          have hz1 : ¬ Z1 = szo E M x.toInt.toNat := hcb1.elim (fun h => absurd (h.1.symm.trans b120) (by decide)) (fun h => h.2)
          have hz2 : ¬ Z2 = szo E M x.toInt.toNat := hcb2.elim (fun h => absurd (h.1.symm.trans b125) (by decide)) (fun h => h.2)
          have hnf := hty.1 hz1 hz2
          have hn16 : nn ≤ 16 := by
            rcases (show nn ≤ 16 ∨ nn = 17 by omega) with h | h
            · exact h
            · exfalso
              rw [h] at hnf
              obtain ⟨hc1, hc2⟩ := WH_c hW hsp
              exact FD_end2 (BS_c hE1 hE2 hM1 hM2 hZ0 (by omega) hc1 hc2) hnf
          exact ih (v169) (nn + 1) (x3) (ko) (on1) (k113) (fi1113) (la1113) (kw) (wf1) (wl1) (k106) (te1106) (lo1113) (un1113) (ov1113) (q1) (q2) H locs ls (by omega) ((t169).trans (by omega)) ((t_x3).trans (by omega)) (by exact t_wf1) (by exact t_wl1) (by exact hW) (by exact hsp) (by exact hqq) (by exact hTL) (by exact hzi) (by exact hZ0) (by exact hpat) (by omega) (by omega) (by intro n1 h1_ h2_; rcases Nat.lt_or_ge n1 nn with h | h; exact hNF n1 h1_ h; rw [show n1 = nn by omega]; exact hnf) (va_Psub hP [2, 0, 3, 1, 4] rfl) (hD.sub [2, 0, 3, 1, 4] (by decide) rfl) hS (lv_sub hl [0, 3, 4] rfl)
set_option maxHeartbeats 4000000 in
set_option maxRecDepth 100000 in
theorem c_Model_shortest (l : Launch) (dC : Nat → ClassId) (dI : Nat → Nat → Nat) (cI cB cJ : ClassId) (h0 : Nat) (th : Int32) (we : Int32) (wm : Int32) (wy : Int32) (ra : Int32) (tA : Nat) (tn : Int32) (oA : Nat) (on : Int32) (rA : Nat) (fi : Int32) (la : Int32) (wA : Nat) (wf : Int32) (wl : Int32) (lo : Int32) (ov : Int32) (un : Int32) (aT : Int32) (mi : Int32) (ds : Int32) (dA : Nat) (a0 : Int32) (xp : Int32) (iA : Nat) (te : Int32) (E : Nat) (M : Nat) (fo : Nat → Int32) (fr : Nat → Int32) (fw : Nat → Int32) (ft : Nat → Int32) (x : Int64) (hL : LY we wm E M) : Ci l dC dI cI cB cJ y_Model_shortest w_Model_shortest ({ frames := 4, cells := 0, slots := 0, locals := 109 } : Room) [.ref h0, .long x] [(h0, .inr (8, [.int th, .int we, .int wm, .int wy, .int ra, .ref tA, .int tn, .ref oA, .int on, .ref rA, .int fi, .int la, .ref wA, .int wf, .int wl, .int lo, .int ov, .int un, .int aT, .int mi, .int ds, .ref dA, .int a0, .int xp, .ref iA, .int te])), (oA, .inl (cI, 300, .inl fo)), (rA, .inl (cI, 400, .inl fr)), (wA, .inl (cI, 400, .inl fw)), (iA, .inl (cI, 200, .inl ft))] (fun (r : Int32) (u : (Int32) × (Nat → Int32) × (Int32) × (Nat → Int32) × (Int32) × (Int32) × (Nat → Int32) × (Int32) × (Int32) × (Nat → Int32) × (Int32) × (Int32) × (Int32) × (Int32)) => (isPat E M x.toInt ∧ u.1 = 0 ∧ ∃ w : List Nat, TL u.2.1 u.2.2.1 w ∧ r.toInt = (w.length : Int) ∧ SHM E M x.toInt w) ∨ (¬ isPat E M x.toInt ∧ u.1 = 1 ∧ r = 0 ∧ u.2.1 = fo ∧ u.2.2.1 = on)) (fun u : (Int32) × (Nat → Int32) × (Int32) × (Nat → Int32) × (Int32) × (Int32) × (Nat → Int32) × (Int32) × (Int32) × (Nat → Int32) × (Int32) × (Int32) × (Int32) × (Int32) => [(h0, .inr (8, [.int u.1, .int we, .int wm, .int wy, .int ra, .ref tA, .int tn, .ref oA, .int u.2.2.1, .ref rA, .int u.2.2.2.2.1, .int u.2.2.2.2.2.1, .ref wA, .int u.2.2.2.2.2.2.2.1, .int u.2.2.2.2.2.2.2.2.1, .int u.2.2.2.2.2.2.2.2.2.2.2.1, .int u.2.2.2.2.2.2.2.2.2.2.2.2.2, .int u.2.2.2.2.2.2.2.2.2.2.2.2.1, .int aT, .int mi, .int ds, .ref dA, .int a0, .int xp, .ref iA, .int u.2.2.2.2.2.2.2.2.2.2.1])), (oA, .inl (cI, 300, .inl u.2.1)), (rA, .inl (cI, 400, .inl u.2.2.2.1)), (wA, .inl (cI, 400, .inl u.2.2.2.2.2.2.1)), (iA, .inl (cI, 200, .inl u.2.2.2.2.2.2.2.2.2.1))]) := by
  refine Ci.intro (cc := b_Model_shortest) (maxL := 8) (plainFor_of_name (by decide)) rfl (Nat.le_of_ble_eq_true rfl) ?_
  intro p e s m below meth c A ls C0 hin hA hP hD hS hl
  obtain ⟨hx, hb, hml, hown, hts, hr, hlocks, hK, hN⟩ := id C0
  obtain ⟨H, hH⟩ : ∃ H, H = s.heap := ⟨_, rfl⟩
  have hP : va_P (dC, dI) vwCl [(h0, .inr (8, [.int th, .int we, .int wm, .int wy, .int ra, .ref tA, .int tn, .ref oA, .int on, .ref rA, .int fi, .int la, .ref wA, .int wf, .int wl, .int lo, .int ov, .int un, .int aT, .int mi, .int ds, .ref dA, .int a0, .int xp, .ref iA, .int te])), (oA, .inl (cI, 300, .inl fo)), (rA, .inl (cI, 400, .inl fr)), (wA, .inl (cI, 400, .inl fw)), (iA, .inl (cI, 200, .inl ft))] s.heap := hP
  have hl : lv_has ls 8 [(0, .ref h0), (1, .long x)] := hl
  have r_x := q_r64 x
  suffices h : ∀ (H : Heap) (locs : List Loc), va_P (dC, dI) vwCl [(h0, .inr (8, [.int th, .int we, .int wm, .int wy, .int ra, .ref tA, .int tn, .ref oA, .int on, .ref rA, .int fi, .int la, .ref wA, .int wf, .int wl, .int lo, .int ov, .int un, .int aT, .int mi, .int ds, .ref dA, .int a0, .int xp, .ref iA, .int te])), (oA, .inl (cI, 300, .inl fo)), (rA, .inl (cI, 400, .inl fr)), (wA, .inl (cI, 400, .inl fw)), (iA, .inl (cI, 200, .inl ft))] H → va_D A [(h0, .inr (8, [.int th, .int we, .int wm, .int wy, .int ra, .ref tA, .int tn, .ref oA, .int on, .ref rA, .int fi, .int la, .ref wA, .int wf, .int wl, .int lo, .int ov, .int un, .int aT, .int mi, .int ds, .ref dA, .int a0, .int xp, .ref iA, .int te])), (oA, .inl (cI, 300, .inl fo)), (rA, .inl (cI, 400, .inl fr)), (wA, .inl (cI, 400, .inl fw)), (iA, .inl (cI, 200, .inl ft))] → va_S A s.heap H locs → W p l e ({ frames := 4, cells := 0, slots := 0, locals := 109 } : Room) s m ([.ref h0, .long x] : List Value).toArray below meth c H locs 0 0 (MQ below (va_Qi (fun (r : Int32) (u : (Int32) × (Nat → Int32) × (Int32) × (Nat → Int32) × (Int32) × (Int32) × (Nat → Int32) × (Int32) × (Int32) × (Nat → Int32) × (Int32) × (Int32) × (Int32) × (Int32)) => (isPat E M x.toInt ∧ u.1 = 0 ∧ ∃ w : List Nat, TL u.2.1 u.2.2.1 w ∧ r.toInt = (w.length : Int) ∧ SHM E M x.toInt w) ∨ (¬ isPat E M x.toInt ∧ u.1 = 1 ∧ r = 0 ∧ u.2.1 = fo ∧ u.2.2.1 = on)) (poG dC dI A (fun u : (Int32) × (Nat → Int32) × (Int32) × (Nat → Int32) × (Int32) × (Int32) × (Nat → Int32) × (Int32) × (Int32) × (Nat → Int32) × (Int32) × (Int32) × (Int32) × (Int32) => [(h0, .inr (8, [.int u.1, .int we, .int wm, .int wy, .int ra, .ref tA, .int tn, .ref oA, .int u.2.2.1, .ref rA, .int u.2.2.2.2.1, .int u.2.2.2.2.2.1, .ref wA, .int u.2.2.2.2.2.2.2.1, .int u.2.2.2.2.2.2.2.2.1, .int u.2.2.2.2.2.2.2.2.2.2.2.1, .int u.2.2.2.2.2.2.2.2.2.2.2.2.2, .int u.2.2.2.2.2.2.2.2.2.2.2.2.1, .int aT, .int mi, .int ds, .ref dA, .int a0, .int xp, .ref iA, .int u.2.2.2.2.2.2.2.2.2.2.1])), (oA, .inl (cI, 300, .inl u.2.1)), (rA, .inl (cI, 400, .inl u.2.2.2.1)), (wA, .inl (cI, 400, .inl u.2.2.2.2.2.2.1)), (iA, .inl (cI, 200, .inl u.2.2.2.2.2.2.2.2.2.1))])) A) ([.ref h0, .long x] : List Value).toArray s 0 0 A) (F0 m 0 ls []) from h _ _ hP hD hS
  clear hP hD hS hH H
  intro H locs hP hD hS
  obtain ⟨he, hm, hE1, hE2, hM1, hM2⟩ := id hL
  have hbz := p_bias hE1 hE2
  have hem := p_em hE1 hE2 hM1 hM2
  have hiz := iz_sb E M
  have hpm := p_m hM2
  have hpm1 := pw_p M
  have hpe := p_e hE1 hE2
  have hsl := sgW_len E M x.toInt
  refine lv_aload_n hx hb d_Model_shortest_0 rfl (lv_at hl 0 rfl) ?_
  refine lv_lload_n hx hb d_Model_shortest_1 rfl (lv_at hl 1 rfl) ?_
  refine callV_i (wr := [(oA, .inl (cI, 300, .inl fo)), (rA, .inl (cI, 400, .inl fr)), (wA, .inl (cI, 400, .inl fw)), (iA, .inl (cI, 200, .inl ft))]) C0 (c_Model_isPattern l dC dI cI cB cJ (h0) (th) (we) (wm) (wy) (ra) (tA) (tn) (oA) (on) (rA) (fi) (la) (wA) (wf) (wl) (lo) (ov) (un) (aT) (mi) (ds) (dA) (a0) (xp) (iA) (te) (E) (M) (x) (by exact hL)) (cwV 1 hts (gV m_700 m_701 m_35 m_55 m_702) rfl rfl rfl (by decide +kernel) ⟨Nat.le_of_ble_eq_true rfl, Nat.le_of_ble_eq_true rfl⟩) 8 rfl rfl 0 rfl hP hD hS hA [0] [1, 2, 3, 4] rfl rfl (by decide) (by decide) (by decide) rfl hl.1 rfl (Nat.le_of_ble_eq_true rfl) d_Model_shortest_2 ⟨Nat.le_of_ble_eq_true rfl, Nat.le_of_ble_eq_true rfl⟩ (fun r2 u2 H locs hw9 hP hD hS => ?_)
  have h2 : r2 = if isPat E M x.toInt then 1 else 0 := hw9
  have hP : va_P (dC, dI) vwCl [(oA, .inl (cI, 300, .inl fo)), (rA, .inl (cI, 400, .inl fr)), (wA, .inl (cI, 400, .inl fw)), (iA, .inl (cI, 200, .inl ft)), (h0, .inr (8, [.int th, .int we, .int wm, .int wy, .int ra, .ref tA, .int tn, .ref oA, .int on, .ref rA, .int fi, .int la, .ref wA, .int wf, .int wl, .int lo, .int ov, .int un, .int aT, .int mi, .int ds, .ref dA, .int a0, .int xp, .ref iA, .int te]))] H := hP
  have hD : va_D A [(oA, .inl (cI, 300, .inl fo)), (rA, .inl (cI, 400, .inl fr)), (wA, .inl (cI, 400, .inl fw)), (iA, .inl (cI, 200, .inl ft)), (h0, .inr (8, [.int th, .int we, .int wm, .int wy, .int ra, .ref tA, .int tn, .ref oA, .int on, .ref rA, .int fi, .int la, .ref wA, .int wf, .int wl, .int lo, .int ov, .int un, .int aT, .int mi, .int ds, .ref dA, .int a0, .int xp, .ref iA, .int te]))] := hD
  refine lv_if_ne (tgt := 14) hx hb d_Model_shortest_5 (by decide) (fun b5 => ?_) (fun b5 => ?_)
  · skip
    have hpat : isPat E M x.toInt := Decidable.byContradiction fun h => b5 (by rw [h2]; exact if_neg h)
    refine lv_aload_n hx hb d_Model_shortest_14 rfl (lv_at hl 0 rfl) ?_
    refine lv_iconst (v := 0) hx hb d_Model_shortest_15 (by decide) ?_
    refine va_put (D := (dC, dI)) (ci := 8) (v := .int 0) (ty := .int) (C := R_Model) (T := F_Model) (N := 26) hx hb hts u_Model t_Model t_Model_ok n_Model hown hK hP hD hS 4 rfl rfl 0 (by decide) (hts _ m_563) (fun _ h9 => h9) rfl (by decide +kernel) rfl rfl (Nat.le_of_ble_eq_true rfl) d_Model_shortest_16 (fun H locs hP hD hS => ?_)
    have hP : va_P (dC, dI) vwCl [(oA, .inl (cI, 300, .inl fo)), (rA, .inl (cI, 400, .inl fr)), (wA, .inl (cI, 400, .inl fw)), (iA, .inl (cI, 200, .inl ft)), (h0, .inr (8, [.int 0, .int we, .int wm, .int wy, .int ra, .ref tA, .int tn, .ref oA, .int on, .ref rA, .int fi, .int la, .ref wA, .int wf, .int wl, .int lo, .int ov, .int un, .int aT, .int mi, .int ds, .ref dA, .int a0, .int xp, .ref iA, .int te]))] H := hP
    have hD : va_D A [(oA, .inl (cI, 300, .inl fo)), (rA, .inl (cI, 400, .inl fr)), (wA, .inl (cI, 400, .inl fw)), (iA, .inl (cI, 200, .inl ft)), (h0, .inr (8, [.int 0, .int we, .int wm, .int wy, .int ra, .ref tA, .int tn, .ref oA, .int on, .ref rA, .int fi, .int la, .ref wA, .int wf, .int wl, .int lo, .int ov, .int un, .int aT, .int mi, .int ds, .ref dA, .int a0, .int xp, .ref iA, .int te]))] := hD
    refine lv_aload_n hx hb d_Model_shortest_19 rfl (lv_at hl 0 rfl) ?_
    refine lv_lload_n hx hb d_Model_shortest_20 rfl (lv_at hl 1 rfl) ?_
    refine callV_i (wr := [(rA, .inl (cI, 400, .inl fr)), (wA, .inl (cI, 400, .inl fw)), (iA, .inl (cI, 200, .inl ft))]) C0 (c_Model_isStrange l dC dI cI cB cJ (h0) ((0 : Int32)) (we) (wm) (wy) (ra) (tA) (tn) (oA) (on) (rA) (fi) (la) (wA) (wf) (wl) (lo) (ov) (un) (aT) (mi) (ds) (dA) (a0) (xp) (iA) (te) (E) (M) (fo) (x) (by exact hL) (by exact hpat)) (cwV 1 hts (gV m_703 m_704 m_36 m_55 m_705) rfl rfl rfl (by decide +kernel) ⟨Nat.le_of_ble_eq_true rfl, Nat.le_of_ble_eq_true rfl⟩) 8 rfl rfl 0 rfl hP hD hS hA [4, 0] [1, 2, 3] rfl rfl (by decide) (by decide) (by decide) rfl hl.1 rfl (Nat.le_of_ble_eq_true rfl) d_Model_shortest_21 ⟨Nat.le_of_ble_eq_true rfl, Nat.le_of_ble_eq_true rfl⟩ (fun r21 u21 H locs hw9 hP hD hS => ?_)
    obtain ⟨k21, on121⟩ := u21
    have h21 : (r21 = 0 ∧ szo E M x.toInt.toNat < iz E M ∧ TL k21 on121 (sgW E M x.toInt)) ∨ (r21 = 1 ∧ iz E M ≤ szo E M x.toInt.toNat ∧ TL k21 on121 (nfW E M x.toInt)) := hw9
    have hP : va_P (dC, dI) vwCl [(rA, .inl (cI, 400, .inl fr)), (wA, .inl (cI, 400, .inl fw)), (iA, .inl (cI, 200, .inl ft)), (h0, .inr (8, [.int 0, .int we, .int wm, .int wy, .int ra, .ref tA, .int tn, .ref oA, .int on121, .ref rA, .int fi, .int la, .ref wA, .int wf, .int wl, .int lo, .int ov, .int un, .int aT, .int mi, .int ds, .ref dA, .int a0, .int xp, .ref iA, .int te])), (oA, .inl (cI, 300, .inl k21))] H := hP
    have hD : va_D A [(rA, .inl (cI, 400, .inl fr)), (wA, .inl (cI, 400, .inl fw)), (iA, .inl (cI, 200, .inl ft)), (h0, .inr (8, [.int 0, .int we, .int wm, .int wy, .int ra, .ref tA, .int tn, .ref oA, .int on121, .ref rA, .int fi, .int la, .ref wA, .int wf, .int wl, .int lo, .int ov, .int un, .int aT, .int mi, .int ds, .ref dA, .int a0, .int xp, .ref iA, .int te])), (oA, .inl (cI, 300, .inl k21))] := hD
    refine lv_if_eq (tgt := 32) hx hb d_Model_shortest_24 (by decide) (fun b24 => ?_) (fun b24 => ?_)
    · skip
      obtain ⟨hzi, hTL⟩ := h21.elim (fun h => h.2) (fun h => absurd (h.1.symm.trans b24) (by decide))
      refine lv_aload_n hx hb d_Model_shortest_32 rfl (lv_at hl 0 rfl) ?_
      refine lv_lload_n hx hb d_Model_shortest_33 rfl (lv_at hl 1 rfl) ?_
      refine callV_l (wr := [(rA, .inl (cI, 400, .inl fr)), (wA, .inl (cI, 400, .inl fw)), (iA, .inl (cI, 200, .inl ft)), (oA, .inl (cI, 300, .inl k21))]) C0 (c_Model_sizeOf l dC dI cI cB cJ (h0) ((0 : Int32)) (we) (wm) (wy) (ra) (tA) (tn) (oA) (on121) (rA) (fi) (la) (wA) (wf) (wl) (lo) (ov) (un) (aT) (mi) (ds) (dA) (a0) (xp) (iA) (te) (E) (M) (x) (x.toInt.toNat) (by exact hL) (by exact (Int.toNat_of_nonneg hpat.1).symm)) (cwV 1 hts (gV m_706 m_707 m_37 m_55 m_708) rfl rfl rfl (by decide +kernel) ⟨Nat.le_of_ble_eq_true rfl, Nat.le_of_ble_eq_true rfl⟩) 8 rfl rfl 0 rfl hP hD hS hA [3] [0, 1, 2, 4] rfl rfl (by decide) (by decide) (by decide) rfl hl.1 rfl (Nat.le_of_ble_eq_true rfl) d_Model_shortest_34 ⟨Nat.le_of_ble_eq_true rfl, Nat.le_of_ble_eq_true rfl⟩ (fun r34 u34 H locs hw9 hP hD hS => ?_)
      have h34 : r34.toInt = ((szo E M x.toInt.toNat : Nat) : Int) := hw9
      have hP : va_P (dC, dI) vwCl [(rA, .inl (cI, 400, .inl fr)), (wA, .inl (cI, 400, .inl fw)), (iA, .inl (cI, 200, .inl ft)), (oA, .inl (cI, 300, .inl k21)), (h0, .inr (8, [.int 0, .int we, .int wm, .int wy, .int ra, .ref tA, .int tn, .ref oA, .int on121, .ref rA, .int fi, .int la, .ref wA, .int wf, .int wl, .int lo, .int ov, .int un, .int aT, .int mi, .int ds, .ref dA, .int a0, .int xp, .ref iA, .int te]))] H := hP
      have hD : va_D A [(rA, .inl (cI, 400, .inl fr)), (wA, .inl (cI, 400, .inl fw)), (iA, .inl (cI, 200, .inl ft)), (oA, .inl (cI, 300, .inl k21)), (h0, .inr (8, [.int 0, .int we, .int wm, .int wy, .int ra, .ref tA, .int tn, .ref oA, .int on121, .ref rA, .int fi, .int la, .ref wA, .int wf, .int wl, .int lo, .int ov, .int un, .int aT, .int mi, .int ds, .ref dA, .int a0, .int xp, .ref iA, .int te]))] := hD
      have t34 : r34.toInt = ((szo E M x.toInt.toNat : Nat) : Int) := h34
      refine lv_lstore_n (lv' := [(3, .long r34), (0, .ref h0), (1, .long x)]) hx hb d_Model_shortest_37 rfl hl (by decide) rfl (fun ls hl => ?_)
      refine lv_lload_n hx hb d_Model_shortest_38 rfl (lv_at hl 0 rfl) ?_
      refine lv_lconst (v := 0) hx hb d_Model_shortest_39 (by decide) ?_
      refine W.lcmp hx hb d_Model_shortest_40 ?_
      refine lv_if_ne (tgt := 67) hx hb d_Model_shortest_41 (by decide) (fun b41 => ?_) (fun b41 => ?_)
      · skip
        rw [q_cmp_eq t34 (show (0 : Int64).toInt = 0 by decide)] at b41
        refine lv_aload_n hx hb d_Model_shortest_67 rfl (lv_at hl 1 rfl) ?_
        refine lv_lload_n hx hb d_Model_shortest_68 rfl (lv_at hl 0 rfl) ?_
        refine callV_v (wr := [(wA, .inl (cI, 400, .inl fw)), (iA, .inl (cI, 200, .inl ft)), (oA, .inl (cI, 300, .inl k21))]) C0 (c_Model_spread l dC dI cI cB cJ (h0) ((0 : Int32)) (we) (wm) (wy) (ra) (tA) (tn) (oA) (on121) (rA) (fi) (la) (wA) (wf) (wl) (lo) (ov) (un) (aT) (mi) (ds) (dA) (a0) (xp) (iA) (te) (E) (M) (fr) (r34) (szo E M x.toInt.toNat) (by exact hL) (by exact h34) (by exact hzi)) (cwV 1 hts (gV m_715 m_716 m_40 m_55 m_717) rfl rfl rfl (by decide +kernel) ⟨Nat.le_of_ble_eq_true rfl, Nat.le_of_ble_eq_true rfl⟩) 8 rfl rfl 0 rfl hP hD hS hA [4, 0] [1, 2, 3] rfl rfl (by decide) (by decide) (by decide) rfl hl.1 rfl (Nat.le_of_ble_eq_true rfl) d_Model_shortest_69 ⟨Nat.le_of_ble_eq_true rfl, Nat.le_of_ble_eq_true rfl⟩ (fun u69 H locs hw9 hP hD hS => ?_)
        obtain ⟨k69, fi169, la169⟩ := u69
        have h69 : ∃ n3 n4 : Nat, fi169.toInt = (n3 : Int) ∧ la169.toInt = (n4 : Int) ∧ RWp k69 n3 n4 ∧ SPV E M (szo E M x.toInt.toNat) (sv k69 400) ∧ n4 ≤ 60 + (-(pwr E M (szo E M x.toInt.toNat))).toNat := hw9
        have hP : va_P (dC, dI) vwCl [(wA, .inl (cI, 400, .inl fw)), (iA, .inl (cI, 200, .inl ft)), (oA, .inl (cI, 300, .inl k21)), (h0, .inr (8, [.int 0, .int we, .int wm, .int wy, .int ra, .ref tA, .int tn, .ref oA, .int on121, .ref rA, .int fi169, .int la169, .ref wA, .int wf, .int wl, .int lo, .int ov, .int un, .int aT, .int mi, .int ds, .ref dA, .int a0, .int xp, .ref iA, .int te])), (rA, .inl (cI, 400, .inl k69))] H := hP
        have hD : va_D A [(wA, .inl (cI, 400, .inl fw)), (iA, .inl (cI, 200, .inl ft)), (oA, .inl (cI, 300, .inl k21)), (h0, .inr (8, [.int 0, .int we, .int wm, .int wy, .int ra, .ref tA, .int tn, .ref oA, .int on121, .ref rA, .int fi169, .int la169, .ref wA, .int wf, .int wl, .int lo, .int ov, .int un, .int aT, .int mi, .int ds, .ref dA, .int a0, .int xp, .ref iA, .int te])), (rA, .inl (cI, 400, .inl k69))] := hD
        obtain ⟨n3, n4, t_f69, t_l69, hR69, hsp69, hn42⟩ := h69
        have hZ0 : 0 < szo E M x.toInt.toNat := by omega
        have hpos : 0 < sv k69 400 := Nat.lt_trans (p10 294) (SPV_min hE1 hE2 hM2 hZ0 hsp69)
        refine lv_aload_n hx hb d_Model_shortest_72 rfl (lv_at hl 1 rfl) ?_
        refine callV_v (wr := [(iA, .inl (cI, 200, .inl ft)), (oA, .inl (cI, 300, .inl k21))]) C0 (c_Model_keepWhole l dC dI cI cB cJ (h0) ((0 : Int32)) (we) (wm) (wy) (ra) (tA) (tn) (oA) (on121) (rA) (fi169) (la169) (wA) (wf) (wl) (lo) (ov) (un) (aT) (mi) (ds) (dA) (a0) (xp) (iA) (te) (k69) (n3) (n4) (fw) (by exact t_f69) (by exact t_l69) (by exact hR69) (by exact hpos)) (cwV 0 hts (gV m_723 m_724 m_41 m_55 m_725) rfl rfl rfl (by decide +kernel) ⟨Nat.le_of_ble_eq_true rfl, Nat.le_of_ble_eq_true rfl⟩) 8 rfl rfl 0 rfl hP hD hS hA [3, 4, 0] [1, 2] rfl rfl (by decide) (by decide) (by decide) rfl hl.1 rfl (Nat.le_of_ble_eq_true rfl) d_Model_shortest_73 ⟨Nat.le_of_ble_eq_true rfl, Nat.le_of_ble_eq_true rfl⟩ (fun u73 H locs hw9 hP hD hS => ?_)
        obtain ⟨k73, wf173, wl173⟩ := u73
        have h73 : ∃ q1 q2 : Nat, wf173.toInt = (q1 : Int) ∧ wl173.toInt = (q2 : Int) ∧ WHp k73 q1 q2 ∧ sv k73 400 = sv k69 400 := hw9
        have hP : va_P (dC, dI) vwCl [(iA, .inl (cI, 200, .inl ft)), (oA, .inl (cI, 300, .inl k21)), (h0, .inr (8, [.int 0, .int we, .int wm, .int wy, .int ra, .ref tA, .int tn, .ref oA, .int on121, .ref rA, .int fi169, .int la169, .ref wA, .int wf173, .int wl173, .int lo, .int ov, .int un, .int aT, .int mi, .int ds, .ref dA, .int a0, .int xp, .ref iA, .int te])), (rA, .inl (cI, 400, .inl k69)), (wA, .inl (cI, 400, .inl k73))] H := hP
        have hD : va_D A [(iA, .inl (cI, 200, .inl ft)), (oA, .inl (cI, 300, .inl k21)), (h0, .inr (8, [.int 0, .int we, .int wm, .int wy, .int ra, .ref tA, .int tn, .ref oA, .int on121, .ref rA, .int fi169, .int la169, .ref wA, .int wf173, .int wl173, .int lo, .int ov, .int un, .int aT, .int mi, .int ds, .ref dA, .int a0, .int xp, .ref iA, .int te])), (rA, .inl (cI, 400, .inl k69)), (wA, .inl (cI, 400, .inl k73))] := hD
        obtain ⟨q1, q2, t_wf1, t_wl1, hW, hsv73⟩ := h73
        rw [← hsv73] at hsp69
        have hqq := WH_q hE1 hE2 hM1 hM2 hzi hZ0 hW hsp69
        refine lv_iconst (v := 1) hx hb d_Model_shortest_76 (by decide) ?_
        refine lv_istore (lv' := [(5, .int 1), (3, .long r34), (0, .ref h0), (1, .long x)]) hx hb d_Model_shortest_77 hl (by decide) rfl (fun ls hl => ?_)
        exact L_Model_shortest_79 (h0) (th) (we) (wm) (wy) (ra) (tA) (tn) (oA) (on) (rA) (fi) (la) (wA) (wf) (wl) (lo) (ov) (un) (aT) (mi) (ds) (dA) (a0) (xp) (iA) (te) (E) (M) (fo) (fr) (fw) (ft) (x) C0 hA (hL) _ (1) (1) (r34) (k21) (on121) (k69) (fi169) (la169) (k73) (wf173) (wl173) (ft) (te) (lo) (un) (ov) (q1) (q2) H locs ls (Nat.lt_succ_self _) (((show (1 : Int32).toInt = 1 by decide)).trans (by omega)) ((t34).trans (by omega)) (by exact t_wf1) (by exact t_wl1) (by exact hW) (by exact hsp69) (by exact hqq) (by exact hTL) (by exact hzi) (by exact hZ0) (by exact hpat) (by omega) (by omega) (by intro n1 h1_ h2_; omega) (va_Psub hP [2, 1, 3, 4, 0] rfl) (hD.sub [2, 1, 3, 4, 0] (by decide) rfl) hS (lv_sub hl [0, 1, 2] rfl)
      · skip
        rw [q_cmp_eq t34 (show (0 : Int64).toInt = 0 by decide)] at b41
        refine lv_aload_n hx hb d_Model_shortest_44 rfl (lv_at hl 1 rfl) ?_
        refine lv_bipush (v := 48) hx hb d_Model_shortest_45 (by decide) ?_
        refine callV_v (wr := [(rA, .inl (cI, 400, .inl fr)), (wA, .inl (cI, 400, .inl fw)), (iA, .inl (cI, 200, .inl ft))]) C0 (c_Model_say l dC dI cI cB cJ (h0) ((0 : Int32)) (we) (wm) (wy) (ra) (tA) (tn) (oA) (on121) (rA) (fi) (la) (wA) (wf) (wl) (lo) (ov) (un) (aT) (mi) (ds) (dA) (a0) (xp) (iA) (te) (k21) (sgW E M x.toInt) ((48 : Int32)) ((48 : Nat)) (by exact hTL) (by decide) (by omega)) (cwV 1 hts (gV m_712 m_713 m_39 m_55 m_714) rfl rfl rfl (by decide +kernel) ⟨Nat.le_of_ble_eq_true rfl, Nat.le_of_ble_eq_true rfl⟩) 8 rfl rfl 0 rfl hP hD hS hA [4, 3] [0, 1, 2] rfl rfl (by decide) (by decide) (by decide) rfl hl.1 rfl (Nat.le_of_ble_eq_true rfl) d_Model_shortest_47 ⟨Nat.le_of_ble_eq_true rfl, Nat.le_of_ble_eq_true rfl⟩ (fun u47 H locs hw9 hP hD hS => ?_)
        obtain ⟨k47, on147⟩ := u47
        have h47 : TL k47 on147 ((sgW E M x.toInt) ++ [(48 : Nat)]) := hw9
        have hP : va_P (dC, dI) vwCl [(rA, .inl (cI, 400, .inl fr)), (wA, .inl (cI, 400, .inl fw)), (iA, .inl (cI, 200, .inl ft)), (h0, .inr (8, [.int 0, .int we, .int wm, .int wy, .int ra, .ref tA, .int tn, .ref oA, .int on147, .ref rA, .int fi, .int la, .ref wA, .int wf, .int wl, .int lo, .int ov, .int un, .int aT, .int mi, .int ds, .ref dA, .int a0, .int xp, .ref iA, .int te])), (oA, .inl (cI, 300, .inl k47))] H := hP
        have hD : va_D A [(rA, .inl (cI, 400, .inl fr)), (wA, .inl (cI, 400, .inl fw)), (iA, .inl (cI, 200, .inl ft)), (h0, .inr (8, [.int 0, .int we, .int wm, .int wy, .int ra, .ref tA, .int tn, .ref oA, .int on147, .ref rA, .int fi, .int la, .ref wA, .int wf, .int wl, .int lo, .int ov, .int un, .int aT, .int mi, .int ds, .ref dA, .int a0, .int xp, .ref iA, .int te])), (oA, .inl (cI, 300, .inl k47))] := hD
        refine lv_aload_n hx hb d_Model_shortest_50 rfl (lv_at hl 1 rfl) ?_
        refine lv_bipush (v := 101) hx hb d_Model_shortest_51 (by decide) ?_
        refine callV_v (wr := [(rA, .inl (cI, 400, .inl fr)), (wA, .inl (cI, 400, .inl fw)), (iA, .inl (cI, 200, .inl ft))]) C0 (c_Model_say l dC dI cI cB cJ (h0) ((0 : Int32)) (we) (wm) (wy) (ra) (tA) (tn) (oA) (on147) (rA) (fi) (la) (wA) (wf) (wl) (lo) (ov) (un) (aT) (mi) (ds) (dA) (a0) (xp) (iA) (te) (k47) ((sgW E M x.toInt ++ [48])) ((101 : Int32)) ((101 : Nat)) (by exact h47) (by decide) (by simp only [List.length_append, List.length_singleton, dl_len]; omega)) (cwV 1 hts (gV m_712 m_713 m_39 m_55 m_714) rfl rfl rfl (by decide +kernel) ⟨Nat.le_of_ble_eq_true rfl, Nat.le_of_ble_eq_true rfl⟩) 8 rfl rfl 0 rfl hP hD hS hA [3, 4] [0, 1, 2] rfl rfl (by decide) (by decide) (by decide) rfl hl.1 rfl (Nat.le_of_ble_eq_true rfl) d_Model_shortest_53 ⟨Nat.le_of_ble_eq_true rfl, Nat.le_of_ble_eq_true rfl⟩ (fun u53 H locs hw9 hP hD hS => ?_)
        obtain ⟨k53, on153⟩ := u53
        have h53 : TL k53 on153 ((sgW E M x.toInt ++ [48]) ++ [(101 : Nat)]) := hw9
        have hP : va_P (dC, dI) vwCl [(rA, .inl (cI, 400, .inl fr)), (wA, .inl (cI, 400, .inl fw)), (iA, .inl (cI, 200, .inl ft)), (h0, .inr (8, [.int 0, .int we, .int wm, .int wy, .int ra, .ref tA, .int tn, .ref oA, .int on153, .ref rA, .int fi, .int la, .ref wA, .int wf, .int wl, .int lo, .int ov, .int un, .int aT, .int mi, .int ds, .ref dA, .int a0, .int xp, .ref iA, .int te])), (oA, .inl (cI, 300, .inl k53))] H := hP
        have hD : va_D A [(rA, .inl (cI, 400, .inl fr)), (wA, .inl (cI, 400, .inl fw)), (iA, .inl (cI, 200, .inl ft)), (h0, .inr (8, [.int 0, .int we, .int wm, .int wy, .int ra, .ref tA, .int tn, .ref oA, .int on153, .ref rA, .int fi, .int la, .ref wA, .int wf, .int wl, .int lo, .int ov, .int un, .int aT, .int mi, .int ds, .ref dA, .int a0, .int xp, .ref iA, .int te])), (oA, .inl (cI, 300, .inl k53))] := hD
        refine lv_aload_n hx hb d_Model_shortest_56 rfl (lv_at hl 1 rfl) ?_
        refine lv_bipush (v := 48) hx hb d_Model_shortest_57 (by decide) ?_
        refine callV_v (wr := [(rA, .inl (cI, 400, .inl fr)), (wA, .inl (cI, 400, .inl fw)), (iA, .inl (cI, 200, .inl ft))]) C0 (c_Model_say l dC dI cI cB cJ (h0) ((0 : Int32)) (we) (wm) (wy) (ra) (tA) (tn) (oA) (on153) (rA) (fi) (la) (wA) (wf) (wl) (lo) (ov) (un) (aT) (mi) (ds) (dA) (a0) (xp) (iA) (te) (k53) ((sgW E M x.toInt ++ [48] ++ [101])) ((48 : Int32)) ((48 : Nat)) (by exact h53) (by decide) (by simp only [List.length_append, List.length_singleton, dl_len]; omega)) (cwV 1 hts (gV m_712 m_713 m_39 m_55 m_714) rfl rfl rfl (by decide +kernel) ⟨Nat.le_of_ble_eq_true rfl, Nat.le_of_ble_eq_true rfl⟩) 8 rfl rfl 0 rfl hP hD hS hA [3, 4] [0, 1, 2] rfl rfl (by decide) (by decide) (by decide) rfl hl.1 rfl (Nat.le_of_ble_eq_true rfl) d_Model_shortest_59 ⟨Nat.le_of_ble_eq_true rfl, Nat.le_of_ble_eq_true rfl⟩ (fun u59 H locs hw9 hP hD hS => ?_)
        obtain ⟨k59, on159⟩ := u59
        have h59 : TL k59 on159 ((sgW E M x.toInt ++ [48] ++ [101]) ++ [(48 : Nat)]) := hw9
        have hP : va_P (dC, dI) vwCl [(rA, .inl (cI, 400, .inl fr)), (wA, .inl (cI, 400, .inl fw)), (iA, .inl (cI, 200, .inl ft)), (h0, .inr (8, [.int 0, .int we, .int wm, .int wy, .int ra, .ref tA, .int tn, .ref oA, .int on159, .ref rA, .int fi, .int la, .ref wA, .int wf, .int wl, .int lo, .int ov, .int un, .int aT, .int mi, .int ds, .ref dA, .int a0, .int xp, .ref iA, .int te])), (oA, .inl (cI, 300, .inl k59))] H := hP
        have hD : va_D A [(rA, .inl (cI, 400, .inl fr)), (wA, .inl (cI, 400, .inl fw)), (iA, .inl (cI, 200, .inl ft)), (h0, .inr (8, [.int 0, .int we, .int wm, .int wy, .int ra, .ref tA, .int tn, .ref oA, .int on159, .ref rA, .int fi, .int la, .ref wA, .int wf, .int wl, .int lo, .int ov, .int un, .int aT, .int mi, .int ds, .ref dA, .int a0, .int xp, .ref iA, .int te])), (oA, .inl (cI, 300, .inl k59))] := hD
        refine lv_aload_n hx hb d_Model_shortest_62 rfl (lv_at hl 1 rfl) ?_
        refine va_get (D := (dC, dI)) (ci := 8) (v := .int on159) (C := R_Model) (T := F_Model) (N := 26) hx hb hts u_Model hown hK hP 3 rfl rfl 8 (by decide) (hts _ m_571) (fun _ h9 => h9) rfl d_Model_shortest_63 ?_
        exact Ci.ret C0 (v := on159) (u := (0, k59, on159, fr, fi, la, fw, wf, wl, ft, te, lo, un, ov)) (Nat.le_of_ble_eq_true rfl) (Nat.le_of_ble_eq_true rfl) (by show (isPat E M x.toInt ∧ (0 : Int32) = 0 ∧ ∃ w : List Nat, TL k59 on159 w ∧ on159.toInt = (w.length : Int) ∧ SHM E M x.toInt w) ∨ (¬ isPat E M x.toInt ∧ (0 : Int32) = 1 ∧ on159 = 0 ∧ k59 = fo ∧ on159 = on); exact Or.inl ⟨hpat, rfl, _, h59, h59.1, Or.inr (Or.inl ⟨hzi, by omega, by rw [tk_tk, show expS 0 = [101, 48] from rfl, tk_of (by simp only [List.length_append, List.length_singleton, List.length_cons, List.length_nil]; omega), List.append_assoc (sgW E M x.toInt ++ [48])]; rfl⟩)⟩) hP hD hS [3, 4, 0, 1, 2] (by decide) rfl d_Model_shortest_66
    · skip
      obtain ⟨hzi, hTL⟩ := h21.elim (fun h => absurd h.1 b24) (fun h => h.2)
      refine lv_aload_n hx hb d_Model_shortest_27 rfl (lv_at hl 0 rfl) ?_
      refine va_get (D := (dC, dI)) (ci := 8) (v := .int on121) (C := R_Model) (T := F_Model) (N := 26) hx hb hts u_Model hown hK hP 3 rfl rfl 8 (by decide) (hts _ m_571) (fun _ h9 => h9) rfl d_Model_shortest_28 ?_
      exact Ci.ret C0 (v := on121) (u := (0, k21, on121, fr, fi, la, fw, wf, wl, ft, te, lo, un, ov)) (Nat.le_of_ble_eq_true rfl) (Nat.le_of_ble_eq_true rfl) (by show (isPat E M x.toInt ∧ (0 : Int32) = 0 ∧ ∃ w : List Nat, TL k21 on121 w ∧ on121.toInt = (w.length : Int) ∧ SHM E M x.toInt w) ∨ (¬ isPat E M x.toInt ∧ (0 : Int32) = 1 ∧ on121 = 0 ∧ k21 = fo ∧ on121 = on); exact Or.inl ⟨hpat, rfl, _, hTL, hTL.1, Or.inl ⟨hzi, rfl⟩⟩) hP hD hS [3, 4, 0, 1, 2] (by decide) rfl d_Model_shortest_31
  · skip
    have hnp : ¬ isPat E M x.toInt := fun h => by rw [if_pos h] at h2; rw [h2] at b5; exact absurd b5 (by decide)
    refine lv_aload_n hx hb d_Model_shortest_8 rfl (lv_at hl 0 rfl) ?_
    refine lv_iconst (v := 1) hx hb d_Model_shortest_9 (by decide) ?_
    refine callV_i (wr := [(oA, .inl (cI, 300, .inl fo)), (rA, .inl (cI, 400, .inl fr)), (wA, .inl (cI, 400, .inl fw)), (iA, .inl (cI, 200, .inl ft))]) C0 (c_Model_raise l dC dI cI cB cJ (h0) (th) (we) (wm) (wy) (ra) (tA) (tn) (oA) (on) (rA) (fi) (la) (wA) (wf) (wl) (lo) (ov) (un) (aT) (mi) (ds) (dA) (a0) (xp) (iA) (te) ((1 : Int32))) (cwV 1 hts (gV m_656 m_657 m_22 m_55 m_658) rfl rfl rfl (by decide +kernel) ⟨Nat.le_of_ble_eq_true rfl, Nat.le_of_ble_eq_true rfl⟩) 8 rfl rfl 0 rfl hP hD hS hA [4] [0, 1, 2, 3] rfl rfl (by decide) (by decide) (by decide) rfl hl.1 rfl (Nat.le_of_ble_eq_true rfl) d_Model_shortest_10 ⟨Nat.le_of_ble_eq_true rfl, Nat.le_of_ble_eq_true rfl⟩ (fun r10 u10 H locs hw9 hP hD hS => ?_)
    have h10 : r10 = 0 := hw9
    have hP : va_P (dC, dI) vwCl [(oA, .inl (cI, 300, .inl fo)), (rA, .inl (cI, 400, .inl fr)), (wA, .inl (cI, 400, .inl fw)), (iA, .inl (cI, 200, .inl ft)), (h0, .inr (8, [.int 1, .int we, .int wm, .int wy, .int ra, .ref tA, .int tn, .ref oA, .int on, .ref rA, .int fi, .int la, .ref wA, .int wf, .int wl, .int lo, .int ov, .int un, .int aT, .int mi, .int ds, .ref dA, .int a0, .int xp, .ref iA, .int te]))] H := hP
    have hD : va_D A [(oA, .inl (cI, 300, .inl fo)), (rA, .inl (cI, 400, .inl fr)), (wA, .inl (cI, 400, .inl fw)), (iA, .inl (cI, 200, .inl ft)), (h0, .inr (8, [.int 1, .int we, .int wm, .int wy, .int ra, .ref tA, .int tn, .ref oA, .int on, .ref rA, .int fi, .int la, .ref wA, .int wf, .int wl, .int lo, .int ov, .int un, .int aT, .int mi, .int ds, .ref dA, .int a0, .int xp, .ref iA, .int te]))] := hD
    exact Ci.ret C0 (v := r10) (u := (1, fo, on, fr, fi, la, fw, wf, wl, ft, te, lo, un, ov)) (Nat.le_of_ble_eq_true rfl) (Nat.le_of_ble_eq_true rfl) (by show (isPat E M x.toInt ∧ (1 : Int32) = 0 ∧ ∃ w : List Nat, TL fo on w ∧ r10.toInt = (w.length : Int) ∧ SHM E M x.toInt w) ∨ (¬ isPat E M x.toInt ∧ (1 : Int32) = 1 ∧ r10 = 0 ∧ fo = fo ∧ on = on); exact Or.inr ⟨hnp, rfl, h10, rfl, rfl⟩) hP hD hS [4, 0, 1, 2, 3] (by decide) rfl d_Model_shortest_13
