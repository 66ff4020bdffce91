/-! A CALL WHOSE THROW IS CAUGHT -/
section CC
theorem callT {dC : Nat → ClassId} {dI : Nat → Nat → Nat} {cI cB cJ : ClassId} {p : Program} {l : Launch} {e : Env} {R : Room} {s : State} {m : MethodId} {args : Array Value} {below : List Frame} {meth : Method} {c : Code} {H : Heap} {locs : List Loc} {cells slots : Nat} {A : Nat → Prop} {Q : State → Prop}
    {own C X : String} {cc bytes : ByteArray} {nL pc n index maxL N : Nat} {ls : Array Slot} {S : Type} {wout : S → va_W} {w0 win wr : va_W} {ret ret1 : Option FieldType} {y : MethodName} {ws : List Cond} {rm : Room} {b : Addr} {As rest st0 : List Value} {post : S → Prop} {ent : ExceptionTableEntry}
    (C0 : cx dC dI cI cB cJ own cc nL ret p s m args meth c) (hM : Ct l dC dI cI cB cJ y ws rm (.ref b :: As) win post wout X N) (cw : CallW R s args own C index y bytes maxL ret1 ws rm rm.cells rm.slots n) (ci : Nat) {qc : vw_C} {fs : List Value} (hcl : vwCl[ci]? = some qc) (hqc : qc.1 = C) (q0 : Nat) (he : win[q0]? = some (b, .inr (ci, fs))) (hP : va_P (dC, dI) vwCl w0 H) (hD : va_D A w0) (hS : va_S A s.heap H locs) (hA : ∀ q : Nat, s.heap.size ≤ q → A q) (hSK : SKN N s) (hlow : ∀ q, q < N → ¬ A q) (isC isR : List Nat) (hC : isC.map (fun i => w0[i]?) = win.map some) (hR : isR.map (fun i => w0[i]?) = wr.map some) (hnC : va_nd isC = true) (hnR : va_nd isR = true) (hdis : ∀ i ∈ isR, i ∉ isC)
    (hn : As.length = n) (hsize : ls.size = nL) (hst : st0 = As.reverse ++ .ref b :: rest) (hW8 : (rest.map fun v => v.category).sum ≤ 8) (hdg : decode cc pc = .ok (.invokevirtual index, 3)) (hf : cells + rm.cells ≤ R.cells ∧ slots + rm.slots ≤ R.slots)
    (htab : c.exceptionTable.toList = [ent]) (hcov : covers ent pc = true) (h0 : ent.catchType ≠ 0) (hlink : (Cond.classLink own ent.catchType X).before args s = true) (hcast : (Cond.castable X X).before args s = true) (hinst : (Cond.instantiable X 6).before args s = true)
    (kk : ∀ (u : S) (x : Nat) (H1 : Heap) (locs1 : List Loc), post u → va_P (dC, dI) vwCl (wr ++ wout u) H1 → va_D A (wr ++ wout u) → va_S A s.heap H1 locs1 → W p l e R s m args below meth c H1 locs1 (cells + rm.cells) (slots + rm.slots) Q (F0 m ent.handlerPc ls [.ref x])) : W p l e R s m args below meth c H locs cells slots Q (F0 m pc ls st0) := by
  obtain ⟨hx, hb, hml, hown, hts, -, -, hK⟩ := C0
  subst hst
  subst hqc
  have hPc := va_Psub hP isC hC
  have hDc := hD.sub isC hnC hC
  have hFc := va_free (wc := win) hD hS hA isC hC
  obtain ⟨cellB, hcB, hoB, hclB⟩ := va_recv hK.1 hPc hcl he
  obtain ⟨⟨-, -, hfr, hlo, hws, hcw, hcode, hini, hy, hlen, hlk⟩, hin, hse⟩ := cw
  intro T hT X0
  obtain ⟨mk, methM, hnamed, hmethM, hstM, habM⟩ := Cond.instanceMethod_spec hin
  obtain ⟨methM', cM, hmethM', hcM, -, hlM, -, -, -, hsigM⟩ := Cond.code_spec hnamed hcode
  cases hmethM.symm.trans hmethM'
  obtain ⟨c2, r2, m2, q1, q2, q3, q4, kP, hkP, hkPi⟩ := Cond.selects_spec hse
  cases hclB.symm.trans q1
  cases (State.methodFound?_of_named hnamed hy).symm.trans q2
  cases hnamed.symm.trans q3
  have hselP : selectMethod e.platform s.vm cellB.cls mk = .method mk := by rw [Launch.admits_selectMethod X0.admits]; exact q4
  obtain ⟨vm₁, X₁, hstep₁⟩ := X0.invokevirtual hx hown hlk hnamed hmethM hstM hkP hkPi hy (a := b) (cell := cellB) (by rw [hT]; exact hcB)
    (fun z h => by rw [h] at hoB; cases hoB) hselP hmethM habM hkP hkPi (g := F0 m pc ls (As.reverse ++ .ref b :: rest)) rfl (argsL := As) (rest := rest) (hn.trans (hlen _ hsigM)) rfl (by rw [hb]; exact hdg)
  obtain ⟨k1, hk1, hk1e⟩ := X₁.warmed.alike.2.2 _ _ hkP
  have hk1i : k1.init = .initialized := by
    have h9 : (Cond.initialized y.cls).before args (T.setVm vm₁) = true := word_at X₁.warmed (Or.inl rfl) hini
    exact Cond.initialized_spec (findClass_of_methodNamed (X₁.named hnamed)) hk1 h9
  obtain ⟨o, t, hsteps, hend, x, rfl, ⟨⟨u, hu, hP1, hD1⟩, hF, hXT⟩, L, hFr, hL⟩ := st_run X₁ (g := F0 m pc ls rest) rfl (hsize.trans hml.symm) (by rw [hb]; exact hdg) (hM H.size) (a := (Value.ref b :: As).toArray) (mk := mk) (mY := methM) (cY := cM) (kY := k1) (W := 8)
    (X₁.named hnamed) (by rw [X₁.warmed.alike.method?]; exact hmethM) hcM hk1 hk1i (atoms_intro fun w hw => hws w hw _ _ X₁.warmed)
    ⟨⟨rfl, by rw [show ((T.setVm vm₁).calling (F0 m pc ls rest) mk (Value.ref b :: As).toArray).heap = T.heap from rfl, hT], by rw [show ((T.setVm vm₁).calling (F0 m pc ls rest) mk (Value.ref b :: As).toArray).heap = T.heap from rfl, hT]; exact hPc, (hK.warm X₁.warmed).calling, hDc.weaken (fun _ _ _ _ => trivial)⟩,
      (hSK.mv (V := T.setVm vm₁) X₁.warmed (by show N ≤ T.heap.size; rw [hT]; exact Nat.le_trans hSK.1 hS.1) (fun q hq => by show T.heap[q]? = _; rw [hT]; exact hS.2.1 q (Nat.lt_of_lt_of_le hq hSK.1) (hlow q hq))).calling⟩
    (by simp [JFrame.monitorRoom]; exact hW8) hfr (by rw [hlM]; exact hlo) hf.1 hf.2
  obtain ⟨T', X', e1, e2, ht⟩ := st_outT X₁ (g := F0 m pc ls rest) rfl hend hFr.1 hFr.2
  obtain ⟨hxs, ce, hce, hcec, hcev⟩ := hXT
  have hcec' : s.vm.findClass X = some ce.cls := by
    have h9 : (T.setVm vm₁).vm.findClass X = some ce.cls := hcec
    rw [X₁.warmed.alike.findClass] at h9
    exact h9
  obtain ⟨cX, hcX, hlX⟩ := Cond.classLink_spec hown hlink e.platform (by rw [X0.admits.platform])
  cases hcec'.symm.trans hcX
  obtain ⟨c3, c4, hc3, hc4, hasg⟩ := Cond.castable_spec hcast
  cases hcec'.symm.trans hc3
  cases hcec'.symm.trans hc4
  obtain ⟨c5, k5, hc5, hk5, -⟩ := Cond.instantiable_spec hinst
  cases hcec'.symm.trans hc5
  obtain ⟨vm₂, X₂, hstep₂⟩ := st_catch X' (g := F0 m pc ls rest) rfl (x := x) htab hcov h0 hlX (by rw [e1]; exact hce) (fun k => by rw [hcev]; simp) ⟨k5, hk5⟩ ⟨k5, hk5⟩ hasg
  have hF1 : H.size ≤ T'.heap.size := by
    have h9 := hF.1
    rw [show ((T.setVm vm₁).calling (F0 m pc ls rest) mk (Value.ref b :: As).toArray).heap = T.heap from rfl, hT] at h9
    rw [e1]
    exact h9
  have hF2 : ∀ q : Nat, q < H.size → ¬ va_A win H.size q → T'.heap[q]? = H[q]? := fun q h1 h2 => by
    have h9 := hF.2 q (by rw [show ((T.setVm vm₁).calling (F0 m pc ls rest) mk (Value.ref b :: As).toArray).heap = T.heap from rfl, hT]; exact h1) h2
    rw [show ((T.setVm vm₁).calling (F0 m pc ls rest) mk (Value.ref b :: As).toArray).heap = T.heap from rfl, hT] at h9
    rw [e1]
    exact h9
  have hS1 : va_S A s.heap T'.heap (locs ++ L) := ⟨Nat.le_trans hS.1 hF1, fun q h1 h2 => by
    rw [hF2 q (Nat.lt_of_lt_of_le h1 hS.1) (fun z => h2 (hFc q z))]
    exact hS.2.1 q h1 h2, fun q hq => by
      rcases List.mem_append.mp hq with h | h
      · exact hS.2.2 q h
      · exact hFc _ (hL q h)⟩
  rw [← e1] at hP1
  obtain ⟨hP2, hD2⟩ := va_join (wr := wr) (w1 := wout u) hP hD isC isR hC hR hnR hdis hF2 hFc hP1 hD1
  obtain ⟨tg, a1, b1⟩ := kk u x T'.heap (locs ++ L) hu hP2 hD2 hS1 (T'.setVm vm₂) rfl X₂
  refine ⟨tg, ?_, b1⟩
  refine hstep₁ _ fun acts => ?_
  rw [doInvoke_state]
  refine hsteps.trans ?_
  rw [ht]
  exact hstep₂ _ a1
end CC
