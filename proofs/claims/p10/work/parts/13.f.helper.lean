/-! METHODS WITH A HANDLER: their contracts, and calls of them -/
section HW
def CiW (l : Launch) (dC : Nat → ClassId) (dI : Nat → Nat → Nat) (cI cB cJ : ClassId) (y : MethodName) (ws : List Cond) (rm : Room) (av : List Value) (win : va_W) {S : Type} (post : Int32 → S → Prop) (wout : S → va_W) (N : Nat) : Prop :=
  ∀ sz, Met l y ws rm (fun a U => prG dC dI cI cB cJ av win sz a U ∧ SKN N U) (va_Qi post (poG dC dI (va_A win sz) wout) (va_A win sz)) rm.cells rm.slots (va_A win sz)
theorem CiW.intro {dC : Nat → ClassId} {dI : Nat → Nat → Nat} {cI cB cJ : ClassId} {l : Launch} {y : MethodName} {ws : List Cond} {rm : Room} {av : List Value} {win : va_W} {S : Type} {wout : S → va_W} {cc : ByteArray} {maxL N : Nat} {post : Int32 → S → Prop} {ret : Option FieldType} {hd : Nat × Nat × Nat × Nat} (hy : plainFor y = true) (hw : ws = Cond.codeWith y cc maxL ret [hd] :: (gT ++ thT)) (hlen : (lg_sl av).length ≤ maxL)
    (hN : ∀ (k : Nat) (q : Nat × va_E), win[k]? = some q → N ≤ q.1)
    (body : ∀ (p : Program) (e : Env) (s : State) (m : MethodId) (below : List Frame) (meth : Method) (c : Code) (A : Nat → Prop) (ls : Array Slot) (ent : ExceptionTableEntry), cx dC dI cI cB cJ y.cls cc maxL ret p s m av.toArray meth c → (∀ q : Nat, s.heap.size ≤ q → A q) → c.exceptionTable.toList = [ent] → (ent.startPc, ent.endPc, ent.handlerPc, ent.catchType) = hd → (∀ w ∈ thT, w.before av.toArray s = true) → SKN N s → (∀ q, q < N → ¬ A q) →
      va_P (dC, dI) vwCl win s.heap → va_D A win → va_S A s.heap s.heap [] → lv_has ls maxL (lv_args 0 av) → W p l e rm s m av.toArray below meth c s.heap [] 0 0 (MQ below (va_Qi post (poG dC dI A wout) A) av.toArray s rm.cells rm.slots A) (F0 m 0 ls [])) : CiW l dC dI cI cB cJ y ws rm av win post wout N := by
  intro sz
  refine MetFree.of_bodySF (code := cc) (maxLocals := maxL) (ret := ret) hy ?_ ?_
  · intro args s m h hn
    obtain ⟨m', meth, c, h0, h1, h2, h3, h4, -, h5, h6, -⟩ := Cond.codeWith_spec (atoms_spec (ws := ws) h _ (by rw [hw]; exact List.mem_cons_self))
    cases hn.symm.trans h0
    exact ⟨meth, c, h1, h2, h3, h4, h5, h6⟩
  · intro p e s m args below meth c s₁ B hml hv _
    obtain ⟨⟨rfl, hsz, hP, hK, hD0⟩, hSK⟩ := hv
    subst hsz
    have hh0 : s₁.heap = s.heap := by rw [B.state]; rfl
    have hl := lv_entry av (n := maxL) hlen
    obtain ⟨m', meth', c', h0, h1, h2, -, -, h5, -⟩ := Cond.codeWith_spec (atoms_spec (ws := ws) B.pre _ (by rw [hw]; exact List.mem_cons_self))
    cases B.named.symm.trans h0
    cases B.method.symm.trans h1
    cases (Stand.of_body B).code.symm.trans h2
    obtain ⟨ent, ht, hent⟩ : ∃ ent, c.exceptionTable.toList = [ent] ∧ (ent.startPc, ent.endPc, ent.handlerPc, ent.catchType) = hd := by
      rcases hq : c.exceptionTable.toList with _ | ⟨e1, _ | ⟨e2, r⟩⟩
      · rw [hq] at h5; simp at h5
      · rw [hq] at h5
        simp only [List.map_cons, List.map_nil, List.cons.injEq, and_true] at h5
        exact ⟨e1, rfl, h5⟩
      · rw [hq] at h5; simp at h5
    have hb := body p e s m below meth c (va_A win s.heap.size) _ ent ⟨B.exec, B.bytes, hml, findClass_of_methodNamed B.named, fun w h => atoms_spec (ws := ws) B.pre w (by rw [hw]; exact List.mem_cons_of_mem _ (List.mem_append_left _ h)), B.returns, B.notSynchronized, hK⟩ (fun q h => Or.inr h) ht hent
      (fun w h => atoms_spec (ws := ws) B.pre w (by rw [hw]; exact List.mem_cons_of_mem _ (List.mem_append_right _ h))) hSK (fun q hq hA => by
        rcases hA with ⟨k, e, hk⟩ | hA
        · have := hN k _ hk; omega
        · have := hSK.1; omega) hP hD0.self va_S.rf hl
    rw [← lg_entry_eq] at hb
    obtain ⟨t, a1, o, b1, b2, b3⟩ := hb s₁ hh0 (Stand.of_body B)
    exact ⟨t, o, a1, b1, b2, ⟨b3.1, b3.2⟩⟩
theorem callSW {dC : Nat → ClassId} {dI : Nat → Nat → Nat} {cI cB cJ : ClassId} {p : Program} {l : Launch} {e : Env} {R : Room} {s : State} {m : MethodId} {args : Array Value} {below : List Frame} {meth : Method} {c : Code} {H : Heap} {locs : List Loc} {cells slots : Nat} {A : Nat → Prop} {Q : State → Prop}
    {own : String} {cc bytes : ByteArray} {nL pc n index maxL N : Nat} {ls : Array Slot} {S : Type} {wout : S → va_W} {w0 win wr : va_W} {ret1 : Option FieldType} {y : MethodName} {ws : List Cond} {rm : Room} {As rest st0 : List Value} {post : Int32 → S → Prop} {hs : List (Nat × Nat × Nat × Nat)}
    (hx : p.tables.exec = Jvm.exec) (hb : c.code = cc) (hml : c.maxLocals = nL) (hown : s.vm.findClass own = some m.cls) (hK : kG dC dI cI cB cJ s) (hM : CiW l dC dI cI cB cJ y ws rm As win post wout N)
    (hfr : rm.frames + 1 ≤ R.frames) (hlo : 8 + (maxL + 11) + rm.locals ≤ R.locals) (hws : ∀ w ∈ ws, ∀ (a' : Array Value) (U : State), s.WarmedH U.vm → w.before a' U = true) (hcode : (Cond.codeWith y bytes maxL ret1 hs).before args s = true) (hini : (Cond.initialized y.cls).before args s = true) (hy : y.cls ≠ "java/lang/invoke/MethodHandle" ∧ y.cls ≠ "java/lang/invoke/VarHandle") (hlen : ∀ sig, parseMethodDescriptor y.desc = some sig → n = sig.parameters.length) (hlk : (Cond.methodLink own index y).before args s = true) (hstt : (Cond.static y).before args s = true)
    (hP : va_P (dC, dI) vwCl w0 H) (hD : va_D A w0) (hS : va_S A s.heap H locs) (hA : ∀ q : Nat, s.heap.size ≤ q → A q) (hSK : SKN N s) (hlow : ∀ q, q < N → ¬ A q) (isC isR : List Nat) (hC : isC.map (fun i => w0[i]?) = win.map some) (hR : isR.map (fun i => w0[i]?) = wr.map some) (hnC : va_nd isC = true) (hnR : va_nd isR = true) (hdis : ∀ i ∈ isR, i ∉ isC)
    (hn : As.length = n) (hsize : ls.size = nL) (hst : st0 = As.reverse ++ rest) (hW8 : (rest.map fun v => v.category).sum ≤ 8) (hdg : decode cc pc = .ok (.invokestatic index, 3)) (hf : cells + rm.cells ≤ R.cells ∧ slots + rm.slots ≤ R.slots)
    (kk : ∀ (r : Int32) (u : S) (H1 : Heap) (locs1 : List Loc), post r u → va_P (dC, dI) vwCl (wr ++ wout u) H1 → va_D A (wr ++ wout u) → va_S A s.heap H1 locs1 → W p l e R s m args below meth c H1 locs1 (cells + rm.cells) (slots + rm.slots) Q (F0 m (pc + 3) ls (.int r :: rest))) : W p l e R s m args below meth c H locs cells slots Q (F0 m pc ls st0) := by
  subst hst
  have hPc := va_Psub hP isC hC
  have hDc := hD.sub isC hnC hC
  have hFc := va_free (wc := win) hD hS hA isC hC
  intro T hT X0
  obtain ⟨mk, methM, cM, hnamed, hmethM, hcM, -, hlM, -, -, -, hsigM⟩ := Cond.codeWith_spec hcode
  have hstatic : methM.isStatic = true := Cond.static_spec hnamed hmethM hstt
  obtain ⟨kP, hkP, -⟩ := className_of_methodNamed hnamed
  have hinitP : kP.init = .initialized := Cond.initialized_spec (findClass_of_methodNamed hnamed) hkP hini
  obtain ⟨vm₁, X₁, hstep₁⟩ := X0.invokestatic hx hown hlk hnamed hmethM hstatic hkP hinitP hy (g := F0 m pc ls (As.reverse ++ rest)) rfl (argsL := As) (rest := rest) (hn.trans (hlen _ hsigM)) rfl (by rw [hb]; exact hdg)
  obtain ⟨k1, hk1, hk1e⟩ := X₁.warmed.alike.2.2 _ _ hkP
  have hk1i : k1.init = .initialized := by
    have h9 : (Cond.initialized y.cls).before args (T.setVm vm₁) = true := word_at X₁.warmed (Or.inl rfl) hini
    exact Cond.initialized_spec (findClass_of_methodNamed (X₁.named hnamed)) hk1 h9
  have hhp : ((T.setVm vm₁).calling (F0 m pc ls rest) mk As.toArray).heap = H := hT
  obtain ⟨o, t, hsteps, hend, ⟨⟨r, u, rfl, hu, hP1, hD1⟩, hF⟩, L, hFE, hL⟩ := st_run X₁ (g := F0 m pc ls rest) rfl (hsize.trans hml.symm) (by rw [hb]; exact hdg) (hM H.size) (a := As.toArray) (mk := mk) (mY := methM) (cY := cM) (kY := k1) (W := 8)
    (X₁.named hnamed) (by rw [X₁.warmed.alike.method?]; exact hmethM) hcM hk1 hk1i (atoms_intro fun w hw => hws w hw _ _ X₁.warmed)
    ⟨⟨rfl, by rw [hhp], by rw [hhp]; exact hPc, (hK.warm X₁.warmed).calling, hDc.weaken (fun _ _ _ _ => trivial)⟩,
      (hSK.mv (V := T.setVm vm₁) X₁.warmed (by show N ≤ T.heap.size; rw [hT]; exact Nat.le_trans hSK.1 hS.1) (fun q hq => by show T.heap[q]? = _; rw [hT]; exact hS.2.1 q (Nat.lt_of_lt_of_le hq hSK.1) (hlow q hq))).calling⟩
    (by simp [JFrame.monitorRoom]; exact hW8) hfr (by rw [hlM]; exact hlo) hf.1 hf.2
  obtain ⟨-, hWt, hsm⟩ := hFE
  obtain ⟨T', X', -, -, ht⟩ := X₁.outOf (g := F0 m pc ls rest) rfl (by rw [hb]; exact hdg) hend hWt hsm
  have e1 : T'.heap = t.heap := by rw [ht]; rfl
  have hF1 : H.size ≤ T'.heap.size := by
    have h9 := hF.1
    rw [hhp] at h9
    rw [e1]
    exact h9
  have hF2 : ∀ q : Nat, q < H.size → ¬ va_A win H.size q → T'.heap[q]? = H[q]? := fun q h1 h2 => by
    have h9 := hF.2 q (by rw [hhp]; exact h1) h2
    rw [hhp] at h9
    rw [e1]
    exact h9
  have hS1 : va_S A s.heap T'.heap (locs ++ L) := ⟨Nat.le_trans hS.1 hF1, fun q h1 h2 => by
    rw [hF2 q (Nat.lt_of_lt_of_le h1 hS.1) (fun z => h2 (hFc q z))]
    exact hS.2.1 q h1 h2, fun q hq => by
      rcases List.mem_append.mp hq with h | h
      · exact hS.2.2 q h
      · exact hFc _ (hL q h)⟩
  rw [← e1] at hP1
  obtain ⟨hP2, hD2⟩ := va_join (wr := wr) (w1 := wout u) hP hD isC isR hC hR hnR hdis hF2 hFc hP1 hD1
  obtain ⟨tg, a1, b1⟩ := kk r u T'.heap (locs ++ L) hu hP2 hD2 hS1 T' rfl X'
  refine ⟨tg, ?_, b1⟩
  refine hstep₁ _ fun acts => ?_
  rw [doInvoke_state]
  refine hsteps.trans ?_
  rw [ht]
  exact a1
end HW
