/-! a call that ends in a throw, seen by the caller -/
section TC
variable {p : Program} {l : Launch} {e : Env} {R : Room} {s : State} {m : MethodId} {args : Array Value} {below : List Frame} {meth : Method} {c : Code} {T : State} {locs : List Loc} {cells slots : Nat}
theorem st_outT (X : Stand p l e R s m args below meth c T locs cells slots) {g : JFrame} (hg : g.method = m) {mk : MethodId} {a : Array Value} {t : State} {x : Addr} {L : List Loc} {k n : Nat}
    (hend : Ended t (.java g :: below) (.threw x)) (hW : (T.calling g mk a).WarmedH t.vm) (hsame : (T.calling g mk a).sameButNew ({ t with vm := (T.calling g mk a).vm } : State) L k n) :
    ∃ T', Stand p l e R s m args below meth c T' (locs ++ L) (cells + k) (slots + n) ∧ T'.heap = t.heap ∧ T'.vm = t.vm ∧ t = (T'.setTop g).pushFrame (.throwing x) := by
  subst hg
  have htop := X.here.top
  obtain ⟨g₀, hfr⟩ := X.frames_eq
  obtain ⟨e2, q2, q3, q4, q5, q6⟩ := hsame
  have e3 : t = ({ (T.calling g mk a).setFrames t.frames with heap := t.heap, slotsUsed := t.slotsUsed } : State).setVm t.vm := by
    have h9 := congrArg (fun z : State => z.setVm t.vm) e2
    exact h9
  have hf : t.frames = .throwing x :: .java g :: below := hend
  have hW' : T.WarmedH t.vm := hW
  have hs : T.sameButNew ({ T with heap := t.heap, slotsUsed := t.slotsUsed } : State) L k n := by
    refine ⟨?_, q2, q3, q4, q5, q6⟩
    obtain ⟨z, hz, -⟩ := State.frames_cons hfr
    show ({ T with heap := t.heap, slotsUsed := t.slotsUsed } : State) = { T.setFrames T.frames with heap := t.heap, slotsUsed := t.slotsUsed }
    rw [State.setFrames_self hz]
  refine ⟨({ T with heap := t.heap, slotsUsed := t.slotsUsed } : State).setVm t.vm, ⟨X.admits, X.cas, X.clock, X.frames, X.room, X.hears, X.method, X.code, (X.here.setHeapUsed t.heap t.slotsUsed).setVm hW'.alike, X.tail, State.WarmedH.trans X.warmed hW', X.limits, X.bytes, X.same.trans (hs.setVm s.vm)⟩, rfl, rfl, ?_⟩
  have hfr' : (({ T with heap := t.heap, slotsUsed := t.slotsUsed } : State).setVm t.vm).frames = .java g₀ :: below := hfr
  refine e3.trans ?_
  rw [hf, State.calling_eq htop, State.setFrames_setFrames, State.pushFrame, State.frames_setTop _ hfr', State.setTop_of_frames _ hfr', State.setFrames_setFrames]
  rfl
/-- what the callee's contract gives, from the call on -/
theorem st_run (X : Stand p l e R s m args below meth c T locs cells slots) {g : JFrame} (hg : g.method = m) (hsize : g.locals.size = c.maxLocals) {ig : Instr} {len : Nat} (hdg : decode c.code g.pc = .ok (ig, len))
    {y : MethodName} {S : Spec} {P : Array Value → State → Prop} {Q : Array Value → State → Outcome → State → Prop} (hM : MetFree l y S P (fun _ _ _ _ _ => True) Q) {a : Array Value} {mk : MethodId} {mY : Method} {cY : Code} {kY : Class} {W : Nat}
    (hn : T.methodNamed? y = some mk) (hmY : T.vm.method? mk = some mY) (hcY : mY.code = some cY) (hkY : T.vm.classes[mk.cls]? = some kY) (hin : kY.init = .initialized) (hpre : S.pre.before a T = true) (hP : P a (T.calling g mk a))
    (hW : 2 * g.monitorRoom + (g.stack.map fun v => v.category).sum ≤ W) (hfr : S.room.frames + 1 ≤ R.frames) (hlo : W + (cY.maxLocals + 11) + S.room.locals ≤ R.locals) (hce : cells + S.room.cells ≤ R.cells) (hsl : slots + S.room.slots ≤ R.slots) :
    ∃ o t, Steps p.tables e below (doInvoke e (T.setTop g) [] mk a).1 t ∧ Ended t (.java g :: below) o ∧ Q a (T.calling g mk a) o t := by
  have h : At T g.method c below := by rw [hg]; exact X.here
  have happ : S.appliesLoose y e.platform (T.calling g mk a) = true :=
    Spec.appliesLoose_calling (g := g) h hdg hn hkY hin (X.room_calling (g := g) (R' := S.room) hsize hmY hcY hfr (by omega) hce hsl) hpre
  obtain ⟨mid, hmid⟩ := h.above
  have hfr2 : (T.setTop g).frames = (.java g :: mid) ++ below := by rw [State.frames_setTop' g h.top, hmid]; rfl
  obtain ⟨o, t, hsteps, -, hend, hq⟩ := Steps.callFree hM p X.admits X.cas X.clock (acts := []) hfr2 happ hP trivial
  rw [State.frames_setTop' g h.top, X.tail] at hend
  exact ⟨o, t, hsteps, hend, hq⟩
end TC
/-! what is thrown is caught in the method that called, by the one entry of its table; the class's link may be resolved on the way -/
theorem fh_one {e : Env} {s : State} {f : JFrame} {x : Addr} {mth : Method} {cd : Code} {ent : ExceptionTableEntry} {cX : ClassId} {cell : Cell} (hm : s.vm.method? f.method = some mth) (hc : mth.code = some cd) (htab : cd.exceptionTable.toList = [ent])
    (hcov : covers ent f.pc = true) (h0 : ent.catchType ≠ 0) (hl : s.vm.ClassLinks e.platform f.method.cls ent.catchType cX) (hcell : s.heap[x]? = some cell) (hobj : ∀ k, cell.vm ≠ .statics k)
    (hk : ∃ k, s.vm.classes[cell.cls]? = some k) (hcl : ∃ k, s.vm.classes[cX]? = some k) (hfit : s.vm.assignable cell.cls cX = true) (Q : Handler → Pre) (E : CtlPost) (d : Bool) (acts : List Action) :
    wp (findHandler f x) Q E e d acts s ↔ Q (.found ent.handlerPc) d acts (s.setVm (s.vm.noted f.method.cls ent.catchType (.cls cX))) := by
  rw [W.findHandler_eq hm hc, htab]
  have hal : s.vm.Alike (s.vm.noted f.method.cls ent.catchType (.cls cX)) := (Vm.Alike.refl s.vm).noted _ _ _
  obtain ⟨ha, ht⟩ := (resolveClass_links e.toSetting hl).op (op := VmOp.resolveClass f.method.cls ent.catchType) rfl
  obtain ⟨k1, hk1⟩ := hk
  obtain ⟨k2, hk2⟩ := hcl
  obtain ⟨k3, hk3, -⟩ := hal.2.2 _ _ hk1
  obtain ⟨k4, hk4, -⟩ := hal.2.2 _ _ hk2
  have hfit2 : (s.vm.noted f.method.cls ent.catchType (.cls cX)).assignable cell.cls cX = true := by rw [hal.assignable]; exact hfit
  simp only [covers] at hcov
  simp [findHandler.go, hcov, h0, ha, ht, hcell, hobj, hk3, hk4, hfit2, VmOp.dirties, VmOp.acts]
theorem st_catch {p : Program} {l : Launch} {e : Env} {R : Room} {s : State} {m : MethodId} {args : Array Value} {below : List Frame} {meth : Method} {c : Code} {T : State} {locs : List Loc} {cells slots : Nat}
    (X : Stand p l e R s m args below meth c T locs cells slots) {g : JFrame} (hg : g.method = m) {x : Addr} {ent : ExceptionTableEntry} {cX : ClassId} {cell : Cell} (htab : c.exceptionTable.toList = [ent])
    (hcov : covers ent g.pc = true) (h0 : ent.catchType ≠ 0) (hl : s.vm.ClassLinks e.platform m.cls ent.catchType cX) (hcell : T.heap[x]? = some cell) (hobj : ∀ k, cell.vm ≠ .statics k)
    (hk : ∃ k, s.vm.classes[cell.cls]? = some k) (hcl : ∃ k, s.vm.classes[cX]? = some k) (hfit : s.vm.assignable cell.cls cX = true) :
    ∃ vm', Stand p l e R s m args below meth c (T.setVm vm') locs cells slots ∧ ∀ tg, Steps p.tables e below ((T.setVm vm').setTop { g with pc := ent.handlerPc, stack := [.ref x] }) tg → Steps p.tables e below ((T.setTop g).pushFrame (.throwing x)) tg := by
  subst hg
  have hlT : T.vm.ClassLinks e.platform g.method.cls ent.catchType cX := X.warmed.classLinks hl
  have hWn : s.WarmedH (T.vm.noted g.method.cls ent.catchType (.cls cX)) := by
    obtain ⟨dk, _, _, _, hd, _, _, _, _, _, _, hres⟩ := hl.here
    exact X.warmed.noted hd hres (State.rightAt_cls hl)
  refine ⟨T.vm.noted g.method.cls ent.catchType (.cls cX), X.noted hWn, fun tg hrest => ?_⟩
  have h := X.here
  obtain ⟨g₀, hfr⟩ := X.frames_eq
  have hvm : ((T.setTop g).pushFrame (.throwing x)).vm = T.vm := Stand.throwing_vm T g x
  have hhp : ((T.setTop g).pushFrame (.throwing x)).heap = T.heap := Stand.throwing_heap T g x
  obtain ⟨k1, hk1⟩ := hk
  obtain ⟨k2, hk2⟩ := hcl
  obtain ⟨k3, hk3, -⟩ := X.warmed.alike.2.2 _ _ hk1
  obtain ⟨k4, hk4, -⟩ := X.warmed.alike.2.2 _ _ hk2
  have hfind := fh_one (e := e) (s := (T.setTop g).pushFrame (.throwing x)) (f := g) (x := x) (mth := meth) (cd := c) (ent := ent) (cX := cX) (cell := cell) (by rw [hvm]; exact X.method') X.code htab hcov h0 (by rw [hvm]; exact hlT) (by rw [hhp]; exact hcell) hobj ⟨k3, by rw [hvm]; exact hk3⟩ ⟨k4, by rw [hvm]; exact hk4⟩ (by rw [hvm, X.warmed.alike.assignable]; exact hfit)
  obtain ⟨hgo, hw⟩ := h.throwing x
  refine Steps.head hgo hw ?_
  have hstep : (stepThrowing e ((T.setTop g).pushFrame (.throwing x)) x (.java g :: below)).Is ((((T.setTop g).pushFrame (.throwing x)).setVm (T.vm.noted g.method.cls ent.catchType (.cls cX))).setFrames (.java { g with pc := ent.handlerPc, stack := [.ref x] } :: below)) [] := by
    simp only [stepThrowing, searchFrame, vmDo]
    generalize hr : Sem.go _ e false [] ((T.setTop g).pushFrame (.throwing x)) = res
    rw [hvm] at hfind
    obtain ⟨as, rfl, ha⟩ := Sem.eq_ok_of hr (a := Handler.found ent.handlerPc) (s' := ((T.setTop g).pushFrame (.throwing x)).setVm (T.vm.noted g.method.cls ent.catchType (.cls cX))) (acts' := []) (by simp [hfind _ _ _ _])
    exact ⟨rfl, ha⟩
  rw [stepThread_throwing (frames_entered h.top _), hfr, List.tail_cons, hstep.1]
  have hfr' : (T.setVm (T.vm.noted g.method.cls ent.catchType (.cls cX))).frames = .java g₀ :: below := hfr
  rw [State.setTop_of_frames _ hfr'] at hrest
  have e1 : (((T.setTop g).pushFrame (.throwing x)).setVm (T.vm.noted g.method.cls ent.catchType (.cls cX))).setFrames (.java { g with pc := ent.handlerPc, stack := [.ref x] } :: below) = (T.setVm (T.vm.noted g.method.cls ent.catchType (.cls cX))).setFrames (.java { g with pc := ent.handlerPc, stack := [.ref x] } :: below) := by
    rw [State.pushFrame, State.setTop_of_frames _ hfr]
    have e2 : ∀ (u : State) (vm' : Vm) (F G : List Frame), ((u.setFrames F).setVm vm').setFrames G = (u.setVm vm').setFrames G := fun u vm' F G => by
      have e3 : (u.setFrames F).setVm vm' = (u.setVm vm').setFrames F := rfl
      rw [e3, State.setFrames_setFrames]
    rw [e2, e2]
  rw [e1]
  exact hrest
