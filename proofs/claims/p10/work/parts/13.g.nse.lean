/-! new NoSuchElementException("text") IS THROWN -/
section NS
def nseW : List Cond := Bundle.throwableAtoms ++ Bundle.throwableSAtoms ++ Bundle.chainSAtoms "java/lang/RuntimeException" ["java/lang/Exception"] ++ Bundle.passSAtoms nseN "java/lang/RuntimeException" 13 nseB ++
  [.methodLink "DecimalDesk" 139 (Bundle.initS nseN), .instantiable nseN 6, .selects nseN Bundle.tFill0 Bundle.tFill0, .selects nseN Bundle.tFill Bundle.tFill,
   .lays nseN Bundle.tN "cause" "Ljava/lang/Throwable;", .lays nseN Bundle.tN "stackTrace" Bundle.steD, .lays nseN Bundle.tN "suppressedExceptions" Bundle.listD, .lays nseN Bundle.tN "detailMessage" "Ljava/lang/String;",
   .isRef (.static Bundle.tN "UNASSIGNED_STACK" Bundle.steD), .isRef (.static Bundle.tN "SUPPRESSED_SENTINEL" Bundle.listD),
   .fieldLink Bundle.tN 198 Bundle.tN "backtrace" "Ljava/lang/Object;", .lays Bundle.tN Bundle.tN "backtrace" "Ljava/lang/Object;", .lays nseN Bundle.tN "backtrace" "Ljava/lang/Object;"]
theorem nseB_0 : decode nseB 0 = .ok (.aload_n 0, 1) := by decide +kernel
theorem nseB_1 : decode nseB 1 = .ok (.aload_n 1, 1) := by decide +kernel
theorem nseB_2 : decode nseB 2 = .ok (.invokespecial 13, 3) := by decide +kernel
theorem nseB_5 : decode nseB 5 = .ok (.return_, 1) := by decide +kernel
set_option maxHeartbeats 2000000 in
/-- the constructor and the throw, where the object is new: the heap is as it was but for it -/
theorem st_nse {p : Program} {l : Launch} {e : Env} {R : Room} {s : State} {m₀ : MethodId} {args : Array Value} {below : List Frame} {meth : Method} {c : Code} {W : State} {cells slots : Nat}
    (X : Stand p l e R s m₀ args below meth c W [] cells slots) (hexec : p.tables.exec = Jvm.exec) (htr : e.platform.stackTraces = false) (hlocks : meth.locks = false) (hown : s.vm.findClass "DecimalDesk" = some m₀.cls)
    (h : ∀ a ∈ nseW, a.before args s = true) {a : Addr} {cX : ClassId} {kX : Class} (hfoundX : s.vm.findClass nseN = some cX) (hkX : s.vm.classes[cX]? = some kX) (hcell : W.heap[a]? = some (freshCell cX kX)) (hnew : s.heap.size ≤ a)
    {msg : Value} (hmsg : msg.isRef = true) {g : JFrame} (hg : g.method = m₀) (hsize : g.locals.size = c.maxLocals) (hlocked : g.locked = none) (hentered : g.entered = []) (hstack : g.stack = [msg, .ref a, .ref a])
    (hd6 : decode c.code g.pc = .ok (.invokespecial 139, 3)) (hd9 : decode c.code (g.pc + 3) = .ok (.athrow, 1)) (hout : ∀ x ∈ c.exceptionTable.toList, covers x (g.pc + 3) = false)
    (hRframes : 5 < R.frames) (hRlocals : 2 * g.monitorRoom + 1 + 81 ≤ R.locals) :
    ∃ U : State, Steps p.tables e below (W.setTop g) U ∧ U.status = .running ∧ Ended U below (.threw a) ∧ s.WarmedH U.vm ∧ s.sameButNew ({ U with vm := s.vm } : State) [] cells slots ∧ ∃ ce : Cell, U.heap[a]? = some ce ∧ ce.cls = cX ∧ ce.vm = .none := by
  have hpl : e.platform.magicAccessors = ({} : Platform).magicAccessors := by rw [X.admits.platform]
  have hh : ∀ x, x ∈ nseW → x.holds args s none s [] = true := fun x hx => h x hx
  obtain ⟨T, Z0, L, -, Y⟩ := ThrowableC.of_atoms (args := args) (by rw [X.admits.platform]) (by rw [X.admits.platform]) hpl (fun x hx => h x (by simp [nseW, hx]))
  obtain ⟨Z, M, LZ, LM, hnZ⟩ := Init0T.ofS_atoms (args := args) hpl L Y (fun x hx => h x (by simp [nseW, hx]))
  obtain ⟨P2, Ps, hlen, L2, hL, hP2m, hlink2, hlink⟩ := Bundle.chainS (args := args) hpl hnZ ["java/lang/Exception"] "java/lang/RuntimeException" (by decide +kernel) (by decide +kernel) (fun x hx => h x (by simp [nseW, hx]))
  obtain ⟨P1, L1, hP1m, hP1s⟩ := PassC.ofS_atoms (args := args) hpl (X := nseN) (Y := "java/lang/RuntimeException") (by decide +kernel) (by decide) nseB_0 nseB_1 nseB_2 nseB_5 (fun x hx => h x (by simp [nseW, hx]))
  have hsup : P1.sup = P2.m := Option.some.inj (hP1s.symm.trans hP2m)
  have hfound : s.vm.findClass nseN = some P1.m.cls := findClass_of_methodNamed hP1m
  cases Option.some.inj (hfoundX.symm.trans hfound)
  obtain ⟨c1, k1, hc1, hk, hord, -, -, hn6⟩ := Cond.instantiable_spec (hh (.instantiable nseN 6) (by simp [nseW]))
  cases Option.some.inj (hc1.symm.trans hfound)
  cases Option.some.inj (hkX.symm.trans hk)
  have hsel0 : selectMethod e.platform s.vm P1.m.cls T.fill0 = .method T.fill0 := by
    obtain ⟨c2, r2, m2, q1, q2, q3, q4, -⟩ := Cond.selects_spec (hh (.selects nseN Bundle.tFill0 Bundle.tFill0) (by simp [nseW]))
    cases Option.some.inj (q1.symm.trans hfound)
    cases Option.some.inj (q2.symm.trans (State.methodFound?_of_named Y.fill0 (by decide)))
    cases Option.some.inj (q3.symm.trans Y.fill0)
    rw [Launch.admits_selectMethod X.admits]; exact q4
  have hselF : selectMethod e.platform s.vm P1.m.cls T.fill = .method T.fill := by
    obtain ⟨c2, r2, m2, q1, q2, q3, q4, -⟩ := Cond.selects_spec (hh (.selects nseN Bundle.tFill Bundle.tFill) (by simp [nseW]))
    cases Option.some.inj (q1.symm.trans hfound)
    cases Option.some.inj (q2.symm.trans (State.methodFound?_of_named Y.fill (by decide)))
    cases Option.some.inj (q3.symm.trans Y.fill)
    rw [Launch.admits_selectMethod X.admits]; exact q4
  obtain ⟨cellS0, hcS0, hiss⟩ := Y.statics
  obtain ⟨u0, hu0⟩ := Cond.staticRefV Y.unassigned L.unassignedStatic L.statics hcS0 hiss (hh (.isRef (.static Bundle.tN "UNASSIGNED_STACK" Bundle.steD)) (by simp [nseW]))
  obtain ⟨sen, hsen⟩ := Cond.staticRefV Y.sentinel L.sentinelStatic L.statics hcS0 hiss (hh (.isRef (.static Bundle.tN "SUPPRESSED_SENTINEL" Bundle.listD)) (by simp [nseW]))
  obtain ⟨ci198, i198, fB, hk198, hg198, ha198, hsB, -, hnB, htB, hffB⟩ := Cond.ownField (t := .object "java/lang/Object") Y.found L.cls (by decide +kernel) (hh (.fieldLink Bundle.tN 198 Bundle.tN "backtrace" "Ljava/lang/Object;") (by simp [nseW])) (hh (.lays Bundle.tN Bundle.tN "backtrace" "Ljava/lang/Object;") (by simp [nseW])) e.platform hpl
  have hltS : T.aS < s.heap.size := (Array.getElem?_eq_some_iff.mp hcS0).1
  have hcellS : W.heap[T.aS]? = some cellS0 := (st_old X.same hltS).trans hcS0
  have hknownS : cellS0.vm ≠ .unknown := fun hu => by rw [hu] at hiss; cases hiss
  have hneS : T.aS ≠ a := Nat.ne_of_lt (Nat.lt_of_lt_of_le hltS hnew)
  obtain ⟨iM, hffM⟩ := Y.msg
  obtain ⟨tyC, dC, hdC, hdnC⟩ := Cond.laysAt hfound hk Y.cause (hh (.lays nseN Bundle.tN "cause" "Ljava/lang/Throwable;") (by simp [nseW]))
  obtain ⟨tyS, dS, hdS, hdnS⟩ := Cond.laysAt hfound hk Y.stack (hh (.lays nseN Bundle.tN "stackTrace" Bundle.steD) (by simp [nseW]))
  obtain ⟨tyP, dP, hdP, hdnP⟩ := Cond.laysAt hfound hk Y.supp (hh (.lays nseN Bundle.tN "suppressedExceptions" Bundle.listD) (by simp [nseW]))
  obtain ⟨tyM, dM, hdM, hdnM⟩ := Cond.laysAt hfound hk hffM (hh (.lays nseN Bundle.tN "detailMessage" "Ljava/lang/String;") (by simp [nseW]))
  obtain ⟨tyB, dB, hdB, hdnB⟩ := Cond.laysAt hfound hk hffB (hh (.lays nseN Bundle.tN "backtrace" "Ljava/lang/Object;") (by simp [nseW]))
  have bC := Cond.laysApart hdB hdC hdnB hdnC (by rw [hnB, Y.causeName]; decide)
  have bS := Cond.laysApart hdB hdS hdnB hdnS (by rw [hnB, Y.stackName]; decide)
  have bP := Cond.laysApart hdB hdP hdnB hdnP (by rw [hnB, Y.suppName]; decide)
  have hskip : SkipFacts T e.platform s (fun u => u) u0 ((preparedCellV T.toThrowableT (freshCell P1.m.cls kX) a u0 sen).withEntry W.cur) :=
    ⟨{ ci198 := ci198, i198 := i198, fBack := fB }, ⟨hk198, hg198, ha198, hsB⟩, by
      have h9 := fresh_default (c := P1.m.cls) tyB
      rw [htB] at h9
      simpa [preparedCellV, Cell.setSlot, Cell.withEntry, Array.getElem?_setIfInBounds, bC, bS, bP, bC.symm, bS.symm, bP.symm, defaultValue] using h9, fun _ _ => rfl⟩
  obtain ⟨tm, methC, cdC, kC, vm₁, hnC, -, -, -, -, -, -, -, hW₁, st1⟩ := Steps.initColdS (tb := p.tables) (e := e) (below := below) (s := s) (U := W) X.here hexec X.warmed hpl hown (t := Bundle.initS nseN) rfl rfl (by decide)
    (h (.methodLink "DecimalDesk" 139 (Bundle.initS nseN)) (by simp [nseW])) (h (.instanceMethod (Bundle.initS nseN)) (by simp [nseW, Bundle.passSAtoms])) (bytes := nseB) (maxL := 2) (h (.code (Bundle.initS nseN) nseB 2 none) (by simp [nseW, Bundle.passSAtoms])) (f := g) hg (a := a) (msg := msg) (rest := [.ref a]) hstack hd6
  cases Option.some.inj (hnC.symm.trans hP1m)
  have X₁ := X.noted hW₁
  obtain ⟨vm₂, X₂, st2⟩ := X₁.ctorMessageOffV hexec (g := { g with stack := [.ref a] }) hg hsize T L Z LZ M LM (P1 :: P2 :: Ps)
    (fun P hP => by
      rcases List.mem_cons.mp hP with rfl | hP
      · exact L1
      · rcases List.mem_cons.mp hP with rfl | hP
        · exact L2
        · exact hL P hP) ⟨hsup, hlink2, hlink⟩ (u0 := u0) (sen := sen) (self := a) hmsg (cell := freshCell P1.m.cls kX) (cellS := cellS0)
    hcell (fun _ => by simp) (by simp) rfl rfl hsel0 hselF hcellS hneS hknownS hu0 hsen
    (Takes.of_laid hk hord tyC (by rw [Y.causeType]; rfl)) (Takes.of_laid hk hord tyS (by rw [Y.stackType]; exact fits_refV_array _ u0)) (Takes.of_laid hk hord tyP (by rw [Y.suppType]; exact fits_refV_object _ sen))
    (Takes.of_laid hk hord tyM (by rw [Y.msgType]; exact fits_refV_object _ ⟨msg, hmsg⟩)) Y.objLocals hskip htr [] hd6
    (by simp only [List.length_cons, hlen]; simp; omega) (by simp only [List.length_cons, hlen]; simp [Value.category]; omega)
  obtain ⟨hwalk, hrun, hended, hWU, hsame⟩ := X₂.athrowLeaves hexec (g := { g with stack := [.ref a], pc := g.pc + 3 }) hg hlocked hentered hout (a := a) (rest := []) rfl hd9 hlocks
  have hlt : a < ((W.setVm vm₁).setVm vm₂).heap.size := (Array.getElem?_eq_some_iff.mp hcell).1
  have hU := heapAt_setCell_self (s := (W.setVm vm₁).setVm vm₂) (plainBareV T.toThrowableT (freshCell P1.m.cls kX) a u0 sen msg) hlt
  refine ⟨_, st1 _ (fun acts => ?_), hrun, hended, hWU, hsame.weaken (fun y hy hlt' => ?_) (Nat.le_refl _) (Nat.le_refl _), _, hU, rfl, rfl⟩
  · rw [doInvoke_state]
    exact st2 _ hwalk
  · exfalso
    have hbz : y.base = a := by
      simp only [List.nil_append, List.mem_cons, List.not_mem_nil, or_false] at hy
      rcases hy with rfl | rfl | rfl | rfl | rfl <;> rfl
    rw [hbz] at hlt'
    exact Nat.not_lt.mpr hnew hlt'
set_option maxHeartbeats 2000000 in
/-- its end -/
theorem th_endN {dC : Nat → ClassId} {dI : Nat → Nat → Nat} {cI cB cJ : ClassId} {own : String} {cc : ByteArray} {nL : Nat} {ret : Option FieldType} {p : Program} {l : Launch} {e : Env} {R : Room} {s : State} {m : MethodId} {args : Array Value} {below : List Frame} {meth : Method} {c : Code} {H : Heap} {locs : List Loc} {cells slots mc ms pc : Nat} {ls : Array Slot} {free : Addr → Prop} {Qt : Array Value → State → Addr → State → Prop}
    (C0 : cx dC dI cI cB cJ own cc nL ret p s m args meth c) (htr : l.stackTraces = false) (hne : c.exceptionTable.isEmpty = true) (hsz : ls.size = nL)
    {text : String} {istr : Nat}
    (hw : ∀ V : State, V.heap = H → s.WarmedH V.vm → (∀ a ∈ nseW, a.before args V = true) ∧ (Cond.classLink own 135 nseN).before args V = true ∧ (Cond.initialized nseN).before args V = true ∧ (Cond.stringRef own istr text).before args V = true) (hD9 : own = "DecimalDesk")
    (d0 : decode cc pc = .ok (.new 135, 3)) (d3 : decode cc (pc + 3) = .ok (.dup, 1)) (d4 : decode cc (pc + 4) = .ok (.ldc istr, 2)) (d6 : decode cc (pc + 6) = .ok (.invokespecial 139, 3)) (d9 : decode cc (pc + 9) = .ok (.athrow, 1))
    (hf : 5 < R.frames) (hl : 89 ≤ R.locals) (hc : cells + 1 ≤ R.cells) (hs : slots + 6 ≤ R.slots) (hc2 : cells + 1 ≤ mc) (hs2 : slots + 6 ≤ ms) (hfree : ∀ q ∈ locs, free q.base)
    (hq : ∀ (t V : State) (ce : Cell), V.heap = H → s.WarmedH V.vm → s.WarmedH t.vm → H.size ≤ t.heap.size → (∀ q, q < H.size → t.heap[q]? = H[q]?) → t.heap[H.size]? = some ce → V.vm.findClass nseN = some ce.cls → ce.vm = .none → Qt args s H.size t) :
    W p l e R s m args below meth c H locs cells slots (MQT below Qt args s mc ms free) (F0 m pc ls []) := by
  intro T hT X0
  obtain ⟨hx, hb, hml, hown, hts, hr, hlocks, hK⟩ := C0
  have X := st_rebase X0 (by omega) (by omega)
  generalize hV : T.setFrames (.invoking m args :: below) = V at X
  have hVh : V.heap = T.heap := by rw [← hV]; rfl
  have hVv : V.vm = T.vm := by rw [← hV]; rfl
  have hWV : s.WarmedH V.vm := by rw [hVv]; exact X0.warmed
  have hownV : V.vm.findClass own = some m.cls := by rw [hVv, X0.warmed.alike.findClass]; exact hown
  obtain ⟨hw1, hw2, hw3, hw4⟩ := hw V (hVh.trans hT) hWV
  have htr' : e.platform.stackTraces = false := by rw [X0.admits.platform]; exact htr
  obtain ⟨vm₁, cX, kX, hfX, hkX, -, -, X₁, st1⟩ := X.newCold hx (own := own) (index := 135) (n := 6) hownV hw2 (hw1 _ (by simp [nseW])) hw3 (g := F0 m pc ls []) rfl (by rw [hb]; exact d0) (by show 0 + 1 ≤ R.cells - cells; omega) (by show 0 + 6 ≤ R.slots - slots; omega)
  generalize hT1 : (T.setVm vm₁).pushCell { cls := cX, slots := kX.instanceTypes.map defaultValue, vm := .none } = T1 at X₁ st1
  have hcellA : T1.heap[T.heap.size]? = some (freshCell cX kX) := by rw [← hT1]; exact State.heap_pushCell_size _ _
  obtain ⟨-, -, -, sa, -, -, -, -, -, hev⟩ := Cond.stringRef_spec hownV hw4
  obtain ⟨U, hsteps, hrun, hend, hW, hsame, ce, hce, hcc, hcv⟩ := st_nse X₁ hx htr' hlocks (by rw [← hD9]; exact hownV) hw1 hfX hkX hcellA (by rw [hVh]; exact Nat.le_refl _) (msg := .ref sa) rfl
    (g := F0 m (pc + 6) ls [.ref sa, .ref T.heap.size, .ref T.heap.size]) rfl (by rw [hml]; exact hsz) rfl rfl rfl (by rw [hb]; exact d6) (by rw [hb]; exact d9) (covers_of_empty hne _) hf (by simp [JFrame.monitorRoom]; omega)
  have hWU : s.WarmedH U.vm := State.WarmedH.trans hWV hW
  have hold : ∀ q, q < H.size → U.heap[q]? = H[q]? := fun q hq => by
    have h := st_old hsame (q := q) (by rw [hVh, hT]; exact hq)
    rw [hVh, hT] at h
    exact h
  refine ⟨U, ?_, T.heap.size, hrun, hend, ?_, locs, ⟨hWU, ?_⟩, hfree⟩
  · refine st1 _ ?_
    show Steps p.tables e below (T1.setTop (F0 m (pc + 3) ls [.ref T.heap.size])) _
    jvm_step X₁.here [X₁.here.top, hx, hb, d3, Value.category]
    exact X₁.ldcString hx (own := own) (text := text) (index := istr) (a := sa) hownV hw4 hev (g := F0 m (pc + 4) ls [.ref T.heap.size, .ref T.heap.size]) rfl (by rw [hb]; exact d4) _ hsteps
  · have := hq U V ce (hVh.trans hT) hWV hWU (by have := hsame.2.1; rw [hVh, hT] at this; exact this) hold (by rw [← hT]; exact hce) (by rw [hcc]; exact hfX) hcv
    rw [← hT] at this
    exact this
  · have h2 : (T.setVm s.vm).sameButNew ({ U with vm := s.vm } : State) [] (0 + 1) (0 + 6) := by
      subst hV
      obtain ⟨a1, a2, a3, a4, a5, a6⟩ := hsame
      refine ⟨?_, a2, a3, a4, a5, a6⟩
      have h3 := congrArg (fun z : State => z.setVm s.vm) a1
      dsimp only at h3
      rw [State.setFrames_setFrames] at h3
      exact h3
    have h4 := X0.same.trans h2
    rw [List.append_nil] at h4
    exact h4.mono (by omega) (by omega)
/-- the end: a new NoSuchElementException is thrown -/
theorem th_nse {dC : Nat → ClassId} {dI : Nat → Nat → Nat} {cI cB cJ : ClassId} {cc : ByteArray} {nL N : Nat} {ret : Option FieldType} {p : Program} {l : Launch} {e : Env} {R : Room} {s : State} {m : MethodId} {args : Array Value} {below : List Frame} {meth : Method} {c : Code} {H : Heap} {locs : List Loc} {cells slots mc ms pc istr : Nat} {ls : Array Slot} {A : Nat → Prop} {S : Type} {post : S → Prop} {wout : S → va_W} {w0 : va_W} {text : String}
    (C0 : cx dC dI cI cB cJ "DecimalDesk" cc nL ret p s m args meth c) (htr : l.stackTraces = false) (hne : c.exceptionTable.isEmpty = true) (hth : ∀ w ∈ thT, w.before args s = true) (hSK : SKN N s) (hlow : ∀ q, q < N → ¬ A q) (hstr : Cond.stringRef "DecimalDesk" istr text ∈ thT) (hsz : ls.size = nL)
    (d0 : decode cc pc = .ok (.new 135, 3)) (d3 : decode cc (pc + 3) = .ok (.dup, 1)) (d4 : decode cc (pc + 4) = .ok (.ldc istr, 2)) (d6 : decode cc (pc + 6) = .ok (.invokespecial 139, 3)) (d9 : decode cc (pc + 9) = .ok (.athrow, 1))
    (hf : 5 < R.frames) (hl : 89 ≤ R.locals) (hc : cells + 1 ≤ R.cells) (hs : slots + 6 ≤ R.slots) (hc2 : cells + 1 ≤ mc) (hs2 : slots + 6 ≤ ms)
    {u : S} (hq : post u) (hP : va_P (dC, dI) vwCl w0 H) (hD : va_D A w0) (hS : va_S A s.heap H locs) (is : List Nat) (hn : va_nd is = true) (hsel : is.map (fun i => w0[i]?) = (wout u).map some) :
    W p l e R s m args below meth c H locs cells slots (MQT below (QTA dC dI post wout nseN A) args s mc ms A) (F0 m pc ls []) := by
  have hown : ∀ w ∈ nseW, w ∈ thT ∨ w ∈ hpW := by decide +kernel
  refine th_endN C0 htr hne hsz (istr := istr) (text := text) ?_ rfl d0 d3 d4 d6 d9 hf hl hc hs hc2 hs2 hS.2.2 ?_
  · intro V hV hW
    have hst := hSK.2 V hW (fun q hq => by rw [hV]; exact hS.2.1 q (Nat.lt_of_lt_of_le hq hSK.1) (hlow q hq)) args
    refine ⟨fun w hw => ?_, th_at (by decide +kernel) hW (hth _ (by decide +kernel)), th_at (by decide +kernel) hW (hth _ (by decide +kernel)), th_at hstr hW (hth _ hstr)⟩
    rcases hown w hw with h1 | h1
    · exact th_at h1 hW (hth w h1)
    · exact hst w h1
  · intro t V ce hV hW hWt hsize hold hce hcc hcv
    have hPt : va_P (dC, dI) vwCl w0 t.heap := hP.kept (fun k q hk => hold q.1 (hP k q hk).lt)
    refine ⟨⟨u, hq, va_Psub hPt is hsel, hD.sub is hn hsel⟩, ⟨Nat.le_trans hS.1 hsize, fun q h1 h2 => ?_⟩, hS.1, ce, hce, ?_, hcv⟩
    · rw [hold q (Nat.lt_of_lt_of_le h1 hS.1)]
      exact hS.2.1 q h1 h2
    · have h9 := hcc
      rw [hW.alike.findClass] at h9
      exact h9
end NS
