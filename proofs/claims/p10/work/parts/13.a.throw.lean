/-! METHODS THAT THROW, AND WHO CATCHES -/
/-- the walk begun anew where it stands: what was done till here is the start -/
theorem st_rebase {p : Program} {l : Launch} {e : Env} {R : Room} {s : State} {m : MethodId} {args : Array Value} {below : List Frame} {meth : Method} {c : Code} {T : State} {locs : List Loc} {cells slots : Nat}
    (X : Stand p l e R s m args below meth c T locs cells slots) (h1 : cells ≤ R.cells) (h2 : slots ≤ R.slots) :
    Stand p l e { R with cells := R.cells - cells, slots := R.slots - slots } (T.setFrames (.invoking m args :: below)) m args below meth c T [] 0 0 := by
  obtain ⟨g₀, hfr⟩ := X.frames_eq
  have hcur : T.cur < T.threads.size := State.cur_lt_of_frames hfr
  have hF : (T.setFrames (.invoking m args :: below)).frames = .invoking m args :: below := State.frames_setFrames _ hcur
  have hvm : (T.setFrames (.invoking m args :: below)).vm = T.vm := rfl
  have hmet := X.method'
  have hlim : e.platform.stackLimits (T.setFrames (.invoking m args :: below)).me = e.platform.stackLimits s.me := by rw [State.stackLimits_setFrames, X.limits]
  have hbyt : (T.setFrames (.invoking m args :: below)).me.stackBytes = s.me.stackBytes := by rw [State.stackBytes_setFrames, X.bytes]
  have huse : (T.setFrames (.invoking m args :: below)).localsInUse = s.localsInUse := by
    unfold State.localsInUse
    rw [hF, X.frames, hvm]
    simp only [hmet, X.method]
  obtain ⟨t, ht, -⟩ := State.frames_cons hfr
  refine ⟨X.admits, X.cas, X.clock, hF, ?_, ?_, hmet, X.code, X.here, X.tail, State.WarmedH.refl _, by rw [hlim, X.limits], by rw [hbyt, X.bytes], ?_⟩
  · have hr := X.room
    have hs := X.heapSize
    have hu := X.used
    have hb := X.book
    unfold State.hasRoom at hr ⊢
    simp only [Bool.and_eq_true, decide_eq_true_eq] at hr ⊢
    rw [huse, hF, hlim, hbyt]
    rw [X.frames] at hr
    obtain ⟨⟨⟨⟨r1, r2⟩, r3⟩, r4⟩, r5⟩ := hr
    refine ⟨⟨⟨⟨r1, r2⟩, ?_⟩, ?_⟩, hb⟩
    · show T.heap.size + (R.cells - cells) ≤ _
      omega
    · show T.slotsUsed + (R.slots - slots) ≤ _
      omega
  · have hh := X.hears
    have hc : ∀ x, (T.setFrames (.invoking m args :: below)).code? x = s.code? x := fun x => by rw [State.code?_eq, State.code?_eq, hvm, X.warmed.alike.method?]
    have hm2 : (T.setFrames (.invoking m args :: below)).vm.method? m = s.vm.method? m := by rw [hvm, X.warmed.alike.method?]
    rcases below with _ | ⟨f, r⟩
    · simpa only [State.hears, hm2] using hh
    · cases f <;> simpa only [State.hears, hc, hm2] using hh
  · have hcur' : (T.setFrames (.invoking m args :: below)).cur < (T.setFrames (.invoking m args :: below)).threads.size := State.cur_lt_of_frames hF
    obtain ⟨t', ht', -⟩ := State.frames_cons hF
    have h := (State.sameButNew.refl _ ht').setFrames T.frames hcur'
    rw [State.setFrames_setFrames, State.setFrames_self ht] at h
    rw [hvm, State.setVm_self]
    exact h
/-- the end of a walk that throws: what stays, what is new -/
def FrT (first t : State) (L : List Loc) (k n : Nat) : Prop := first.WarmedH t.vm ∧ first.sameButNew ({ t with vm := first.vm } : State) L k n
def MQT (below : List Frame) (Qt : Array Value → State → Addr → State → Prop) (a : Array Value) (s : State) (mc ms : Nat) (free : Addr → Prop) : State → Prop := fun t =>
  ∃ x, t.status = .running ∧ Ended t below (.threw x) ∧ Qt a s x t ∧ ∃ L, FrT s t L mc ms ∧ ∀ q ∈ L, free q.base
theorem st_old {V U : State} {k n : Nat} (h : V.sameButNew U [] k n) {q : Nat} (hq : q < V.heap.size) : U.heap[q]? = V.heap[q]? := by
  obtain ⟨-, -, -, -, -, h6⟩ := h
  have h1 : V.heap[q]? = some V.heap[q] := Array.getElem?_eq_getElem hq
  obtain ⟨c', h2, h3, h4, h5⟩ := h6 q _ h1
  rw [h1, h2]
  congr 1
  rw [h3]
  have : c'.slots = V.heap[q].slots := by
    apply Array.ext_getElem?
    intro i
    exact h5 i (by simp)
  rw [this]
set_option maxHeartbeats 2000000 in
/-- new E("text") is thrown: nothing catches it here -/
theorem th_end {dC : Nat → ClassId} {dI : Nat → Nat → Nat} {cI cB cJ : ClassId} {own : String} {cc : ByteArray} {nL : Nat} {ret : Option FieldType} {p : Program} {l : Launch} {e : Env} {R : Room} {s : State} {m : MethodId} {args : Array Value} {below : List Frame} {meth : Method} {c : Code} {H : Heap} {locs : List Loc} {cells slots mc ms pc : Nat} {ls : Array Slot} {free : Addr → Prop} {Qt : Array Value → State → Addr → State → Prop}
    (C0 : cx dC dI cI cB cJ own cc nL ret p s m args meth c) (htr : l.stackTraces = false) (hne : c.exceptionTable.isEmpty = true) (hsz : ls.size = nL)
    {X text : String} {names : List String} {ic inew istr : Nat} (hfit : Bundle.fit X = true) (hnames : ∀ n ∈ names, Bundle.fit n = true)
    (hw : ∀ V : State, V.heap = H → s.WarmedH V.vm → (∀ a ∈ Bundle.ownAtoms own ic X names, a.before args V = true) ∧ (Cond.classLink own inew X).before args V = true ∧ (Cond.initialized X).before args V = true ∧ (Cond.stringRef own istr text).before args V = true)
    (d0 : decode cc pc = .ok (.new inew, 3)) (d3 : decode cc (pc + 3) = .ok (.dup, 1)) (d4 : decode cc (pc + 4) = .ok (.ldc istr, 2)) (d6 : decode cc (pc + 6) = .ok (.invokespecial ic, 3)) (d9 : decode cc (pc + 9) = .ok (.athrow, 1))
    (hf : names.length + 3 < R.frames) (hl : 13 * (names.length + 1) + 50 ≤ R.locals) (hc : cells + 1 ≤ R.cells) (hs : slots + 6 ≤ R.slots) (hc2 : cells + 1 ≤ mc) (hs2 : slots + 6 ≤ ms) (hfree : ∀ q ∈ locs, free q.base)
    (hq : ∀ (t V : State) (ce : Cell) (msg : Value), V.heap = H → s.WarmedH V.vm → s.WarmedH t.vm → H.size ≤ t.heap.size → (∀ q, q < H.size → t.heap[q]? = H[q]?) → t.heap[H.size]? = some ce → Bundle.OwnCell args V X H.size msg ce → Qt args s H.size t) :
    W p l e R s m args below meth c H locs cells slots (MQT below Qt args s mc ms free) (F0 m pc ls []) := by
  intro T hT X0
  obtain ⟨hx, hb, hml, hown, hts, hr, hlocks, hK⟩ := C0
  have X := st_rebase X0 (by omega) (by omega)
  generalize hV : T.setFrames (.invoking m args :: below) = V at X
  have hVh : V.heap = T.heap := by rw [← hV]; rfl
  have hVv : V.vm = T.vm := by rw [← hV]; rfl
  have hWV : s.WarmedH V.vm := by rw [hVv]; exact X0.warmed
  have hownV : V.vm.findClass own = some m.cls := by rw [hVv, X0.warmed.alike.findClass]; exact hown
  obtain ⟨hw1, hw2, hw3, hw4⟩ := hw V (hVh.trans hT) hWV
  have htr' : e.platform.stackTraces = false := by rw [X0.admits.platform]; exact htr
  obtain ⟨vm₁, cX, kX, hfX, hkX, -, -, X₁, st1⟩ := X.newCold hx (own := own) (index := inew) (n := 6) hownV hw2 (hw1 _ (by simp [Bundle.ownAtoms])) hw3 (g := F0 m pc ls []) rfl (by rw [hb]; exact d0) (by show 0 + 1 ≤ R.cells - cells; omega) (by show 0 + 6 ≤ R.slots - slots; omega)
  generalize hT1 : (T.setVm vm₁).pushCell { cls := cX, slots := kX.instanceTypes.map defaultValue, vm := .none } = T1 at X₁ st1
  have hcellA : T1.heap[T.heap.size]? = some (freshCell cX kX) := by rw [← hT1]; exact State.heap_pushCell_size _ _
  obtain ⟨-, -, -, sa, -, -, -, -, -, hev⟩ := Cond.stringRef_spec hownV hw4
  obtain ⟨U, hsteps, hrun, hend, hW, hsame, ce, hce, K⟩ := X₁.ctorThrowS hx htr' (names := names) (ic := ic) hownV hfit hnames hw1 (fun y hy => by cases hy) hfX hkX hcellA (by rw [hVh]; exact Nat.le_refl _) (msg := .ref sa) rfl
    (g := F0 m (pc + 6) ls [.ref sa, .ref T.heap.size, .ref T.heap.size]) rfl (by rw [hml]; exact hsz) rfl rfl (rest := []) rfl (by rw [hb]; exact d6) (by rw [hb]; exact d9) (covers_of_empty hne _) hf (by simp [JFrame.monitorRoom, Value.category]; omega)
  have hWU : s.WarmedH U.vm := State.WarmedH.trans hWV hW
  have hold : ∀ q, q < H.size → U.heap[q]? = H[q]? := fun q hq => by
    have h := st_old hsame (q := q) (by rw [hVh, hT]; exact hq)
    rw [hVh, hT] at h
    exact h
  refine ⟨U, ?_, T.heap.size, hrun, hend, ?_, locs, ⟨hWU, ?_⟩, hfree⟩
  · refine st1 _ ?_
    show Steps p.tables e below (T1.setTop (F0 m (pc + 3) ls [.ref T.heap.size])) _
    jvm_step X₁.here [X₁.here.top, hx, hb, d3, Value.category]
    exact X₁.ldcString hx (own := own) (text := text) (index := istr) (a := sa) hownV hw4 hev (g := F0 m (pc + 4) ls [.ref T.heap.size, .ref T.heap.size]) rfl (by rw [hb]; exact d4) _ hsteps
  · have := hq U V ce (.ref sa) (hVh.trans hT) hWV hWU (by have := hsame.2.1; rw [hVh, hT] at this; exact this) hold (by rw [← hT]; exact hce) (by rw [← hT]; exact K)
    rw [← hT] at this
    exact this
  · have h2 : (T.setVm s.vm).sameButNew ({ U with vm := s.vm } : State) [] (0 + 1) (0 + 6) := by
      subst hV
      obtain ⟨a1, a2, a3, a4, a5, a6⟩ := hsame
      refine ⟨?_, a2, a3, a4, a5, a6⟩
      have h3 := congrArg (fun z : State => z.setVm s.vm) a1
      dsimp only at h3
      rw [State.setFrames_setFrames] at h3
      exact h3
    have h4 := X0.same.trans h2
    rw [List.append_nil] at h4
    exact h4.mono (by omega) (by omega)
