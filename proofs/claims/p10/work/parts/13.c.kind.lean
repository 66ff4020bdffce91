/-! CONTRACTS OF METHODS THAT THROW -/
section TH
def nseN : String := "java/util/NoSuchElementException"
def iaeN : String := "java/lang/IllegalArgumentException"
/-- the bytes of its constructor: the super's stands at entry 13 -/
def nseB : ByteArray := ⟨#[0x2a, 0x2b, 0xb7, 0x00, 0x0d, 0xb1]⟩
def upX : List String := ["java/lang/RuntimeException", "java/lang/Exception"]
/-- words that aren't taken from the list: they speak of the heap, or are another in this JDK -/
def isIR : Cond → Bool
  | .isRef _ => true
  | .laysStatic .. => true
  | .code y _ _ _ => y.cls == "java/util/NoSuchElementException"
  | .methodLink c _ _ => c == "java/util/NoSuchElementException"
  | _ => false
def thX : List Cond := [.stringRef "DecimalDesk" 84 "the tape is no decimal", .stringRef "DecimalDesk" 120 "no such pattern", .stringRef "DecimalDesk" 137 "no such letter", .classLink "DecimalDesk" 82 iaeN, .classLink "DecimalDesk" 135 nseN, .initialized iaeN, .initialized nseN, .code (Bundle.initS nseN) nseB 2 none, .methodLink nseN 13 (Bundle.initS "java/lang/RuntimeException")]
def thT : List Cond := (Bundle.ownAtoms "DecimalDesk" 86 iaeN upX).filter (fun w => !isIR w) ++ ((Bundle.ownAtoms "DecimalDesk" 139 nseN upX).filter (fun w => !isIR w) ++ thX)
def isV : Cond → Bool
  | .castable .. => true
  | .declares .. => true
  | _ => false
def isSR : Cond → Bool
  | .stringRef .. => true
  | _ => false
set_option maxRecDepth 100000 in
theorem thT_tbl : ∀ w ∈ thT, w ∈ lw_tbl := by decide +kernel
set_option maxRecDepth 100000 in
theorem thT_ok : ∀ w ∈ thT, (w.onTables && w.keeps) = true ∨ (isV w && w.keepsFace) = true ∨ isSR w = true := by decide +kernel
theorem th_at {args a' : Array Value} {s U : State} {w : Cond} (hw : w ∈ thT) (hW : s.WarmedH U.vm) (h : w.before args s = true) : w.before a' U = true := by
  rcases thT_ok w hw with h1 | h1 | h1
  · exact word_at hW (Or.inl h1) h
  · rw [Bool.and_eq_true] at h1
    have h2 : w.before args (s.setVm U.vm) = true := Cond.before_shiftedFace (State.Shifted.of_warmed hW) _ h1.2 h
    have h3 := h1.1
    cases w <;> first | exact h2 | (simp [isV] at h3; done)
  · cases w with
    | stringRef a b t => exact Cond.stringRef_warmed hW h
    | _ => simp [isSR] at h1
/-- the words of the heap: the statics of Throwable -/
def hpW : List Cond := [.isRef (.static Bundle.tN "UNASSIGNED_STACK" Bundle.steD), .isRef (.static Bundle.tN "SUPPRESSED_SENTINEL" Bundle.listD), .laysStatic Bundle.tN "UNASSIGNED_STACK" Bundle.steD, .laysStatic Bundle.tN "SUPPRESSED_SENTINEL" Bundle.listD]
/-- the statics of Throwable stay: no cell below N changes -/
def SKN (N : Nat) (U : State) : Prop := N ≤ U.heap.size ∧ ∀ V : State, U.WarmedH V.vm → (∀ q, q < N → V.heap[q]? = U.heap[q]?) → ∀ args : Array Value, ∀ w ∈ hpW, w.before args V = true
theorem SKN.mv {N : Nat} {U V : State} (h : SKN N U) (hW : U.WarmedH V.vm) (hs : N ≤ V.heap.size) (hh : ∀ q, q < N → V.heap[q]? = U.heap[q]?) : SKN N V :=
  ⟨hs, fun V2 hW2 hh2 => h.2 V2 (State.WarmedH.trans hW hW2) (fun q hq => (hh2 q hq).trans (hh q hq))⟩
theorem SKN.calling {N : Nat} {U : State} {g : JFrame} {mk : MethodId} {a : Array Value} (h : SKN N U) : SKN N (U.calling g mk a) := h.mv (State.WarmedH.refl U) h.1 (fun _ _ => rfl)
def MetT (l : Launch) (y : MethodName) (ws : List Cond) (rm : Room) (Pc : Array Value → State → Prop) (Qt : Array Value → State → Addr → State → Prop) (mc ms : Nat) (free : Addr → Prop) : Prop :=
  MetFree l y (headSpec ws rm) Pc (fun _ _ _ _ _ => True) (fun a st o t => ∃ x, o = .threw x ∧ Qt a st x t ∧ ∃ L, FrT st t L mc ms ∧ ∀ q ∈ L, free q.base)
/-- a new cell of the class X was thrown -/
def XT (X : String) (s t : State) (x : Nat) : Prop := s.heap.size ≤ x ∧ ∃ ce : Cell, t.heap[x]? = some ce ∧ s.vm.findClass X = some ce.cls ∧ ce.vm = .none
def QTA {S : Type} (dC : Nat → ClassId) (dI : Nat → Nat → Nat) (post : S → Prop) (wout : S → va_W) (X : String) (A : Nat → Prop) : Array Value → State → Addr → State → Prop := fun _ s x t =>
  (∃ u : S, post u ∧ poG dC dI A wout u t) ∧ va_F A s t ∧ XT X s t x
def Ct (l : Launch) (dC : Nat → ClassId) (dI : Nat → Nat → Nat) (cI cB cJ : ClassId) (y : MethodName) (ws : List Cond) (rm : Room) (av : List Value) (win : va_W) {S : Type} (post : S → Prop) (wout : S → va_W) (X : String) (N : Nat) : Prop :=
  ∀ sz, MetT l y ws rm (fun a U => prG dC dI cI cB cJ av win sz a U ∧ SKN N U) (QTA dC dI post wout X (va_A win sz)) rm.cells rm.slots (va_A win sz)
theorem Ct.intro {dC : Nat → ClassId} {dI : Nat → Nat → Nat} {cI cB cJ : ClassId} {l : Launch} {y : MethodName} {ws : List Cond} {rm : Room} {av : List Value} {win : va_W} {S : Type} {wout : S → va_W} {cc : ByteArray} {maxL N : Nat} {X : String} {post : S → Prop} {ret : Option FieldType} (hy : plainFor y = true) (hw : ws = Cond.code y cc maxL ret :: (gT ++ thT)) (hlen : (lg_sl av).length ≤ maxL)
    (hN : ∀ (k : Nat) (q : Nat × va_E), win[k]? = some q → N ≤ q.1)
    (body : ∀ (p : Program) (e : Env) (s : State) (m : MethodId) (below : List Frame) (meth : Method) (c : Code) (A : Nat → Prop) (ls : Array Slot), cx dC dI cI cB cJ y.cls cc maxL ret p s m av.toArray meth c → meth.name = y.name → (∀ q : Nat, s.heap.size ≤ q → A q) → c.exceptionTable.isEmpty = true → (∀ w ∈ thT, w.before av.toArray s = true) → SKN N s → (∀ q, q < N → ¬ A q) →
      va_P (dC, dI) vwCl win s.heap → va_D A win → va_S A s.heap s.heap [] → lv_has ls maxL (lv_args 0 av) → W p l e rm s m av.toArray below meth c s.heap [] 0 0 (MQT below (QTA dC dI post wout X A) av.toArray s rm.cells rm.slots A) (F0 m 0 ls [])) : Ct l dC dI cI cB cJ y ws rm av win post wout X N := by
  intro sz
  refine MetFree.of_bodySF (code := cc) (maxLocals := maxL) (ret := ret) hy ?_ ?_
  · intro args s m h hn
    obtain ⟨meth, c, h1, h2, h3, h4, h5, h6, -, -⟩ := Cond.code_spec hn (atoms_spec (ws := ws) h _ (by rw [hw]; exact List.mem_cons_self))
    exact ⟨meth, c, h1, h2, h3, h4, h5, h6⟩
  · intro p e s m args below meth c s₁ B hml hv _
    obtain ⟨⟨rfl, hsz, hP, hK, hD0⟩, hSK⟩ := hv
    subst hsz
    have hh0 : s₁.heap = s.heap := by rw [B.state]; rfl
    have hl := lv_entry av (n := maxL) hlen
    have hne : c.exceptionTable.isEmpty = true := B.noHandlers (atoms_spec (ws := ws) B.pre _ (by rw [hw]; exact List.mem_cons_self))
    have hb := body p e s m below meth c (va_A win s.heap.size) _ ⟨B.exec, B.bytes, hml, findClass_of_methodNamed B.named, fun w h => atoms_spec (ws := ws) B.pre w (by rw [hw]; exact List.mem_cons_of_mem _ (List.mem_append_left _ h)), B.returns, B.notSynchronized, hK⟩ (name_of_methodNamed B.named B.method).1 (fun q h => Or.inr h) hne
      (fun w h => atoms_spec (ws := ws) B.pre w (by rw [hw]; exact List.mem_cons_of_mem _ (List.mem_append_right _ h))) hSK (fun q hq hA => by
        rcases hA with ⟨k, e, hk⟩ | hA
        · have := hN k _ hk; omega
        · have := hSK.1; omega) hP hD0.self va_S.rf hl
    rw [← lg_entry_eq] at hb
    obtain ⟨t, a1, x, b1, b2, b3, b4⟩ := hb s₁ hh0 (Stand.of_body B)
    exact ⟨t, .threw x, a1, b1, b2, x, rfl, b3, b4⟩
/-- the end: a new IllegalArgumentException is thrown -/
theorem th_iae {dC : Nat → ClassId} {dI : Nat → Nat → Nat} {cI cB cJ : ClassId} {cc : ByteArray} {nL N : Nat} {ret : Option FieldType} {p : Program} {l : Launch} {e : Env} {R : Room} {s : State} {m : MethodId} {args : Array Value} {below : List Frame} {meth : Method} {c : Code} {H : Heap} {locs : List Loc} {cells slots mc ms pc istr : Nat} {ls : Array Slot} {A : Nat → Prop} {S : Type} {post : S → Prop} {wout : S → va_W} {w0 : va_W} {text : String}
    (C0 : cx dC dI cI cB cJ "DecimalDesk" cc nL ret p s m args meth c) (htr : l.stackTraces = false) (hne : c.exceptionTable.isEmpty = true) (hth : ∀ w ∈ thT, w.before args s = true) (hSK : SKN N s) (hlow : ∀ q, q < N → ¬ A q) (hstr : Cond.stringRef "DecimalDesk" istr text ∈ thT) (hsz : ls.size = nL)
    (d0 : decode cc pc = .ok (.new 82, 3)) (d3 : decode cc (pc + 3) = .ok (.dup, 1)) (d4 : decode cc (pc + 4) = .ok (.ldc istr, 2)) (d6 : decode cc (pc + 6) = .ok (.invokespecial 86, 3)) (d9 : decode cc (pc + 9) = .ok (.athrow, 1))
    (hf : 5 < R.frames) (hl : 89 ≤ R.locals) (hc : cells + 1 ≤ R.cells) (hs : slots + 6 ≤ R.slots) (hc2 : cells + 1 ≤ mc) (hs2 : slots + 6 ≤ ms)
    {u : S} (hq : post u) (hP : va_P (dC, dI) vwCl w0 H) (hD : va_D A w0) (hS : va_S A s.heap H locs) (is : List Nat) (hn : va_nd is = true) (hsel : is.map (fun i => w0[i]?) = (wout u).map some) :
    W p l e R s m args below meth c H locs cells slots (MQT below (QTA dC dI post wout iaeN A) args s mc ms A) (F0 m pc ls []) := by
  have hown : ∀ w ∈ Bundle.ownAtoms "DecimalDesk" 86 iaeN upX, w ∈ thT ∨ w ∈ hpW := by decide +kernel
  refine th_end C0 htr hne hsz (X := iaeN) (names := upX) (ic := 86) (inew := 82) (istr := istr) (text := text) (by decide +kernel) (by decide +kernel) ?_ d0 d3 d4 d6 d9 hf hl hc hs hc2 hs2 hS.2.2 ?_
  · intro V hV hW
    have hst := hSK.2 V hW (fun q hq => by rw [hV]; exact hS.2.1 q (Nat.lt_of_lt_of_le hq hSK.1) (hlow q hq)) args
    refine ⟨fun w hw => ?_, th_at (by decide +kernel) hW (hth _ (by decide +kernel)), th_at (by decide +kernel) hW (hth _ (by decide +kernel)), th_at hstr hW (hth _ hstr)⟩
    rcases hown w hw with h1 | h1
    · exact th_at h1 hW (hth w h1)
    · exact hst w h1
  · intro t V ce msg hV hW hWt hsize hold hce K
    have hPt : va_P (dC, dI) vwCl w0 t.heap := hP.kept (fun k q hk => hold q.1 (hP k q hk).lt)
    refine ⟨⟨u, hq, va_Psub hPt is hsel, hD.sub is hn hsel⟩, ⟨Nat.le_trans hS.1 hsize, fun q h1 h2 => ?_⟩, hS.1, ce, hce, ?_, K.vm⟩
    · rw [hold q (Nat.lt_of_lt_of_le h1 hS.1)]
      exact hS.2.1 q h1 h2
    · have h9 := K.cls
      rw [hW.alike.findClass] at h9
      exact h9
end TH
