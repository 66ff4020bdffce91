/-! RULES: contracts with a world before and a world behind; the walk's ends and calls -/
section RU
variable {dC : Nat → ClassId} {dI : Nat → Nat → Nat} {cI cB cJ : ClassId}
abbrev tyG (cI cB cJ : ClassId) : List (ClassId × FieldType) := [(cI, .int), (cB, .byte), (cJ, .long)]
/-- the tables: the classes, the array classes, the nest mates' links -/
def kG (dC : Nat → ClassId) (dI : Nat → Nat → Nat) (cI cB cJ : ClassId) (U : State) : Prop := va_K (dC, dI) vwCl (tyG cI cB cJ) U ∧ ∀ w ∈ nestG, va_Nw w U
theorem nest_warm {w : Cond} (hw : isNest w = true) {s U : State} (hW : s.WarmedH U.vm) (h : va_Nw w s) : va_Nw w U := by
  cases w <;> first | exact va_Nw.warmF hW h | exact va_Nw.warmM hW h | exact absurd hw (by decide) | (simp [isNest] at hw)
theorem kG.warm {s U : State} (hW : s.WarmedH U.vm) (h : kG dC dI cI cB cJ s) : kG dC dI cI cB cJ U :=
  ⟨va_K.moved hW.alike h.1, fun w hw => nest_warm (nestG_ok w hw) hW (h.2 w hw)⟩
theorem nest_same {w : Cond} (hw : isNest w = true) {u U : State} (e : u.vm = U.vm) (h : va_Nw w u) : va_Nw w U := by
  refine va_Nw.same ?_ e h
  cases w <;> first | rfl | exact absurd hw (by decide) | (simp [isNest] at hw)
theorem kG.calling {U : State} {g : JFrame} {mk : MethodId} {a : Array Value} (h : kG dC dI cI cB cJ U) : kG dC dI cI cB cJ (U.calling g mk a) :=
  ⟨va_K.moved (u := U) (U := U.calling g mk a) (Vm.Alike.refl U.vm) h.1, fun w hw => nest_same (u := U) (U := U.calling g mk a) (nestG_ok w hw) rfl (h.2 w hw)⟩
/-- what stays true through a walk -/
def cx (dC : Nat → ClassId) (dI : Nat → Nat → Nat) (cI cB cJ : ClassId) (own : String) (cc : ByteArray) (nL : Nat) (ret : Option FieldType) (p : Program) (s : State) (m : MethodId) (args : Array Value) (meth : Method) (c : Code) : Prop :=
  p.tables.exec = Jvm.exec ∧ c.code = cc ∧ c.maxLocals = nL ∧ s.vm.findClass own = some m.cls ∧ (∀ w ∈ gT, w.before args s = true) ∧ meth.sig.returnType = ret ∧ meth.locks = false ∧ kG dC dI cI cB cJ s
abbrev prG (dC : Nat → ClassId) (dI : Nat → Nat → Nat) (cI cB cJ : ClassId) (av : List Value) (win : va_W) (sz : Nat) : Array Value → State → Prop :=
  va_Pc av (fun U => U.heap.size = sz ∧ va_P (dC, dI) vwCl win U.heap ∧ kG dC dI cI cB cJ U ∧ va_D (fun _ => True) win)
abbrev poG {S : Type} (dC : Nat → ClassId) (dI : Nat → Nat → Nat) (A : Nat → Prop) (wout : S → va_W) : S → State → Prop := fun u t => va_P (dC, dI) vwCl (wout u) t.heap ∧ va_D A (wout u)
def Cv (l : Launch) (dC : Nat → ClassId) (dI : Nat → Nat → Nat) (cI cB cJ : ClassId) (y : MethodName) (ws : List Cond) (rm : Room) (av : List Value) (win : va_W) {S : Type} (post : S → Prop) (wout : S → va_W) : Prop :=
  ∀ sz, Met l y ws rm (prG dC dI cI cB cJ av win sz) (va_Qv post (poG dC dI (va_A win sz) wout) (va_A win sz)) rm.cells rm.slots (va_A win sz)
def Ci (l : Launch) (dC : Nat → ClassId) (dI : Nat → Nat → Nat) (cI cB cJ : ClassId) (y : MethodName) (ws : List Cond) (rm : Room) (av : List Value) (win : va_W) {S : Type} (post : Int32 → S → Prop) (wout : S → va_W) : Prop :=
  ∀ sz, Met l y ws rm (prG dC dI cI cB cJ av win sz) (va_Qi post (poG dC dI (va_A win sz) wout) (va_A win sz)) rm.cells rm.slots (va_A win sz)
def Cl (l : Launch) (dC : Nat → ClassId) (dI : Nat → Nat → Nat) (cI cB cJ : ClassId) (y : MethodName) (ws : List Cond) (rm : Room) (av : List Value) (win : va_W) {S : Type} (post : Int64 → S → Prop) (wout : S → va_W) : Prop :=
  ∀ sz, Met l y ws rm (prG dC dI cI cB cJ av win sz) (va_Ql post (poG dC dI (va_A win sz) wout) (va_A win sz)) rm.cells rm.slots (va_A win sz)
theorem va_Psub {D : va_G} {cl : List vw_C} {ws ws' : va_W} {H : Heap} (h : va_P D cl ws H) (is : List Nat) (hs : is.map (fun i => ws[i]?) = ws'.map some) : va_P D cl ws' H := by
  intro k q hk
  have h1 : (is.map (fun i => ws[i]?))[k]? = some (some q) := by rw [hs, List.getElem?_map, hk]; rfl
  rw [List.getElem?_map] at h1
  cases hi : is[k]? with
  | none => rw [hi] at h1; cases h1
  | some i => rw [hi] at h1; exact h i q (Option.some.inj h1)
/-- a contract out of a walk: of a method that no entry of the natives' table stands for -/
theorem Met.ofWF {l : Launch} {y : MethodName} {ws ws' : List Cond} {rm : Room} {Pc : Array Value → State → Prop} {Qc : Array Value → State → Outcome → State → Prop} {mc ms : Nat} {free : Addr → Prop} {cc : ByteArray} {maxL : Nat} {ret : Option FieldType}
    (hy : plainFor y = true) (hw : ws = Cond.code y cc maxL ret :: ws')
    (body : ∀ p e s m args below meth c s₁, BodyLoose p l y (headSpec ws rm) cc maxL ret e s m args below meth c s₁ → c.maxLocals = maxL → Pc args s →
      W p l e (headSpec ws rm).room s m args below meth c s.heap [] 0 0 (MQ below Qc args s mc ms free) (entryFrame m args maxL)) : Met l y ws rm Pc Qc mc ms free := by
  refine MetFree.of_bodySF (code := cc) (maxLocals := maxL) (ret := ret) hy ?_ ?_
  · intro args s m h hn
    obtain ⟨meth, c, h1, h2, h3, h4, h5, h6, -, -⟩ := Cond.code_spec hn (atoms_spec (ws := ws) h _ (by rw [hw]; exact List.mem_cons_self))
    exact ⟨meth, c, h1, h2, h3, h4, h5, h6⟩
  · intro p e s m args below meth c s₁ B hml hP _
    have hh0 : s₁.heap = s.heap := by rw [B.state]; rfl
    obtain ⟨t, a1, o, b1, b2, b3⟩ := body p e s m args below meth c s₁ B hml hP s₁ hh0 (Stand.of_body B)
    exact ⟨t, o, a1, b1, b2, ⟨b3.1, b3.2⟩⟩
section IN
variable {l : Launch} {y : MethodName} {ws : List Cond} {rm : Room} {av : List Value} {win : va_W} {S : Type} {wout : S → va_W} {cc : ByteArray} {maxL : Nat}
/-- the start of a walk: what holds at the entry -/
theorem Cv.intro {post : S → Prop} (hy : plainFor y = true) (hw : ws = Cond.code y cc maxL none :: gT) (hlen : (lg_sl av).length ≤ maxL)
    (body : ∀ (p : Program) (e : Env) (s : State) (m : MethodId) (below : List Frame) (meth : Method) (c : Code) (A : Nat → Prop) (ls : Array Slot), cx dC dI cI cB cJ y.cls cc maxL none p s m av.toArray meth c → meth.name = y.name → (∀ q : Nat, s.heap.size ≤ q → A q) →
      va_P (dC, dI) vwCl win s.heap → va_D A win → va_S A s.heap s.heap [] → lv_has ls maxL (lv_args 0 av) → W p l e rm s m av.toArray below meth c s.heap [] 0 0 (MQ below (va_Qv post (poG dC dI A wout) A) av.toArray s rm.cells rm.slots A) (F0 m 0 ls [])) : Cv l dC dI cI cB cJ y ws rm av win post wout := by
  intro sz
  refine Met.ofWF (cc := cc) (maxL := maxL) (ret := none) hy hw ?_
  intro p e s m args below meth c s₁ B hml hv
  obtain ⟨rfl, hsz, hP, hK, hD0⟩ := hv
  subst hsz
  have hl := lv_entry av (n := maxL) hlen
  rw [lg_entry_eq]
  exact body p e s m below meth c (va_A win s.heap.size) _ ⟨B.exec, B.bytes, hml, findClass_of_methodNamed B.named, fun w h => atoms_spec (ws := ws) B.pre w (by rw [hw]; exact List.mem_cons_of_mem _ h), B.returns, B.notSynchronized, hK⟩ (name_of_methodNamed B.named B.method).1 (fun q h => Or.inr h) hP hD0.self va_S.rf hl
theorem Ci.intro {post : Int32 → S → Prop} {ret : Option FieldType} (hy : plainFor y = true) (hw : ws = Cond.code y cc maxL ret :: gT) (hlen : (lg_sl av).length ≤ maxL)
    (body : ∀ (p : Program) (e : Env) (s : State) (m : MethodId) (below : List Frame) (meth : Method) (c : Code) (A : Nat → Prop) (ls : Array Slot), cx dC dI cI cB cJ y.cls cc maxL ret p s m av.toArray meth c → meth.name = y.name → (∀ q : Nat, s.heap.size ≤ q → A q) →
      va_P (dC, dI) vwCl win s.heap → va_D A win → va_S A s.heap s.heap [] → lv_has ls maxL (lv_args 0 av) → W p l e rm s m av.toArray below meth c s.heap [] 0 0 (MQ below (va_Qi post (poG dC dI A wout) A) av.toArray s rm.cells rm.slots A) (F0 m 0 ls [])) : Ci l dC dI cI cB cJ y ws rm av win post wout := by
  intro sz
  refine Met.ofWF (cc := cc) (maxL := maxL) (ret := ret) hy hw ?_
  intro p e s m args below meth c s₁ B hml hv
  obtain ⟨rfl, hsz, hP, hK, hD0⟩ := hv
  subst hsz
  have hl := lv_entry av (n := maxL) hlen
  rw [lg_entry_eq]
  exact body p e s m below meth c (va_A win s.heap.size) _ ⟨B.exec, B.bytes, hml, findClass_of_methodNamed B.named, fun w h => atoms_spec (ws := ws) B.pre w (by rw [hw]; exact List.mem_cons_of_mem _ h), B.returns, B.notSynchronized, hK⟩ (name_of_methodNamed B.named B.method).1 (fun q h => Or.inr h) hP hD0.self va_S.rf hl
theorem Cl.intro {post : Int64 → S → Prop} {ret : Option FieldType} (hy : plainFor y = true) (hw : ws = Cond.code y cc maxL ret :: gT) (hlen : (lg_sl av).length ≤ maxL)
    (body : ∀ (p : Program) (e : Env) (s : State) (m : MethodId) (below : List Frame) (meth : Method) (c : Code) (A : Nat → Prop) (ls : Array Slot), cx dC dI cI cB cJ y.cls cc maxL ret p s m av.toArray meth c → meth.name = y.name → (∀ q : Nat, s.heap.size ≤ q → A q) →
      va_P (dC, dI) vwCl win s.heap → va_D A win → va_S A s.heap s.heap [] → lv_has ls maxL (lv_args 0 av) → W p l e rm s m av.toArray below meth c s.heap [] 0 0 (MQ below (va_Ql post (poG dC dI A wout) A) av.toArray s rm.cells rm.slots A) (F0 m 0 ls [])) : Cl l dC dI cI cB cJ y ws rm av win post wout := by
  intro sz
  refine Met.ofWF (cc := cc) (maxL := maxL) (ret := ret) hy hw ?_
  intro p e s m args below meth c s₁ B hml hv
  obtain ⟨rfl, hsz, hP, hK, hD0⟩ := hv
  subst hsz
  have hl := lv_entry av (n := maxL) hlen
  rw [lg_entry_eq]
  exact body p e s m below meth c (va_A win s.heap.size) _ ⟨B.exec, B.bytes, hml, findClass_of_methodNamed B.named, fun w h => atoms_spec (ws := ws) B.pre w (by rw [hw]; exact List.mem_cons_of_mem _ h), B.returns, B.notSynchronized, hK⟩ (name_of_methodNamed B.named B.method).1 (fun q h => Or.inr h) hP hD0.self va_S.rf hl
end IN
section EN
variable {p : Program} {l : Launch} {e : Env} {R : Room} {s : State} {m : MethodId} {args : Array Value} {below : List Frame} {meth : Method} {c : Code} {H : Heap} {locs : List Loc} {cells slots mc ms : Nat} {A : Nat → Prop}
variable {own : String} {cc : ByteArray} {nL pc : Nat} {ls : Array Slot} {S : Type} {wout : S → va_W} {w0 : va_W}
/-- the ends -/
theorem Cv.ret {post : S → Prop} (C0 : cx dC dI cI cB cJ own cc nL none p s m args meth c) {u : S} (h1 : cells ≤ mc) (h2 : slots ≤ ms) (hq : post u) (hP : va_P (dC, dI) vwCl w0 H) (hD : va_D A w0) (hS : va_S A s.heap H locs) (is : List Nat) (hn : va_nd is = true) (hs : is.map (fun i => w0[i]?) = (wout u).map some)
    (hdg : decode cc pc = .ok (.return_, 1)) : W p l e R s m args below meth c H locs cells slots (MQ below (va_Qv post (poG dC dI A wout) A) args s mc ms A) (F0 m pc ls []) := by
  obtain ⟨hx, hb, -, -, -, hr, hlocks, -⟩ := C0
  refine W.widen (k := mc) (n := ms) h1 h2 ?_
  exact W.vret hx hb hr (fun t ht hW => ⟨⟨u, rfl, hq, by rw [ht]; exact va_Psub hP is hs, hD.sub is hn hs⟩, hS.F ht⟩) hS.2.2 hdg
theorem Ci.ret {post : Int32 → S → Prop} (C0 : cx dC dI cI cB cJ own cc nL (some .int) p s m args meth c) {v : Int32} {u : S} (h1 : cells ≤ mc) (h2 : slots ≤ ms) (hq : post v u) (hP : va_P (dC, dI) vwCl w0 H) (hD : va_D A w0) (hS : va_S A s.heap H locs) (is : List Nat) (hn : va_nd is = true) (hs : is.map (fun i => w0[i]?) = (wout u).map some)
    (hdg : decode cc pc = .ok (.ireturn, 1)) : W p l e R s m args below meth c H locs cells slots (MQ below (va_Qi post (poG dC dI A wout) A) args s mc ms A) (F0 m pc ls [.int v]) := by
  obtain ⟨hx, hb, -, -, -, hr, hlocks, -⟩ := C0
  refine W.widen (k := mc) (n := ms) h1 h2 ?_
  exact W.iret (v := v) hx hb hr (fun t ht hW => ⟨⟨v, u, rfl, hq, by rw [ht]; exact va_Psub hP is hs, hD.sub is hn hs⟩, hS.F ht⟩) hS.2.2 hdg
theorem Cz.ret {post : Int32 → S → Prop} {ty : FieldType} (C0 : cx dC dI cI cB cJ own cc nL (some ty) p s m args meth c) {v : Int32} {u : S} (hna : narrow ty (.int v) = .int v) (h1 : cells ≤ mc) (h2 : slots ≤ ms) (hq : post v u) (hP : va_P (dC, dI) vwCl w0 H) (hD : va_D A w0) (hS : va_S A s.heap H locs) (is : List Nat) (hn : va_nd is = true) (hs : is.map (fun i => w0[i]?) = (wout u).map some)
    (hdg : decode cc pc = .ok (.ireturn, 1)) : W p l e R s m args below meth c H locs cells slots (MQ below (va_Qi post (poG dC dI A wout) A) args s mc ms A) (F0 m pc ls [.int v]) := by
  obtain ⟨hx, hb, -, -, -, hr, hlocks, -⟩ := C0
  refine W.widen (k := mc) (n := ms) h1 h2 ?_
  exact W.zret (v := v) hx hb hr hna (fun t ht hW => ⟨⟨v, u, rfl, hq, by rw [ht]; exact va_Psub hP is hs, hD.sub is hn hs⟩, hS.F ht⟩) hS.2.2 hdg
theorem Cl.ret {post : Int64 → S → Prop} (C0 : cx dC dI cI cB cJ own cc nL (some .long) p s m args meth c) {v : Int64} {u : S} (h1 : cells ≤ mc) (h2 : slots ≤ ms) (hq : post v u) (hP : va_P (dC, dI) vwCl w0 H) (hD : va_D A w0) (hS : va_S A s.heap H locs) (is : List Nat) (hn : va_nd is = true) (hs : is.map (fun i => w0[i]?) = (wout u).map some)
    (hdg : decode cc pc = .ok (.lreturn, 1)) : W p l e R s m args below meth c H locs cells slots (MQ below (va_Ql post (poG dC dI A wout) A) args s mc ms A) (F0 m pc ls [.long v]) := by
  obtain ⟨hx, hb, -, -, -, hr, hlocks, -⟩ := C0
  refine W.widen (k := mc) (n := ms) h1 h2 ?_
  exact W.lret (v := v) hx hb hr (fun t ht hW => ⟨⟨v, u, rfl, hq, by rw [ht]; exact va_Psub hP is hs, hD.sub is hn hs⟩, hS.F ht⟩) hS.2.2 hdg
end EN
section CA
variable {p : Program} {l : Launch} {e : Env} {R : Room} {s : State} {m : MethodId} {args : Array Value} {below : List Frame} {meth : Method} {c : Code} {H : Heap} {locs : List Loc} {cells slots : Nat} {A : Nat → Prop} {Q : State → Prop}
variable {own C host : String} {cc bytes : ByteArray} {nL pc n index maxL : Nat} {ls : Array Slot} {S : Type} {wout : S → va_W} {w0 win wr : va_W} {ret ret1 : Option FieldType} {y : MethodName} {ws : List Cond} {rm : Room} {b : Addr} {As rest st0 : List Value}
theorem callV_v {post : S → Prop} (C0 : cx dC dI cI cB cJ own cc nL ret p s m args meth c) (hM : Cv l dC dI cI cB cJ y ws rm (.ref b :: As) win post wout) (cw : CallW R s args own C index y bytes maxL ret1 ws rm rm.cells rm.slots n) (ci : Nat) {qc : vw_C} {fs : List Value} (hcl : vwCl[ci]? = some qc) (hqc : qc.1 = C) (q0 : Nat) (he : win[q0]? = some (b, .inr (ci, fs))) (hP : va_P (dC, dI) vwCl w0 H) (hD : va_D A w0) (hS : va_S A s.heap H locs) (hA : ∀ q : Nat, s.heap.size ≤ q → A q) (isC isR : List Nat) (hC : isC.map (fun i => w0[i]?) = win.map some) (hR : isR.map (fun i => w0[i]?) = wr.map some) (hnC : va_nd isC = true) (hnR : va_nd isR = true) (hdis : ∀ i ∈ isR, i ∉ isC)
    (hn : As.length = n) (hsize : ls.size = nL) (hst : st0 = As.reverse ++ .ref b :: rest) (hW : (rest.map fun v => v.category).sum ≤ 8) (hdg : decode cc pc = .ok (.invokevirtual index, 3)) (hf : cells + rm.cells ≤ R.cells ∧ slots + rm.slots ≤ R.slots)
    (kk : ∀ (u : S) (H1 : Heap) (locs1 : List Loc), post u → va_P (dC, dI) vwCl (wr ++ wout u) H1 → va_D A (wr ++ wout u) → va_S A s.heap H1 locs1 → W p l e R s m args below meth c H1 locs1 (cells + rm.cells) (slots + rm.slots) Q (F0 m (pc + 3) ls (rest))) : W p l e R s m args below meth c H locs cells slots Q (F0 m pc ls st0) := by
  obtain ⟨hx, hb, hml, hown, hts, -, -, hK⟩ := C0
  subst hst
  subst hqc
  have hPc := va_Psub hP isC hC
  have hDc := hD.sub isC hnC hC
  have hFc := va_free (wc := win) hD hS hA isC hC
  refine va_callv (va_runV (As := As) (rest := rest) ⟨hx, hb, hml, hown, hts⟩ (hM H.size) cw ⟨fun a U g mk q => by obtain ⟨q0, q1, qP, qK, qD⟩ := q; exact ⟨q0, q1, qP, qK.calling, qD⟩, va_recv hK.1 hPc hcl he, fun U hU hW => ⟨rfl, by rw [hU], by rw [hU]; exact hPc, hK.warm hW, hDc.weaken (fun _ _ _ _ => trivial)⟩⟩ rfl hn hsize rfl (lv_room hW) hdg hf) hS (fun q _ h => hFc q h) hFc (fun u t H1 locs1 ht hvm hw hB hz1 hk1 hS1 => ?_)
  obtain ⟨hP1, hD1⟩ := hB
  rw [ht] at hP1
  obtain ⟨hP2, hD2⟩ := va_join (wr := wr) (w1 := wout u) hP hD isC isR hC hR hnR hdis hk1 hFc hP1 hD1
  exact kk u H1 locs1 hw hP2 hD2 hS1
theorem callV_i {post : Int32 → S → Prop} (C0 : cx dC dI cI cB cJ own cc nL ret p s m args meth c) (hM : Ci l dC dI cI cB cJ y ws rm (.ref b :: As) win post wout) (cw : CallW R s args own C index y bytes maxL ret1 ws rm rm.cells rm.slots n) (ci : Nat) {qc : vw_C} {fs : List Value} (hcl : vwCl[ci]? = some qc) (hqc : qc.1 = C) (q0 : Nat) (he : win[q0]? = some (b, .inr (ci, fs))) (hP : va_P (dC, dI) vwCl w0 H) (hD : va_D A w0) (hS : va_S A s.heap H locs) (hA : ∀ q : Nat, s.heap.size ≤ q → A q) (isC isR : List Nat) (hC : isC.map (fun i => w0[i]?) = win.map some) (hR : isR.map (fun i => w0[i]?) = wr.map some) (hnC : va_nd isC = true) (hnR : va_nd isR = true) (hdis : ∀ i ∈ isR, i ∉ isC)
    (hn : As.length = n) (hsize : ls.size = nL) (hst : st0 = As.reverse ++ .ref b :: rest) (hW : (rest.map fun v => v.category).sum ≤ 8) (hdg : decode cc pc = .ok (.invokevirtual index, 3)) (hf : cells + rm.cells ≤ R.cells ∧ slots + rm.slots ≤ R.slots)
    (kk : ∀ (r : Int32) (u : S) (H1 : Heap) (locs1 : List Loc), post r u → va_P (dC, dI) vwCl (wr ++ wout u) H1 → va_D A (wr ++ wout u) → va_S A s.heap H1 locs1 → W p l e R s m args below meth c H1 locs1 (cells + rm.cells) (slots + rm.slots) Q (F0 m (pc + 3) ls (.int r :: rest))) : W p l e R s m args below meth c H locs cells slots Q (F0 m pc ls st0) := by
  obtain ⟨hx, hb, hml, hown, hts, -, -, hK⟩ := C0
  subst hst
  subst hqc
  have hPc := va_Psub hP isC hC
  have hDc := hD.sub isC hnC hC
  have hFc := va_free (wc := win) hD hS hA isC hC
  refine va_calli (va_runV (As := As) (rest := rest) ⟨hx, hb, hml, hown, hts⟩ (hM H.size) cw ⟨fun a U g mk q => by obtain ⟨q0, q1, qP, qK, qD⟩ := q; exact ⟨q0, q1, qP, qK.calling, qD⟩, va_recv hK.1 hPc hcl he, fun U hU hW => ⟨rfl, by rw [hU], by rw [hU]; exact hPc, hK.warm hW, hDc.weaken (fun _ _ _ _ => trivial)⟩⟩ rfl hn hsize rfl (lv_room hW) hdg hf) hS (fun q _ h => hFc q h) hFc (fun r u t H1 locs1 ht hvm hw hB hz1 hk1 hS1 => ?_)
  obtain ⟨hP1, hD1⟩ := hB
  rw [ht] at hP1
  obtain ⟨hP2, hD2⟩ := va_join (wr := wr) (w1 := wout u) hP hD isC isR hC hR hnR hdis hk1 hFc hP1 hD1
  exact kk r u H1 locs1 hw hP2 hD2 hS1
theorem callV_l {post : Int64 → S → Prop} (C0 : cx dC dI cI cB cJ own cc nL ret p s m args meth c) (hM : Cl l dC dI cI cB cJ y ws rm (.ref b :: As) win post wout) (cw : CallW R s args own C index y bytes maxL ret1 ws rm rm.cells rm.slots n) (ci : Nat) {qc : vw_C} {fs : List Value} (hcl : vwCl[ci]? = some qc) (hqc : qc.1 = C) (q0 : Nat) (he : win[q0]? = some (b, .inr (ci, fs))) (hP : va_P (dC, dI) vwCl w0 H) (hD : va_D A w0) (hS : va_S A s.heap H locs) (hA : ∀ q : Nat, s.heap.size ≤ q → A q) (isC isR : List Nat) (hC : isC.map (fun i => w0[i]?) = win.map some) (hR : isR.map (fun i => w0[i]?) = wr.map some) (hnC : va_nd isC = true) (hnR : va_nd isR = true) (hdis : ∀ i ∈ isR, i ∉ isC)
    (hn : As.length = n) (hsize : ls.size = nL) (hst : st0 = As.reverse ++ .ref b :: rest) (hW : (rest.map fun v => v.category).sum ≤ 8) (hdg : decode cc pc = .ok (.invokevirtual index, 3)) (hf : cells + rm.cells ≤ R.cells ∧ slots + rm.slots ≤ R.slots)
    (kk : ∀ (r : Int64) (u : S) (H1 : Heap) (locs1 : List Loc), post r u → va_P (dC, dI) vwCl (wr ++ wout u) H1 → va_D A (wr ++ wout u) → va_S A s.heap H1 locs1 → W p l e R s m args below meth c H1 locs1 (cells + rm.cells) (slots + rm.slots) Q (F0 m (pc + 3) ls (.long r :: rest))) : W p l e R s m args below meth c H locs cells slots Q (F0 m pc ls st0) := by
  obtain ⟨hx, hb, hml, hown, hts, -, -, hK⟩ := C0
  subst hst
  subst hqc
  have hPc := va_Psub hP isC hC
  have hDc := hD.sub isC hnC hC
  have hFc := va_free (wc := win) hD hS hA isC hC
  refine va_calll (va_runV (As := As) (rest := rest) ⟨hx, hb, hml, hown, hts⟩ (hM H.size) cw ⟨fun a U g mk q => by obtain ⟨q0, q1, qP, qK, qD⟩ := q; exact ⟨q0, q1, qP, qK.calling, qD⟩, va_recv hK.1 hPc hcl he, fun U hU hW => ⟨rfl, by rw [hU], by rw [hU]; exact hPc, hK.warm hW, hDc.weaken (fun _ _ _ _ => trivial)⟩⟩ rfl hn hsize rfl (lv_room hW) hdg hf) hS (fun q _ h => hFc q h) hFc (fun r u t H1 locs1 ht hvm hw hB hz1 hk1 hS1 => ?_)
  obtain ⟨hP1, hD1⟩ := hB
  rw [ht] at hP1
  obtain ⟨hP2, hD2⟩ := va_join (wr := wr) (w1 := wout u) hP hD isC isR hC hR hnR hdis hk1 hFc hP1 hD1
  exact kk r u H1 locs1 hw hP2 hD2 hS1
theorem callN_v {post : S → Prop} (C0 : cx dC dI cI cB cJ own cc nL ret p s m args meth c) (hM : Cv l dC dI cI cB cJ y ws rm (.ref b :: As) win post wout) (cw : va_CN R s args own index y host bytes maxL ret1 ws rm rm.cells rm.slots n ∧ (Cond.instanceMethod y).before args s = true ∧ (Cond.selects C y y).before args s = true) (ci : Nat) {qc : vw_C} {fs : List Value} (hcl : vwCl[ci]? = some qc) (hqc : qc.1 = C) (q0 : Nat) (he : win[q0]? = some (b, .inr (ci, fs))) (hP : va_P (dC, dI) vwCl w0 H) (hD : va_D A w0) (hS : va_S A s.heap H locs) (hA : ∀ q : Nat, s.heap.size ≤ q → A q) (isC isR : List Nat) (hC : isC.map (fun i => w0[i]?) = win.map some) (hR : isR.map (fun i => w0[i]?) = wr.map some) (hnC : va_nd isC = true) (hnR : va_nd isR = true) (hdis : ∀ i ∈ isR, i ∉ isC)
    (hn : As.length = n) (hsize : ls.size = nL) (hst : st0 = As.reverse ++ .ref b :: rest) (hW : (rest.map fun v => v.category).sum ≤ 8) (hdg : decode cc pc = .ok (.invokevirtual index, 3)) (hf : cells + rm.cells ≤ R.cells ∧ slots + rm.slots ≤ R.slots)
    (kk : ∀ (u : S) (H1 : Heap) (locs1 : List Loc), post u → va_P (dC, dI) vwCl (wr ++ wout u) H1 → va_D A (wr ++ wout u) → va_S A s.heap H1 locs1 → W p l e R s m args below meth c H1 locs1 (cells + rm.cells) (slots + rm.slots) Q (F0 m (pc + 3) ls (rest))) : W p l e R s m args below meth c H locs cells slots Q (F0 m pc ls st0) := by
  obtain ⟨hx, hb, hml, hown, hts, -, -, hK⟩ := C0
  subst hst
  subst hqc
  have hPc := va_Psub hP isC hC
  have hDc := hD.sub isC hnC hC
  have hFc := va_free (wc := win) hD hS hA isC hC
  refine va_callv (va_runVN (As := As) (rest := rest) ⟨hx, hb, hml, hown, hts⟩ (hM H.size) cw ⟨fun a U g mk q => by obtain ⟨q0, q1, qP, qK, qD⟩ := q; exact ⟨q0, q1, qP, qK.calling, qD⟩, va_recv hK.1 hPc hcl he, fun U hU hW => ⟨rfl, by rw [hU], by rw [hU]; exact hPc, hK.warm hW, hDc.weaken (fun _ _ _ _ => trivial)⟩⟩ rfl hn hsize rfl (lv_room hW) hdg hf) hS (fun q _ h => hFc q h) hFc (fun u t H1 locs1 ht hvm hw hB hz1 hk1 hS1 => ?_)
  obtain ⟨hP1, hD1⟩ := hB
  rw [ht] at hP1
  obtain ⟨hP2, hD2⟩ := va_join (wr := wr) (w1 := wout u) hP hD isC isR hC hR hnR hdis hk1 hFc hP1 hD1
  exact kk u H1 locs1 hw hP2 hD2 hS1
theorem callN_i {post : Int32 → S → Prop} (C0 : cx dC dI cI cB cJ own cc nL ret p s m args meth c) (hM : Ci l dC dI cI cB cJ y ws rm (.ref b :: As) win post wout) (cw : va_CN R s args own index y host bytes maxL ret1 ws rm rm.cells rm.slots n ∧ (Cond.instanceMethod y).before args s = true ∧ (Cond.selects C y y).before args s = true) (ci : Nat) {qc : vw_C} {fs : List Value} (hcl : vwCl[ci]? = some qc) (hqc : qc.1 = C) (q0 : Nat) (he : win[q0]? = some (b, .inr (ci, fs))) (hP : va_P (dC, dI) vwCl w0 H) (hD : va_D A w0) (hS : va_S A s.heap H locs) (hA : ∀ q : Nat, s.heap.size ≤ q → A q) (isC isR : List Nat) (hC : isC.map (fun i => w0[i]?) = win.map some) (hR : isR.map (fun i => w0[i]?) = wr.map some) (hnC : va_nd isC = true) (hnR : va_nd isR = true) (hdis : ∀ i ∈ isR, i ∉ isC)
    (hn : As.length = n) (hsize : ls.size = nL) (hst : st0 = As.reverse ++ .ref b :: rest) (hW : (rest.map fun v => v.category).sum ≤ 8) (hdg : decode cc pc = .ok (.invokevirtual index, 3)) (hf : cells + rm.cells ≤ R.cells ∧ slots + rm.slots ≤ R.slots)
    (kk : ∀ (r : Int32) (u : S) (H1 : Heap) (locs1 : List Loc), post r u → va_P (dC, dI) vwCl (wr ++ wout u) H1 → va_D A (wr ++ wout u) → va_S A s.heap H1 locs1 → W p l e R s m args below meth c H1 locs1 (cells + rm.cells) (slots + rm.slots) Q (F0 m (pc + 3) ls (.int r :: rest))) : W p l e R s m args below meth c H locs cells slots Q (F0 m pc ls st0) := by
  obtain ⟨hx, hb, hml, hown, hts, -, -, hK⟩ := C0
  subst hst
  subst hqc
  have hPc := va_Psub hP isC hC
  have hDc := hD.sub isC hnC hC
  have hFc := va_free (wc := win) hD hS hA isC hC
  refine va_calli (va_runVN (As := As) (rest := rest) ⟨hx, hb, hml, hown, hts⟩ (hM H.size) cw ⟨fun a U g mk q => by obtain ⟨q0, q1, qP, qK, qD⟩ := q; exact ⟨q0, q1, qP, qK.calling, qD⟩, va_recv hK.1 hPc hcl he, fun U hU hW => ⟨rfl, by rw [hU], by rw [hU]; exact hPc, hK.warm hW, hDc.weaken (fun _ _ _ _ => trivial)⟩⟩ rfl hn hsize rfl (lv_room hW) hdg hf) hS (fun q _ h => hFc q h) hFc (fun r u t H1 locs1 ht hvm hw hB hz1 hk1 hS1 => ?_)
  obtain ⟨hP1, hD1⟩ := hB
  rw [ht] at hP1
  obtain ⟨hP2, hD2⟩ := va_join (wr := wr) (w1 := wout u) hP hD isC isR hC hR hnR hdis hk1 hFc hP1 hD1
  exact kk r u H1 locs1 hw hP2 hD2 hS1
theorem callN_l {post : Int64 → S → Prop} (C0 : cx dC dI cI cB cJ own cc nL ret p s m args meth c) (hM : Cl l dC dI cI cB cJ y ws rm (.ref b :: As) win post wout) (cw : va_CN R s args own index y host bytes maxL ret1 ws rm rm.cells rm.slots n ∧ (Cond.instanceMethod y).before args s = true ∧ (Cond.selects C y y).before args s = true) (ci : Nat) {qc : vw_C} {fs : List Value} (hcl : vwCl[ci]? = some qc) (hqc : qc.1 = C) (q0 : Nat) (he : win[q0]? = some (b, .inr (ci, fs))) (hP : va_P (dC, dI) vwCl w0 H) (hD : va_D A w0) (hS : va_S A s.heap H locs) (hA : ∀ q : Nat, s.heap.size ≤ q → A q) (isC isR : List Nat) (hC : isC.map (fun i => w0[i]?) = win.map some) (hR : isR.map (fun i => w0[i]?) = wr.map some) (hnC : va_nd isC = true) (hnR : va_nd isR = true) (hdis : ∀ i ∈ isR, i ∉ isC)
    (hn : As.length = n) (hsize : ls.size = nL) (hst : st0 = As.reverse ++ .ref b :: rest) (hW : (rest.map fun v => v.category).sum ≤ 8) (hdg : decode cc pc = .ok (.invokevirtual index, 3)) (hf : cells + rm.cells ≤ R.cells ∧ slots + rm.slots ≤ R.slots)
    (kk : ∀ (r : Int64) (u : S) (H1 : Heap) (locs1 : List Loc), post r u → va_P (dC, dI) vwCl (wr ++ wout u) H1 → va_D A (wr ++ wout u) → va_S A s.heap H1 locs1 → W p l e R s m args below meth c H1 locs1 (cells + rm.cells) (slots + rm.slots) Q (F0 m (pc + 3) ls (.long r :: rest))) : W p l e R s m args below meth c H locs cells slots Q (F0 m pc ls st0) := by
  obtain ⟨hx, hb, hml, hown, hts, -, -, hK⟩ := C0
  subst hst
  subst hqc
  have hPc := va_Psub hP isC hC
  have hDc := hD.sub isC hnC hC
  have hFc := va_free (wc := win) hD hS hA isC hC
  refine va_calll (va_runVN (As := As) (rest := rest) ⟨hx, hb, hml, hown, hts⟩ (hM H.size) cw ⟨fun a U g mk q => by obtain ⟨q0, q1, qP, qK, qD⟩ := q; exact ⟨q0, q1, qP, qK.calling, qD⟩, va_recv hK.1 hPc hcl he, fun U hU hW => ⟨rfl, by rw [hU], by rw [hU]; exact hPc, hK.warm hW, hDc.weaken (fun _ _ _ _ => trivial)⟩⟩ rfl hn hsize rfl (lv_room hW) hdg hf) hS (fun q _ h => hFc q h) hFc (fun r u t H1 locs1 ht hvm hw hB hz1 hk1 hS1 => ?_)
  obtain ⟨hP1, hD1⟩ := hB
  rw [ht] at hP1
  obtain ⟨hP2, hD2⟩ := va_join (wr := wr) (w1 := wout u) hP hD isC isR hC hR hnR hdis hk1 hFc hP1 hD1
  exact kk r u H1 locs1 hw hP2 hD2 hS1
theorem callS_v {post : S → Prop} (C0 : cx dC dI cI cB cJ own cc nL ret p s m args meth c) (hM : Cv l dC dI cI cB cJ y ws rm As win post wout) (cw : CallB R s args own index y bytes maxL ret1 ws rm rm.cells rm.slots n ∧ (Cond.static y).before args s = true) (hP : va_P (dC, dI) vwCl w0 H) (hD : va_D A w0) (hS : va_S A s.heap H locs) (hA : ∀ q : Nat, s.heap.size ≤ q → A q) (isC isR : List Nat) (hC : isC.map (fun i => w0[i]?) = win.map some) (hR : isR.map (fun i => w0[i]?) = wr.map some) (hnC : va_nd isC = true) (hnR : va_nd isR = true) (hdis : ∀ i ∈ isR, i ∉ isC)
    (hn : As.length = n) (hsize : ls.size = nL) (hst : st0 = As.reverse ++ rest) (hW : (rest.map fun v => v.category).sum ≤ 8) (hdg : decode cc pc = .ok (.invokestatic index, 3)) (hf : cells + rm.cells ≤ R.cells ∧ slots + rm.slots ≤ R.slots)
    (kk : ∀ (u : S) (H1 : Heap) (locs1 : List Loc), post u → va_P (dC, dI) vwCl (wr ++ wout u) H1 → va_D A (wr ++ wout u) → va_S A s.heap H1 locs1 → W p l e R s m args below meth c H1 locs1 (cells + rm.cells) (slots + rm.slots) Q (F0 m (pc + 3) ls (rest))) : W p l e R s m args below meth c H locs cells slots Q (F0 m pc ls st0) := by
  obtain ⟨hx, hb, hml, hown, hts, -, -, hK⟩ := C0
  subst hst
  have hPc := va_Psub hP isC hC
  have hDc := hD.sub isC hnC hC
  have hFc := va_free (wc := win) hD hS hA isC hC
  refine va_callv (va_runS (As := As) (rest := rest) ⟨hx, hb, hml, hown, hts⟩ (hM H.size) cw ⟨fun a U g mk q => by obtain ⟨q0, q1, qP, qK, qD⟩ := q; exact ⟨q0, q1, qP, qK.calling, qD⟩, fun U hU hW => ⟨rfl, by rw [hU], by rw [hU]; exact hPc, hK.warm hW, hDc.weaken (fun _ _ _ _ => trivial)⟩⟩ rfl hn hsize rfl (lv_room hW) hdg hf) hS (fun q _ h => hFc q h) hFc (fun u t H1 locs1 ht hvm hw hB hz1 hk1 hS1 => ?_)
  obtain ⟨hP1, hD1⟩ := hB
  rw [ht] at hP1
  obtain ⟨hP2, hD2⟩ := va_join (wr := wr) (w1 := wout u) hP hD isC isR hC hR hnR hdis hk1 hFc hP1 hD1
  exact kk u H1 locs1 hw hP2 hD2 hS1
theorem callS_i {post : Int32 → S → Prop} (C0 : cx dC dI cI cB cJ own cc nL ret p s m args meth c) (hM : Ci l dC dI cI cB cJ y ws rm As win post wout) (cw : CallB R s args own index y bytes maxL ret1 ws rm rm.cells rm.slots n ∧ (Cond.static y).before args s = true) (hP : va_P (dC, dI) vwCl w0 H) (hD : va_D A w0) (hS : va_S A s.heap H locs) (hA : ∀ q : Nat, s.heap.size ≤ q → A q) (isC isR : List Nat) (hC : isC.map (fun i => w0[i]?) = win.map some) (hR : isR.map (fun i => w0[i]?) = wr.map some) (hnC : va_nd isC = true) (hnR : va_nd isR = true) (hdis : ∀ i ∈ isR, i ∉ isC)
    (hn : As.length = n) (hsize : ls.size = nL) (hst : st0 = As.reverse ++ rest) (hW : (rest.map fun v => v.category).sum ≤ 8) (hdg : decode cc pc = .ok (.invokestatic index, 3)) (hf : cells + rm.cells ≤ R.cells ∧ slots + rm.slots ≤ R.slots)
    (kk : ∀ (r : Int32) (u : S) (H1 : Heap) (locs1 : List Loc), post r u → va_P (dC, dI) vwCl (wr ++ wout u) H1 → va_D A (wr ++ wout u) → va_S A s.heap H1 locs1 → W p l e R s m args below meth c H1 locs1 (cells + rm.cells) (slots + rm.slots) Q (F0 m (pc + 3) ls (.int r :: rest))) : W p l e R s m args below meth c H locs cells slots Q (F0 m pc ls st0) := by
  obtain ⟨hx, hb, hml, hown, hts, -, -, hK⟩ := C0
  subst hst
  have hPc := va_Psub hP isC hC
  have hDc := hD.sub isC hnC hC
  have hFc := va_free (wc := win) hD hS hA isC hC
  refine va_calli (va_runS (As := As) (rest := rest) ⟨hx, hb, hml, hown, hts⟩ (hM H.size) cw ⟨fun a U g mk q => by obtain ⟨q0, q1, qP, qK, qD⟩ := q; exact ⟨q0, q1, qP, qK.calling, qD⟩, fun U hU hW => ⟨rfl, by rw [hU], by rw [hU]; exact hPc, hK.warm hW, hDc.weaken (fun _ _ _ _ => trivial)⟩⟩ rfl hn hsize rfl (lv_room hW) hdg hf) hS (fun q _ h => hFc q h) hFc (fun r u t H1 locs1 ht hvm hw hB hz1 hk1 hS1 => ?_)
  obtain ⟨hP1, hD1⟩ := hB
  rw [ht] at hP1
  obtain ⟨hP2, hD2⟩ := va_join (wr := wr) (w1 := wout u) hP hD isC isR hC hR hnR hdis hk1 hFc hP1 hD1
  exact kk r u H1 locs1 hw hP2 hD2 hS1
theorem callS_l {post : Int64 → S → Prop} (C0 : cx dC dI cI cB cJ own cc nL ret p s m args meth c) (hM : Cl l dC dI cI cB cJ y ws rm As win post wout) (cw : CallB R s args own index y bytes maxL ret1 ws rm rm.cells rm.slots n ∧ (Cond.static y).before args s = true) (hP : va_P (dC, dI) vwCl w0 H) (hD : va_D A w0) (hS : va_S A s.heap H locs) (hA : ∀ q : Nat, s.heap.size ≤ q → A q) (isC isR : List Nat) (hC : isC.map (fun i => w0[i]?) = win.map some) (hR : isR.map (fun i => w0[i]?) = wr.map some) (hnC : va_nd isC = true) (hnR : va_nd isR = true) (hdis : ∀ i ∈ isR, i ∉ isC)
    (hn : As.length = n) (hsize : ls.size = nL) (hst : st0 = As.reverse ++ rest) (hW : (rest.map fun v => v.category).sum ≤ 8) (hdg : decode cc pc = .ok (.invokestatic index, 3)) (hf : cells + rm.cells ≤ R.cells ∧ slots + rm.slots ≤ R.slots)
    (kk : ∀ (r : Int64) (u : S) (H1 : Heap) (locs1 : List Loc), post r u → va_P (dC, dI) vwCl (wr ++ wout u) H1 → va_D A (wr ++ wout u) → va_S A s.heap H1 locs1 → W p l e R s m args below meth c H1 locs1 (cells + rm.cells) (slots + rm.slots) Q (F0 m (pc + 3) ls (.long r :: rest))) : W p l e R s m args below meth c H locs cells slots Q (F0 m pc ls st0) := by
  obtain ⟨hx, hb, hml, hown, hts, -, -, hK⟩ := C0
  subst hst
  have hPc := va_Psub hP isC hC
  have hDc := hD.sub isC hnC hC
  have hFc := va_free (wc := win) hD hS hA isC hC
  refine va_calll (va_runS (As := As) (rest := rest) ⟨hx, hb, hml, hown, hts⟩ (hM H.size) cw ⟨fun a U g mk q => by obtain ⟨q0, q1, qP, qK, qD⟩ := q; exact ⟨q0, q1, qP, qK.calling, qD⟩, fun U hU hW => ⟨rfl, by rw [hU], by rw [hU]; exact hPc, hK.warm hW, hDc.weaken (fun _ _ _ _ => trivial)⟩⟩ rfl hn hsize rfl (lv_room hW) hdg hf) hS (fun q _ h => hFc q h) hFc (fun r u t H1 locs1 ht hvm hw hB hz1 hk1 hS1 => ?_)
  obtain ⟨hP1, hD1⟩ := hB
  rw [ht] at hP1
  obtain ⟨hP2, hD2⟩ := va_join (wr := wr) (w1 := wout u) hP hD isC isR hC hR hnR hdis hk1 hFc hP1 hD1
  exact kk r u H1 locs1 hw hP2 hD2 hS1
theorem callI_v {post : S → Prop} (C0 : cx dC dI cI cB cJ own cc nL ret p s m args meth c) (hM : Cv l dC dI cI cB cJ y ws rm (.ref b :: As) win post wout) (cw : CallB R s args own index y bytes maxL none ws rm rm.cells rm.slots n ∧ y.name = "<init>" ∧ (Cond.instanceMethod y).before args s = true) (hP : va_P (dC, dI) vwCl w0 H) (hD : va_D A w0) (hS : va_S A s.heap H locs) (hA : ∀ q : Nat, s.heap.size ≤ q → A q) (isC isR : List Nat) (hC : isC.map (fun i => w0[i]?) = win.map some) (hR : isR.map (fun i => w0[i]?) = wr.map some) (hnC : va_nd isC = true) (hnR : va_nd isR = true) (hdis : ∀ i ∈ isR, i ∉ isC)
    (hn : As.length = n) (hsize : ls.size = nL) (hst : st0 = As.reverse ++ .ref b :: rest) (hW : (rest.map fun v => v.category).sum ≤ 8) (hdg : decode cc pc = .ok (.invokespecial index, 3)) (hf : cells + rm.cells ≤ R.cells ∧ slots + rm.slots ≤ R.slots)
    (kk : ∀ (u : S) (H1 : Heap) (locs1 : List Loc), post u → va_P (dC, dI) vwCl (wr ++ wout u) H1 → va_D A (wr ++ wout u) → va_S A s.heap H1 locs1 → W p l e R s m args below meth c H1 locs1 (cells + rm.cells) (slots + rm.slots) Q (F0 m (pc + 3) ls (rest))) : W p l e R s m args below meth c H locs cells slots Q (F0 m pc ls st0) := by
  obtain ⟨hx, hb, hml, hown, hts, -, -, hK⟩ := C0
  subst hst
  have hPc := va_Psub hP isC hC
  have hDc := hD.sub isC hnC hC
  have hFc := va_free (wc := win) hD hS hA isC hC
  refine va_callv (va_runI (As := As) (rest := rest) ⟨hx, hb, hml, hown, hts⟩ (hM H.size) cw ⟨fun a U g mk q => by obtain ⟨q0, q1, qP, qK, qD⟩ := q; exact ⟨q0, q1, qP, qK.calling, qD⟩, fun U hU hW => ⟨rfl, by rw [hU], by rw [hU]; exact hPc, hK.warm hW, hDc.weaken (fun _ _ _ _ => trivial)⟩⟩ rfl hn hsize rfl (lv_room hW) hdg hf) hS (fun q _ h => hFc q h) hFc (fun u t H1 locs1 ht hvm hw hB hz1 hk1 hS1 => ?_)
  obtain ⟨hP1, hD1⟩ := hB
  rw [ht] at hP1
  obtain ⟨hP2, hD2⟩ := va_join (wr := wr) (w1 := wout u) hP hD isC isR hC hR hnR hdis hk1 hFc hP1 hD1
  exact kk u H1 locs1 hw hP2 hD2 hS1
end CA
end RU
