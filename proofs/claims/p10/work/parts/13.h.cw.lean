/-! words at calls -/
section WT
theorem gT_at {args a' : Array Value} {s U : State} {w : Cond} (h : w ∈ gT) (hW : s.WarmedH U.vm) (hb : w.before args s = true) : w.before a' U = true := word_at hW (gMem h).2 hb
theorem wsT_at {args : Array Value} {s : State} {y : MethodName} {b : ByteArray} {n : Nat} {r : Option FieldType} (hc : Cond.code y b n r ∈ gT) (hts : ∀ w ∈ gT, w.before args s = true) (hth : ∀ w ∈ thT, w.before args s = true) : ∀ w ∈ (Cond.code y b n r :: (gT ++ thT)), ∀ (a' : Array Value) (U : State), s.WarmedH U.vm → w.before a' U = true := by
  intro w hw a' U hW
  rcases List.mem_cons.mp hw with rfl | hw
  · exact gT_at hc hW (hts _ hc)
  · rcases List.mem_append.mp hw with hw | hw
    · exact gT_at hw hW (hts _ hw)
    · exact th_at hw hW (hth _ hw)
theorem wsW_at {args : Array Value} {s : State} {y : MethodName} {b : ByteArray} {n : Nat} {r : Option FieldType} {hs : List (Nat × Nat × Nat × Nat)} (hc : (Cond.codeWith y b n r hs).before args s = true) (hts : ∀ w ∈ gT, w.before args s = true) (hth : ∀ w ∈ thT, w.before args s = true) : ∀ w ∈ (Cond.codeWith y b n r hs :: (gT ++ thT)), ∀ (a' : Array Value) (U : State), s.WarmedH U.vm → w.before a' U = true := by
  intro w hw a' U hW
  rcases List.mem_cons.mp hw with rfl | hw
  · exact word_at hW (Or.inl rfl) hc
  · rcases List.mem_append.mp hw with hw | hw
    · exact gT_at hw hW (hts _ hw)
    · exact th_at hw hW (hth _ hw)
theorem cwT {R : Room} {args : Array Value} {s : State} {own C : String} {index : Nat} {y : MethodName} {b : ByteArray} {maxL : Nat} {r : Option FieldType} {rm : Room} (n : Nat) (hts : ∀ w ∈ gT, w.before args s = true) (hth : ∀ w ∈ thT, w.before args s = true) (h1 : Cond.methodLink own index y ∈ gT) (h2 : Cond.instanceMethod y ∈ gT) (h3 : Cond.selects C y y ∈ gT) (h4 : Cond.initialized C ∈ gT) (h5 : Cond.code y b maxL r ∈ gT)
    (hd : y.cls = C ∧ y.cls ≠ "java/lang/invoke/MethodHandle" ∧ y.cls ≠ "java/lang/invoke/VarHandle" ∧ (parseMethodDescriptor y.desc).map (fun d => d.parameters.length) = some n) (hR : rm.frames + 1 ≤ R.frames ∧ 8 + (maxL + 11) + rm.locals ≤ R.locals) : CallW R s args own C index y b maxL r (Cond.code y b maxL r :: (gT ++ thT)) rm rm.cells rm.slots n := by
  obtain ⟨rfl, hd1, hd2, hd3⟩ := hd
  exact ⟨⟨rfl, rfl, hR.1, hR.2, wsT_at h5 hts hth, List.mem_cons_self, hts _ h5, hts _ h4, ⟨hd1, hd2⟩, fun sig hs => by rw [hs] at hd3; exact (Option.some.inj hd3).symm, hts _ h1⟩, hts _ h2, hts _ h3⟩
theorem hN_sub {N : Nat} {w0 win : va_W} (h : ∀ (k : Nat) (q : Nat × va_E), w0[k]? = some q → N ≤ q.1) (is : List Nat) (hs : is.map (fun i => w0[i]?) = win.map some) : ∀ (k : Nat) (q : Nat × va_E), win[k]? = some q → N ≤ q.1 := by
  intro k q hk
  have h1 : (is.map (fun i => w0[i]?))[k]? = some (some q) := by rw [hs, List.getElem?_map, hk]; rfl
  rw [List.getElem?_map] at h1
  cases hi : is[k]? with
  | none => rw [hi] at h1; cases h1
  | some i => rw [hi] at h1; exact h i q (Option.some.inj h1)
theorem updL_0 {f : Nat → Int64} {x : Int64} : vp_updL f 0 x 0 = x := if_pos rfl
end WT
