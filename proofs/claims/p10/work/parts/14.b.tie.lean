/-! THE LAW: what a call of the class and the same call of the reference leave behind agrees -/
section LT
theorem LY_fmt {eb mb eb1 mb1 we wm we1 wm1 x y r r' : Int32} {E M : Nat} (hd : LY eb mb E M) (hm : LY we wm E M) (h : (r = 1 ∧ fOK x y ∧ eb1 = x ∧ mb1 = y) ∨ (r = 0 ∧ ¬ fOK x y ∧ eb1 = eb ∧ mb1 = mb)) (h' : (r' = 1 ∧ fOK x y ∧ we1 = x ∧ wm1 = y) ∨ (r' = 0 ∧ ¬ fOK x y ∧ we1 = we ∧ wm1 = wm)) :
    r = r' ∧ ∃ E1 M1 : Nat, LY eb1 mb1 E1 M1 ∧ LY we1 wm1 E1 M1 := by
  rcases h with ⟨a1, a2, rfl, rfl⟩ | ⟨a1, a2, rfl, rfl⟩
  · rcases h' with ⟨c1, c2, rfl, rfl⟩ | ⟨c1, c2, -, -⟩
    · obtain ⟨u1, u2, u3, u4⟩ := a2
      have g : LY we1 wm1 we1.toInt.toNat wm1.toInt.toNat := ⟨by omega, by omega, by omega, by omega, by omega, by omega⟩
      exact ⟨a1.trans c1.symm, _, _, g, g⟩
    · exact absurd a2 c2
  · rcases h' with ⟨c1, c2, -, -⟩ | ⟨c1, c2, rfl, rfl⟩
    · exact absurd c2 a2
    · exact ⟨a1.trans c1.symm, _, _, hd, hm⟩
theorem MD_tie {md md1 wy wy1 x r r' : Int32} (e : wy = md) (hb : 0 ≤ md.toInt ∧ md.toInt ≤ 4) (h : (r = 1 ∧ mOK x ∧ md1 = x) ∨ (r = 0 ∧ ¬ mOK x ∧ md1 = md)) (h' : (r' = 1 ∧ mOK x ∧ wy1 = x) ∨ (r' = 0 ∧ ¬ mOK x ∧ wy1 = wy)) :
    r = r' ∧ wy1 = md1 ∧ (0 ≤ md1.toInt ∧ md1.toInt ≤ 4) := by
  subst e
  rcases h with ⟨a1, a2, rfl⟩ | ⟨a1, a2, rfl⟩
  · rcases h' with ⟨c1, c2, rfl⟩ | ⟨c1, c2, -⟩
    · exact ⟨a1.trans c1.symm, rfl, a2⟩
    · exact absurd a2 c2
  · rcases h' with ⟨c1, c2, -⟩ | ⟨c1, c2, rfl⟩
    · exact absurd c2 a2
    · exact ⟨a1.trans c1.symm, rfl, hb⟩
theorem TP_tie {f f' k k' : Nat → Int32} {l0 lx l0' lx' x r r' : Int32} {w : Int64} {T : Nat → Nat} {len : Nat} (hd : TP f l0 T len) (hm : TP f' l0' T len)
    (h : (r = 1 ∧ putC len w x ∧ TP k lx (putT T len w x.toInt.toNat) (len + x.toInt.toNat)) ∨ (r = 0 ∧ ¬ putC len w x ∧ k = f ∧ lx = l0)) (h' : (r' = 1 ∧ putC len w x ∧ TP k' lx' (putT T len w x.toInt.toNat) (len + x.toInt.toNat)) ∨ (r' = 0 ∧ ¬ putC len w x ∧ k' = f' ∧ lx' = l0')) :
    r = r' ∧ ∃ (T1 : Nat → Nat) (len1 : Nat), TP k lx T1 len1 ∧ TP k' lx' T1 len1 := by
  rcases h with ⟨a1, a2, a3⟩ | ⟨a1, a2, rfl, rfl⟩
  · rcases h' with ⟨c1, c2, c3⟩ | ⟨c1, c2, -, -⟩
    · exact ⟨a1.trans c1.symm, _, _, a3, c3⟩
    · exact absurd a2 c2
  · rcases h' with ⟨c1, c2, -⟩ | ⟨c1, c2, rfl, rfl⟩
    · exact absurd c2 a2
    · exact ⟨a1.trans c1.symm, _, _, hd, hm⟩
theorem TP_0 (f : Nat → Int32) (T : Nat → Nat) : TP f 0 T 0 := ⟨by decide, by omega, fun j h => absurd h (by omega)⟩
theorem RD_tie {E M len : Nat} {md wy fl ra fl1 ra1 th1 r : Int32} {T : Nat → Nat} {v r' : Int64} (e1 : wy = md) (e2 : ra = fl) (h : (r = 0 ∧ isDec T len ∧ RDW E M md.toInt T len fl v.toInt fl1) ∨ (r = 1 ∧ ¬ isDec T len ∧ fl1 = fl))
    (h' : (isDec T len ∧ th1 = 0 ∧ RDW E M wy.toInt T len ra r'.toInt ra1) ∨ (¬ isDec T len ∧ th1 = 1 ∧ ra1 = ra ∧ r' = 0)) : ra1 = fl1 ∧ th1 = r ∧ (r = 0 → v = r') := by
  subst e1; subst e2
  rcases h with ⟨a1, a2, a3⟩ | ⟨a1, a2, a3⟩
  · rcases h' with ⟨c1, c2, c3⟩ | ⟨c1, -⟩
    · obtain ⟨g1, g2⟩ := RDW_uniq a3 c3
      exact ⟨g2.symm, c2.trans a1.symm, fun _ => Int64.toInt_inj.mp g1⟩
    · exact absurd a2 c1
  · rcases h' with ⟨c1, -⟩ | ⟨c1, c2, c3, -⟩
    · exact absurd c1 a2
    · exact ⟨c3.trans a3.symm, c2.trans a1.symm, fun h => by rw [a1] at h; exact absurd h (by decide)⟩
theorem CL_tie {fl ra x fl1 ra1 r r' : Int32} (e2 : ra = fl) (h : r = fl &&& x ∧ fl1 = fl &&& (x ^^^ (-1))) (h' : r' = ra ∧ ra1 = ra &&& (x ^^^ (-1))) : ra1 = fl1 := by rw [h.2, h'.2, e2]
theorem SHL_tie {E M : Nat} {x : Int} {f k g kg fo ko' : Nat → Int32} {ll ll1 on on1 r r' th1 : Int32} {v : Int64} {wt : List Nat} (hd : TL f ll wt) (hm : TL fo on wt) (h : (r = 0 ∧ isPat E M x ∧ ∃ w : List Nat, TL k ll1 w ∧ v.toInt = (w.length : Int) ∧ SHW E M x w) ∨ (r = 1 ∧ ¬ isPat E M x ∧ k = f ∧ kg = g ∧ ll1 = ll))
    (h' : (isPat E M x ∧ th1 = 0 ∧ ∃ w : List Nat, TL ko' on1 w ∧ r'.toInt = (w.length : Int) ∧ SHM E M x w) ∨ (¬ isPat E M x ∧ th1 = 1 ∧ r' = 0 ∧ ko' = fo ∧ on1 = on)) : (th1 = r ∧ (r = 0 → v.toInt = r'.toInt)) ∧ ∃ w1 : List Nat, TL k ll1 w1 ∧ TL ko' on1 w1 := by
  rcases h with ⟨a1, a2, w, a3, a4, a5⟩ | ⟨a1, a2, rfl, -, rfl⟩
  · rcases h' with ⟨c1, c2, w', c3, c4, c5⟩ | ⟨c1, -⟩
    · have g1 := SHM_uniq (SHW_M a5) c5
      subst g1
      exact ⟨⟨c2.trans a1.symm, fun _ => a4.trans c4.symm⟩, w, a3, c3⟩
    · exact absurd a2 c1
  · rcases h' with ⟨c1, -⟩ | ⟨c1, c2, -, rfl, rfl⟩
    · exact absurd c1 a2
    · exact ⟨⟨c2.trans a1.symm, fun h => by rw [a1] at h; exact absurd h (by decide)⟩, wt, hd, hm⟩
theorem EXL_tie {E M : Nat} {x : Int} {f k g kg fo ko' : Nat → Int32} {ll ll1 on on1 r r' th1 : Int32} {v : Int64} {wt : List Nat} (hd : TL f ll wt) (hm : TL fo on wt) (h : (r = 0 ∧ isPat E M x ∧ ∃ w : List Nat, TL k ll1 w ∧ v.toInt = (w.length : Int) ∧ EXW E M x w) ∨ (r = 1 ∧ ¬ isPat E M x ∧ k = f ∧ kg = g ∧ ll1 = ll))
    (h' : (isPat E M x ∧ th1 = 0 ∧ ∃ w : List Nat, TL ko' on1 w ∧ r'.toInt = (w.length : Int) ∧ EXW E M x w) ∨ (¬ isPat E M x ∧ th1 = 1 ∧ r' = 0 ∧ ko' = fo ∧ on1 = on)) : (th1 = r ∧ (r = 0 → v.toInt = r'.toInt)) ∧ ∃ w1 : List Nat, TL k ll1 w1 ∧ TL ko' on1 w1 := by
  rcases h with ⟨a1, a2, w, a3, a4, a5⟩ | ⟨a1, a2, rfl, -, rfl⟩
  · rcases h' with ⟨c1, c2, w', c3, c4, c5⟩ | ⟨c1, -⟩
    · have g1 := EXW_uniq a5 c5
      subst g1
      exact ⟨⟨c2.trans a1.symm, fun _ => a4.trans c4.symm⟩, w, a3, c3⟩
    · exact absurd a2 c1
  · rcases h' with ⟨c1, -⟩ | ⟨c1, c2, -, rfl, rfl⟩
    · exact absurd c1 a2
    · exact ⟨⟨c2.trans a1.symm, fun h => by rw [a1] at h; exact absurd h (by decide)⟩, wt, hd, hm⟩
theorem LT_tie {x r th1 r' : Int32} {v : Int64} {w : List Nat} (h : (r = 0 ∧ (0 ≤ x.toInt ∧ x.toInt < (w.length : Int)) ∧ v.toInt = (w.getD x.toInt.toNat 0 : Int)) ∨ (r = 1 ∧ ¬ (0 ≤ x.toInt ∧ x.toInt < (w.length : Int))))
    (h' : ((0 ≤ x.toInt ∧ x.toInt < (w.length : Int)) ∧ th1 = 0 ∧ r'.toInt = (w.getD x.toInt.toNat 0 : Int)) ∨ (¬ (0 ≤ x.toInt ∧ x.toInt < (w.length : Int)) ∧ th1 = 1)) : th1 = r ∧ (r = 0 → v.toInt = r'.toInt) := by
  rcases h with ⟨a1, a2, a3⟩ | ⟨a1, a2⟩
  · rcases h' with ⟨c1, c2, c3⟩ | ⟨c1, -⟩
    · exact ⟨c2.trans a1.symm, fun _ => a3.trans c3.symm⟩
    · exact absurd a2 c1
  · rcases h' with ⟨c1, -⟩ | ⟨c1, c2⟩
    · exact absurd c1 a2
    · exact ⟨c2.trans a1.symm, fun h => by rw [a1] at h; exact absurd h (by decide)⟩
theorem NX_uniq {E M : Nat} {p : Int} {up : Prop} {r r' : Int} (h : NX E M p up r) (h' : NX E M p up r') : r = r' := by
  unfold NX at h h'
  rcases h with ⟨a, b⟩ | ⟨b, h⟩
  · rcases h' with ⟨a', -⟩ | ⟨b', -⟩
    · exact a.trans a'.symm
    · exact absurd b' b
  · rcases h' with ⟨-, b'⟩ | ⟨-, h'⟩
    · exact absurd b b'
    · by_cases hu : up
      · simp only [hu, true_and, not_true, false_and, or_false] at h h'
        omega
      · simp only [hu, not_false_iff, true_and, false_and, false_or] at h h'
        omega
/-- what stays true through the law's walk -/
def lwX (dC : Nat → ClassId) (dI : Nat → Nat → Nat) (cI cB cJ : ClassId) (p : Program) (s : State) (m : MethodId) (b : Nat) (meth : Method) (c : Code) (L : Nat) (xs : Nat → Int32) : Prop :=
  cx dC dI cI cB cJ R_Law code 8 ret p s m #[Value.ref b] meth c ∧ (∀ w ∈ thT, w.before #[Value.ref b] s = true) ∧ (∀ w ∈ cwL, w.before #[Value.ref b] s = true) ∧ SKN s.heap.size s ∧ va_X b L xs s s.heap ∧ b < s.heap.size
theorem law_len {y : MethodName} {n : Nat} (h : (parseMethodDescriptor y.desc).map (fun d => d.parameters.length) = some n) : ∀ sig, parseMethodDescriptor y.desc = some sig → n = sig.parameters.length := fun sig hs => by
  rw [hs] at h
  exact (Option.some.inj h).symm
end LT
