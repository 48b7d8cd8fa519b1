/-! OURS. Soundness of calls: a callee is entered, walked, and left by a return or by an exception. -/
section SdI
variable {G : ab_G} {D : va_G} {ad : Nat → Nat} {dA : Nat → ClassId} {base : Nat} {p : Program} {l : Launch} {e : Env} {R : Room} {s : State} {m : MethodId} {args : Array Value} {below : List Frame} {meth : Method} {c : Code} {T : State} {locs : List Loc} {cells slots : Nat}
/-- what stands behind a call -/
def sd_B (G : ab_G) (D : va_G) (ad : Nat → Nat) (dA : Nat → ClassId) (base : Nat) (p : Program) (l : Launch) (e : Env) (R : Room) (s : State) (m : MethodId) (args : Array Value) (below : List Frame) (meth : Method) (c : Code) (T : State) (locs : List Loc) (cells slots : Nat) (h h' : ab_H) (T' : State) : Prop :=
  ∃ (L : List Loc) (k n : Nat), Stand p l e R s m args below meth c T' (locs ++ L) (cells + k) (slots + n) ∧ (∀ q ∈ L, base ≤ q.base) ∧ va_P D (ab_cl G) (sd_w ad dA h') T'.heap ∧ T.heap.size ≤ T'.heap.size ∧ (∀ q, q < T.heap.size → ¬ base ≤ q → T'.heap[q]? = T.heap[q]?) ∧ k + h.length = h'.length ∧ n + ab_wt G h = ab_wt G h' ∧ h'.length ≤ (ab_cap G).1 ∧ ab_wt G h' ≤ (ab_cap G).2
theorem sd_inv (X : Stand p l e R s m args below meth c T locs cells slots) {g : JFrame} (hg : g.method = m) (hsize : g.locals.size = c.maxLocals) {ig : Instr} (hdg : decode c.code g.pc = .ok (ig, 3))
    {mk : MethodId} {methk : Method} {ck : Code} (a : Array Value) {R' : Room} (hmk : T.vm.method? mk = some methk) (hck : methk.code = some ck) (hlk : methk.locks = false) (hpk : T.plainMethod mk)
    (hframes : R'.frames + 1 ≤ R.frames) (hlocals : 2 * g.monitorRoom + (g.stack.map fun v => v.category).sum + (ck.maxLocals + 11) + R'.locals ≤ R.locals) (hcells : cells + R'.cells ≤ R.cells) (hslots : slots + R'.slots ≤ R.slots)
    {h : ab_H} {Q' : ab_Q} {Qe : State → Prop}
    (hS : ∀ T' : State, Stand p l e R' (T.calling g mk a) mk a (.java g :: below) methk ck T' [] 0 0 → T'.heap = T.heap → ∃ t, Steps p.tables e (.java g :: below) (T'.setTop (entryFrame mk a ck.maxLocals)) t ∧ sd_E G D ad dA base (.java g :: below) (T.calling g mk a) h Q' t)
    (kr : ∀ v h' T', Q' (.inl v) h' → sd_B G D ad dA base p l e R s m args below meth c T locs cells slots h h' T' → ∃ t, Steps p.tables e below (T'.setTop { g with pc := g.pc + 3, stack := (v.map (sd_v ad)).toList ++ g.stack }) t ∧ Qe t)
    (kt : ∀ x h' T', Q' (.inr x) h' → sd_B G D ad dA base p l e R s m args below meth c T locs cells slots h h' T' → ∃ t, Steps p.tables e below ((T'.setTop g).pushFrame (.throwing (ad x))) t ∧ Qe t) :
    ∃ t, (∀ acts, Steps p.tables e below (doInvoke e (T.setTop g) acts mk a).1 t) ∧ Qe t := by
  obtain ⟨Y, hin⟩ := X.into hg hsize hdg a (R' := R') hmk hck hlk hpk hframes hlocals hcells hslots
  obtain ⟨t, st, r, h', L, k, n, hQ, hrun, hend, hW, hsm, hL, hF, hP, e1, e2, e3⟩ := hS _ Y rfl
  cases r with
  | inl v =>
    obtain ⟨T', X', -, -, ht⟩ := X.outOf hg hdg hend hW hsm
    have hh : t.heap = T'.heap := by rw [ht]; rfl
    rw [hh] at hP
    obtain ⟨t2, st2, q⟩ := kr v h' T' hQ ⟨L, k, n, X', hL, hP, by rw [← hh]; exact hF.1, fun q h1 h2 => by rw [← hh]; exact hF.2 q h1 h2, e1, e2, e3⟩
    refine ⟨t2, fun acts => ?_, q⟩
    rw [hin acts]
    refine (Steps.weaken (mid := [.java g]) st).trans ?_
    rw [ht]
    exact st2
  | inr x =>
    obtain ⟨T', X', -, -, ht⟩ := X.outOfThrown hg hend hW hsm
    have hh : t.heap = T'.heap := by rw [ht]; rfl
    rw [hh] at hP
    obtain ⟨t2, st2, q⟩ := kt x h' T' hQ ⟨L, k, n, X', hL, hP, by rw [← hh]; exact hF.1, fun q h1 h2 => by rw [← hh]; exact hF.2 q h1 h2, e1, e2, e3⟩
    refine ⟨t2, fun acts => ?_, q⟩
    rw [hin acts]
    refine (Steps.weaken (mid := [.java g]) st).trans ?_
    rw [ht]
    exact st2
/-- a method's link -/
def sd_Lm (args : Array Value) (s : State) (own : String) (y : MethodName) : Instr → Prop
  | .invokevirtual idx => ((Cond.methodLink own idx y).before args s = true ∨ ∃ host, (Cond.methodLinkNest own idx y host).before args s = true) ∧ (Cond.instanceMethod y).before args s = true ∧ (Cond.selects y.cls y y).before args s = true
  | .invokespecial idx => y.name = "<init>" ∧ ((Cond.methodLink own idx y).before args s = true ∨ ∃ host, (Cond.methodLinkNest own idx y host).before args s = true) ∧ (Cond.instanceMethod y).before args s = true ∧ ∃ bytes maxL, (Cond.code y bytes maxL none).before args s = true
  | .invokestatic idx => ((Cond.methodLink own idx y).before args s = true ∨ ∃ host, (Cond.methodLinkNest own idx y host).before args s = true) ∧ (Cond.static y).before args s = true ∧ (Cond.initialized y.cls).before args s = true
  | _ => False
/-- the arguments of a call -/
def sd_As (H : Heap) (s : State) (y : MethodName) (np : Nat) (as : List Value) : Instr → Prop
  | .invokestatic _ => as.length = np
  | _ => ∃ (b : Addr) (cell : Cell) (r : List Value), as = .ref b :: r ∧ H[b]? = some cell ∧ cell.vm.isStatics = false ∧ s.vm.findClass y.cls = some cell.cls ∧ r.length = np
/-- the invoking instruction's own step -/
theorem sd_go (X : Stand p l e R s m args below meth c T locs cells slots) (hexec : p.tables.exec = Jvm.exec) {own : String} (hown : s.vm.findClass own = some m.cls) {y : MethodName} {i : Instr} (hL : sd_Lm args s own y i) (hy : y.cls ≠ "java/lang/invoke/MethodHandle" ∧ y.cls ≠ "java/lang/invoke/VarHandle")
    {mk : MethodId} {methk : Method} (hn : s.methodNamed? y = some mk) (hmk : s.vm.method? mk = some methk) (hsig : parseMethodDescriptor y.desc = some methk.sig) {g : JFrame} (hg : g.method = m) (hdg : decode c.code g.pc = .ok (i, 3)) {as rest : List Value} (hstack : g.stack = as.reverse ++ rest)
    (has : sd_As T.heap s y methk.sig.parameters.length as i) :
    ∃ vm', Stand p l e R s m args below meth c (T.setVm vm') locs cells slots ∧ ∀ target, (∀ acts, Steps p.tables e below (doInvoke e ((T.setVm vm').setTop { g with stack := rest }) acts mk as.toArray).1 target) → Steps p.tables e below (T.setTop g) target := by
  cases i with
  | invokevirtual idx =>
    obtain ⟨hlk, hins, hsel⟩ := hL
    obtain ⟨b, cell, r, rfl, hc, hst, hcl, hlen⟩ := has
    obtain ⟨mk', methM, hnamed, hmethM, hstM, habM⟩ := Cond.instanceMethod_spec hins
    cases hn.symm.trans hnamed
    cases hmk.symm.trans hmethM
    obtain ⟨c2, r2, m2, q1, q2, q3, q4, kP, hkP, hkPi⟩ := Cond.selects_spec hsel
    cases hcl.symm.trans q1
    cases (State.methodFound?_of_named hnamed hy).symm.trans q2
    cases hnamed.symm.trans q3
    have hselP : selectMethod e.platform s.vm cell.cls mk = .method mk := by rw [Launch.admits_selectMethod X.admits]; exact q4
    have hstk : g.stack = r.reverse ++ .ref b :: rest := by rw [hstack]; simp
    rcases hlk with hlk | ⟨host, hlk⟩
    · exact X.invokevirtual hexec hown hlk hnamed hmethM hstM hkP hkPi hy hc (fun z h => by rw [h] at hst; cases hst) hselP hmethM habM hkP hkPi hg hlen hstk hdg
    · exact X.invokevirtualNest hexec hown hlk hnamed hmethM hstM hkP hkPi hy hc (fun z h => by rw [h] at hst; cases hst) hselP hmethM habM hkP hkPi hg hlen hstk hdg
  | invokespecial idx =>
    obtain ⟨hin, hlk, hins, bytes, maxL, hcode⟩ := hL
    obtain ⟨b, cell, r, rfl, hc, hst, hcl, hlen⟩ := has
    have hstk : g.stack = r.reverse ++ .ref b :: rest := by rw [hstack]; simp
    have hpl : e.platform.magicAccessors = ({} : Platform).magicAccessors := by rw [X.admits.platform]
    have hlen' : ∀ sig, parseMethodDescriptor y.desc = some sig → r.length = sig.parameters.length := fun sig hs => by cases hsig.symm.trans hs; exact hlen
    subst hg
    rcases hlk with hlk | ⟨host, hlk⟩
    · obtain ⟨mk', methM, cM, kP, vm₁, hnamed, hmethM, hcodeM, -, hlocalsM, -, hkP, -, hW₁, hstep₁⟩ := Steps.initColdArgs (e := e) X.here hexec X.warmed hpl hown hin hy hlk hins hcode (f := g) rfl hlen' hstk hdg
      cases hn.symm.trans hnamed
      exact ⟨vm₁, X.noted hW₁, hstep₁⟩
    · obtain ⟨mk', methM, cM, kP, vm₁, hnamed, hmethM, hcodeM, -, hlocalsM, -, hkP, -, hW₁, hstep₁⟩ := Steps.initColdArgsNest (e := e) X.here hexec X.warmed hpl hown hin hy hlk hins hcode (f := g) rfl hlen' hstk hdg
      cases hn.symm.trans hnamed
      exact ⟨vm₁, X.noted hW₁, hstep₁⟩
  | invokestatic idx =>
    obtain ⟨hlk, hstt, hini⟩ := hL
    have hstatic : methk.isStatic = true := Cond.static_spec hn hmk hstt
    obtain ⟨kP, hkP, -⟩ := className_of_methodNamed hn
    have hinitP : kP.init = .initialized := Cond.initialized_spec (findClass_of_methodNamed hn) hkP hini
    rcases hlk with hlk | ⟨host, hlk⟩
    · exact X.invokestatic hexec hown hlk hn hmk hstatic hkP hinitP hy hg has hstack hdg
    · exact X.invokestaticNest hexec hown hlk hn hmk hstatic hkP hinitP hy hg has hstack hdg
  | _ => exact hL.elim
end SdI
