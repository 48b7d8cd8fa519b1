/-! OURS. An exception is caught: the search through a method's table, the catch types' entries resolved by it or before. -/
/-- the search ends at the handler hp: each entry ahead of it doesn't cover the place, or names a class to which C can't be assigned -/
def sd_Hs (args : Array Value) (s : State) (own C : String) (pc hp : Nat) : List ExceptionTableEntry → Prop
  | [] => False
  | x :: t => (covers x pc = false ∧ sd_Hs args s own C pc hp t) ∨ (covers x pc = true ∧ x.catchType ≠ 0 ∧ ∃ nm, (Cond.classLink own x.catchType nm).before args s = true ∧ (((Cond.castable C nm).before args s = true ∧ x.handlerPc = hp) ∨ ((Cond.not (Cond.castable C nm)).before args s = true ∧ sd_Hs args s own C pc hp t)))
theorem sd_goYes {Q : Handler → Pre} {E : CtlPost} {e : Env} {d : Bool} {acts : List Action} {s : State} {f : JFrame} {a : Addr} {x : ExceptionTableEntry} {t : List ExceptionTableEntry} {c : ClassId} {cell : Cell} (hx : covers x f.pc = true) (h0 : x.catchType ≠ 0)
    (hl : s.vm.ClassLinks e.platform f.method.cls x.catchType c) (hcell : s.heap[a]? = some cell) (hobj : ∀ k, cell.vm ≠ .statics k)
    (hk : ∃ k, s.vm.classes[cell.cls]? = some k) (hc : ∃ k, s.vm.classes[c]? = some k) (hfit : s.vm.assignable cell.cls c = true) :
    wp (findHandler.go f a (x :: t)) Q E e d acts s ↔ Q (.found x.handlerPc) d acts (s.setVm (s.vm.noted f.method.cls x.catchType (.cls c))) := by
  simp only [covers] at hx
  obtain ⟨ha, ht⟩ := (resolveClass_links e.toSetting hl).op (op := VmOp.resolveClass f.method.cls x.catchType) rfl
  have hal : s.vm.Alike (s.vm.noted f.method.cls x.catchType (.cls c)) := (Vm.Alike.refl s.vm).noted _ _ _
  obtain ⟨k1, hk1⟩ := hk
  obtain ⟨k2, hk2⟩ := hc
  obtain ⟨k1', hk1', -⟩ := hal.2.2 _ _ hk1
  obtain ⟨k2', hk2', -⟩ := hal.2.2 _ _ hk2
  have hfit' : (s.vm.noted f.method.cls x.catchType (.cls c)).assignable cell.cls c = true := by rw [hal.assignable]; exact hfit
  simp [findHandler.go, hx, h0, ha, ht, hcell, hobj, hk1', hk2', hfit', VmOp.dirties, VmOp.acts]
theorem sd_goNo {Q : Handler → Pre} {E : CtlPost} {e : Env} {d : Bool} {acts : List Action} {s : State} {f : JFrame} {a : Addr} {x : ExceptionTableEntry} {t : List ExceptionTableEntry} {c : ClassId} {cell : Cell} (hx : covers x f.pc = true) (h0 : x.catchType ≠ 0)
    (hl : s.vm.ClassLinks e.platform f.method.cls x.catchType c) (hcell : s.heap[a]? = some cell) (hobj : ∀ k, cell.vm ≠ .statics k)
    (hk : ∃ k, s.vm.classes[cell.cls]? = some k) (hc : ∃ k, s.vm.classes[c]? = some k) (hfit : s.vm.assignable cell.cls c = false) :
    ∃ d' acts', (∀ Q : Handler → Pre, wp (findHandler.go f a (x :: t)) Q E e d acts s ↔ wp (findHandler.go f a t) Q E e d' acts' (s.setVm (s.vm.noted f.method.cls x.catchType (.cls c)))) := by
  simp only [covers] at hx
  obtain ⟨ha, ht⟩ := (resolveClass_links e.toSetting hl).op (op := VmOp.resolveClass f.method.cls x.catchType) rfl
  have hal : s.vm.Alike (s.vm.noted f.method.cls x.catchType (.cls c)) := (Vm.Alike.refl s.vm).noted _ _ _
  obtain ⟨k1, hk1⟩ := hk
  obtain ⟨k2, hk2⟩ := hc
  obtain ⟨k1', hk1', -⟩ := hal.2.2 _ _ hk1
  obtain ⟨k2', hk2', -⟩ := hal.2.2 _ _ hk2
  have hfit' : (s.vm.noted f.method.cls x.catchType (.cls c)).assignable cell.cls c = false := by rw [hal.assignable]; exact hfit
  refine ⟨d, acts, fun Q => ?_⟩
  simp [findHandler.go, hx, h0, ha, ht, hcell, hobj, hk1', hk2', hfit', VmOp.dirties, VmOp.acts]
theorem sd_fgo {e : Env} {s : State} {args : Array Value} {f : JFrame} {a : Addr} {own C : String} {hp : Nat} (hpl : e.platform.magicAccessors = ({} : Platform).magicAccessors) (hown : s.vm.findClass own = some f.method.cls) {cell : Cell} (hobj : cell.vm.isStatics = false) (hC : s.vm.findClass C = some cell.cls) :
    ∀ (t : List ExceptionTableEntry) (U : State), sd_Hs args s own C f.pc hp t → s.WarmedH U.vm → U.heap[a]? = some cell →
      ∃ vm', s.WarmedH vm' ∧ ∀ (Q : Handler → Pre) (E : CtlPost) (d : Bool) (acts : List Action), wp (findHandler.go f a t) Q E e d acts U ↔ Q (.found hp) d acts (U.setVm vm') := by
  intro t
  induction t with
  | nil => intro U h; exact h.elim
  | cons x t ih =>
    intro U h hW hcell
    rcases h with ⟨h1, h2⟩ | ⟨h1, h2, nm, h3, h4⟩
    · obtain ⟨vm', g1, g2⟩ := ih U h2 hW hcell
      exact ⟨vm', g1, fun Q E d acts => by rw [Jvm.W.findHandler_go_skip h1]; exact g2 Q E d acts⟩
    · obtain ⟨cN, hcN, hcl⟩ := Cond.classLink_spec hown h3 e.platform hpl
      obtain ⟨dk, _, _, kt, hd, _, _, _, _, hkt, _, hopen⟩ := hcl.here
      have hcl0 := hW.classLinks hcl
      have hW' : s.WarmedH (U.vm.noted f.method.cls x.catchType (.cls cN)) := hW.noted hd hopen (State.rightAt_cls hcl)
      have hal := hW.alike
      obtain ⟨kt', hkt', -⟩ := hal.2.2 _ _ hkt
      obtain ⟨kx, hkx⟩ := Vm.classAt_of_findClass hC
      obtain ⟨kx', hkx', -⟩ := hal.2.2 _ _ hkx
      rcases h4 with ⟨hcast, rfl⟩ | ⟨hno, hrec⟩
      · obtain ⟨c3, c4, hc3, hc4, hasg⟩ := Cond.castable_spec hcast
        cases hC.symm.trans hc3
        cases hcN.symm.trans hc4
        exact ⟨_, hW', fun Q E d acts => sd_goYes h1 h2 hcl0 hcell (VmData.ne_statics_of hobj) ⟨kx', hkx'⟩ ⟨kt', hkt'⟩ (by rw [hal.assignable]; exact hasg)⟩
      · have hasg : s.vm.assignable cell.cls cN = false := by
          cases hb : s.vm.assignable cell.cls cN with
          | false => rfl
          | true =>
            exfalso
            simp [Cond.before, Cond.holds, Cond.value, hC, hcN, hb] at hno
        obtain ⟨vm', g1, g2⟩ := ih (U.setVm (U.vm.noted f.method.cls x.catchType (.cls cN))) hrec hW' hcell
        refine ⟨vm', g1, fun Q E d acts => ?_⟩
        have hfit : U.vm.assignable cell.cls cN = false := by rw [hal.assignable]; exact hasg
        simp only [covers] at h1
        obtain ⟨ha, ht⟩ := (resolveClass_links e.toSetting hcl0).op (op := VmOp.resolveClass f.method.cls x.catchType) rfl
        have hal2 : U.vm.Alike (U.vm.noted f.method.cls x.catchType (.cls cN)) := (Vm.Alike.refl U.vm).noted _ _ _
        obtain ⟨k1', hk1', -⟩ := hal2.2.2 _ _ hkx'
        obtain ⟨k2', hk2', -⟩ := hal2.2.2 _ _ hkt'
        have hfit' : (U.vm.noted f.method.cls x.catchType (.cls cN)).assignable cell.cls cN = false := by rw [hal2.assignable]; exact hfit
        have key : wp (findHandler.go f a (x :: t)) Q E e d acts U ↔ wp (findHandler.go f a t) Q E e d acts (U.setVm (U.vm.noted f.method.cls x.catchType (.cls cN))) := by
          simp [findHandler.go, h1, h2, ha, ht, hcell, VmData.ne_statics_of hobj, hk1', hk2', hfit', VmOp.dirties, VmOp.acts]
        rw [key, g2 Q E d acts]
        rfl
section SdK
variable {p : Program} {l : Launch} {e : Env} {R : Room} {s : State} {m : MethodId} {args : Array Value} {below : List Frame} {meth : Method} {c : Code} {T : State} {locs : List Loc} {cells slots : Nat}
theorem sd_caught (X : Stand p l e R s m args below meth c T locs cells slots) {own C : String} (hown : s.vm.findClass own = some m.cls) {g : JFrame} (hg : g.method = m) {hp : Nat} (hH : sd_Hs args s own C g.pc hp c.exceptionTable.toList) {a : Addr} {cell : Cell} (hcell : T.heap[a]? = some cell) (hobj : cell.vm.isStatics = false) (hC : s.vm.findClass C = some cell.cls) :
    ∃ vm', Stand p l e R s m args below meth c (T.setVm vm') locs cells slots ∧ ∀ target, Steps p.tables e below ((T.setVm vm').setTop { g with pc := hp, stack := [.ref a] }) target → Steps p.tables e below ((T.setTop g).pushFrame (.throwing a)) target := by
  have hpl : e.platform.magicAccessors = ({} : Platform).magicAccessors := by rw [X.admits.platform]
  subst hg
  obtain ⟨vm', hW, hfind⟩ := sd_fgo hpl hown hobj hC _ ((T.setTop g).pushFrame (.throwing a)) hH (by rw [Stand.throwing_vm]; exact X.warmed) (by rw [Stand.throwing_heap]; exact hcell)
  refine ⟨vm', X.noted hW, fun target hrest => ?_⟩
  obtain ⟨hgo, hw⟩ := X.here.throwing (g := g) a
  refine Steps.head hgo hw ?_
  have hF : ∀ (Q : Handler → Pre) (E : CtlPost) (d : Bool) (acts : List Action), wp (findHandler g a) Q E e d acts ((T.setTop g).pushFrame (.throwing a)) ↔ Q (.found hp) d acts (((T.setTop g).pushFrame (.throwing a)).setVm vm') := by
    intro Q E d acts
    rw [Jvm.W.findHandler_eq (meth := meth) (code := c) (by rw [Stand.throwing_vm]; exact X.method') X.code]
    exact hfind Q E d acts
  have hstep : (stepThrowing e ((T.setTop g).pushFrame (.throwing a)) a (.java g :: T.frames.tail)).Is ((((T.setTop g).pushFrame (.throwing a)).setVm vm').setFrames (.java { g with pc := hp, stack := [.ref a] } :: T.frames.tail)) [] := by
    simp only [stepThrowing, searchFrame, vmDo]
    generalize hr : Sem.go _ e false [] ((T.setTop g).pushFrame (.throwing a)) = res
    obtain ⟨as, rfl, ha⟩ := Sem.eq_ok_of hr (a := Handler.found hp) (s' := ((T.setTop g).pushFrame (.throwing a)).setVm vm') (acts' := []) (by simp [hF _ _ _ _])
    exact ⟨rfl, ha⟩
  rw [stepThread_throwing (frames_entered X.here.top _), hstep.1]
  obtain ⟨g₀, hr⟩ := X.frames_eq
  have hr' : (T.setVm vm').frames = .java g₀ :: below := hr
  rw [State.setTop_of_frames _ hr'] at hrest
  have e1 : (((T.setTop g).pushFrame (.throwing a)).setVm vm').setFrames (.java { g with pc := hp, stack := [.ref a] } :: T.frames.tail) = (T.setVm vm').setFrames (.java { g with pc := hp, stack := [.ref a] } :: below) := by
    rw [hr, State.setTop_of_frames _ hr]
    show (((T.setFrames _).setFrames _).setVm vm').setFrames _ = _
    rw [State.setFrames_setFrames]
    show ((T.setVm vm').setFrames _).setFrames _ = _
    rw [State.setFrames_setFrames]
    rfl
  rw [e1]
  exact hrest
end SdK
