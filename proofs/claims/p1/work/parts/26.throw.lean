/-! OURS. Soundness of 'throw new X(text)': the walk is taken up again at the heap as it stands, and the library's law does the rest. -/
section SdT
variable {G : ab_G} {D : va_G} {ad : Nat → Nat} {dA : Nat → ClassId} {base : Nat} {p : Program} {l : Launch} {e : Env} {R : Room} {s : State} {m : MethodId} {args : Array Value} {below : List Frame} {meth : Method} {c : Code} {T : State} {locs : List Loc} {cells slots : Nat} {j : Nat} {h0 : ab_H} {cc : ByteArray} {tys : List (ClassId × FieldType)}
/-- the same walk, as if the method had been invoked at this heap -/
theorem sd_rebase (X : Stand p l e R s m args below meth c T locs cells slots) (hc : cells ≤ R.cells) (hs : slots ≤ R.slots) : Stand p l e { frames := R.frames, cells := R.cells - cells, slots := R.slots - slots, locals := R.locals } (T.setFrames (.invoking m args :: below)) m args below meth c T [] 0 0 := by
  obtain ⟨g₀, hfr⟩ := X.frames_eq
  have hcur : T.cur < T.threads.size := State.cur_lt_of_frames hfr
  have hf : (T.setFrames (.invoking m args :: below)).frames = .invoking m args :: below := State.frames_setFrames _ hcur
  have hm : (T.setFrames (.invoking m args :: below)).vm.method? m = some meth := X.method'
  have hroom := X.room
  have e1 : (T.setFrames (.invoking m args :: below)).localsInUse = s.localsInUse := by
    rw [State.localsInUse_invoking hf hm X.code, State.localsInUse_invoking X.frames X.method X.code]
  have e2 : (T.setFrames (.invoking m args :: below)).frames.length = s.frames.length := by rw [hf, X.frames]
  have e3 : e.platform.stackLimits (T.setFrames (.invoking m args :: below)).me = e.platform.stackLimits s.me := by rw [State.stackLimits_setFrames]; exact X.limits
  have e4 : (T.setFrames (.invoking m args :: below)).me.stackBytes = s.me.stackBytes := by rw [State.stackBytes_setFrames]; exact X.bytes
  have h1 := X.heapSize
  have h2 := X.used
  have hbk := X.book
  refine ⟨X.admits, X.cas, X.clock, hf, ?_, ?_, hm, X.code, X.here, X.tail, State.WarmedH.refl _, by rw [State.stackLimits_setFrames], by rw [State.stackBytes_setFrames], ?_⟩
  · simp only [State.hasRoom, Bool.and_eq_true, decide_eq_true_eq] at hroom ⊢
    rw [e1, e2, e3, e4]
    obtain ⟨⟨⟨⟨r1, r2⟩, r3⟩, r4⟩, r5⟩ := hroom
    refine ⟨⟨⟨⟨r1, r2⟩, ?_⟩, ?_⟩, ?_⟩
    · show T.heap.size + (R.cells - cells) ≤ _
      omega
    · show T.slotsUsed + (R.slots - slots) ≤ _
      omega
    · exact hbk
  · have hh := X.hears
    cases below with
    | nil =>
      simp only [State.hears] at hh ⊢
      rw [show (T.setFrames (.invoking m args :: [])).vm = T.vm from rfl, X.method']
      rw [X.method] at hh
      exact hh
    | cons f r =>
      cases f with
      | java g =>
        simp only [State.hears] at hh ⊢
        have hcd : (T.setFrames (.invoking m args :: .java g :: r)).code? g.method = s.code? g.method := by
          rw [State.code?_eq, State.code?_eq]
          show (T.vm.method? g.method).bind _ = _
          rw [X.warmed.alike.method?]
        rw [hcd]
        exact hh
      | native g => rfl
      | proc g => rfl
      | _ =>
        simp only [State.hears] at hh ⊢
        rw [show ∀ fs, (T.setFrames fs).vm = T.vm from fun _ => rfl, X.method']
        rw [X.method] at hh
        exact hh
  · obtain ⟨t, ht, -⟩ := State.frames_cons hf
    have h := (State.sameButNew.refl (T.setFrames (.invoking m args :: below)) ht).setFrames T.frames (State.cur_lt_of_frames hf)
    have e5 : (T.setFrames (.invoking m args :: below)).setFrames T.frames = T := by
      rw [State.setFrames_setFrames]
      obtain ⟨t2, ht2, -⟩ := State.frames_cons hfr
      exact State.setFrames_self ht2
    rw [e5] at h
    exact h
/-- what a throw needs of the tables -/
def sd_Lx (G : ab_G) (args : Array Value) (U : State) (own : String) (idx ci k mI : Nat) : Prop := ∃ (C : String) (T0 : u_T) (names : List String) (tx : String) (q : Nat), (ab_cl G)[ci]? = some (C, T0, 0) ∧ Bundle.fit C = true ∧ (∀ n ∈ names, Bundle.fit n = true) ∧ names.length ≤ 3 ∧ ab_wc G ci = 6 ∧ (Cond.classLink own idx C).before args U = true ∧ (Cond.instantiable C 6).before args U = true ∧ (Cond.initialized C).before args U = true ∧ vk_R own k tx q U ∧ ∀ a ∈ Bundle.ownAtoms own mI C names, a.before args U = true
set_option maxHeartbeats 1000000 in
theorem sd_Rthr {Q : ab_Q} {own : String} {Fa : State → Prop} (hFm : ∀ s U, Fa s → s.WarmedH U.vm → (∀ q, q < base → U.heap[q]? = s.heap[q]?) → Fa U) (hFs : Fa s) (hFK : ∀ U, Fa U → va_K D (ab_cl G) tys U)
    (hx : p.tables.exec = Jvm.exec) (htr : e.platform.stackTraces = false) (hb : c.code = cc) (hml : c.maxLocals = ab_n G j) (hT : sd_T G j cc) (hown : s.vm.findClass own = some m.cls) (hlk : meth.locks = false)
    (hbs : ∀ i, i < 1000000 → ad i = base + i) (hcap : (ab_cap G).1 ≤ 1000000) (hsz : s.heap.size = base + h0.length) (hRc : (ab_cap G).1 ≤ R.cells + h0.length) (hRs : (ab_cap G).2 ≤ R.slots + ab_wt G h0) (hRf : 8 ≤ R.frames) (hRl : 400 ≤ R.locals)
    (hL : ∀ U, Fa U → ∀ pc idx ci k mI, ab_f G j pc = some (.new idx) → ab_lc G j idx = some ci → ab_df G ci = none → ab_f G j (pc + 4) = some (.ldc k) → ab_f G j (pc + 6) = some (.invokespecial mI) → ab_lm G j mI = some 1000004 → sd_Lx G args U own idx ci k mI)
    (hno : ∀ pc, ab_f G j pc = some .athrow → ∀ x ∈ c.exceptionTable.toList, covers x pc = false) :
    ab_Rthr G j Q (sd_P G D ad dA (fun a => base ≤ a) p l e R s m args below meth c j h0 (sd_E G D ad dA base below s h0 Q)) := by
  intro pc ls st h idx ci k mI hf hlc hdf f1 f2 f3 f4 f5 hc1 hc2 hst hQ H locs cells slots lsM hP hS hl h1 h2 h3 T hTH X
  have hz := X.heapSize
  rw [hTH] at hz
  have hz0 : base ≤ H.size := by have := hS.1; omega
  have hz1 := sd_low hbs (by omega) hP hz0
  have hHz : H.size = base + h.length := by omega
  obtain ⟨g₀, hfr⟩ := X.frames_eq
  have hcur : T.cur < T.threads.size := State.cur_lt_of_frames hfr
  have X0 := sd_rebase X (by omega) (by omega)
  generalize hs0 : T.setFrames (.invoking m args :: below) = s0 at X0
  have hvm0 : s0.vm = T.vm := by rw [← hs0]; rfl
  have hh0 : s0.heap = T.heap := by rw [← hs0]; rfl
  have hF0 : Fa s0 := hFm s s0 hFs (by rw [hvm0]; exact X.warmed) (fun q hq => by rw [hh0, hTH]; exact hS.2.1 q (by omega) (by show ¬ base ≤ q; omega))
  obtain ⟨C, T0, names, tx, q, hcl, hfit, hnf, hnl, hw6, hlink, hins, hini, hstr, hat⟩ := hL s0 hF0 pc idx ci k mI hf hlc hdf f2 f3 f4
  have hown0 : s0.vm.findClass own = some m.cls := by rw [hvm0, X.warmed.alike.findClass]; exact hown
  have hK0 := hFK s0 hF0
  have hcC : s0.vm.findClass C = some (D.1 ci) := (hK0.1 ci _ hcl).2.1
  have hw : W p l e { frames := R.frames, cells := R.cells - cells, slots := R.slots - slots, locals := R.locals } s0 m args below meth c T.heap [] 0 0
      (fun t => t.status = .running ∧ Ended t below (.threw T.heap.size) ∧ s0.WarmedH t.vm ∧ s0.sameButNew ({ t with vm := s0.vm } : State) [] 1 6 ∧ ∃ ce, t.heap[T.heap.size]? = some ce ∧ s0.vm.findClass C = some ce.cls ∧ ce.vm = .none) (F0 m pc lsM (st.map (sd_v ad))) := by
    refine W.newcK hx hb hown0 hlink hins hini (g := F0 m pc lsM (st.map (sd_v ad))) rfl (hT.at hf rfl) (by show 0 + 1 ≤ R.cells - cells; omega) (by show 0 + 6 ≤ R.slots - slots; omega) hcC rfl (fun H1 kC hkC e1 z1 o1 => ?_)
    refine lv_dup hx hb (pc := pc + 3) (hT.at f1 rfl) rfl ?_
    refine va_ldcS hx hb (pc := pc + 4) hown0 hstr (hT.at f2 rfl) ?_
    intro T2 hT2 X2
    have hst2 : 2 * (F0 m (pc + 6) lsM (.ref q :: .ref T.heap.size :: .ref T.heap.size :: st.map (sd_v ad))).monitorRoom + ((Value.ref T.heap.size :: st.map (sd_v ad)).map fun v => v.category).sum + (13 * (names.length + 1) + 42) ≤ R.locals := by
      rw [List.map_cons, List.sum_cons, sd_sum]
      show 2 * 0 + (1 + _) + _ ≤ _
      omega
    obtain ⟨U, s1, s2, s3, s4, s5, ce, s6, s7⟩ := X2.ctorThrowS hx htr hown0 hfit hnf hat (fun x hx => by cases hx) hcC hkC (by rw [hT2]; exact e1) (by rw [hh0]; exact Nat.le_refl _) (msg := .ref q) rfl (g := F0 m (pc + 6) lsM (.ref q :: .ref T.heap.size :: .ref T.heap.size :: st.map (sd_v ad))) rfl (by rw [hml]; exact hl.1) rfl rfl rfl (by rw [hb]; exact hT.at f3 rfl) (by rw [hb]; exact hT.at f5 rfl) (hno (pc + 9) f5) (by show names.length + 3 < R.frames; omega) hst2 hlk
    exact ⟨U, s1, s2, s3, s4, s5, ce, s6, s7.cls, s7.vm⟩
  obtain ⟨t, st1, s2, s3, s4, s5, ce, s6, s7, s8⟩ := hw T rfl X0
  have hkeep : ∀ q, q < T.heap.size → t.heap[q]? = T.heap[q]? := fun q hq => by
    have hc0 : s0.heap[q]? = some (T.heap[q]'hq) := by rw [hh0]; exact Array.getElem?_eq_getElem hq
    have h5 := s5.old_cell hc0
    rw [Array.getElem?_eq_getElem hq]
    exact h5
  have hadl : ad h.length = T.heap.size := by rw [hbs _ (by omega), hTH, hHz]
  have hsame : T.sameButNew ({ t with vm := T.vm } : State) [] 1 6 := by
    obtain ⟨q1, q2⟩ := s5
    rw [hvm0] at q1
    refine ⟨?_, ?_⟩
    · rw [← hs0, State.setFrames_setFrames] at q1
      exact q1
    · rw [hvm0, hh0] at q2
      have e9 : s0.slotsUsed = T.slotsUsed := by rw [← hs0]; rfl
      rw [e9] at q2
      exact q2
  have hall := X.same.trans (hsame.setVm s.vm)
  rw [List.append_nil] at hall
  have hgr : T.heap.size ≤ t.heap.size := hsame.2.1
  refine ⟨t, st1, .inr h.length, h ++ [.inr (ci, [])], locs, cells + 1, slots + 6, hQ, s2, by show Ended t below (.threw (ad h.length)); rw [hadl]; exact s3, State.WarmedH.trans X.warmed (by rw [← hs0] at s4; exact s4), hall, hS.2.2, ?_, ?_, by simp; omega, by rw [sd_wt_push]; show _ = _ + ab_wc G ci; omega, by simp; omega, by rw [sd_wt_push]; show _ + ab_wc G ci ≤ _; omega⟩
  · refine ⟨by have := hS.1; rw [hTH] at hgr; omega, fun q hq hA => ?_⟩
    rw [hkeep q (by rw [hTH]; have := hS.1; omega), hTH]
    exact hS.2.1 q hq hA
  · rw [← sd_w_push]
    have hP2 : va_P D (ab_cl G) (sd_w ad dA h) t.heap := hP.kept (fun k x hx => by rw [hkeep x.1 (by rw [hTH]; exact (hP k x hx).lt), hTH])
    refine hP2.app (fun k x hx => ?_)
    have hz : k < 1 := (List.getElem?_eq_some_iff.mp hx).1
    rw [show k = 0 by omega] at hx
    cases hx
    refine ⟨_, hcl, ce, ?_, ?_, s8, fun k hk => absurd hk (Nat.not_lt_zero k)⟩
    · show t.heap[ad h.length]? = some ce
      rw [hadl]
      exact s6
    · exact Option.some.inj (s7.symm.trans hcC)
end SdT
