/-! OURS. Soundness of the call rule. -/
theorem sd_low {D : va_G} {cl : List vw_C} {ad : Nat → Nat} {dA : Nat → ClassId} {base : Nat} {h : ab_H} {H : Heap} (hbs : ∀ i, i < 1000000 → ad i = base + i) (hl : h.length ≤ 1000000) (hP : va_P D cl (sd_w ad dA h) H) (hb : base ≤ H.size) : base + h.length ≤ H.size := by
  by_cases h0 : h.length = 0
  · omega
  · have hi : h.length - 1 < h.length := by omega
    have hq := sd_w_at (ad := ad) (dA := dA) (List.getElem?_eq_getElem hi)
    have h1 : ad (h.length - 1) < H.size := (hP _ _ hq).lt
    rw [hbs _ (by omega)] at h1
    omega
/-- a method's place in the tables -/
def sd_Mt (G : ab_G) (yn : Nat → MethodName) (cd : Nat → ByteArray) (hd : Nat → List (Nat × Nat × Nat × Nat)) (s : State) (jj : Nat) : Prop := ∃ (mk : MethodId) (methk : Method) (ck : Code), s.methodNamed? (yn jj) = some mk ∧ s.vm.method? mk = some methk ∧ methk.code = some ck ∧ ck.code = cd jj ∧ ck.maxLocals = ab_n G jj ∧ methk.sig.returnType = ab_rt G jj ∧ methk.locks = false ∧ ck.exceptionTable.toList = tableOf (hd jj) ∧ parseMethodDescriptor (yn jj).desc = some methk.sig ∧ (methk.sig.parameters.length + (match ab_rc G jj with | none => 0 | some _ => 1) = ab_na G jj)
/-- calls of depth d are sound -/
def sd_SE (G : ab_G) (D : va_G) (ad : Nat → Nat) (dA : Nat → ClassId) (base : Nat) (yn : Nat → MethodName) (p : Program) (l : Launch) (e : Env) (Fa : State → Prop) (nM d : Nat) : Prop :=
  ∀ (j : Nat) (as : List Value) (h : ab_H) (Q : ab_Q), j < nM → ab_X G d j as h Q → ∀ (s : State) (m : MethodId) (args : Array Value) (below : List Frame) (meth : Method) (c : Code) (T : State) (R : Room), Stand p l e R s m args below meth c T [] 0 0 → T.heap = s.heap → args = (as.map (sd_v ad)).toArray → s.methodNamed? (yn j) = some m → Fa s → s.heap.size = base + h.length → va_P D (ab_cl G) (sd_w ad dA h) s.heap → (h.length ≤ (ab_cap G).1 ∧ ab_wt G h ≤ (ab_cap G).2) → (ab_cap G).1 ≤ R.cells + h.length → (ab_cap G).2 ≤ R.slots + ab_wt G h → d + 8 ≤ R.frames → 70 * d + 400 ≤ R.locals → (ab_in as).length ≤ ab_n G j →
    ∃ t, Steps p.tables e below (T.setTop (entryFrame m args (ab_n G j))) t ∧ sd_E G D ad dA base below s h Q t
section SdJ
variable {G : ab_G} {D : va_G} {ad : Nat → Nat} {dA : Nat → ClassId} {base : Nat} {p : Program} {l : Launch} {e : Env} {R : Room} {s : State} {m : MethodId} {args : Array Value} {below : List Frame} {meth : Method} {c : Code} {j : Nat} {h0 : ab_H} {cc : ByteArray} {tys : List (ClassId × FieldType)}
set_option maxRecDepth 20000 in
set_option maxHeartbeats 1000000 in
theorem sd_Rcall {Q : ab_Q} {yn : Nat → MethodName} {cd : Nat → ByteArray} {hd : Nat → List (Nat × Nat × Nat × Nat)} {Fa : State → Prop} {nM d : Nat} (hSE : sd_SE G D ad dA base yn p l e Fa nM d)
    (hFm : ∀ s U, Fa s → s.WarmedH U.vm → (∀ q, q < base → U.heap[q]? = s.heap[q]?) → Fa U) (hFs : Fa s) (hFt : ∀ jj, jj < nM → sd_Mt G yn cd hd s jj)
    (hx : p.tables.exec = Jvm.exec) (hb : c.code = cc) (hml : c.maxLocals = ab_n G j) (hT : sd_T G j cc) (hown : s.vm.findClass (yn j).cls = some m.cls) (hlk : meth.locks = false) (hK : va_K D (ab_cl G) tys s)
    (hbs : ∀ i, i < 1000000 → ad i = base + i) (hcap : (ab_cap G).1 ≤ 1000000) (hsz : s.heap.size = base + h0.length) (hRc : (ab_cap G).1 ≤ R.cells + h0.length) (hRs : (ab_cap G).2 ≤ R.slots + ab_wt G h0) (hRf : d + 1 + 8 ≤ R.frames) (hRl : 70 * (d + 1) + 400 ≤ R.locals)
    (hnl : ∀ jj, ab_n G jj ≤ 40) (hpn : ∀ jj, jj < nM → plainName (yn jj).cls = true ∧ (yn jj).cls ≠ "java/lang/invoke/MethodHandle" ∧ (yn jj).cls ≠ "java/lang/invoke/VarHandle")
    (hLm : ∀ pc i idx jj, ab_f G j pc = some i → ab_iv i = some idx → ab_lm G j idx = some jj → jj < 1000000 → jj < nM ∧ sd_Lm args s (yn j).cls (yn jj) i ∧ (∀ idx, i = .invokestatic idx → ab_rc G jj = none) ∧ ((∀ idx, i ≠ .invokestatic idx) → ∃ ci r, ab_rc G jj = some ci ∧ (ab_cl G)[ci]? = some r ∧ r.1 = (yn jj).cls))
    (hct0 : ∀ pc ci, ab_ct G j pc ci = some 0 → ∀ x ∈ c.exceptionTable.toList, covers x pc = false)
    (hct : ∀ pc ci t, ab_ct G j pc ci = some (t + 1) → ∀ (T' : State) (locs : List Loc) (cells slots : Nat) (g : JFrame) (a : Addr) (cell : Cell) (r : vw_C), Stand p l e R s m args below meth c T' locs cells slots → g.method = m → g.pc = pc → T'.heap[a]? = some cell → cell.vm.isStatics = false → (ab_cl G)[ci]? = some r → s.vm.findClass r.1 = some cell.cls →
      ∃ vm', Stand p l e R s m args below meth c (T'.setVm vm') locs cells slots ∧ ∀ target, Steps p.tables e below ((T'.setVm vm').setTop { g with pc := t + 1, stack := [.ref a] }) target → Steps p.tables e below ((T'.setTop g).pushFrame (.throwing a)) target) :
    ab_Rcall G (ab_X G d) j Q (sd_P G D ad dA (fun a => base ≤ a) p l e R s m args below meth c j h0 (sd_E G D ad dA base below s h0 Q)) := by
  intro pc ls st h i idx jj as hf hiv hlm hjj hna hinl hrv hst hE H locs cells slots lsM hP hS hl h1 h2 h3 T hTH X
  have hz := X.heapSize
  rw [hTH] at hz
  have hz0 : base ≤ H.size := by have := hS.1; omega
  have hz1 := sd_low hbs (by omega) hP hz0
  have hHz : H.size = base + h.length := by omega
  obtain ⟨hjn, hL, hsta, hvir⟩ := hLm pc i idx jj hf hiv hlm hjj
  obtain ⟨mk, methk, ck, n1, n2, n3, n4, n5, n6, n7, n8, n9, n10⟩ := hFt jj hjn
  obtain ⟨hpn1, hy⟩ := hpn jj hjn
  have hsw : ab_sw i = false := by cases i <;> first | rfl | cases hiv
  have hlen3 : ab_len i = 3 := by cases i <;> first | rfl | cases hiv
  have hdg : decode c.code pc = .ok (i, 3) := by rw [hb, ← hlen3]; exact hT.at hf hsw
  have has : sd_As T.heap s (yn jj) methk.sig.parameters.length (as.map (sd_v ad)) i := by
    have virt : (∀ idx, i ≠ .invokestatic idx) → ∃ (b : Addr) (cell : Cell) (r : List Value), as.map (sd_v ad) = .ref b :: r ∧ T.heap[b]? = some cell ∧ cell.vm.isStatics = false ∧ s.vm.findClass (yn jj).cls = some cell.cls ∧ r.length = methk.sig.parameters.length := by
      intro hno
      obtain ⟨ci, r, hrc, hcl, hr1⟩ := hvir hno
      unfold ab_rv at hrv
      rw [hrc] at hrv n10
      obtain ⟨b, fs, rr, rfl, hb2⟩ := hrv
      obtain ⟨cell, g1, g2, g3⟩ := va_recv hK hP hcl (sd_w_at (ad := ad) (dA := dA) hb2)
      refine ⟨ad b, cell, rr.map (sd_v ad), rfl, by rw [hTH]; exact g1, g2, by rw [← hr1]; exact g3, ?_⟩
      simp only [List.length_cons] at hna
      rw [List.length_map]
      simp only at n10
      omega
    cases i with
    | invokestatic k =>
      have hrc := hsta k rfl
      rw [hrc] at n10
      show (as.map (sd_v ad)).length = methk.sig.parameters.length
      rw [List.length_map, hna]
      exact n10.symm
    | invokevirtual k => exact virt (fun q h => by cases h)
    | invokespecial k => exact virt (fun q h => by cases h)
    | _ => cases hiv
  obtain ⟨vm', X₁, hstep⟩ := sd_go X hx hown hL hy n1 n2 n9 (g := F0 m pc lsM ((as.reverse ++ st).map (sd_v ad))) rfl hdg (as := as.map (sd_v ad)) (rest := st.map (sd_v ad)) (by rw [List.map_append, List.map_reverse]) has
  have hsm : (T.setVm vm').heap = H := hTH
  have hal := X₁.warmed
  have hmk1 : (T.setVm vm').vm.method? mk = some methk := by rw [hal.alike.method?]; exact n2
  have hpk : (T.setVm vm').plainMethod mk := by
    refine State.plainMethod.of_name ?_
    intro k hk
    obtain ⟨k', hk', hnm⟩ := className_of_methodNamed (X₁.named n1)
    cases hk.symm.trans hk'
    rw [hnm]
    exact hpn1
  have hnk := hnl jj
  have hsum : ((st.map (sd_v ad)).map fun v => v.category).sum ≤ 16 := by rw [sd_sum]; exact hst
  have hloc : 2 * 0 + ((st.map (sd_v ad)).map fun v => v.category).sum + (ck.maxLocals + 11) + (70 * d + 400) ≤ R.locals := by
    rw [n5]
    clear hP hS hl hE hstep hLm hct hct0 hFt hpn
    omega
  obtain ⟨t, st', q⟩ := sd_inv (h := h) (Q' := ab_k G j Q (sd_P G D ad dA (fun a => base ≤ a) p l e R s m args below meth c j h0 (sd_E G D ad dA base below s h0 Q)) pc ls st) (Qe := sd_E G D ad dA base below s h0 Q) (G := G) (D := D) (ad := ad) (dA := dA) (base := base) X₁ (g := F0 m pc lsM (st.map (sd_v ad))) rfl (by rw [hml]; exact hl.1) hdg (as.map (sd_v ad)).toArray
    (R' := { frames := d + 8, cells := (ab_cap G).1 - h.length, slots := (ab_cap G).2 - ab_wt G h, locals := 70 * d + 400 }) hmk1 n3 n7 hpk (by show d + 8 + 1 ≤ _; omega) hloc (by show cells + ((ab_cap G).1 - h.length) ≤ _; omega) (by show slots + ((ab_cap G).2 - ab_wt G h) ≤ _; omega)
    (fun T' Y hTh => by
      have hFu : Fa ((T.setVm vm').calling (F0 m pc lsM (st.map (sd_v ad))) mk (as.map (sd_v ad)).toArray) := hFm s _ hFs hal (fun q hq => by
        show T.heap[q]? = s.heap[q]?
        rw [hTH]
        exact hS.2.1 q (by omega) (by show ¬ base ≤ q; omega))
      have hr := hSE jj as h _ hjn hE ((T.setVm vm').calling (F0 m pc lsM (st.map (sd_v ad))) mk (as.map (sd_v ad)).toArray) mk _ _ methk ck T' _ Y hTh rfl (X₁.named n1) hFu (by show T.heap.size = _; rw [hTH]; exact hHz) (by show va_P D (ab_cl G) (sd_w ad dA h) T.heap; rw [hTH]; exact hP) h3 (by show (ab_cap G).1 ≤ (ab_cap G).1 - h.length + h.length; omega) (by show (ab_cap G).2 ≤ (ab_cap G).2 - ab_wt G h + ab_wt G h; omega) (Nat.le_refl _) (Nat.le_refl _) hinl
      rw [← n5] at hr
      exact hr)
    (fun v h' T' hQ hB => by
      obtain ⟨L, k, n, X', hL2, hP2, z1, z2, e1, e2, e3⟩ := hB
      have hS2 : va_S (fun a => base ≤ a) s.heap T'.heap (locs ++ L) := ⟨Nat.le_trans hS.1 (by rw [← hsm]; exact z1), fun q hq hA => (z2 q (by rw [hsm]; have := hS.1; omega) hA).trans (by rw [hsm]; exact hS.2.1 q hq hA), fun q hq => by
        rcases List.mem_append.mp hq with hq | hq
        · exact hS.2.2 q hq
        · exact hL2 q hq⟩
      have hw := hQ T'.heap (locs ++ L) (cells + k) (slots + n) lsM hP2 hS2 hl (by omega) (by omega) e3 T' rfl X'
      have e4 : (v.toList ++ st).map (sd_v ad) = (v.map (sd_v ad)).toList ++ st.map (sd_v ad) := by cases v <;> simp
      rw [e4] at hw
      exact hw)
    (fun x h' T' hQ hB => by
      obtain ⟨L, k, n, X', hL2, hP2, z1, z2, e1, e2, e3⟩ := hB
      have hS2 : va_S (fun a => base ≤ a) s.heap T'.heap (locs ++ L) := ⟨Nat.le_trans hS.1 (by rw [← hsm]; exact z1), fun q hq hA => (z2 q (by rw [hsm]; have := hS.1; omega) hA).trans (by rw [hsm]; exact hS.2.1 q hq hA), fun q hq => by
        rcases List.mem_append.mp hq with hq | hq
        · exact hS.2.2 q hq
        · exact hL2 q hq⟩
      obtain ⟨ci, fs, hxo, hm⟩ := hQ
      cases hc : ab_ct G j pc ci with
      | none => rw [hc] at hm; exact hm.elim
      | some t =>
        rw [hc] at hm
        cases t with
        | zero =>
          obtain ⟨s1, s2, s3, s4, s5⟩ := X'.leaveThrown (ad x) (g := F0 m pc lsM (st.map (sd_v ad))) rfl rfl rfl (hct0 pc ci hc) hlk
          exact ⟨_, s1, .inr x, h', locs ++ L, cells + k, slots + n, hm, s2, s3, s4, s5, hS2.2.2, hS2.F (t := T'.setFrames (.throwing (ad x) :: below)) rfl, hP2, by omega, by omega, e3⟩
        | succ t =>
          obtain ⟨r, hcl, cell, g1, g2, g3, -⟩ := hP2 x _ (sd_w_at (ad := ad) (dA := dA) hxo)
          obtain ⟨vm2, X2, hst2⟩ := hct pc ci t hc T' (locs ++ L) (cells + k) (slots + n) (F0 m pc lsM (st.map (sd_v ad))) (ad x) cell r X' rfl rfl g1 (by rw [g3]; rfl) hcl (by rw [g2]; exact (hK.1 ci r hcl).2.1)
          obtain ⟨t2, st2, q2⟩ := hm T'.heap (locs ++ L) (cells + k) (slots + n) lsM hP2 hS2 hl (by omega) (by omega) e3 (T'.setVm vm2) rfl X2
          exact ⟨t2, hst2 t2 st2, q2⟩)
  exact ⟨t, hstep t st', q⟩
end SdJ
