/-! OURS. Soundness of the rules of new objects and arrays, of the JDK's own members, and of returns. -/
def sd_Lc (G : ab_G) (Ts : List Cond) (args : Array Value) (s : State) (own : String) (ad : Nat → Nat) (idx ci : Nat) (fs : List Value) : Prop := ∃ (C : String) (T : u_T) (N : Nat), (ab_cl G)[ci]? = some (C, T, N) ∧ (∀ w ∈ u_ws C T N, w ∈ Ts) ∧ (Cond.classLink own idx C).before args s = true ∧ (Cond.instantiable C N).before args s = true ∧ (Cond.initialized C).before args s = true ∧ fs.length = N ∧ ab_wc G ci = N ∧ (∀ k, k < N → defaultValue ((ab_tf G ci k).getD .int) = vp_V fs k) ∧ fs.map (sd_v ad) = fs
theorem sd_sum (ad : Nat → Nat) (st : List Value) : ((st.map (sd_v ad)).map fun v => v.category).sum = (st.map fun v => v.category).sum := by
  rw [List.map_map]
  congr 1
  apply List.map_congr_left
  intro v _
  exact sd_v_cat ad v
theorem sd_mono {p : Program} {l : Launch} {e : Env} {R : Room} {s : State} {m : MethodId} {args : Array Value} {below : List Frame} {meth : Method} {c : Code} {H : Heap} {locs : List Loc} {cells slots : Nat} {Q Q' : State → Prop} {g : JFrame} (k : W p l e R s m args below meth c H locs cells slots Q g) (hq : ∀ t, Q t → Q' t) : W p l e R s m args below meth c H locs cells slots Q' g := by
  intro T hT X
  obtain ⟨t, a, b⟩ := k T hT X
  exact ⟨t, a, hq t b⟩
def sd_ou (ad : Nat → Nat) : ab_R → Outcome
  | .inl v => .returned (v.map (sd_v ad))
  | .inr x => .threw (ad x)
/-- how a method has ended -/
def sd_E (G : ab_G) (D : va_G) (ad : Nat → Nat) (dA : Nat → ClassId) (base : Nat) (below : List Frame) (s : State) (h0 : ab_H) (Q : ab_Q) (t : State) : Prop :=
  ∃ (r : ab_R) (h : ab_H) (L : List Loc) (k n : Nat), Q r h ∧ t.status = .running ∧ Ended t below (sd_ou ad r) ∧ s.WarmedH t.vm ∧ s.sameButNew ({ t with vm := s.vm } : State) L k n ∧ (∀ q ∈ L, base ≤ q.base) ∧ va_F (fun a => base ≤ a) s t ∧ va_P D (ab_cl G) (sd_w ad dA h) t.heap ∧ k + h0.length = h.length ∧ n + ab_wt G h0 = ab_wt G h ∧ h.length ≤ (ab_cap G).1 ∧ ab_wt G h ≤ (ab_cap G).2
section SdD
variable {G : ab_G} {D : va_G} {ad : Nat → Nat} {dA : Nat → ClassId} {base : Nat} {p : Program} {l : Launch} {e : Env} {R : Room} {s : State} {m : MethodId} {args : Array Value} {below : List Frame} {meth : Method} {c : Code} {j : Nat} {h0 : ab_H} {Qe : State → Prop} {cc : ByteArray} {Ts : List Cond} {own : String} {tys : List (ClassId × FieldType)}
theorem sd_inj (hbs : ∀ i, i < 1000000 → ad i = base + i) : ∀ a b, a < 1000000 → b < 1000000 → ad a = ad b → a = b := by
  intro a b ha hb h
  rw [hbs a ha, hbs b hb] at h
  omega
theorem sd_ge (hbs : ∀ i, i < 1000000 → ad i = base + i) : ∀ a, a < 1000000 → base ≤ ad a := by
  intro a ha
  rw [hbs a ha]
  omega
theorem sd_Rnew (hx : p.tables.exec = Jvm.exec) (hb : c.code = cc) (hT : sd_T G j cc) (hts : ∀ w ∈ Ts, w.before args s = true) (hown : s.vm.findClass own = some m.cls) (hK : va_K D (ab_cl G) tys s) (hCl : sd_Cl G) (hbs : ∀ i, i < 1000000 → ad i = base + i) (hcap : (ab_cap G).1 ≤ 1000000)
    (hsz : s.heap.size = base + h0.length) (hRc : (ab_cap G).1 ≤ R.cells + h0.length) (hRs : (ab_cap G).2 ≤ R.slots + ab_wt G h0) (hL : ∀ idx ci fs, ab_lc G j idx = some ci → ab_df G ci = some fs → sd_Lc G Ts args s own ad idx ci fs) : ab_Rnew G j (sd_P G D ad dA (fun a => base ≤ a) p l e R s m args below meth c j h0 Qe) := by
  intro pc ls st h idx ci fs hf hi hd hc1 hc2 hk H locs cells slots lsM hP hS hl h1 h2 h3
  obtain ⟨C, T, N, hc, hin, hcl, hins, hini, hlen, hwc, hdf, hmap⟩ := hL idx ci fs hi hd
  have hty0 : ∀ k, k < N → parseFieldDescriptor (T k).2.2.1 = some ((ab_tf G ci k).getD .int) := fun k hk => by
    obtain ⟨t, e1, e2⟩ := (hCl ci C T N hc).1 k hk
    rw [e1, e2]; rfl
  refine va_new hx hb hts hin (fun k => (ab_tf G ci k).getD .int) hty0 hown hcl hins hini hK hP (sd_D (G := G) (dA := dA) (sd_inj hbs) (sd_ge hbs) hcap h3.1) hS (fun q hq => by show base ≤ q; omega) hc hdf (by omega) (by omega) (hT.at hf rfl) (fun q H1 hP1 hD1 hS1 => ?_)
  refine sd_sz (fun hz => ?_)
  have hq : q = ad h.length := sd_next hbs (by omega) hP1 hD1 (by omega)
  subst hq
  have hpush : sd_w ad dA h ++ [(ad h.length, .inr (ci, fs))] = sd_w ad dA (h ++ [.inr (ci, fs)]) := by
    rw [← sd_w_push]
    simp [sd_o, hmap]
  rw [hpush] at hP1
  exact hk H1 locs (cells + 1) (slots + N) lsM hP1 hS1 hl (by simp; omega) (by rw [sd_wt_push]; show _ = _ + ab_wc G ci; omega) ⟨by simp; omega, by rw [sd_wt_push]; show _ + ab_wc G ci ≤ _; omega⟩
theorem sd_Rna (hx : p.tables.exec = Jvm.exec) (hb : c.code = cc) (hT : sd_T G j cc) (hK : va_K D (ab_cl G) tys s) (hty : ∀ t ty, ab_at G t = some ty → tys[t]? = some (dA t, ty)) (hbs : ∀ i, i < 1000000 → ad i = base + i) (hcap : (ab_cap G).1 ≤ 1000000)
    (hsz : s.heap.size = base + h0.length) (hRc : (ab_cap G).1 ≤ R.cells + h0.length) (hRs : (ab_cap G).2 ≤ R.slots + ab_wt G h0) (hL : ∀ t ty x0, ab_at G t = some ty → ab_dv ty = some x0 → (Cond.arrayClass ty).before args s = true) : ab_Rna G j (sd_P G D ad dA (fun a => base ≤ a) p l e R s m args below meth c j h0 Qe) := by
  intro pc ls st h aty t ty x0 n N hf ht hto hdv hn hN hN2 hc1 hc2 hk H locs cells slots lsM hP hS hl h1 h2 h3
  have harr := hL t ty x0 ht hdv
  have hcell : ∀ cA : ClassId, vp_cell cA (N, x0) = arrV cA N (fun _ => defaultValue ty) := by
    intro cA
    cases ty <;> first | (simp [ab_dv] at hdv; done) | (cases hdv; rfl)
  have hcb : componentBytes ty ≤ 8 := by
    cases ty <;> first | (simp [ab_dv] at hdv; done) | decide
  have hsx : sd_x ad (N, x0) = (N, x0) := by
    cases ty <;> first | (simp [ab_dv] at hdv; done) | (cases hdv; rfl)
  have hbytes : N * componentBytes ty ≤ 536870912 := by
    have h8 : N * componentBytes ty ≤ 100000 * 8 := Nat.mul_le_mul hN2 hcb
    omega
  refine va_newa hx hb (by rw [hto]; exact harr) hto hK hP (sd_D (G := G) (dA := dA) (sd_inj hbs) (sd_ge hbs) hcap h3.1) hS (fun q hq => by show base ≤ q; omega) hcell hn hN hbytes (by omega) (by omega) (hT.at hf rfl) (fun q cA H1 hK1 hP1 hD1 hS1 => ?_)
  have hcA : cA = dA t := by
    have g1 := (hK1.2 tys.length (cA, ty) (by rw [List.getElem?_append_right (Nat.le_refl _)]; simp)).2
    have g2 := (hK.2 t _ (hty t ty ht)).2
    cases ty <;> first | (simp [ab_dv] at hdv; done) | exact Option.some.inj (g1.symm.trans g2)
  subst hcA
  refine sd_sz (fun hz => ?_)
  have hq : q = ad h.length := sd_next hbs (by omega) hP1 hD1 (by omega)
  subst hq
  have hpush : sd_w ad dA h ++ [(ad h.length, .inl (dA t, N, x0))] = sd_w ad dA (h ++ [.inl (t, N, x0)]) := by
    rw [← sd_w_push]
    simp only [sd_o, hsx]
  rw [hpush] at hP1
  exact hk H1 locs (cells + 1) (slots + N) lsM hP1 hS1 hl (by simp; omega) (by rw [sd_wt_push]; show _ = _ + N; omega) ⟨by simp; omega, by rw [sd_wt_push]; show _ + N ≤ _; omega⟩
theorem sd_Rnq (hx : p.tables.exec = Jvm.exec) (hb : c.code = cc) (hT : sd_T G j cc) (hown : s.vm.findClass own = some m.cls) (hK : va_K D (ab_cl G) tys s) (hty : ∀ t ty, ab_at G t = some ty → tys[t]? = some (dA t, ty)) (hbs : ∀ i, i < 1000000 → ad i = base + i) (hcap : (ab_cap G).1 ≤ 1000000)
    (hsz : s.heap.size = base + h0.length) (hRc : (ab_cap G).1 ≤ R.cells + h0.length) (hRs : (ab_cap G).2 ≤ R.slots + ab_wt G h0) (hL : ∀ pc idx ci r, ab_f G j pc = some (.anewarray idx) → ab_lc G j idx = some ci → (ab_cl G)[ci]? = some r → (Cond.classLink own idx r.1).before args s = true ∧ va_AO r.1 s) : ab_Rnq G j (sd_P G D ad dA (fun a => base ≤ a) p l e R s m args below meth c j h0 Qe) := by
  intro pc ls st h idx t ci r n N hf hi hr ht hn hN hN2 hc1 hc2 hk H locs cells slots lsM hP hS hl h1 h2 h3
  obtain ⟨g1, g2⟩ := hL pc idx ci r hf hi hr
  refine va_newq hx hb hown g1 g2 hK hP (sd_D (G := G) (dA := dA) (sd_inj hbs) (sd_ge hbs) hcap h3.1) hS (fun q hq => by show base ≤ q; omega) hn hN (by omega) (by omega) (by omega) (hT.at hf rfl) (fun q cA H1 hK1 hP1 hD1 hS1 => ?_)
  have hcA : cA = dA t := by
    obtain ⟨_, _, _, _, _, g3⟩ := (hK1.2 tys.length (cA, .object r.1) (by rw [List.getElem?_append_right (Nat.le_refl _)]; simp)).2
    obtain ⟨_, _, _, _, _, g4⟩ := (hK.2 t _ (hty t _ ht)).2
    exact Option.some.inj (g3.symm.trans g4)
  subst hcA
  refine sd_sz (fun hz => ?_)
  have hq : q = ad h.length := sd_next hbs (by omega) hP1 hD1 (by omega)
  subst hq
  have hpush : sd_w ad dA h ++ [(ad h.length, .inl (dA t, N, .inr (.inr (.inr (.inr (fun _ => none))))))] = sd_w ad dA (h ++ [.inl (t, N, .inr (.inr (.inr (.inr (fun _ => none)))))]) := by
    rw [← sd_w_push]
    rfl
  rw [hpush] at hP1
  exact hk H1 locs (cells + 1) (slots + N) lsM hP1 hS1 hl (by simp; omega) (by rw [sd_wt_push]; show _ = _ + N; omega) ⟨by simp; omega, by rw [sd_wt_push]; show _ + N ≤ _; omega⟩
theorem sd_Rkl (hx : p.tables.exec = Jvm.exec) (hb : c.code = cc) (hT : sd_T G j cc) (hown : s.vm.findClass own = some m.cls) (hL : ∀ idx x, ab_kl G j idx = some x → (Cond.constantLong own idx x).before args s = true) : ab_Rkl G j (sd_P G D ad dA (fun a => base ≤ a) p l e R s m args below meth c j h0 Qe) := by
  intro pc ls st h idx x hf hi hk H locs cells slots lsM hP hS hl h1 h2 h3
  exact lv_ldc2 hx hb hown (hL idx x hi) (hT.at hf rfl) (hk H locs cells slots lsM hP hS hl h1 h2 h3)
theorem sd_Robj (hx : p.tables.exec = Jvm.exec) (hb : c.code = cc) (hml : c.maxLocals = ab_n G j) (hT : sd_T G j cc) (hown : s.vm.findClass own = some m.cls) (hF : 1 ≤ R.frames) (hLo : 300 ≤ R.locals)
    (hL : ∀ idx, ab_lm G j idx = some 1000000 → (Cond.methodLink own idx Lib.objectInit).before args s = true ∧ (Cond.instanceMethod Lib.objectInit).before args s = true ∧ (Cond.code Lib.objectInit ⟨#[0xb1]⟩ 1 none).before args s = true) : ab_Robj G j (sd_P G D ad dA (fun a => base ≤ a) p l e R s m args below meth c j h0 Qe) := by
  intro pc ls st h idx a hf hi hst hk H locs cells slots lsM hP hS hl h1 h2 h3
  obtain ⟨g1, g2, g3⟩ := hL idx hi
  refine W.objInit hx hb hown g1 g2 g3 (g := F0 m pc lsM (.ref (ad a) :: st.map (sd_v ad))) rfl (by rw [hml]; exact hl.1) rfl (hT.at hf rfl) hF (by rw [sd_sum]; show 2 * 0 + _ + 12 ≤ _; omega) (hk H locs cells slots lsM hP hS hl h1 h2 h3)
def sd_Lcp (args : Array Value) (s : State) (own : String) (idx : Nat) : Prop := (Cond.methodLink own idx arraycopyName).before args s = true ∧ (Cond.native arraycopyName).before args s = true ∧ (Cond.static arraycopyName).before args s = true ∧ (Cond.initialized "java/lang/System").before args s = true
theorem sd_ncw : nativeFrameWords "java/lang/System" "arraycopy" 5 ≤ 200 := by decide +kernel
theorem sd_Rcpi (hx : p.tables.exec = Jvm.exec) (hb : c.code = cc) (hml : c.maxLocals = ab_n G j) (hT : sd_T G j cc) (hown : s.vm.findClass own = some m.cls) (hK : va_K D (ab_cl G) tys s) (hty : ∀ t ty, ab_at G t = some ty → tys[t]? = some (dA t, ty)) (hbs : ∀ i, i < 1000000 → ad i = base + i) (hcap : (ab_cap G).1 ≤ 1000000) (hF : 1 ≤ R.frames) (hLo : 300 ≤ R.locals)
    (hL : ∀ idx, ab_lm G j idx = some 1000001 → sd_Lcp args s own idx) : ab_Rcpi G j (sd_P G D ad dA (fun a => base ≤ a) p l e R s m args below meth c j h0 Qe) := by
  intro pc ls st h idx t ty n0 n1 xs ys a b sp dp n hf hi ha hb2 ht hrk q1 q2 q3 q4 q5 q6 hst hk H locs cells slots lsM hP hS hl h1 h2 h3
  obtain ⟨g1, g2, g3, g4⟩ := hL idx hi
  have hnw := sd_ncw
  refine va_copyi hx hb (by rw [hml]; exact hl.1.symm) hown g1 g2 g3 g4 hK hP (sd_D (G := G) (dA := dA) (sd_inj hbs) (sd_ge hbs) hcap h3.1) hS a b t t (sd_w_at (ad := ad) (dA := dA) ha) (sd_w_at (ad := ad) (dA := dA) hb2) (hty t _ ht) (hty t _ ht) hrk q1 q2 q3 q4 q5 q6 hF (by rw [sd_sum]; omega) (hT.at hf rfl) (fun H1 locs1 hP1 _ hS1 => ?_)
  have e1 : (sd_w ad dA h).set b (ad b, .inl (dA t, n1, .inl (va_cpy xs ys sp.toNatClampNeg dp.toNatClampNeg n.toNatClampNeg))) = sd_w ad dA (h.set b (.inl (t, n1, .inl (va_cpy xs ys sp.toNatClampNeg dp.toNatClampNeg n.toNatClampNeg)))) := by rw [← sd_w_set]; rfl
  rw [e1] at hP1
  exact hk H1 locs1 cells slots lsM hP1 hS1 hl (by rw [List.length_set]; exact h1) (h2.trans (Eq.symm (sd_wt_set hb2 (by rfl)))) ⟨by rw [List.length_set]; exact h3.1, Nat.le_trans (Nat.le_of_eq (sd_wt_set hb2 (by rfl))) h3.2⟩
theorem sd_Rcpl (hx : p.tables.exec = Jvm.exec) (hb : c.code = cc) (hml : c.maxLocals = ab_n G j) (hT : sd_T G j cc) (hown : s.vm.findClass own = some m.cls) (hK : va_K D (ab_cl G) tys s) (hty : ∀ t ty, ab_at G t = some ty → tys[t]? = some (dA t, ty)) (hbs : ∀ i, i < 1000000 → ad i = base + i) (hcap : (ab_cap G).1 ≤ 1000000) (hF : 1 ≤ R.frames) (hLo : 300 ≤ R.locals)
    (hL : ∀ idx, ab_lm G j idx = some 1000001 → sd_Lcp args s own idx) : ab_Rcpl G j (sd_P G D ad dA (fun a => base ≤ a) p l e R s m args below meth c j h0 Qe) := by
  intro pc ls st h idx t n0 n1 xs ys a b sp dp n hf hi ha hb2 ht q1 q2 q3 q4 q5 hst hk H locs cells slots lsM hP hS hl h1 h2 h3
  obtain ⟨g1, g2, g3, g4⟩ := hL idx hi
  have hnw := sd_ncw
  refine va_copyl hx hb (by rw [hml]; exact hl.1.symm) hown g1 g2 g3 g4 hK hP (sd_D (G := G) (dA := dA) (sd_inj hbs) (sd_ge hbs) hcap h3.1) hS a b t t (sd_w_at (ad := ad) (dA := dA) ha) (sd_w_at (ad := ad) (dA := dA) hb2) (hty t _ ht) (hty t _ ht) (by rfl) q1 q2 q3 q4 q5 (fun _ _ => rfl) hF (by rw [sd_sum]; omega) (hT.at hf rfl) (fun H1 locs1 hP1 _ hS1 => ?_)
  have e1 : (sd_w ad dA h).set b (ad b, .inl (dA t, n1, .inr (.inl (va_cpy xs ys sp.toNatClampNeg dp.toNatClampNeg n.toNatClampNeg)))) = sd_w ad dA (h.set b (.inl (t, n1, .inr (.inl (va_cpy xs ys sp.toNatClampNeg dp.toNatClampNeg n.toNatClampNeg))))) := by rw [← sd_w_set]; rfl
  rw [e1] at hP1
  exact hk H1 locs1 cells slots lsM hP1 hS1 hl (by rw [List.length_set]; exact h1) (h2.trans (Eq.symm (sd_wt_set hb2 (by rfl)))) ⟨by rw [List.length_set]; exact h3.1, Nat.le_trans (Nat.le_of_eq (sd_wt_set hb2 (by rfl))) h3.2⟩
theorem sd_Rmax (hx : p.tables.exec = Jvm.exec) (hb : c.code = cc) (hml : c.maxLocals = ab_n G j) (hT : sd_T G j cc) (hown : s.vm.findClass own = some m.cls) (hF : 1 ≤ R.frames) (hLo : 300 ≤ R.locals) (hRc : (ab_cap G).1 ≤ R.cells + h0.length) (hRs : (ab_cap G).2 ≤ R.slots + ab_wt G h0)
    (hL : ∀ idx, ab_lm G j idx = some 1000002 → (Cond.methodLink own idx Lib.Math.max.name).before args s = true ∧ (Cond.static Lib.Math.max.name).before args s = true ∧ (Cond.initialized "java/lang/Math").before args s = true ∧ (Cond.code Lib.Math.max.name Lib.Math.max.code 2 (some .int)).before args s = true) : ab_Rmax G j (sd_P G D ad dA (fun a => base ≤ a) p l e R s m args below meth c j h0 Qe) := by
  intro pc ls st h idx x y hf hi hst hk H locs cells slots lsM hP hS hl h1 h2 h3
  obtain ⟨g1, g2, g3, g4⟩ := hL idx hi
  exact va_mmax hx hb (by rw [hml]; exact hl.1.symm) hown g1 g2 g3 g4 hF (by rw [sd_sum]; omega) (by omega) (by omega) (hT.at hf rfl) (hk H locs cells slots lsM hP hS hl h1 h2 h3)
theorem sd_Rmin (hx : p.tables.exec = Jvm.exec) (hb : c.code = cc) (hml : c.maxLocals = ab_n G j) (hT : sd_T G j cc) (hown : s.vm.findClass own = some m.cls) (hF : 1 ≤ R.frames) (hLo : 300 ≤ R.locals) (hRc : (ab_cap G).1 ≤ R.cells + h0.length) (hRs : (ab_cap G).2 ≤ R.slots + ab_wt G h0)
    (hL : ∀ idx, ab_lm G j idx = some 1000003 → (Cond.methodLink own idx Lib.Math.min.name).before args s = true ∧ (Cond.static Lib.Math.min.name).before args s = true ∧ (Cond.initialized "java/lang/Math").before args s = true ∧ (Cond.code Lib.Math.min.name Lib.Math.min.code 2 (some .int)).before args s = true) : ab_Rmin G j (sd_P G D ad dA (fun a => base ≤ a) p l e R s m args below meth c j h0 Qe) := by
  intro pc ls st h idx x y hf hi hst hk H locs cells slots lsM hP hS hl h1 h2 h3
  obtain ⟨g1, g2, g3, g4⟩ := hL idx hi
  exact va_mmin hx hb (by rw [hml]; exact hl.1.symm) hown g1 g2 g3 g4 hF (by rw [sd_sum]; omega) (by omega) (by omega) (hT.at hf rfl) (hk H locs cells slots lsM hP hS hl h1 h2 h3)
theorem sd_Rret {Q : ab_Q} (hx : p.tables.exec = Jvm.exec) (hb : c.code = cc) (hT : sd_T G j cc) (hr : meth.sig.returnType = ab_rt G j) (hlk : meth.locks = false) : ab_Rret G j Q (sd_P G D ad dA (fun a => base ≤ a) p l e R s m args below meth c j h0 (sd_E G D ad dA base below s h0 Q)) := by
  intro pc ls h i v ty hf hre hrt hn hQ H locs cells slots lsM hP hS hl h1 h2 h3
  rw [hrt] at hr
  have fin : ∀ t, MQ below (fun _ _ o t => o = .returned (some (sd_v ad v)) ∧ t.heap = H) args s cells slots (fun a => base ≤ a) t → sd_E G D ad dA base below s h0 Q t := by
    rintro t ⟨o, hrun, hend, ⟨rfl, hH⟩, L, ⟨-, hW, hsm⟩, hL⟩
    exact ⟨.inl (some v), h, L, cells, slots, hQ, hrun, hend, hW, hsm, hL, hS.F hH, by rw [hH]; exact hP, h1, h2, h3⟩
  unfold ab_re at hre
  split at hre
  · exact sd_mono (W.zret hx hb hr hn (fun t ht hW => ⟨rfl, ht⟩) hS.2.2 (hT.at hf rfl) (hlocks := hlk)) fin
  · exact sd_mono (W.lret hx hb hr (fun t ht hW => ⟨rfl, ht⟩) hS.2.2 (hT.at hf rfl) (hlocks := hlk)) fin
  · exact sd_mono (W.aret hx hb hr (Or.inl ⟨_, rfl⟩) (Or.inr ⟨_, rfl⟩) (fun t ht hW => ⟨rfl, ht⟩) hS.2.2 (hT.at hf rfl) (hlocks := hlk)) fin
  · exact sd_mono (W.aret hx hb hr (Or.inl ⟨_, rfl⟩) (Or.inl rfl) (fun t ht hW => ⟨rfl, ht⟩) hS.2.2 (hT.at hf rfl) (hlocks := hlk)) fin
  · cases hre
theorem sd_Rrtv {Q : ab_Q} (hx : p.tables.exec = Jvm.exec) (hb : c.code = cc) (hT : sd_T G j cc) (hr : meth.sig.returnType = ab_rt G j) (hlk : meth.locks = false) : ab_Rrtv G j Q (sd_P G D ad dA (fun a => base ≤ a) p l e R s m args below meth c j h0 (sd_E G D ad dA base below s h0 Q)) := by
  intro pc ls h hf hrt hQ H locs cells slots lsM hP hS hl h1 h2 h3
  rw [hrt] at hr
  refine sd_mono (W.vret (Qc := fun _ _ o t => o = .returned none ∧ t.heap = H) (free := fun a => base ≤ a) hx hb hr (fun t ht hW => ⟨rfl, ht⟩) hS.2.2 (hT.at hf rfl) (hlocks := hlk)) ?_
  rintro t ⟨o, hrun, hend, ⟨rfl, hH⟩, L, ⟨-, hW, hsm⟩, hL⟩
  exact ⟨.inl none, h, L, cells, slots, hQ, hrun, hend, hW, hsm, hL, hS.F hH, by rw [hH]; exact hP, h1, h2, h3⟩
end SdD
