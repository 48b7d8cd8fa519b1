/-! OURS. Soundness of the rules of objects and arrays. -/
theorem sd_D {G : ab_G} {ad : Nat → Nat} {dA : Nat → ClassId} {A : Nat → Prop} (hi : ∀ a b, a < 1000000 → b < 1000000 → ad a = ad b → a = b) (hA : ∀ a, a < 1000000 → A (ad a)) {h : ab_H} (hc : (ab_cap G).1 ≤ 1000000) (h3 : h.length ≤ (ab_cap G).1) : va_D A (sd_w ad dA h) := by
  have hlt : ∀ (i : Nat) (q : Nat × va_E), (sd_w ad dA h)[i]? = some q → i < 1000000 ∧ q.1 = ad i := by
    intro i q hq
    obtain ⟨o, ho, rfl⟩ := sd_w_inv hq
    have := (List.getElem?_eq_some_iff.mp ho).1
    exact ⟨by omega, rfl⟩
  refine ⟨fun i k p q hp hq hpq => ?_, fun i q hq => ?_⟩
  · obtain ⟨a1, a2⟩ := hlt i p hp
    obtain ⟨b1, b2⟩ := hlt k q hq
    exact hi i k a1 b1 (by rw [← a2, ← b2, hpq])
  · obtain ⟨a1, a2⟩ := hlt i q hq
    rw [a2]
    exact hA i a1
theorem sd_sz {p : Program} {l : Launch} {e : Env} {R : Room} {s : State} {m : MethodId} {args : Array Value} {below : List Frame} {meth : Method} {c : Code} {H : Heap} {locs : List Loc} {cells slots : Nat} {Q : State → Prop} {g : JFrame} (k : H.size ≤ s.heap.size + cells → W p l e R s m args below meth c H locs cells slots Q g) : W p l e R s m args below meth c H locs cells slots Q g :=
  fun T hT X => k (by rw [← hT]; exact X.heapSize) T hT X
/-- a new cell has the next number -/
theorem sd_next {D : va_G} {cl : List vw_C} {ad : Nat → Nat} {dA : Nat → ClassId} {base : Nat} {h : ab_H} {H1 : Heap} {q : Nat} {x : va_E} (hb : ∀ i, i < 1000000 → ad i = base + i) (hl : h.length < 1000000) (hP : va_P D cl (sd_w ad dA h ++ [(q, x)]) H1) (hD : va_D (fun a => base ≤ a) (sd_w ad dA h ++ [(q, x)])) (hz : H1.size ≤ base + h.length + 1) : q = ad h.length := by
  have hq : (sd_w ad dA h ++ [(q, x)])[h.length]? = some (q, x) := by
    rw [List.getElem?_append_right (by rw [sd_w_len]; exact Nat.le_refl _), sd_w_len]; simp
  have h1 : q < H1.size := (hP _ _ hq).lt
  have h2 : base ≤ q := hD.2 _ _ hq
  rw [hb _ hl]
  by_cases hk : q - base < h.length
  · exfalso
    have hk2 : (sd_w ad dA h ++ [(q, x)])[q - base]? = some (ad (q - base), sd_o ad dA (h[q - base]'hk)) := by
      rw [List.getElem?_append_left (by rw [sd_w_len]; exact hk)]
      exact sd_w_at (List.getElem?_eq_getElem hk)
    have := hD.1 _ _ _ _ hk2 hq (by show ad (q - base) = q; rw [hb _ (by omega)]; omega)
    omega
  · omega
theorem sd_wt_set {G : ab_G} {h : ab_H} {i : Nat} {o o' : ab_O} (ho : h[i]? = some o) (hw : ab_w1 G o' = ab_w1 G o) : ab_wt G (h.set i o') = ab_wt G h := by
  have e : (h.set i o').map (ab_w1 G) = h.map (ab_w1 G) := by
    rw [List.map_set, hw]
    apply List.ext_getElem?
    intro k
    by_cases hk : k = i
    · subst hk
      rw [List.getElem?_set_self', List.getElem?_map, ho]
      rfl
    · rw [List.getElem?_set_ne (fun q => hk q.symm)]
  unfold ab_wt
  rw [e]
theorem sd_wt_push {G : ab_G} {h : ab_H} {o : ab_O} : ab_wt G (h ++ [o]) = ab_wt G h + ab_w1 G o := by
  simp [ab_wt]
/-- a field's link -/
def sd_Lf (G : ab_G) (Ts : List Cond) (args : Array Value) (s : State) (own : String) (idx ci k : Nat) : Prop := ∃ (C : String) (T : u_T) (N : Nat), (ab_cl G)[ci]? = some (C, T, N) ∧ k < N ∧ (∀ w ∈ u_ws C T N, w ∈ Ts) ∧ ((Cond.fieldLink own idx (T k).1 (T k).2.1 (T k).2.2.1).before args s = true ∨ ∃ host, (Cond.fieldLinkNest own idx (T k).1 (T k).2.1 (T k).2.2.1 host).before args s = true)
/-- the classes' tables -/
def sd_Cl (G : ab_G) : Prop := ∀ (ci : Nat) (C : String) (T : u_T) (N : Nat), (ab_cl G)[ci]? = some (C, T, N) → (∀ k, k < N → ∃ ty, ab_tf G ci k = some ty ∧ parseFieldDescriptor (T k).2.2.1 = some ty) ∧ ∀ a, a < N → ∀ b, b < N → a ≠ b → (T a).2.1 ≠ (T b).2.1
section SdC
variable {G : ab_G} {D : va_G} {ad : Nat → Nat} {dA : Nat → ClassId} {base : Nat} {p : Program} {l : Launch} {e : Env} {R : Room} {s : State} {m : MethodId} {args : Array Value} {below : List Frame} {meth : Method} {c : Code} {j : Nat} {h0 : ab_H} {Qe : State → Prop} {cc : ByteArray} {Ts : List Cond} {own : String} {tys : List (ClassId × FieldType)}
theorem sd_Rget (hx : p.tables.exec = Jvm.exec) (hb : c.code = cc) (hT : sd_T G j cc) (hts : ∀ w ∈ Ts, w.before args s = true) (hown : s.vm.findClass own = some m.cls) (hK : va_K D (ab_cl G) tys s) (hL : ∀ idx ci k, ab_lf G j idx = some (ci, k) → sd_Lf G Ts args s own idx ci k) : ab_Rget G j (sd_P G D ad dA (fun a => base ≤ a) p l e R s m args below meth c j h0 Qe) := by
  intro pc ls st h idx ci k fs v a hf hi ha hv hk H locs cells slots lsM hP hS hl h1 h2 h3
  obtain ⟨C, T, N, hc, hkN, hin, hlk⟩ := hL idx ci k hi
  have hw := sd_w_at (ad := ad) (dA := dA) ha
  have hv' : (fs.map (sd_v ad))[k]? = some (sd_v ad v) := by rw [List.getElem?_map, hv]; rfl
  rcases hlk with hlk | ⟨host, hlk⟩
  · exact va_get hx hb hts hin hown hK hP a hw hc k hkN hlk (fun _ q => q) hv' (hT.at hf rfl) (hk H locs cells slots lsM hP hS hl h1 h2 h3)
  · exact va_getN hx hb hts hin hown hK hP a hw hc k hkN hlk (fun _ q => q) hv' (hT.at hf rfl) (hk H locs cells slots lsM hP hS hl h1 h2 h3)
theorem sd_nar {ad : Nat → Nat} {ty : FieldType} {v : Value} (h : narrow ty v = v) : narrow ty (sd_v ad v) = sd_v ad v := by
  cases v with
  | ref a => cases ty <;> rfl
  | _ => exact h
theorem sd_fits {ad : Nat → Nat} {ty : FieldType} {v : Value} (h : fits ty v = true) : fits ty (sd_v ad v) = true := by
  cases v with
  | ref a => cases ty <;> exact h
  | _ => exact h
theorem sd_Rput (hx : p.tables.exec = Jvm.exec) (hb : c.code = cc) (hT : sd_T G j cc) (hts : ∀ w ∈ Ts, w.before args s = true) (hown : s.vm.findClass own = some m.cls) (hK : va_K D (ab_cl G) tys s) (hL : ∀ idx ci k, ab_lf G j idx = some (ci, k) → sd_Lf G Ts args s own idx ci k) (hCl : sd_Cl G)
    (hfin : ∀ pc idx ci k C T N, ab_f G j pc = some (.putfield idx) → ab_lf G j idx = some (ci, k) → (ab_cl G)[ci]? = some (C, T, N) → (T k).2.2.2 = true → meth.name = "<init>" ∧ (T k).1 = own ∧ (Cond.fieldLink own idx (T k).1 (T k).2.1 (T k).2.2.1).before args s = true)
    (hi : ∀ a b, a < 1000000 → b < 1000000 → ad a = ad b → a = b) (hA : ∀ a, a < 1000000 → base ≤ ad a) (hcap : (ab_cap G).1 ≤ 1000000) : ab_Rput G j (sd_P G D ad dA (fun a => base ≤ a) p l e R s m args below meth c j h0 Qe) := by
  intro pc ls st h idx ci k fs v ty a hf hlf ha hkl hty hn hfit hk H locs cells slots lsM hP hS hl h1 h2 h3
  obtain ⟨C, T, N, hc, hkN, hin, hlk⟩ := hL idx ci k hlf
  obtain ⟨ht, hnm⟩ := hCl ci C T N hc
  have hw := sd_w_at (ad := ad) (dA := dA) ha
  have hD := sd_D (G := G) (dA := dA) hi hA hcap h3.1
  have hty0 : ∀ k, k < N → parseFieldDescriptor (T k).2.2.1 = some ((ab_tf G ci k).getD .int) := fun k hk => by
    obtain ⟨t, e1, e2⟩ := ht k hk
    rw [e1, e2]; rfl
  have hd : parseFieldDescriptor (T k).2.2.1 = some ty := by rw [hty0 k hkN, hty]; rfl
  have hset : (sd_w ad dA h).set a (ad a, .inr (ci, (fs.map (sd_v ad)).set k (sd_v ad v))) = sd_w ad dA (h.set a (.inr (ci, fs.set k v))) := by
    rw [← sd_w_set]
    simp [sd_o, List.map_set]
  have kk : ∀ (H1 : Heap) (locs1 : List Loc), va_P D (ab_cl G) ((sd_w ad dA h).set a (ad a, .inr (ci, (fs.map (sd_v ad)).set k (sd_v ad v)))) H1 → va_D (fun a => base ≤ a) ((sd_w ad dA h).set a (ad a, .inr (ci, (fs.map (sd_v ad)).set k (sd_v ad v)))) → va_S (fun a => base ≤ a) s.heap H1 locs1 → W p l e R s m args below meth c H1 locs1 cells slots Qe (F0 m (pc + 3) lsM (st.map (sd_v ad))) := by
    intro H1 locs1 hP1 _ hS1
    rw [hset] at hP1
    exact hk H1 locs1 cells slots lsM hP1 hS1 hl (by rw [List.length_set]; exact h1) (h2.trans (Eq.symm (sd_wt_set ha (by rfl)))) ⟨by rw [List.length_set]; exact h3.1, Nat.le_trans (Nat.le_of_eq (sd_wt_set ha (by rfl))) h3.2⟩
  by_cases hff : (T k).2.2.2 = true
  · obtain ⟨g1, g2, g3⟩ := hfin pc idx ci k C T N hf hlf hc hff
    exact va_putF hx hb hts hin (fun k => (ab_tf G ci k).getD .int) hty0 hnm hown hK hP hD hS a hw hc k hkN g3 (fun _ q => q) hff g1 g2 hd (sd_nar hn) (sd_fits hfit) (by rw [List.length_map]; exact hkl) (hT.at hf rfl) kk
  · have hff : (T k).2.2.2 = false := by simpa using hff
    rcases hlk with hlk | ⟨host, hlk⟩
    · exact va_put hx hb hts hin (fun k => (ab_tf G ci k).getD .int) hty0 hnm hown hK hP hD hS a hw hc k hkN hlk (fun _ q => q) hff hd (sd_nar hn) (sd_fits hfit) (by rw [List.length_map]; exact hkl) (hT.at hf rfl) kk
    · exact va_putN hx hb hts hin (fun k => (ab_tf G ci k).getD .int) hty0 hnm hown hK hP hD hS a hw hc k hkN hlk (fun _ q => q) hff hd (sd_nar hn) (sd_fits hfit) (by rw [List.length_map]; exact hkl) (hT.at hf rfl) kk
/-- a static's link, and what it holds -/
def sd_Ls (args : Array Value) (s : State) (own : String) (base idx a : Nat) : Prop := ∃ C n d, va_Z C n d (.ref a) (fun q => base ≤ q) s s.heap ∧ ((Cond.fieldLink own idx C n d).before args s = true ∨ ∃ host, (Cond.fieldLinkNest own idx C n d host).before args s = true)
theorem sd_Rsta (hx : p.tables.exec = Jvm.exec) (hb : c.code = cc) (hT : sd_T G j cc) (hown : s.vm.findClass own = some m.cls) (hL : ∀ idx a, ab_ls G j idx = some a → sd_Ls args s own base idx (ad a)) : ab_Rsta G j (sd_P G D ad dA (fun a => base ≤ a) p l e R s m args below meth c j h0 Qe) := by
  intro pc ls st h idx a hf hi hk H locs cells slots lsM hP hS hl h1 h2 h3
  obtain ⟨C, n, d, hZ, hlk⟩ := hL idx a hi
  rcases hlk with hlk | ⟨host, hlk⟩
  · exact va_gets hx hb hZ hS hown hlk (fun _ q => q) (hT.at hf rfl) (hk H locs cells slots lsM hP hS hl h1 h2 h3)
  · exact va_getsN hx hb hZ hS hown hlk (fun _ q => q) (hT.at hf rfl) (hk H locs cells slots lsM hP hS hl h1 h2 h3)
theorem sd_Rkld (hx : p.tables.exec = Jvm.exec) (hb : c.code = cc) (hT : sd_T G j cc) (hC : ∀ a n xs, ab_ca G a = some (n, xs) → va_T .int (ad a) n (fun k => .int (xs k)) (fun q => base ≤ q) s s.heap) : ab_Rkld G j (sd_P G D ad dA (fun a => base ≤ a) p l e R s m args below meth c j h0 Qe) := by
  intro pc ls st h a n xs i hf ha hin hk H locs cells slots lsM hP hS hl h1 h2 h3
  obtain ⟨cell, t1, t2, t3, t4, t5, t6, t7⟩ := hC a n xs ha
  have hlt : i.toNatClampNeg < n := Nat.not_le.mp fun q => hin (Or.inr q)
  have hin' : ¬ (i < 0 ∨ cell.slots.size ≤ i.toNatClampNeg) := by
    intro q
    rcases q with q | q
    · exact hin (Or.inl q)
    · omega
  exact W.iald (v := .int (xs i.toNatClampNeg)) hx hb (by rw [hS.2.1 _ (Array.getElem?_eq_some_iff.mp t1).1 t7]; exact t1) t2 t3 hin' (t6 _ hlt) rfl rfl (hT.at hf rfl) (hk H locs cells slots lsM hP hS hl h1 h2 h3)
theorem sd_Rkln (hx : p.tables.exec = Jvm.exec) (hb : c.code = cc) (hT : sd_T G j cc) (hC : ∀ a n xs, ab_ca G a = some (n, xs) → va_T .int (ad a) n (fun k => .int (xs k)) (fun q => base ≤ q) s s.heap) : ab_Rkln G j (sd_P G D ad dA (fun a => base ≤ a) p l e R s m args below meth c j h0 Qe) := by
  intro pc ls st h a n xs hf ha hk H locs cells slots lsM hP hS hl h1 h2 h3
  obtain ⟨cell, t1, t2, t3, t4, t5, t6, t7⟩ := hC a n xs ha
  exact W.alen (n := Int32.ofNat n) hx hb (by rw [hS.2.1 _ (Array.getElem?_eq_some_iff.mp t1).1 t7]; exact t1) t2 t5 rfl rfl (hT.at hf rfl) (hk H locs cells slots lsM hP hS hl h1 h2 h3)
theorem sd_Rild (hx : p.tables.exec = Jvm.exec) (hb : c.code = cc) (hT : sd_T G j cc) (hK : va_K D (ab_cl G) tys s) (hty : ∀ t ty, ab_at G t = some ty → tys[t]? = some (dA t, ty)) : ab_Rild G j (sd_P G D ad dA (fun a => base ≤ a) p l e R s m args below meth c j h0 Qe) := by
  intro pc ls st h t n xs a i hf ha ht hin hk H locs cells slots lsM hP hS hl h1 h2 h3
  exact va_iald hx hb hK hP a t (sd_w_at (ad := ad) (dA := dA) ha) (hty t _ ht) hin (hT.at hf rfl) (hk H locs cells slots lsM hP hS hl h1 h2 h3)
theorem sd_Rcld (hx : p.tables.exec = Jvm.exec) (hb : c.code = cc) (hT : sd_T G j cc) (hK : va_K D (ab_cl G) tys s) (hty : ∀ t ty, ab_at G t = some ty → tys[t]? = some (dA t, ty)) : ab_Rcld G j (sd_P G D ad dA (fun a => base ≤ a) p l e R s m args below meth c j h0 Qe) := by
  intro pc ls st h t n xs a i hf ha ht hin hk H locs cells slots lsM hP hS hl h1 h2 h3
  exact va_cald hx hb hK hP a t (sd_w_at (ad := ad) (dA := dA) ha) (hty t _ ht) hin (hT.at hf rfl) (hk H locs cells slots lsM hP hS hl h1 h2 h3)
theorem sd_Rlld (hx : p.tables.exec = Jvm.exec) (hb : c.code = cc) (hT : sd_T G j cc) (hK : va_K D (ab_cl G) tys s) (hty : ∀ t ty, ab_at G t = some ty → tys[t]? = some (dA t, ty)) : ab_Rlld G j (sd_P G D ad dA (fun a => base ≤ a) p l e R s m args below meth c j h0 Qe) := by
  intro pc ls st h t n xs a i hf ha ht hin hk H locs cells slots lsM hP hS hl h1 h2 h3
  exact va_lald hx hb hK hP a t (sd_w_at (ad := ad) (dA := dA) ha) (hty t _ ht) hin (hT.at hf rfl) (hk H locs cells slots lsM hP hS hl h1 h2 h3)
theorem sd_rf (ad : Nat → Nat) (o : Option Nat) : sd_v ad (va_rf o) = va_rf (o.map ad) := by cases o <;> rfl
theorem sd_Rald (hx : p.tables.exec = Jvm.exec) (hb : c.code = cc) (hT : sd_T G j cc) (hK : va_K D (ab_cl G) tys s) (hty : ∀ t ty, ab_at G t = some ty → tys[t]? = some (dA t, ty)) : ab_Rald G j (sd_P G D ad dA (fun a => base ≤ a) p l e R s m args below meth c j h0 Qe) := by
  intro pc ls st h t n xs C a i hf ha ht hin hk H locs cells slots lsM hP hS hl h1 h2 h3
  have hk' := hk H locs cells slots lsM hP hS hl h1 h2 h3
  rw [List.map_cons, sd_rf] at hk'
  exact va_aldq hx hb hK hP a t (sd_w_at (ad := ad) (dA := dA) ha) (hty t _ ht) hin (hT.at hf rfl) hk'
theorem sd_Rlen (hx : p.tables.exec = Jvm.exec) (hb : c.code = cc) (hT : sd_T G j cc) (hK : va_K D (ab_cl G) tys s) (hty : ∀ t ty, ab_at G t = some ty → tys[t]? = some (dA t, ty)) : ab_Rlen G j (sd_P G D ad dA (fun a => base ≤ a) p l e R s m args below meth c j h0 Qe) := by
  intro pc ls st h t ty x a hf ha ht hk H locs cells slots lsM hP hS hl h1 h2 h3
  have e1 : (sd_x ad x).1 = x.1 := by
    obtain ⟨n, f | f | f | f | f⟩ := x <;> rfl
  exact va_alen hx hb hK hP a t (sd_w_at (ad := ad) (dA := dA) ha) (hty t _ ht) (by rw [e1]) (hT.at hf rfl) (hk H locs cells slots lsM hP hS hl h1 h2 h3)
theorem sd_Rist (hx : p.tables.exec = Jvm.exec) (hb : c.code = cc) (hT : sd_T G j cc) (hK : va_K D (ab_cl G) tys s) (hty : ∀ t ty, ab_at G t = some ty → tys[t]? = some (dA t, ty))
    (hi : ∀ a b, a < 1000000 → b < 1000000 → ad a = ad b → a = b) (hA : ∀ a, a < 1000000 → base ≤ ad a) (hcap : (ab_cap G).1 ≤ 1000000) : ab_Rist G j (sd_P G D ad dA (fun a => base ≤ a) p l e R s m args below meth c j h0 Qe) := by
  intro pc ls st h t n xs a i x hf ha ht hin hk H locs cells slots lsM hP hS hl h1 h2 h3
  refine va_iast hx hb hK hP (sd_D (G := G) (dA := dA) hi hA hcap h3.1) hS a t (sd_w_at (ad := ad) (dA := dA) ha) (hty t _ ht) hin (hT.at hf rfl) (fun H1 locs1 hP1 _ hS1 => ?_)
  have e1 : (sd_w ad dA h).set a (ad a, .inl (dA t, n, .inl (upd xs i.toNatClampNeg x))) = sd_w ad dA (h.set a (.inl (t, n, .inl (upd xs i.toNatClampNeg x)))) := by rw [← sd_w_set]; rfl
  rw [e1] at hP1
  exact hk H1 locs1 cells slots lsM hP1 hS1 hl (by rw [List.length_set]; exact h1) (h2.trans (Eq.symm (sd_wt_set ha (by rfl)))) ⟨by rw [List.length_set]; exact h3.1, Nat.le_trans (Nat.le_of_eq (sd_wt_set ha (by rfl))) h3.2⟩
theorem sd_Rcts (hx : p.tables.exec = Jvm.exec) (hb : c.code = cc) (hT : sd_T G j cc) (hK : va_K D (ab_cl G) tys s) (hty : ∀ t ty, ab_at G t = some ty → tys[t]? = some (dA t, ty))
    (hi : ∀ a b, a < 1000000 → b < 1000000 → ad a = ad b → a = b) (hA : ∀ a, a < 1000000 → base ≤ ad a) (hcap : (ab_cap G).1 ≤ 1000000) : ab_Rcts G j (sd_P G D ad dA (fun a => base ≤ a) p l e R s m args below meth c j h0 Qe) := by
  intro pc ls st h t n xs a i x hf ha ht hin hk H locs cells slots lsM hP hS hl h1 h2 h3
  refine va_cast hx hb hK hP (sd_D (G := G) (dA := dA) hi hA hcap h3.1) hS a t (sd_w_at (ad := ad) (dA := dA) ha) (hty t _ ht) hin (hT.at hf rfl) (fun H1 locs1 hP1 _ hS1 => ?_)
  have e1 : (sd_w ad dA h).set a (ad a, .inl (dA t, n, .inl (upd xs i.toNatClampNeg (vp_nar .char x)))) = sd_w ad dA (h.set a (.inl (t, n, .inl (upd xs i.toNatClampNeg (vp_nar .char x))))) := by rw [← sd_w_set]; rfl
  rw [e1] at hP1
  exact hk H1 locs1 cells slots lsM hP1 hS1 hl (by rw [List.length_set]; exact h1) (h2.trans (Eq.symm (sd_wt_set ha (by rfl)))) ⟨by rw [List.length_set]; exact h3.1, Nat.le_trans (Nat.le_of_eq (sd_wt_set ha (by rfl))) h3.2⟩
theorem sd_Rlst (hx : p.tables.exec = Jvm.exec) (hb : c.code = cc) (hT : sd_T G j cc) (hK : va_K D (ab_cl G) tys s) (hty : ∀ t ty, ab_at G t = some ty → tys[t]? = some (dA t, ty))
    (hi : ∀ a b, a < 1000000 → b < 1000000 → ad a = ad b → a = b) (hA : ∀ a, a < 1000000 → base ≤ ad a) (hcap : (ab_cap G).1 ≤ 1000000) : ab_Rlst G j (sd_P G D ad dA (fun a => base ≤ a) p l e R s m args below meth c j h0 Qe) := by
  intro pc ls st h t n xs a i x hf ha ht hin hk H locs cells slots lsM hP hS hl h1 h2 h3
  refine va_last hx hb hK hP (sd_D (G := G) (dA := dA) hi hA hcap h3.1) hS a t (sd_w_at (ad := ad) (dA := dA) ha) (hty t _ ht) hin (hT.at hf rfl) (fun H1 locs1 hP1 _ hS1 => ?_)
  have e1 : (sd_w ad dA h).set a (ad a, .inl (dA t, n, .inr (.inl (vp_updL xs i.toNatClampNeg x)))) = sd_w ad dA (h.set a (.inl (t, n, .inr (.inl (vp_updL xs i.toNatClampNeg x))))) := by rw [← sd_w_set]; rfl
  rw [e1] at hP1
  exact hk H1 locs1 cells slots lsM hP1 hS1 hl (by rw [List.length_set]; exact h1) (h2.trans (Eq.symm (sd_wt_set ha (by rfl)))) ⟨by rw [List.length_set]; exact h3.1, Nat.le_trans (Nat.le_of_eq (sd_wt_set ha (by rfl))) h3.2⟩
theorem sd_Rast (hx : p.tables.exec = Jvm.exec) (hb : c.code = cc) (hT : sd_T G j cc) (hK : va_K D (ab_cl G) tys s) (hty : ∀ t ty, ab_at G t = some ty → tys[t]? = some (dA t, ty))
    (hi : ∀ a b, a < 1000000 → b < 1000000 → ad a = ad b → a = b) (hA : ∀ a, a < 1000000 → base ≤ ad a) (hcap : (ab_cap G).1 ≤ 1000000) : ab_Rast G j (sd_P G D ad dA (fun a => base ≤ a) p l e R s m args below meth c j h0 Qe) := by
  intro pc ls st h t n xs ci fs r a b i hf ha hb2 hr ht hin hk H locs cells slots lsM hP hS hl h1 h2 h3
  refine va_astq hx hb hK hP (sd_D (G := G) (dA := dA) hi hA hcap h3.1) hS a t b ci (sd_w_at (ad := ad) (dA := dA) ha) (hty t _ ht) (sd_w_at (ad := ad) (dA := dA) hb2) hr hin (hT.at hf rfl) (fun H1 locs1 hP1 _ hS1 => ?_)
  have e0 : (fun q => ((va_up xs i.toNatClampNeg (some b)) q).map ad) = va_up (fun q => (xs q).map ad) i.toNatClampNeg (some (ad b)) := by
    funext q
    by_cases hq : q = i.toNatClampNeg
    · simp [va_up, hq]
    · simp [va_up, hq]
  have e1 : (sd_w ad dA h).set a (ad a, .inl (dA t, n, .inr (.inr (.inr (.inr (va_up (fun q => (xs q).map ad) i.toNatClampNeg (some (ad b)))))))) = sd_w ad dA (h.set a (.inl (t, n, .inr (.inr (.inr (.inr (va_up xs i.toNatClampNeg (some b)))))))) := by rw [← sd_w_set, ← e0]; rfl
  rw [e1] at hP1
  exact hk H1 locs1 cells slots lsM hP1 hS1 hl (by rw [List.length_set]; exact h1) (h2.trans (Eq.symm (sd_wt_set ha (by rfl)))) ⟨by rw [List.length_set]; exact h3.1, Nat.le_trans (Nat.le_of_eq (sd_wt_set ha (by rfl))) h3.2⟩
end SdC
