/-! OURS. Steps inside a constructor: the heap is u ++ o :: T, o the object that is being made. -/
theorem ab_wt_app (G : ab_G) (u t : ab_H) : ab_wt G (u ++ t) = ab_wt G u + ab_wt G t := by
  unfold ab_wt
  rw [List.map_append, List.sum_append]
theorem ab_wt_cons (G : ab_G) (o : ab_O) (t : ab_H) : ab_wt G (o :: t) = ab_w1 G o + ab_wt G t := by
  unfold ab_wt
  rw [List.map_cons, List.sum_cons]
theorem ap_at (u : ab_H) (o : ab_O) (T : ab_H) : (u ++ o :: T)[u.length]? = some o := by
  rw [List.getElem?_append_right (Nat.le_refl _), Nat.sub_self]
  rfl
theorem ap_set (u : ab_H) (o o' : ab_O) (T : ab_H) : (u ++ o :: T).set u.length o' = u ++ o' :: T := by
  rw [List.set_append_right _ _ (Nat.le_refl _), Nat.sub_self]
  rfl
theorem ap_len (u : ab_H) (o : ab_O) (T : ab_H) : (u ++ o :: T).length = u.length + (T.length + 1) := by
  rw [List.length_append, List.length_cons]
theorem ap_app (u : ab_H) (o : ab_O) (T B : ab_H) : (u ++ o :: T) ++ B = u ++ o :: (T ++ B) := by
  rw [List.append_assoc]
  rfl
section Mk
variable {G : ab_G} {E : ab_E} {j : Nat} {Q : ab_Q} {pc : Nat} {ls : ab_L} {st : List Value} {u T : ab_H} {o : ab_O}
theorem u_put {fs : List Value} {v : Value} {ty : FieldType} {ci : Nat} (idx f pc' : Nat) (fs' : List Value) (hf : ab_f G j pc = some (.putfield idx)) (hl : ab_lf G j idx = some (ci, f)) (hk : f < fs.length) (ht : ab_tf G ci f = some ty) (hn : narrow ty v = v) (hfi : fits ty v = true) (he : fs.set f v = fs') (hp : pc + 3 = pc') (k : ab_W G E j Q pc' ls st (u ++ .inr (ci, fs') :: T)) : ab_W G E j Q pc ls (v :: .ref u.length :: st) (u ++ .inr (ci, fs) :: T) :=
  x_put idx ci f pc' hf hl (ap_at u _ T) hk ht hn hfi _ (by rw [ap_set, he]) hp k
theorem u_new {fs : List Value} (idx ci n W pc' : Nat) (hf : ab_f G j pc = some (.new idx)) (hl : ab_lc G j idx = some ci) (hd : ab_df G ci = some fs) (hn : u.length + (T.length + 1) = n) (hW : ab_w1 G o + ab_wt G T = W) (h1 : n + 1 ≤ (ab_cap G).1) (h2 : ab_wt G u + (W + fs.length) ≤ (ab_cap G).2) (hp : pc + 3 = pc') (k : ab_W G E j Q pc' ls (.ref n :: st) (u ++ o :: (T ++ [.inr (ci, fs)]))) : ab_W G E j Q pc ls st (u ++ o :: T) := by
  refine x_new idx ci pc' hf hl hd (by rw [ap_len, hn]; exact h1) (by rw [ab_wt_app, ab_wt_cons, hW]; omega) hp ?_
  rw [ap_len, hn, ap_app]
  exact k
theorem u_na {aty : ArrayType} {ty : FieldType} {x0 : (Nat → Int32) ⊕ (Nat → Int64) ⊕ (Nat → UInt32) ⊕ (Nat → UInt64) ⊕ (Nat → Option Nat)} {n : Int32} (t N m W pc' : Nat) (hf : ab_f G j pc = some (.newarray aty)) (ht : ab_at G t = some ty) (hto : newarray.typeOf aty = ty) (hd : ab_dv ty = some x0) (hn : ¬ n < 0) (hN : n.toNatClampNeg = N) (hb : N ≤ 100000) (hm : u.length + (T.length + 1) = m) (hW : ab_w1 G o + ab_wt G T = W) (h1 : m + 1 ≤ (ab_cap G).1) (h2 : ab_wt G u + (W + N) ≤ (ab_cap G).2) (hp : pc + 2 = pc') (k : ab_W G E j Q pc' ls (.ref m :: st) (u ++ o :: (T ++ [.inl (t, N, x0)]))) : ab_W G E j Q pc ls (.int n :: st) (u ++ o :: T) := by
  refine x_na t N pc' hf ht hto hd hn hN hb (by rw [ap_len, hm]; exact h1) (by rw [ab_wt_app, ab_wt_cons, hW]; omega) hp ?_
  rw [ap_len, hm, ap_app]
  exact k
theorem u_nq {r : vw_C} {n : Int32} (idx ci t N m W pc' : Nat) (hf : ab_f G j pc = some (.anewarray idx)) (hl : ab_lc G j idx = some ci) (hr : (ab_cl G)[ci]? = some r) (ht : ab_at G t = some (.object r.1)) (hn : ¬ n < 0) (hN : n.toNatClampNeg = N) (hb : N ≤ 100000) (hm : u.length + (T.length + 1) = m) (hW : ab_w1 G o + ab_wt G T = W) (h1 : m + 1 ≤ (ab_cap G).1) (h2 : ab_wt G u + (W + N) ≤ (ab_cap G).2) (hp : pc + 3 = pc') (k : ab_W G E j Q pc' ls (.ref m :: st) (u ++ o :: (T ++ [.inl (t, N, .inr (.inr (.inr (.inr (fun _ => none)))))]))) : ab_W G E j Q pc ls (.int n :: st) (u ++ o :: T) := by
  refine x_nq idx ci t N pc' hf hl hr ht hn hN hb (by rw [ap_len, hm]; exact h1) (by rw [ab_wt_app, ab_wt_cons, hW]; omega) hp ?_
  rw [ap_len, hm, ap_app]
  exact k
theorem u_ist {t n a : Nat} {xs : Nat → Int32} {i x : Int32} (pc' : Nat) (ys : Nat → Int32) (hf : ab_f G j pc = some .iastore) (hm : u.length + (T.length + 1) = a) (ht : ab_at G t = some .int) (hi : vp_in i n) (he : upd xs i.toNatClampNeg x = ys) (hp : pc + 1 = pc') (k : ab_W G E j Q pc' ls st (u ++ o :: (T ++ [.inl (t, n, .inl ys)]))) : ab_W G E j Q pc ls (.int x :: .int i :: .ref a :: st) (u ++ o :: (T ++ [.inl (t, n, .inl xs)])) := by
  rw [← ap_app, ← hm, ← ap_len u o T]
  rw [← ap_app] at k
  exact x_ist pc' hf (ap_at _ _ []) ht hi _ (by rw [ap_set, he]) hp k
end Mk
theorem u_ctor {G : ab_G} {d j : Nat} {Q : ab_Q} {pc : Nat} {ls : ab_L} {st : List Value} {u T : ab_H} {o : ab_O} {ci : Nat} {fs : List Value} (blk : Nat → ab_H) (idx jj n pc' : Nat) (hf : ab_f G j pc = some (.invokespecial idx)) (hl : ab_lm G j idx = some jj) (hj : jj < 1000000) (hna : ab_na G jj = 1) (hnn : 1 ≤ ab_n G jj) (hr : ab_rc G jj = some ci) (hs : (st.map (fun v => v.category)).sum ≤ 16) (hn : u.length + (T.length + 1) = n) (hc : ab_S G d jj [.ref (u ++ o :: T).length] ((u ++ o :: T) ++ [.inr (ci, fs)]) none ((u ++ o :: T) ++ blk (u ++ o :: T).length)) (hp : pc + 3 = pc') (k : ab_W G (ab_X G d) j Q pc' ls st (u ++ o :: (T ++ blk n))) : ab_W G (ab_X G d) j Q pc ls (.ref n :: st) (u ++ o :: (T ++ [.inr (ci, fs)])) := by
  subst hn
  rw [← ap_app, ← ap_len u o T]
  refine x_cv idx jj pc' [.ref (u ++ o :: T).length] hf rfl hl hj rfl hna.symm hnn ?_ hs hc hp ?_
  · unfold ab_rv
    rw [hr]
    exact ⟨_, _, _, rfl, ap_at _ _ []⟩
  · rw [ap_app, ap_len]
    exact k
