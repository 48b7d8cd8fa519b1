/-! OURS. More facts at every state of the run. -/
theorem fa_fin {L : Nat} {xs : Nat → Int32} {s0 : State} {a0 : Array Value} (h0 : ∀ w ∈ TT, w.before a0 s0 = true) (s : State) (args : Array Value) (j pc idx ci k : Nat) (C : String) (T : u_T) (N : Nat) (hU : fa s0 s) (hj : j < 167) (hf : ab_f (pg_G L xs) j pc = some (.putfield idx)) (hl : ab_lf (pg_G L xs) j idx = some (ci, k)) (hc : (ab_cl (pg_G L xs))[ci]? = some (C, T, N)) (hfin : (T k).2.2.2 = true) : (pg_yn j).name = "<init>" ∧ (T k).1 = (pg_yn j).cls ∧ (Cond.fieldLink (pg_yn j).cls idx (T k).1 (T k).2.1 (T k).2.2.1).before args s = true := by
  have hk := ck_iv_at hj hf
  have hl' : pg_look pg_lf_l (pg_o j) idx = some (ci, k) := hl
  have hc' : pg_cl[ci]? = some (C, T, N) := hc
  simp only [ck_ivi, hl', hc', hfin, Bool.not_true, Bool.false_or, Bool.and_eq_true, decide_eq_true_eq, List.any_eq_true] at hk
  obtain ⟨⟨k1, k2⟩, z, -, k3⟩ := hk
  exact ⟨k1, k2, fa_at h0 k3.2 rfl hU⟩
theorem fa_ob {L : Nat} {xs : Nat → Int32} {s0 : State} {a0 : Array Value} (h0 : ∀ w ∈ TT, w.before a0 s0 = true) (s : State) (args : Array Value) (j idx : Nat) (hU : fa s0 s) (hj : j < 167) (h : ab_lm (pg_G L xs) j idx = some 1000000) : (Cond.methodLink (pg_yn j).cls idx Lib.objectInit).before args s = true ∧ (Cond.instanceMethod Lib.objectInit).before args s = true ∧ (Cond.code Lib.objectInit ⟨#[0xb1]⟩ 1 none).before args s = true := by
  refine ⟨fa_pl h0 hU hj h (by decide) (by decide), fa_at h0 (i := 105) (by decide +kernel) rfl hU, fa_at h0 (i := 106) (by rfl) rfl hU⟩
theorem fa_cp {L : Nat} {xs : Nat → Int32} {s0 : State} {a0 : Array Value} (h0 : ∀ w ∈ TT, w.before a0 s0 = true) (s : State) (args : Array Value) (j idx : Nat) (hU : fa s0 s) (hj : j < 167) (h : ab_lm (pg_G L xs) j idx = some 1000001) : sd_Lcp args s (pg_yn j).cls idx := by
  refine ⟨fa_pl h0 hU hj h (by decide) (by decide), fa_at h0 (i := 280) (by decide +kernel) rfl hU, fa_at h0 (i := 279) (by decide +kernel) rfl hU, fa_at h0 (i := 93) (by decide +kernel) rfl hU⟩
theorem fa_m2 {L : Nat} {xs : Nat → Int32} {s0 : State} {a0 : Array Value} (h0 : ∀ w ∈ TT, w.before a0 s0 = true) (s : State) (args : Array Value) (j idx : Nat) (hU : fa s0 s) (hj : j < 167) (h : ab_lm (pg_G L xs) j idx = some 1000002) : (Cond.methodLink (pg_yn j).cls idx Lib.Math.max.name).before args s = true ∧ (Cond.static Lib.Math.max.name).before args s = true ∧ (Cond.initialized "java/lang/Math").before args s = true ∧ (Cond.code Lib.Math.max.name Lib.Math.max.code 2 (some .int)).before args s = true := by
  refine ⟨fa_pl h0 hU hj h (by decide) (by decide), fa_at h0 (i := 632) (by decide +kernel) rfl hU, fa_at h0 (i := 92) (by decide +kernel) rfl hU, fa_at h0 (i := 633) ck_Mmax.1 rfl hU⟩
theorem fa_m3 {L : Nat} {xs : Nat → Int32} {s0 : State} {a0 : Array Value} (h0 : ∀ w ∈ TT, w.before a0 s0 = true) (s : State) (args : Array Value) (j idx : Nat) (hU : fa s0 s) (hj : j < 167) (h : ab_lm (pg_G L xs) j idx = some 1000003) : (Cond.methodLink (pg_yn j).cls idx Lib.Math.min.name).before args s = true ∧ (Cond.static Lib.Math.min.name).before args s = true ∧ (Cond.initialized "java/lang/Math").before args s = true ∧ (Cond.code Lib.Math.min.name Lib.Math.min.code 2 (some .int)).before args s = true := by
  refine ⟨fa_pl h0 hU hj h (by decide) (by decide), fa_at h0 (i := 276) (by decide +kernel) rfl hU, fa_at h0 (i := 92) (by decide +kernel) rfl hU, fa_at h0 (i := 277) ck_Mmin.1 rfl hU⟩
theorem fa_lc0 {L : Nat} {xs : Nat → Int32} {s0 : State} {a0 : Array Value} (h0 : ∀ w ∈ TT, w.before a0 s0 = true) {s : State} {args : Array Value} {j idx ci : Nat} (hU : fa s0 s) (hj : j < 167) (h : ab_lc (pg_G L xs) j idx = some ci) : ∃ r, pg_cl[ci]? = some r ∧ (Cond.classLink (pg_yn j).cls idx r.1).before args s = true := by
  obtain ⟨e1, e2, -⟩ := ck_md hj
  have hi : (idx, ci) ∈ pg_lc_l.getD (pg_o j) [] := pg_look_in h
  have hc := List.all_eq_true.mp ck_lc (pg_o j) (List.mem_range.mpr e2)
  unfold ck_lco at hc
  simp only [Bool.and_eq_true, decide_eq_true_eq] at hc
  obtain ⟨p, hp⟩ := pg_zip hc.1 hi
  have h2 := List.all_eq_true.mp hc.2 _ hp
  simp only at h2
  cases hcl : pg_cl[ci]? with
  | none => rw [hcl] at h2; cases h2
  | some r =>
    rw [hcl] at h2
    simp only [decide_eq_true_eq] at h2
    exact ⟨r, rfl, by rw [e1]; exact fa_at h0 h2 rfl hU⟩
theorem fa_kl {L : Nat} {xs : Nat → Int32} {s0 : State} {a0 : Array Value} (h0 : ∀ w ∈ TT, w.before a0 s0 = true) (s : State) (args : Array Value) (j idx : Nat) (x : Int64) (hU : fa s0 s) (hj : j < 167) (h : ab_kl (pg_G L xs) j idx = some x) : (Cond.constantLong (pg_yn j).cls idx x).before args s = true := by
  obtain ⟨e1, e2, -⟩ := ck_md hj
  have hi : (idx, x) ∈ pg_kl_l.getD (pg_o j) [] := pg_look_in h
  have hc := List.all_eq_true.mp ck_kl (pg_o j) (List.mem_range.mpr e2)
  unfold ck_klo at hc
  simp only [Bool.and_eq_true, decide_eq_true_eq] at hc
  obtain ⟨p, hp⟩ := pg_zip hc.1 hi
  have h2 := List.all_eq_true.mp hc.2 _ hp
  simp only [decide_eq_true_eq] at h2
  rw [e1]
  exact fa_at h0 h2 rfl hU
theorem fa_ar {L : Nat} {xs : Nat → Int32} {s0 : State} {a0 : Array Value} (h0 : ∀ w ∈ TT, w.before a0 s0 = true) (s : State) (args : Array Value) (t : Nat) (ty : FieldType) (x0 : (Nat → Int32) ⊕ (Nat → Int64) ⊕ (Nat → UInt32) ⊕ (Nat → UInt64) ⊕ (Nat → Option Nat)) (hU : fa s0 s) (h : ab_at (pg_G L xs) t = some ty) (hd : ab_dv ty = some x0) : (Cond.arrayClass ty).before args s = true := by
  have h' : pg_at t = some ty := h
  match t, h' with
  | 0, h' => cases h'; exact fa_at h0 (i := 127) (by decide +kernel) rfl hU
  | 1, h' => cases h'; exact fa_at h0 (i := 151) (by decide +kernel) rfl hU
  | 2, h' => cases h'; exact fa_at h0 (i := 126) (by decide +kernel) rfl hU
  | 3, h' => cases h'; cases hd
  | n + 4, h' => cases h'
theorem fa_nq {L : Nat} {xs : Nat → Int32} {s0 : State} {a0 : Array Value} (h0 : ∀ w ∈ TT, w.before a0 s0 = true) (s : State) (args : Array Value) (j pc idx ci : Nat) (r : vw_C) (hU : fa s0 s) (hj : j < 167) (hf : ab_f (pg_G L xs) j pc = some (.anewarray idx)) (hl : ab_lc (pg_G L xs) j idx = some ci) (hc : (ab_cl (pg_G L xs))[ci]? = some r) : (Cond.classLink (pg_yn j).cls idx r.1).before args s = true ∧ va_AO r.1 s := by
  obtain ⟨r', q1, q2⟩ := fa_lc0 h0 (args := args) hU hj hl
  cases hc.symm.trans q1
  refine ⟨q2, ?_⟩
  have hk := ck_iv_at hj hf
  have hl' : pg_look pg_lc_l (pg_o j) idx = some ci := hl
  simp only [ck_ivi, decide_eq_true_eq] at hk
  have e := Option.some.inj (hl'.symm.trans hk)
  subst e
  have e2 : r.1 = "TwoWayTexts$Part" := by
    have : pg_cl[2]? = some r := q1
    cases this
    rfl
  rw [e2]
  exact va_AO.moved hU.1.alike (va_AO.of (h0 (.arrayOver (.object "TwoWayTexts$Part")) (List.mem_of_getElem? (i := 135) (by decide +kernel))))
theorem fa_no {L : Nat} {xs : Nat → Int32} {j pc : Nat} (hj : j < 167) (h : ab_f (pg_G L xs) j pc = some .athrow) : ∀ x ∈ tableOf (pg_hd j), covers x pc = false := by
  have hk := ck_iv_at hj h
  simp only [ck_ivi, decide_eq_true_eq] at hk
  rw [hk]
  intro x hx
  cases hx
theorem ck_hx : (List.range 167).all (fun j => decide (pg_hx j = []) == decide (pg_hd j = []) && (pg_hx j).all (fun q => decide (q.2.2.1 ≠ 0))) = true := by decide +kernel
