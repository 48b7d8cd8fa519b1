/-! OURS. Facts of the start: static tables, the script, classes and arrays known, exceptions. -/
theorem fa_eqi {t : Term} {args : Array Value} {s : State} {z : Int32} (h : (Cond.eq t (.int z)).before args s = true) : t.eval args s none [] s = some (.int z) := by
  cases hv : t.eval args s none [] s with
  | none => simp [Cond.before, Cond.holds, Cond.value, hv] at h
  | some w =>
    have hz : (Term.int z).eval args s none [] s = some (.int z) := rfl
    simp only [Cond.before, Cond.holds, Cond.value, hv, hz] at h
    cases w <;> simp_all
/-- a static table of the class: its address, its contents -/
def fa_S (n : String) (N : Nat) (l : List Int32) (t : Nat) (A : Nat → Prop) (U : State) : Prop := va_Z "TwoWayTexts" n "[I" (.ref t) A U U.heap ∧ va_T .int t N (fun k => .int (l.getD k 0)) A U U.heap
theorem fa_S_mv {n : String} {N : Nat} {l : List Int32} {t : Nat} {s0 U : State} (hU : fa s0 U) (h : fa_S n N l t (fun q => s0.heap.size ≤ q) s0) : fa_S n N l t (fun q => s0.heap.size ≤ q) U := by
  refine ⟨(va_Z.moved hU.1.alike h.1).kept ?_, (va_T.moved hU.1.alike h.2).kept ?_⟩
  · intro a ha _
    exact hU.2 a ha
  · intro a ha _
    exact hU.2 a ha
theorem fa_starts {a0 : Array Value} {s0 : State} (h0 : ∀ w ∈ TT, w.before a0 s0 = true) (hn : narrow_1.before a0 s0 = true) : ∃ t, fa_S "STARTS" 8 pg_starts t (fun q => s0.heap.size ≤ q) s0 := by
  have hs := flat_of_before _ hn
  obtain ⟨t, t1, t2⟩ := va_Tof (args := a0) (s := s0) (tm := .static "TwoWayTexts" "STARTS" "[I") (ty := .int) (N := 8) (f := fun k => .int (pg_starts.getD k 0)) (A := fun q => s0.heap.size ≤ q) (by decide) (hs _ (by decide +kernel)) (fa_eqi (hs _ (by decide +kernel)))
    (fun j hj => by
      match j, hj with
      | 0, _ => exact fa_eqi (hs _ (by decide +kernel))
      | 1, _ => exact fa_eqi (hs _ (by decide +kernel))
      | 2, _ => exact fa_eqi (hs _ (by decide +kernel))
      | 3, _ => exact fa_eqi (hs _ (by decide +kernel))
      | 4, _ => exact fa_eqi (hs _ (by decide +kernel))
      | 5, _ => exact fa_eqi (hs _ (by decide +kernel))
      | 6, _ => exact fa_eqi (hs _ (by decide +kernel))
      | 7, _ => exact fa_eqi (hs _ (by decide +kernel))) (fun a ha => by show ¬ (s0.heap.size ≤ a); omega)
  exact ⟨t, va_Zof (h0 _ (List.mem_of_getElem? (i := 392) (by decide +kernel))) (h0 _ (List.mem_of_getElem? (i := 82) (by decide +kernel))) t1 (fun a ha => by show ¬ (s0.heap.size ≤ a); omega), t2⟩
theorem fa_powers {a0 : Array Value} {s0 : State} (h0 : ∀ w ∈ TT, w.before a0 s0 = true) (hn : narrow_1.before a0 s0 = true) : ∃ t, fa_S "POWERS" 7 pg_powers t (fun q => s0.heap.size ≤ q) s0 := by
  have hs := flat_of_before _ hn
  obtain ⟨t, t1, t2⟩ := va_Tof (args := a0) (s := s0) (tm := .static "TwoWayTexts" "POWERS" "[I") (ty := .int) (N := 7) (f := fun k => .int (pg_powers.getD k 0)) (A := fun q => s0.heap.size ≤ q) (by decide) (hs _ (by decide +kernel)) (fa_eqi (hs _ (by decide +kernel)))
    (fun j hj => by
      match j, hj with
      | 0, _ => exact fa_eqi (hs _ (by decide +kernel))
      | 1, _ => exact fa_eqi (hs _ (by decide +kernel))
      | 2, _ => exact fa_eqi (hs _ (by decide +kernel))
      | 3, _ => exact fa_eqi (hs _ (by decide +kernel))
      | 4, _ => exact fa_eqi (hs _ (by decide +kernel))
      | 5, _ => exact fa_eqi (hs _ (by decide +kernel))
      | 6, _ => exact fa_eqi (hs _ (by decide +kernel))) (fun a ha => by show ¬ (s0.heap.size ≤ a); omega)
  exact ⟨t, va_Zof (h0 _ (List.mem_of_getElem? (i := 395) (by decide +kernel))) (h0 _ (List.mem_of_getElem? (i := 82) (by decide +kernel))) t1 (fun a ha => by show ¬ (s0.heap.size ≤ a); omega), t2⟩
/-- the addresses -/
def fa_ad (base tS tP b i : Nat) : Nat := if i < 1000000 then base + i else if i = 1000000 then tS else if i = 1000001 then tP else b
theorem fa_ls {L : Nat} {xs : Nat → Int32} {s0 : State} {a0 : Array Value} {tS tP b : Nat} (h0 : ∀ w ∈ TT, w.before a0 s0 = true) (hS : fa_S "STARTS" 8 pg_starts tS (fun q => s0.heap.size ≤ q) s0) (hP : fa_S "POWERS" 7 pg_powers tP (fun q => s0.heap.size ≤ q) s0) (s : State) (args : Array Value) (j idx a : Nat) (hU : fa s0 s) (hj : j < 167) (h : ab_ls (pg_G L xs) j idx = some a) : sd_Ls args s (pg_yn j).cls s0.heap.size idx (fa_ad s0.heap.size tS tP b a) := by
  obtain ⟨e1, e2, -⟩ := ck_md hj
  have hi : (idx, a) ∈ pg_ls_l.getD (pg_o j) [] := pg_look_in h
  have hc := List.all_eq_true.mp ck_ls (pg_o j) (List.mem_range.mpr e2)
  unfold ck_lso at hc
  simp only [Bool.and_eq_true, decide_eq_true_eq] at hc
  obtain ⟨p, hp⟩ := pg_zip hc.1 hi
  have h2 := List.all_eq_true.mp hc.2 _ hp
  simp only [Bool.and_eq_true, Bool.or_eq_true, decide_eq_true_eq, beq_iff_eq] at h2
  refine ⟨"TwoWayTexts", pg_sn a, "[I", ?_, ?_⟩
  · rcases h2.1 with rfl | rfl
    · exact (fa_S_mv hU hS).1
    · exact (fa_S_mv hU hP).1
  · rw [e1]
    rcases h2.2 with h3 | h3
    · exact Or.inl (fa_at h0 h3 rfl hU)
    · exact Or.inr ⟨_, fa_nf h0 h3 hU⟩
theorem fa_ca {L : Nat} {xs : Nat → Int32} {s0 : State} {tS tP b : Nat} (hS : fa_S "STARTS" 8 pg_starts tS (fun q => s0.heap.size ≤ q) s0) (hP : fa_S "POWERS" 7 pg_powers tP (fun q => s0.heap.size ≤ q) s0) (hX : va_X b L xs s0 s0.heap) (hb : b < s0.heap.size) (s : State) (a n : Nat) (ys : Nat → Int32) (hU : fa s0 s) (h : ab_ca (pg_G L xs) a = some (n, ys)) : va_T .int (fa_ad s0.heap.size tS tP b a) n (fun k => .int (ys k)) (fun q => s0.heap.size ≤ q) s s.heap := by
  have h' : pg_ca L xs a = some (n, ys) := h
  unfold pg_ca at h'
  split at h'
  · cases h'
    exact (fa_S_mv hU hS).2
  · cases h'
    exact (fa_S_mv hU hP).2
  · cases h'
    obtain ⟨cell, q1, q2, q3, q4, q5⟩ := va_X.kept (H1 := s.heap) (va_X.moved hU.1.alike hX) (hU.2 b hb)
    exact ⟨cell, q1, q2, q3, by omega, by rw [q4], q5, by show ¬ (s0.heap.size ≤ b); omega⟩
  · cases h'
def ck_cls (ci : Nat) : Bool := match pg_cl[ci]? with
  | none => false
  | some r => (List.range r.2.2).all (fun k => (pg_tf ci k).isSome && decide (parseFieldDescriptor (r.2.1 k).2.2.1 = pg_tf ci k)) && decide (((List.range r.2.2).map (fun k => (r.2.1 k).2.1)).Nodup) && decide (TT[pg_kp ci]? = some (.initialized r.1)) && decide (TT[pg_np ci]? = some (.instantiable r.1 (pg_wc ci))) && (match pg_df ci with
    | none => decide (6 ≤ ci) && decide (r.2.2 = 0) && Bundle.fit r.1 && decide (pg_wc ci = 6)
    | some fs => decide (fs.length = r.2.2) && decide (pg_wc ci = r.2.2) && (List.range r.2.2).all (fun k => decide (defaultValue ((pg_tf ci k).getD .int) = vp_V fs k)) && fs.all (fun v => match v with
      | .ref _ => false
      | _ => true))
theorem ck_cls_ok : (List.range 9).all ck_cls = true := by decide +kernel
