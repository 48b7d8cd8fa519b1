/-! OURS. Facts of handlers, classes, static fields, thrown exceptions. -/
theorem ck_hx_at {j : Nat} (hj : j < 167) : (pg_hx j = [] ↔ pg_hd j = []) ∧ ∀ q ∈ pg_hx j, q.2.2.1 ≠ 0 := by
  have h := List.all_eq_true.mp ck_hx j (List.mem_range.mpr hj)
  simp only [Bool.and_eq_true, beq_iff_eq, List.all_eq_true, decide_eq_true_eq] at h
  exact ⟨decide_eq_decide.mp h.1, h.2⟩
theorem fa_c0 {L : Nat} {xs : Nat → Int32} (j pc ci : Nat) (hj : j < 167) (h : ab_ct (pg_G L xs) j pc ci = some 0) : ∀ x ∈ tableOf (pg_hd j), covers x pc = false := by
  obtain ⟨h1, h2⟩ := ck_hx_at hj
  have h' : pg_ct j pc ci = some 0 := h
  have e : pg_hx j = [] := by
    unfold pg_ct at h'
    cases hq : pg_hx j with
    | nil => rfl
    | cons a r =>
      rw [hq] at h' h2
      simp only [Option.map_eq_some_iff] at h'
      obtain ⟨q, q1, q2⟩ := h'
      exact absurd q2 (h2 q (List.mem_of_find?_eq_some q1))
  rw [h1.mp e]
  intro x hx
  cases hx
/-- the words of catching, at every state -/
def fa_cs (s : State) : Prop := ∀ (args : Array Value) (a b : Nat) (A B : vw_C), 6 ≤ a → 6 ≤ b → pg_cl[a]? = some A → pg_cl[b]? = some B → if a = b then (Cond.castable A.1 B.1).before args s = true else (Cond.not (Cond.castable A.1 B.1)).before args s = true
def hs_par (j : Nat) : List (Nat × Nat × Nat × Nat) → List (Nat × Nat × Nat × Nat) → Bool
  | [], [] => true
  | x :: r, y :: t => x.1 == y.1 && x.2.1 == y.2.1 && x.2.2.1 == y.2.2.1 && x.2.2.2 != 0 && decide (pg_look pg_lc_l (pg_o j) x.2.2.2 = some y.2.2.2) && decide (6 ≤ y.2.2.2) && hs_par j r t
  | _, _ => false
theorem ck_par : (List.range 167).all (fun j => hs_par j (pg_hd j) (pg_hx j)) = true := by decide +kernel
theorem fa_hs {s0 : State} {a0 : Array Value} (h0 : ∀ w ∈ TT, w.before a0 s0 = true) {s : State} {args : Array Value} {j pc ci t : Nat} {r : vw_C} (hU : fa s0 s) (hj : j < 167) (hcs : fa_cs s) (hr : pg_cl[ci]? = some r) (h6 : 6 ≤ ci) : ∀ hd hx : List (Nat × Nat × Nat × Nat), hs_par j hd hx = true → (hx.find? (fun q => decide (q.1 ≤ pc) && decide (pc < q.2.1) && q.2.2.2 == ci)).map (fun q => q.2.2.1) = some t → sd_Hs args s (pg_yn j).cls r.1 pc t (tableOf hd) := by
  intro hd
  induction hd with
  | nil =>
    intro hx hp hf
    cases hx with
    | nil => cases hf
    | cons y r => cases hp
  | cons x hd ih =>
    intro hx hp hf
    cases hx with
    | nil => cases hp
    | cons y hx =>
      simp only [hs_par, Bool.and_eq_true, beq_iff_eq, bne_iff_ne, decide_eq_true_eq] at hp
      obtain ⟨⟨⟨⟨⟨⟨p1, p2⟩, p3⟩, p4⟩, p5⟩, p6⟩, p7⟩ := hp
      obtain ⟨B, b1, b2⟩ := fa_lc0 (L := 0) (xs := fun _ => 0) h0 (args := args) hU hj p5
      show (covers ⟨x.1, x.2.1, x.2.2.1, x.2.2.2⟩ pc = false ∧ _) ∨ (covers ⟨x.1, x.2.1, x.2.2.1, x.2.2.2⟩ pc = true ∧ _)
      by_cases hc : (decide (y.1 ≤ pc) && decide (pc < y.2.1)) = true
      · refine Or.inr ⟨by rw [p1, p2]; simpa [covers] using hc, p4, B.1, b2, ?_⟩
        have hq := hcs args ci y.2.2.2 r B h6 p6 hr b1
        by_cases he : y.2.2.2 = ci
        · rw [if_pos he.symm] at hq
          refine Or.inl ⟨hq, ?_⟩
          rw [List.find?_cons_of_pos (by rw [hc]; simp [he])] at hf
          exact p3.trans (Option.some.inj hf)
        · rw [if_neg (fun e => he e.symm)] at hq
          refine Or.inr ⟨hq, ih hx p7 ?_⟩
          rw [List.find?_cons_of_neg (by rw [hc]; simp [he])] at hf
          exact hf
      · refine Or.inl ⟨by rw [p1, p2]; simpa [covers] using hc, ih hx p7 ?_⟩
        rw [List.find?_cons_of_neg (by intro e; exact hc (Bool.and_eq_true_iff.mp e).1)] at hf
        exact hf
theorem fa_ct {L : Nat} {xs : Nat → Int32} {s0 : State} {a0 : Array Value} (h0 : ∀ w ∈ TT, w.before a0 s0 = true) (s : State) (args : Array Value) (j pc ci t : Nat) (r : vw_C) (hU : fa s0 s) (hcs : fa_cs s) (hj : j < 167) (h : ab_ct (pg_G L xs) j pc ci = some (t + 1)) (hr : (ab_cl (pg_G L xs))[ci]? = some r) : sd_Hs args s (pg_yn j).cls r.1 pc (t + 1) (tableOf (pg_hd j)) := by
  have hp := List.all_eq_true.mp ck_par j (List.mem_range.mpr hj)
  have h' : pg_ct j pc ci = some (t + 1) := h
  unfold pg_ct at h'
  cases hq : pg_hx j with
  | nil => rw [hq] at h'; cases h'
  | cons a l =>
    rw [hq] at h' hp
    simp only at h'
    have h6 : 6 ≤ ci := by
      have h2 := h'
      rw [Option.map_eq_some_iff] at h2
      obtain ⟨q, q1, -⟩ := h2
      have q2 := List.find?_some q1
      simp only [Bool.and_eq_true, beq_iff_eq] at q2
      have q3 : ∀ (hd hx : List (Nat × Nat × Nat × Nat)), hs_par j hd hx = true → ∀ q ∈ hx, 6 ≤ q.2.2.2 := by
        intro hd
        induction hd with
        | nil => intro hx hp q hq; cases hx with
          | nil => cases hq
          | cons y r => cases hp
        | cons x hd ih => intro hx hp q hq; cases hx with
          | nil => cases hp
          | cons y hx =>
            simp only [hs_par, Bool.and_eq_true, decide_eq_true_eq] at hp
            rcases List.mem_cons.mp hq with rfl | h
            · exact hp.1.2
            · exact ih hx hp.2 q h
      rw [← q2.2]
      exact q3 _ _ hp q (List.mem_of_find?_eq_some q1)
    exact fa_hs h0 hU hj hcs hr h6 _ _ hp h'
theorem fa_notc {s0 U : State} (hU : fa s0 U) {a0 args : Array Value} {a b : String} (h : (Cond.not (.castable a b)).before a0 s0 = true) : (Cond.not (.castable a b)).before args U = true := by
  exact Cond.notCastable_moved (T := U) hU.1.alike h
theorem fa_lst {s0 U : State} (hU : fa s0 U) {a0 args : Array Value} {O f d : String} (h : (Cond.laysStatic O f d).before a0 s0 = true) : (Cond.laysStatic O f d).before args U = true := by
  obtain ⟨c, k, i, f, a, cell, hc, hi, hst, ha, hcell, hs, hcls, hlt, hty⟩ := Cond.laysStatic_spec h
  obtain ⟨k', hi', hek⟩ := State.fieldFound?_setVm hU.1.alike hi
  exact Cond.laysStatic_of (s := U) (by rw [hU.1.alike.findClass]; exact hc) hi' hst (by rw [hek]; exact ha) ((hU.2 a (Array.getElem?_eq_some_iff.mp hcell).1).trans hcell) hs hcls hlt (by rw [hek]; exact hty)
theorem fa_irs {s0 U : State} (hU : fa s0 U) {a0 args : Array Value} {O f d : String} (hl : (Cond.laysStatic O f d).before a0 s0 = true) (h : (Cond.isRef (.static O f d)).before a0 s0 = true) : (Cond.isRef (.static O f d)).before args U = true := by
  obtain ⟨v, hv, hr⟩ := Cond.isRef_spec h
  obtain ⟨c, k, i, f, a, cell, hc, hi, hst, ha, hcell, hs, hcls, hlt, hty⟩ := Cond.laysStatic_spec hl
  obtain ⟨-, a', cell', ha', hcell', -, hslot⟩ := Term.static_spec hi hv
  cases ha.symm.trans ha'
  cases hcell.symm.trans hcell'
  obtain ⟨k', hi', hek⟩ := State.fieldFound?_setVm hU.1.alike hi
  have := Term.static_eval (args := args) (first := U) (o := none) (idx := []) (s := U) hi' hst (by rw [hek]; exact ha) ((hU.2 a (Array.getElem?_eq_some_iff.mp hcell).1).trans hcell) hs hslot
  simp only [Cond.before, Cond.holds, Cond.value, this]
  cases v <;> first | rfl | cases hr
