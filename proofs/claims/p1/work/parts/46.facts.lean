/-! OURS. More of the words: calls, stores of final fields, new objects, arrays, the JDK's members. -/
def ck_ivi (j : Nat) : Instr → Bool
  | .invokestatic idx => (match pg_look pg_lm_l (pg_o j) idx with
    | some jj => decide (1000000 ≤ jj) || (decide (pg_rc jj = none) && decide (jj ≠ 0))
    | none => true)
  | .invokevirtual idx => (match pg_look pg_lm_l (pg_o j) idx with
    | some jj => decide (1000000 ≤ jj) || ((pg_rc jj).isSome && decide ((pg_yn jj).name ≠ "<init>"))
    | none => true)
  | .invokespecial idx => (match pg_look pg_lm_l (pg_o j) idx with
    | some jj => decide (1000000 ≤ jj) || ((pg_rc jj).isSome && decide ((pg_yn jj).name = "<init>") && decide (pg_rt jj = none) && decide (pg_hd jj = []))
    | none => true)
  | .putfield idx => (match pg_look pg_lf_l (pg_o j) idx with
    | some q => (match pg_cl[q.1]? with
      | some r => !(r.2.1 q.2).2.2.2 || (decide ((pg_yn j).name = "<init>") && decide ((r.2.1 q.2).1 = (pg_yn j).cls) && ((pg_lf_l.getD (pg_o j) []).zip (pg_lfp.getD (pg_o j) [])).any (fun z => z.1.1 == idx && decide (TT[z.2]? = some (.fieldLink (pg_yn j).cls idx (r.2.1 q.2).1 (r.2.1 q.2).2.1 (r.2.1 q.2).2.2.1))))
      | none => false)
    | none => true)
  | .anewarray idx => decide (pg_look pg_lc_l (pg_o j) idx = some 2)
  | .athrow => decide (pg_hd j = [])
  | _ => true
def ck_ivo (j : Nat) : Bool := (pg_tb.getD j []).all (fun o => match o with
  | none => true
  | some i => ck_ivi j i)
theorem ck_iv_0 : (List.range 24).all (fun k => ck_ivo (0 + k)) = true := by decide +kernel
theorem ck_iv_24 : (List.range 24).all (fun k => ck_ivo (24 + k)) = true := by decide +kernel
theorem ck_iv_48 : (List.range 24).all (fun k => ck_ivo (48 + k)) = true := by decide +kernel
theorem ck_iv_72 : (List.range 24).all (fun k => ck_ivo (72 + k)) = true := by decide +kernel
theorem ck_iv_96 : (List.range 24).all (fun k => ck_ivo (96 + k)) = true := by decide +kernel
theorem ck_iv_120 : (List.range 24).all (fun k => ck_ivo (120 + k)) = true := by decide +kernel
theorem ck_iv_144 : (List.range 23).all (fun k => ck_ivo (144 + k)) = true := by decide +kernel
theorem ck_iv : ∀ j, j < 167 → ck_ivo j = true := by
  intro j hj
  by_cases h0 : 0 ≤ j ∧ j < 24
  · have h := List.all_eq_true.mp ck_iv_0 (j - 0) (List.mem_range.mpr (by omega))
    rw [show 0 + (j - 0) = j by omega] at h
    exact h
  by_cases h24 : 24 ≤ j ∧ j < 48
  · have h := List.all_eq_true.mp ck_iv_24 (j - 24) (List.mem_range.mpr (by omega))
    rw [show 24 + (j - 24) = j by omega] at h
    exact h
  by_cases h48 : 48 ≤ j ∧ j < 72
  · have h := List.all_eq_true.mp ck_iv_48 (j - 48) (List.mem_range.mpr (by omega))
    rw [show 48 + (j - 48) = j by omega] at h
    exact h
  by_cases h72 : 72 ≤ j ∧ j < 96
  · have h := List.all_eq_true.mp ck_iv_72 (j - 72) (List.mem_range.mpr (by omega))
    rw [show 72 + (j - 72) = j by omega] at h
    exact h
  by_cases h96 : 96 ≤ j ∧ j < 120
  · have h := List.all_eq_true.mp ck_iv_96 (j - 96) (List.mem_range.mpr (by omega))
    rw [show 96 + (j - 96) = j by omega] at h
    exact h
  by_cases h120 : 120 ≤ j ∧ j < 144
  · have h := List.all_eq_true.mp ck_iv_120 (j - 120) (List.mem_range.mpr (by omega))
    rw [show 120 + (j - 120) = j by omega] at h
    exact h
  by_cases h144 : 144 ≤ j ∧ j < 167
  · have h := List.all_eq_true.mp ck_iv_144 (j - 144) (List.mem_range.mpr (by omega))
    rw [show 144 + (j - 144) = j by omega] at h
    exact h
  omega
theorem ck_iv_at {L : Nat} {xs : Nat → Int32} {j pc : Nat} {i : Instr} (hj : j < 167) (hf : ab_f (pg_G L xs) j pc = some i) : ck_ivi j i = true := by
  have h0 : ((pg_tb.getD j [])[pc]?).join = some i := hf
  have h1 : (pg_tb.getD j [])[pc]? = some (some i) := by
    cases h : (pg_tb.getD j [])[pc]? with
    | none => rw [h] at h0; cases h0
    | some o =>
      rw [h] at h0
      simp at h0
      rw [h0]
  exact List.all_eq_true.mp (ck_iv j hj) (some i) (List.mem_of_getElem? h1)
theorem ck_pl : (List.range 11).all (fun o => ((pg_lm_l.getD o []).zip (pg_lmp.getD o [])).all (fun q => decide (q.1.2 < 167) || q.1.2 == 1000004 || decide (TT[q.2]? = some (.methodLink (pg_on.getD o "") q.1.1 (pg_ym o q.1.1 q.1.2))))) = true := by decide +kernel
theorem fa_pl {L : Nat} {xs : Nat → Int32} {s0 : State} {a0 : Array Value} (h0 : ∀ w ∈ TT, w.before a0 s0 = true) {U : State} {args : Array Value} (hU : fa s0 U) {j idx jj : Nat} (hj : j < 167) (h : ab_lm (pg_G L xs) j idx = some jj) (h4 : jj ≠ 1000004) (h5 : ¬ jj < 167) : (Cond.methodLink (pg_yn j).cls idx (pg_ym (pg_o j) idx jj)).before args U = true := by
  obtain ⟨e1, e2, -⟩ := ck_md hj
  have hi : (idx, jj) ∈ pg_lm_l.getD (pg_o j) [] := pg_look_in h
  have hc := List.all_eq_true.mp ck_lm (pg_o j) (List.mem_range.mpr e2)
  unfold ck_lmo at hc
  simp only [Bool.and_eq_true, decide_eq_true_eq] at hc
  obtain ⟨p, hp⟩ := pg_zip hc.1 hi
  have h2 := List.all_eq_true.mp (List.all_eq_true.mp ck_pl (pg_o j) (List.mem_range.mpr e2)) _ hp
  simp only [Bool.or_eq_true, decide_eq_true_eq, beq_iff_eq] at h2
  rcases h2 with (h2 | h2) | h2
  · exact absurd h2 h5
  · exact absurd h2 h4
  · rw [e1]
    exact fa_at h0 h2 rfl hU
theorem fa_call {L : Nat} {xs : Nat → Int32} {s0 : State} {a0 : Array Value} (h0 : ∀ w ∈ TT, w.before a0 s0 = true) (U : State) (args : Array Value) (j pc : Nat) (i : Instr) (idx jj : Nat) (hU : fa s0 U) (hj : j < 167) (hf : ab_f (pg_G L xs) j pc = some i) (hiv : ab_iv i = some idx) (hl : ab_lm (pg_G L xs) j idx = some jj) (hjj : jj < 1000000) : jj < 167 ∧ sd_Lm args U (pg_yn j).cls (pg_yn jj) i ∧ (∀ idx, i = .invokestatic idx → ab_rc (pg_G L xs) jj = none) ∧ ((∀ idx, i ≠ .invokestatic idx) → ∃ ci r, ab_rc (pg_G L xs) jj = some ci ∧ (ab_cl (pg_G L xs))[ci]? = some r ∧ r.1 = (pg_yn jj).cls) := by
  have hk := ck_iv_at hj hf
  obtain ⟨hr, -⟩ := fa_lm hj hl (by omega)
  have hN : jj < 167 := by omega
  have hlk := fa_lmU h0 (args := args) hU hj hl (by omega)
  have hym : pg_ym (pg_o j) idx jj = pg_yn jj := by
    unfold pg_ym
    rw [if_neg (by omega), if_neg (by omega), if_neg (by omega), if_neg (by omega)]
  rw [hym] at hlk
  obtain ⟨c1, c2, -, -, -, -, c7, c8⟩ := ck_md hN
  have hl' : pg_look pg_lm_l (pg_o j) idx = some jj := hl
  have inst : ∀ ci, pg_rc jj = some ci → (Cond.instanceMethod (pg_yn jj)).before args U = true ∧ (∃ r, pg_cl[ci]? = some r ∧ r.1 = (pg_yn jj).cls) ∧ (((pg_yn jj).name = "<init>" ∧ pg_rt jj = none ∧ pg_hd jj = []) ∨ (Cond.selects (pg_yn jj).cls (pg_yn jj) (pg_yn jj)).before args U = true) := by
    intro ci hci
    rw [hci] at c8
    dsimp only at c8
    refine ⟨fa_at h0 c8.1 rfl hU, ?_, ?_⟩
    · cases hq : pg_cl[ci]? with
      | none => rw [hq] at c8; cases c8.2.2.1
      | some r => rw [hq] at c8; exact ⟨r, rfl, Option.some.inj c8.2.2.1⟩
    · rcases c8.2.2.2 with h | h
      · exact Or.inl h
      · exact Or.inr (fa_at h0 h rfl hU)
  cases i with
  | invokestatic k =>
    cases hiv
    simp only [ck_ivi, hl', Bool.or_eq_true, Bool.and_eq_true, decide_eq_true_eq] at hk
    rcases hk with hk | ⟨hk1, hk2⟩
    · omega
    · rw [hk1] at c8
      refine ⟨hN, ⟨hlk, ?_, fa_at h0 c7 rfl hU⟩, fun _ _ => hk1, fun h => absurd rfl (h idx)⟩
      rcases c8.1 with h | h
      · exact absurd h hk2
      · exact fa_at h0 h rfl hU
  | invokevirtual k =>
    cases hiv
    simp only [ck_ivi, hl', Bool.or_eq_true, Bool.and_eq_true, decide_eq_true_eq] at hk
    rcases hk with hk | ⟨hk1, hk2⟩
    · omega
    · obtain ⟨ci, hci⟩ := Option.isSome_iff_exists.mp hk1
      obtain ⟨i1, ⟨r, i2, i3⟩, i4⟩ := inst ci hci
      refine ⟨hN, ⟨hlk, i1, ?_⟩, fun _ h => (by cases h), fun _ => ⟨ci, r, hci, i2, i3⟩⟩
      rcases i4 with h | h
      · exact absurd h.1 hk2
      · exact h
  | invokespecial k =>
    cases hiv
    simp only [ck_ivi, hl', Bool.or_eq_true, Bool.and_eq_true, decide_eq_true_eq] at hk
    rcases hk with hk | ⟨⟨⟨hk1, hk2⟩, hk3⟩, hk4⟩
    · omega
    · obtain ⟨ci, hci⟩ := Option.isSome_iff_exists.mp hk1
      obtain ⟨i1, ⟨r, i2, i3⟩, i4⟩ := inst ci hci
      refine ⟨hN, ⟨hk2, hlk, i1, ?_⟩, fun _ h => (by cases h), fun _ => ⟨ci, r, hci, i2, i3⟩⟩
      rcases ck_d_ok jj hN with ⟨-, hw⟩ | ⟨hw, -⟩
      · rw [hk3] at hw
        exact ⟨_, _, fa_at h0 hw rfl hU⟩
      · exact absurd hk4 hw
  | _ => cases hiv
