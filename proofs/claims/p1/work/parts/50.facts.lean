/-! OURS. Classes and arrays known at the start; exceptions; all facts together. -/
theorem ck_cls_at {ci : Nat} {C : String} {T : u_T} {N : Nat} (h : pg_cl[ci]? = some (C, T, N)) : ci < 9 ∧ ck_cls ci = true := by
  have h1 : ci < 9 := by
    have := (List.getElem?_eq_some_iff.mp h).1
    simpa [pg_cl] using this
  exact ⟨h1, List.all_eq_true.mp ck_cls_ok ci (List.mem_range.mpr h1)⟩
theorem ck_cls_sp {ci : Nat} {C : String} {T : u_T} {N : Nat} (h : pg_cl[ci]? = some (C, T, N)) : (∀ k, k < N → ∃ ty, pg_tf ci k = some ty ∧ parseFieldDescriptor (T k).2.2.1 = some ty) ∧ (∀ a, a < N → ∀ b, b < N → a ≠ b → (T a).2.1 ≠ (T b).2.1) ∧ TT[pg_kp ci]? = some (.initialized C) ∧ TT[pg_np ci]? = some (.instantiable C (pg_wc ci)) ∧ (match pg_df ci with
    | none => 6 ≤ ci ∧ N = 0 ∧ Bundle.fit C = true ∧ pg_wc ci = 6
    | some fs => fs.length = N ∧ pg_wc ci = N ∧ (∀ k, k < N → defaultValue ((pg_tf ci k).getD .int) = vp_V fs k) ∧ ∀ ad, fs.map (sd_v ad) = fs) := by
  have h2 := (ck_cls_at h).2
  unfold ck_cls at h2
  rw [h] at h2
  simp only [Bool.and_eq_true, decide_eq_true_eq, List.all_eq_true, List.mem_range] at h2
  obtain ⟨⟨⟨⟨a1, a2⟩, a3⟩, a4⟩, a5⟩ := h2
  refine ⟨?_, ?_, a3, a4, ?_⟩
  · intro k hk
    obtain ⟨b1, b2⟩ := a1 k hk
    obtain ⟨ty, hty⟩ := Option.isSome_iff_exists.mp b1
    exact ⟨ty, hty, by rw [b2, hty]⟩
  · have h3 := List.pairwise_iff_getElem.mp (List.pairwise_map.mp a2)
    intro a ha b hb hne
    rcases Nat.lt_or_gt_of_ne hne with hl | hl
    · have := h3 a b (by simpa using ha) (by simpa using hb) hl
      simpa using this
    · have := h3 b a (by simpa using hb) (by simpa using ha) hl
      intro e
      apply this
      simpa using e.symm
  · cases hd : pg_df ci with
    | none =>
      rw [hd] at a5
      simp only [Bool.and_eq_true, decide_eq_true_eq] at a5
      exact ⟨a5.1.1.1, a5.1.1.2, a5.1.2, a5.2⟩
    | some fs =>
      rw [hd] at a5
      simp only [Bool.and_eq_true, decide_eq_true_eq, List.all_eq_true, List.mem_range] at a5
      refine ⟨a5.1.1.1, a5.1.1.2, a5.1.2, fun ad => ?_⟩
      have h3 : ∀ v ∈ fs, sd_v ad v = v := by
        intro v hv
        have h4 := a5.2 v hv
        cases v <;> first | rfl | cases h4
      exact (List.map_congr_left h3).trans (List.map_id' fs)
theorem fa_Cl {L : Nat} {xs : Nat → Int32} : sd_Cl (pg_G L xs) := by
  intro ci C T N h
  have h' := ck_cls_sp (ci := ci) (C := C) (T := T) (N := N) h
  exact ⟨h'.1, h'.2.1⟩
theorem fa_Lc {L : Nat} {xs : Nat → Int32} {s0 : State} {a0 : Array Value} {ad : Nat → Nat} (h0 : ∀ w ∈ TT, w.before a0 s0 = true) (s : State) (args : Array Value) (j idx ci : Nat) (fs : List Value) (hU : fa s0 s) (hj : j < 167) (hl : ab_lc (pg_G L xs) j idx = some ci) (hd : ab_df (pg_G L xs) ci = some fs) : sd_Lc (pg_G L xs) pg_ts args s (pg_yn j).cls ad idx ci fs := by
  obtain ⟨⟨C, T, N⟩, q1, q2⟩ := fa_lc0 h0 (args := args) hU hj hl
  obtain ⟨-, -, c3, c4, c5⟩ := ck_cls_sp q1
  have hd' : pg_df ci = some fs := hd
  rw [hd'] at c5
  obtain ⟨d1, d2, d3, d4⟩ := c5
  rw [d2] at c4
  exact ⟨C, T, N, q1, fun w hw => List.mem_flatMap.mpr ⟨_, List.mem_of_getElem? q1, hw⟩, q2, fa_at h0 c4 rfl hU, fa_at h0 c3 rfl hU, d1, d2, d3, d4 ad⟩
theorem fa_K0 {s0 : State} {a0 : Array Value} (h0 : ∀ w ∈ TT, w.before a0 s0 = true) : ∃ (D : va_G) (dA : Nat → ClassId), va_K D pg_cl [(dA 0, .int), (dA 1, .long), (dA 2, .char), (dA 3, .object "TwoWayTexts$Part")] s0 := by
  have hD : ∀ c : Nat, ∃ p : ClassId × (Nat → Nat), ∀ q : vw_C, pg_cl[c]? = some q → u_Kn s0 q.1 q.2.1 q.2.2 p.1 p.2 := by
    intro c
    cases hq : pg_cl[c]? with
    | none => exact ⟨(0, fun _ => 0), fun q h => by cases h⟩
    | some q =>
      obtain ⟨C, T, N⟩ := q
      obtain ⟨-, -, c3, c4, c5⟩ := ck_cls_sp hq
      obtain ⟨cC, iS, hk⟩ := u_known (C := C) (T := T) (N := N) (fa_ts h0 s0 a0 (fa_rf s0)) (fun w hw => List.mem_flatMap.mpr ⟨_, List.mem_of_getElem? hq, hw⟩) (h0 _ (List.mem_of_getElem? c4))
      exact ⟨(cC, iS), fun q h => by cases h; exact hk⟩
  obtain ⟨f, hf⟩ := Classical.skolem.mp hD
  have ar : ∀ (c : ClassId) (k : Class) (comp : ClassId) (ty : FieldType), s0.vm.classes[c]? = some k → k.kind = .array comp ty → ArrOfT s0 c ty := by
    intro c k comp ty h1 h2 n z
    exact ⟨fun k h => (by cases h), k, h1, comp, h2⟩
  obtain ⟨c0, k0, m0, a1, a2, a3⟩ := Cond.arrayClass_spec (h0 (.arrayClass .int) (List.mem_of_getElem? (i := 127) (by decide +kernel)))
  obtain ⟨c1, k1, m1, b1, b2, b3⟩ := Cond.arrayClass_spec (h0 (.arrayClass .long) (List.mem_of_getElem? (i := 151) (by decide +kernel)))
  obtain ⟨c2, k2, m2, d1, d2, d3⟩ := Cond.arrayClass_spec (h0 (.arrayClass .char) (List.mem_of_getElem? (i := 126) (by decide +kernel)))
  obtain ⟨m3, c3, k3, e0, -, e2, e3, e1⟩ := Cond.arrayOver_spec (h0 (.arrayOver (.object "TwoWayTexts$Part")) (List.mem_of_getElem? (i := 135) (by decide +kernel)))
  refine ⟨(fun c => (f c).1, fun c => (f c).2), fun t => if t = 0 then c0 else if t = 1 then c1 else if t = 2 then c2 else c3, fun c q hq => hf c q hq, ?_⟩
  intro k q hk
  match k, hk with
  | 0, hk => cases hk; exact ⟨ar _ _ _ _ a2 a3, a1⟩
  | 1, hk => cases hk; exact ⟨ar _ _ _ _ b2 b3, b1⟩
  | 2, hk => cases hk; exact ⟨ar _ _ _ _ d2 d3, d1⟩
  | 3, hk => cases hk; exact ⟨ar _ _ _ _ e2 e3, k3, m3, e2, e3, e0, e1⟩
  | n + 4, hk => cases hk
def pg_up : List String := ["java/lang/RuntimeException", "java/lang/Exception"]
def ow_k (w : Cond) : Bool := match w with
  | .laysStatic O f d => decide ((O, f, d) = ("java/lang/Throwable", "UNASSIGNED_STACK", "[Ljava/lang/StackTraceElement;")) || decide ((O, f, d) = ("java/lang/Throwable", "SUPPRESSED_SENTINEL", "Ljava/util/List;"))
  | .isRef t => decide (t = .static "java/lang/Throwable" "UNASSIGNED_STACK" "[Ljava/lang/StackTraceElement;") || decide (t = .static "java/lang/Throwable" "SUPPRESSED_SENTINEL" "Ljava/util/List;")
  | .declares y => decide (Cond.declares y ∈ TT)
  | .castable a b => decide (Cond.castable a b ∈ TT)
  | w => decide (w ∈ TT) && goodWord w
def pg_xi : List (Nat × Nat) := [(6, 72), (7, 131), (8, 166)]
theorem ck_own : pg_xi.all (fun q => match pg_cl[q.1]? with
  | none => false
  | some r => (Bundle.ownAtoms "TwoWayTexts" q.2 r.1 pg_up).all ow_k) = true := by decide +kernel
def pg_xs : List (Nat × String) := [(70, "a character is not 32 .. 126"), (160, "there is no program"), (99, "neither 0 (sources) nor 1 (views)"), (164, "there is no such text"), (129, "nothing is kept"), (154, "nothing was noted")]
theorem ck_strs : pg_xs.all (fun q => decide (Cond.stringRef "TwoWayTexts" q.1 q.2 ∈ TT)) = true := by decide +kernel
def ck_nx (j : Nat) : List (Option Instr) → Bool
  | [] => true
  | some (.new idx) :: r => (match pg_look pg_lc_l (pg_o j) idx with
      | some ci => decide (ci < 6) || (decide ((pg_yn j).cls = "TwoWayTexts") && (match (r[3]?.join : Option Instr), (r[5]?.join : Option Instr) with
        | some (.ldc k), some (.invokespecial mI) => (pg_xs.map (fun q => q.1)).contains k && pg_xi.contains (ci, mI)
        | _, _ => false))
      | none => true) && ck_nx j r
  | _ :: r => ck_nx j r
theorem ck_nx_ok : (List.range 167).all (fun j => ck_nx j (pg_tb.getD j [])) = true := by decide +kernel
theorem ck_nx_at {j : Nat} : ∀ (l : List (Option Instr)), ck_nx j l = true → ∀ pc idx ci k mI, l[pc]?.join = some (.new idx) → pg_look pg_lc_l (pg_o j) idx = some ci → 6 ≤ ci → l[pc + 4]?.join = some (.ldc k) → l[pc + 6]?.join = some (.invokespecial mI) → (pg_yn j).cls = "TwoWayTexts" ∧ k ∈ pg_xs.map (fun q => q.1) ∧ (ci, mI) ∈ pg_xi := by
  intro l
  induction l with
  | nil => intro _ pc idx ci k mI h; cases h
  | cons o r ih =>
    intro hc pc idx ci k mI h1 h2 h3 h4 h5
    cases pc with
    | zero =>
      have h1' : o = some (.new idx) := h1
      subst h1'
      have h4' : r[3]?.join = some (.ldc k) := h4
      have h5' : r[5]?.join = some (.invokespecial mI) := h5
      simp only [ck_nx, h2, h4', h5', Bool.and_eq_true, Bool.or_eq_true, decide_eq_true_eq, List.contains_iff_mem] at hc
      rcases hc.1 with hc | hc
      · omega
      · exact ⟨hc.1, hc.2.1, hc.2.2⟩
    | succ pc =>
      refine ih ?_ pc idx ci k mI h1 h2 h3 h4 h5
      unfold ck_nx at hc
      split at hc
      · rename_i e; cases e
      · rename_i e
        cases e
        exact (Bool.and_eq_true_iff.mp hc).2
      · rename_i e
        cases e
        exact hc
theorem fa_cst {s0 U : State} (hU : fa s0 U) {a0 args : Array Value} {a b : String} (h : (Cond.castable a b).before a0 s0 = true) : (Cond.castable a b).before args U = true := by
  have e := Cond.castable_setVm (args := a0) hU.1.alike a b
  exact e.trans h
theorem fa_own {s0 U : State} {a0 args : Array Value} (h0 : ∀ w ∈ TT, w.before a0 s0 = true) (hn : narrow_1.before a0 s0 = true) (hU : fa s0 U) {w : Cond} (hw : ow_k w = true) : w.before args U = true := by
  have hs := flat_of_before _ hn
  have l1 : (Cond.laysStatic "java/lang/Throwable" "UNASSIGNED_STACK" "[Ljava/lang/StackTraceElement;").before a0 s0 = true := h0 _ (List.mem_of_getElem? (i := 488) (by decide +kernel))
  have l2 : (Cond.laysStatic "java/lang/Throwable" "SUPPRESSED_SENTINEL" "Ljava/util/List;").before a0 s0 = true := h0 _ (List.mem_of_getElem? (i := 490) (by decide +kernel))
  have r1 : (Cond.isRef (.static "java/lang/Throwable" "UNASSIGNED_STACK" "[Ljava/lang/StackTraceElement;")).before a0 s0 = true := hs _ (by decide +kernel)
  have r2 : (Cond.isRef (.static "java/lang/Throwable" "SUPPRESSED_SENTINEL" "Ljava/util/List;")).before a0 s0 = true := hs _ (by decide +kernel)
  unfold ow_k at hw
  split at hw
  · rename_i O f d
    simp only [Bool.or_eq_true, decide_eq_true_eq] at hw
    rcases hw with hw | hw
    · cases hw; exact fa_lst hU l1
    · cases hw; exact fa_lst hU l2
  · rename_i t
    simp only [Bool.or_eq_true, decide_eq_true_eq] at hw
    rcases hw with hw | hw
    · rw [hw]; exact fa_irs hU l1 r1
    · rw [hw]; exact fa_irs hU l2 r2
  · exact fa_de h0 (of_decide_eq_true hw) hU
  · exact fa_cst hU (h0 _ (of_decide_eq_true hw))
  · simp only [Bool.and_eq_true, decide_eq_true_eq] at hw
    exact word_at hU.1 (good_of_word hw.2) (h0 _ hw.1)
theorem fa_lx {L : Nat} {xs : Nat → Int32} {s0 : State} {a0 : Array Value} (h0 : ∀ w ∈ TT, w.before a0 s0 = true) (hn : narrow_1.before a0 s0 = true) (U : State) (args : Array Value) (j pc idx ci k mI : Nat) (hU : fa s0 U) (hj : j < 167) (h1 : ab_f (pg_G L xs) j pc = some (.new idx)) (h2 : ab_lc (pg_G L xs) j idx = some ci) (h3 : ab_df (pg_G L xs) ci = none) (h4 : ab_f (pg_G L xs) j (pc + 4) = some (.ldc k)) (h5 : ab_f (pg_G L xs) j (pc + 6) = some (.invokespecial mI)) : sd_Lx (pg_G L xs) args U (pg_yn j).cls idx ci k mI := by
  obtain ⟨⟨C, T, N⟩, q1, q2⟩ := fa_lc0 h0 (args := args) hU hj h2
  obtain ⟨-, -, c3, c4, c5⟩ := ck_cls_sp q1
  have hd' : pg_df ci = none := h3
  rw [hd'] at c5
  obtain ⟨d1, rfl, d3, d4⟩ := c5
  rw [d4] at c4
  obtain ⟨z1, z2, z3⟩ := ck_nx_at _ (List.all_eq_true.mp ck_nx_ok j (List.mem_range.mpr hj)) pc idx ci k mI h1 h2 d1 h4 h5
  obtain ⟨⟨k', tx⟩, y1, rfl⟩ := List.mem_map.mp z2
  have y2 := h0 _ (of_decide_eq_true (List.all_eq_true.mp ck_strs _ y1))
  have y3 := List.all_eq_true.mp ck_own _ z3
  simp only [q1] at y3
  have hcur : ∃ cur, s0.vm.findClass "TwoWayTexts" = some cur := by
    have h1 := y2
    simp only [Cond.before, Cond.holds, Cond.value] at h1
    cases hc : s0.vm.findClass "TwoWayTexts" with
    | none => simp [hc] at h1
    | some cur => exact ⟨cur, rfl⟩
  obtain ⟨cur, hcur⟩ := hcur
  obtain ⟨_, _, _, a, _, _, _, _, _, y4⟩ := Cond.stringRef_spec hcur y2
  refine ⟨C, T, pg_up, tx, a, q1, d3, ?_, by decide, d4, q2, fa_at h0 c4 rfl hU, fa_at h0 c3 rfl hU, ?_, ?_⟩
  · intro n hn
    have : pg_up.all Bundle.fit = true := by decide +kernel
    exact List.all_eq_true.mp this n hn
  · rw [z1]
    exact vk_R.warm hU.1 (vk_R.of (A := a0) y2 y4)
  · rw [z1]
    intro w hw
    exact fa_own h0 hn hU (List.all_eq_true.mp y3 w hw)
theorem fa_cs_of {s0 U : State} {a0 : Array Value} (h0 : ∀ w ∈ TT, w.before a0 s0 = true) (hn : narrow_1.before a0 s0 = true) (hU : fa s0 U) : fa_cs U := by
  have hs := flat_of_before _ hn
  have c9 : ∀ (a : Nat) (A : vw_C), 6 ≤ a → pg_cl[a]? = some A → a = 6 ∨ a = 7 ∨ a = 8 := by
    intro a A h6 h
    obtain ⟨C, T, N⟩ := A
    have := (ck_cls_at h).1
    omega
  intro args a b A B ha hb hA hB
  rcases c9 a A ha hA with rfl | rfl | rfl <;> rcases c9 b B hb hB with rfl | rfl | rfl <;> cases hA <;> cases hB
  · exact fa_cst hU (h0 _ (List.mem_of_getElem? (i := 463) (by decide +kernel)))
  · exact fa_notc hU (hs _ (by decide +kernel))
  · exact fa_notc hU (hs _ (by decide +kernel))
  · exact fa_notc hU (hs _ (by decide +kernel))
  · exact fa_cst hU (h0 _ (List.mem_of_getElem? (i := 543) (by decide +kernel)))
  · exact fa_notc hU (hs _ (by decide +kernel))
  · exact fa_notc hU (hs _ (by decide +kernel))
  · exact fa_notc hU (hs _ (by decide +kernel))
  · exact fa_cst hU (h0 _ (List.mem_of_getElem? (i := 575) (by decide +kernel)))
