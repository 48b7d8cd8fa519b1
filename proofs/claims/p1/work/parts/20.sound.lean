/-! OURS. The small machine is sound over the JVM: first what its numbers, objects and locals stand for; then the rules of stack, locals and branches. -/
def sd_v (ad : Nat → Nat) : Value → Value
  | .ref i => .ref (ad i)
  | v => v
def sd_x (ad : Nat → Nat) : vp_A → vp_A
  | (n, .inr (.inr (.inr (.inr f)))) => (n, .inr (.inr (.inr (.inr (fun q => (f q).map ad)))))
  | (n, .inr (.inr (.inr (.inl f)))) => (n, .inr (.inr (.inr (.inl f))))
  | (n, .inr (.inr (.inl f))) => (n, .inr (.inr (.inl f)))
  | (n, .inr (.inl f)) => (n, .inr (.inl f))
  | (n, .inl f) => (n, .inl f)
def sd_o (ad : Nat → Nat) (dA : Nat → ClassId) : ab_O → va_E
  | .inl (t, x) => .inl (dA t, sd_x ad x)
  | .inr (ci, fs) => .inr (ci, fs.map (sd_v ad))
def sd_w (ad : Nat → Nat) (dA : Nat → ClassId) (h : ab_H) : va_W := h.zipIdx.map (fun q => (ad q.2, sd_o ad dA q.1))
def sd_l (ad : Nat → Nat) (ls : ab_L) : List (Nat × Value) := (List.range ls.length).filterMap (fun i => match ls[i]? with
  | some (some v) => some (i, sd_v ad v)
  | _ => none)
theorem sd_v_cat (ad : Nat → Nat) (v : Value) : (sd_v ad v).category = v.category := by cases v <;> rfl
theorem sd_c2 (v : Value) : ab_c2 v = true ↔ v.category = 2 := by cases v <;> simp [ab_c2, Value.category]
theorem sd_c1 (v : Value) : ab_c2 v = false ↔ v.category = 1 := by cases v <;> simp [ab_c2, Value.category]
theorem sd_w_len (ad : Nat → Nat) (dA : Nat → ClassId) (h : ab_H) : (sd_w ad dA h).length = h.length := by simp [sd_w]
theorem sd_w_at {ad : Nat → Nat} {dA : Nat → ClassId} {h : ab_H} {i : Nat} {o : ab_O} (ho : h[i]? = some o) : (sd_w ad dA h)[i]? = some (ad i, sd_o ad dA o) := by
  simp [sd_w, ho]
theorem sd_w_inv {ad : Nat → Nat} {dA : Nat → ClassId} {h : ab_H} {i : Nat} {q : Nat × va_E} (hq : (sd_w ad dA h)[i]? = some q) : ∃ o, h[i]? = some o ∧ q = (ad i, sd_o ad dA o) := by
  simp only [sd_w, List.getElem?_map, List.getElem?_zipIdx, Option.map_map] at hq
  cases ho : h[i]? with
  | none => rw [ho] at hq; cases hq
  | some o => rw [ho] at hq; exact ⟨o, rfl, by simpa using hq.symm⟩
theorem sd_w_set {ad : Nat → Nat} {dA : Nat → ClassId} {h : ab_H} {i : Nat} (o : ab_O) : (sd_w ad dA h).set i (ad i, sd_o ad dA o) = sd_w ad dA (h.set i o) := by
  apply List.ext_getElem?
  intro k
  by_cases hk : k = i
  · subst hk
    simp only [sd_w, List.getElem?_set_self', List.getElem?_map, List.getElem?_zipIdx]
    cases h[k]? <;> simp
  · simp only [sd_w, List.getElem?_map, List.getElem?_zipIdx]
    rw [List.getElem?_set_ne (fun q => hk q.symm), List.getElem?_set_ne (fun q => hk q.symm)]
    simp
theorem sd_w_push {ad : Nat → Nat} {dA : Nat → ClassId} {h : ab_H} (o : ab_O) : sd_w ad dA h ++ [(ad h.length, sd_o ad dA o)] = sd_w ad dA (h ++ [o]) := by
  simp [sd_w, List.zipIdx_append]
theorem sd_l_in {ad : Nat → Nat} {ls : ab_L} {i : Nat} {w : Value} : (i, w) ∈ sd_l ad ls ↔ ∃ v, ls[i]? = some (some v) ∧ w = sd_v ad v := by
  unfold sd_l
  rw [List.mem_filterMap]
  constructor
  · rintro ⟨k, hk, h⟩
    split at h
    next v hv =>
      cases h
      exact ⟨v, hv, rfl⟩
    next => cases h
  · rintro ⟨v, hv, rfl⟩
    refine ⟨i, List.mem_range.mpr (List.getElem?_eq_some_iff.mp hv).1, ?_⟩
    simp [hv]
theorem sd_at {ad : Nat → Nat} {lsM : Array Slot} {nL : Nat} {ls : ab_L} (hl : lv_has lsM nL (sd_l ad ls)) {i : Nat} {v : Value} (hv : ls[i]? = some (some v)) : lsM[i]? = some (.val (sd_v ad v)) := hl.2.2 (i, sd_v ad v) (sd_l_in.mpr ⟨v, hv, rfl⟩)
theorem sd_clr {ls : ab_L} {i k : Nat} {v : Value} (h : (ab_clr ls i)[k]? = some (some v)) : ls[k]? = some (some v) ∧ ¬ (k + 1 = i ∧ v.category = 2) := by
  cases i with
  | zero => exact ⟨h, fun q => by omega⟩
  | succ n =>
    simp only [ab_clr] at h
    split at h
    next w hw =>
      cases hc : ab_c2 w with
      | true =>
        rw [hc] at h
        simp only [cond_true] at h
        by_cases hk : k = n
        · subst hk
          rw [List.getElem?_set_self' ] at h
          rw [hw] at h
          simp at h
        · rw [List.getElem?_set_ne (fun q => hk q.symm)] at h
          exact ⟨h, fun q => hk (by omega)⟩
      | false =>
        rw [hc] at h
        simp only [cond_false] at h
        refine ⟨h, fun q => ?_⟩
        have hkn : k = n := by omega
        subst hkn
        rw [hw] at h
        have hwv : w = v := by simpa using h
        have h9 := (sd_c1 w).mp hc
        rw [hwv] at h9
        omega
    next hno =>
      refine ⟨h, fun q => ?_⟩
      have hkn : k = n := by omega
      subst hkn
      exact hno _ h
theorem sd_s1 {ad : Nat → Nat} {lsM : Array Slot} {nL : Nat} {ls : ab_L} {i : Nat} {v : Value} (h : lv_has lsM nL ((i, sd_v ad v) :: (sd_l ad ls).filter (fun q => !(q.1 == i) && !(q.1 + 1 == i && q.2.category == 2)))) : lv_has lsM nL (sd_l ad (ab_s1 ls i v)) := by
  refine ⟨h.1, h.2.1, fun q hq => ?_⟩
  obtain ⟨k, w⟩ := q
  obtain ⟨u, hu, rfl⟩ := sd_l_in.mp hq
  refine h.2.2 (k, sd_v ad u) ?_
  unfold ab_s1 at hu
  by_cases hk : k = i
  · subst hk
    rw [List.getElem?_set_self'] at hu
    cases hz : (ab_clr ls k)[k]? with
    | none => rw [hz] at hu; simp at hu
    | some z =>
      rw [hz] at hu
      simp at hu
      subst hu
      exact List.mem_cons_self
  · rw [List.getElem?_set_ne (fun q => hk q.symm)] at hu
    obtain ⟨h1, h2⟩ := sd_clr hu
    refine List.mem_cons_of_mem _ (List.mem_filter.mpr ⟨sd_l_in.mpr ⟨u, h1, rfl⟩, ?_⟩)
    simp only [Bool.and_eq_true, Bool.not_eq_true', Bool.and_eq_false_iff, beq_eq_false_iff_ne]
    refine ⟨hk, ?_⟩
    by_cases h3 : k + 1 = i
    · right
      rw [sd_v_cat]
      exact fun q => h2 ⟨h3, q⟩
    · left
      exact h3
theorem sd_s2 {ad : Nat → Nat} {lsM : Array Slot} {nL : Nat} {ls : ab_L} {i : Nat} {v : Value} (h : lv_has lsM nL ((i, sd_v ad v) :: (sd_l ad ls).filter (fun q => !(q.1 == i) && (!(q.1 == i + 1) && !(q.1 + 1 == i && q.2.category == 2))))) : lv_has lsM nL (sd_l ad (ab_s2 ls i v)) := by
  refine ⟨h.1, h.2.1, fun q hq => ?_⟩
  obtain ⟨k, w⟩ := q
  obtain ⟨u, hu, rfl⟩ := sd_l_in.mp hq
  refine h.2.2 (k, sd_v ad u) ?_
  unfold ab_s2 at hu
  by_cases hk2 : k = i + 1
  · subst hk2
    rw [List.getElem?_set_self'] at hu
    cases hz : ((ab_clr ls i).set i (some v))[i + 1]? with
    | none => rw [hz] at hu; simp at hu
    | some z => rw [hz] at hu; simp at hu
  · rw [List.getElem?_set_ne (fun q => hk2 q.symm)] at hu
    by_cases hk : k = i
    · subst hk
      rw [List.getElem?_set_self'] at hu
      cases hz : (ab_clr ls k)[k]? with
      | none => rw [hz] at hu; simp at hu
      | some z =>
        rw [hz] at hu
        simp at hu
        subst hu
        exact List.mem_cons_self
    · rw [List.getElem?_set_ne (fun q => hk q.symm)] at hu
      obtain ⟨h1, h2⟩ := sd_clr hu
      refine List.mem_cons_of_mem _ (List.mem_filter.mpr ⟨sd_l_in.mpr ⟨u, h1, rfl⟩, ?_⟩)
      simp only [Bool.and_eq_true, Bool.not_eq_true', Bool.and_eq_false_iff, beq_eq_false_iff_ne]
      refine ⟨hk, hk2, ?_⟩
      by_cases h3 : k + 1 = i
      · right
        rw [sd_v_cat]
        exact fun q => h2 ⟨h3, q⟩
      · left
        exact h3
theorem sd_in_at (ad : Nat → Nat) : ∀ (vs : List Value) (i : Nat) (q : Nat × Value), q ∈ lv_args i (vs.map (sd_v ad)) ↔ ∃ k v, (ab_in vs)[k]? = some (some v) ∧ q = (i + k, sd_v ad v) := by
  intro vs
  induction vs with
  | nil => intro i q; simp [lv_args, ab_in]
  | cons v vs ih =>
    intro i q
    simp only [List.map_cons, lv_args, sd_v_cat, List.mem_cons]
    cases hc : ab_c2 v with
    | true =>
      have h2 := (sd_c2 v).mp hc
      simp only [h2, if_true]
      rw [ih]
      simp only [ab_in, hc, cond_true]
      constructor
      · rintro (rfl | ⟨k, w, h, rfl⟩)
        · exact ⟨0, v, rfl, rfl⟩
        · exact ⟨k + 2, w, by simpa using h, by simp; omega⟩
      · rintro ⟨k, w, h, rfl⟩
        match k, h with
        | 0, h => left; simp at h; subst h; rfl
        | 1, h => simp at h
        | k + 2, h => right; exact ⟨k, w, by simpa using h, by simp; omega⟩
    | false =>
      have h2 := (sd_c1 v).mp hc
      have h3 : ¬ v.category = 2 := by omega
      simp only [h3, if_false]
      rw [ih]
      simp only [ab_in, hc, cond_false]
      constructor
      · rintro (rfl | ⟨k, w, h, rfl⟩)
        · exact ⟨0, v, rfl, rfl⟩
        · exact ⟨k + 1, w, by simpa using h, by simp; omega⟩
      · rintro ⟨k, w, h, rfl⟩
        match k, h with
        | 0, h => left; simp at h; subst h; rfl
        | k + 1, h => right; exact ⟨k, w, by simpa using h, by simp; omega⟩
theorem sd_in_len (ad : Nat → Nat) (vs : List Value) : (lg_sl (vs.map (sd_v ad))).length = (ab_in vs).length := by
  induction vs with
  | nil => rfl
  | cons v vs ih =>
    have e1 : lg_sl ((v :: vs).map (sd_v ad)) = (if (sd_v ad v).category = 2 then [Slot.val (sd_v ad v), Slot.second] else [Slot.val (sd_v ad v)]) ++ lg_sl (vs.map (sd_v ad)) := by simp [lg_sl]
    rw [e1, List.length_append, ih, sd_v_cat]
    cases hc : ab_c2 v with
    | true => rw [if_pos ((sd_c2 v).mp hc)]; simp [ab_in, hc]; omega
    | false =>
      have := (sd_c1 v).mp hc
      rw [if_neg (by omega)]; simp [ab_in, hc]; omega
/-- the locals with which a method begins -/
theorem sd_entry (ad : Nat → Nat) (vs : List Value) (n : Nat) (h : (ab_in vs).length ≤ n) : lv_has ((lg_sl (vs.map (sd_v ad)) ++ List.replicate (n - (lg_sl (vs.map (sd_v ad))).length) Slot.unset).toArray) n (sd_l ad (ab_en n vs)) := by
  have h0 := lv_entry (vs.map (sd_v ad)) (n := n) (by rw [sd_in_len]; exact h)
  refine ⟨h0.1, h0.2.1, fun q hq => h0.2.2 q ?_⟩
  obtain ⟨k, w⟩ := q
  obtain ⟨u, hu, rfl⟩ := sd_l_in.mp hq
  rw [sd_in_at]
  unfold ab_en at hu
  by_cases hk : k < (ab_in vs).length
  · rw [List.getElem?_append_left hk] at hu
    exact ⟨k, u, hu, by simp⟩
  · rw [List.getElem?_append_right (by omega)] at hu
    have := List.eq_of_mem_replicate (List.mem_of_getElem? hu)
    cases this
