/-! OURS. What is made of parts, and in how many ways. -/
def rp_D (A : Nat → Bool) (ps : List (List Nat)) (w : List Nat) : Prop := ps.flatten = w ∧ ∀ p ∈ ps, p ≠ [] ∧ A (tx_num p) = true
def rp_R (A : Nat → Bool) (w : List Nat) : Prop := ∃ ps, rp_D A ps w
def rp_A (A : Nat → Bool) (w : List Nat) : Prop := ∃ ps qs, ps ≠ qs ∧ rp_D A ps w ∧ rp_D A qs w
section Rp
variable {A : Nat → Bool}
theorem rp_D_nil {ps : List (List Nat)} (h : rp_D A ps []) : ps = [] := by
  cases ps with
  | nil => rfl
  | cons p ps =>
    have h1 := (h.2 p (List.mem_cons_self ..)).1
    have h2 := h.1
    rw [List.flatten_cons] at h2
    exact absurd (List.append_eq_nil_iff.mp h2).1 h1
theorem rp_R_nil : rp_R A [] := ⟨[], rfl, fun _ h => by cases h⟩
theorem rp_A_nil : ¬ rp_A A [] := by
  rintro ⟨ps, qs, h, h1, h2⟩
  rw [rp_D_nil h1, rp_D_nil h2] at h
  exact h rfl
theorem rp_D_cons {p : List Nat} {ps : List (List Nat)} {w : List Nat} (h : rp_D A (p :: ps) w) : 1 ≤ p.length ∧ p.length ≤ w.length ∧ w.take p.length = p ∧ A (tx_num p) = true ∧ rp_D A ps (w.drop p.length) := by
  have h1 := h.2 p (List.mem_cons_self ..)
  have h2 := h.1
  rw [List.flatten_cons] at h2
  subst h2
  refine ⟨?_, by simp, by simp, h1.2, by simp, fun q hq => h.2 q (List.mem_cons_of_mem _ hq)⟩
  rcases Nat.eq_zero_or_pos p.length with h3 | h3
  · exact absurd (List.length_eq_zero_iff.mp h3) h1.1
  · exact h3
theorem rp_D_mk {w : List Nat} {i : Nat} {ps : List (List Nat)} (h1 : 1 ≤ i) (h2 : i ≤ w.length) (h3 : A (tx_num (w.take i)) = true) (h : rp_D A ps (w.drop i)) : rp_D A (w.take i :: ps) w := by
  refine ⟨by rw [List.flatten_cons, h.1, List.take_append_drop], ?_⟩
  intro p hp
  rcases List.mem_cons.mp hp with e | e
  · subst e
    refine ⟨fun e => ?_, h3⟩
    have := congrArg List.length e
    rw [List.length_take, Nat.min_eq_left h2] at this
    simp at this
    omega
  · exact h.2 p e
theorem rp_D_snoc {p : List Nat} {ps : List (List Nat)} {w : List Nat} (h : rp_D A (ps ++ [p]) w) : ∃ i, i < w.length ∧ w.drop i = p ∧ A (tx_num p) = true ∧ rp_D A ps (w.take i) := by
  have h1 := h.2 p (List.mem_append_right _ (List.mem_singleton.mpr rfl))
  have h2 := h.1
  rw [List.flatten_append] at h2
  simp only [List.flatten_cons, List.flatten_nil, List.append_nil] at h2
  subst h2
  have h3 : 1 ≤ p.length := by
    rcases Nat.eq_zero_or_pos p.length with h3 | h3
    · exact absurd (List.length_eq_zero_iff.mp h3) h1.1
    · exact h3
  exact ⟨ps.flatten.length, by simp; omega, by simp, h1.2, by simp, fun q hq => h.2 q (List.mem_append_left _ hq)⟩
theorem rp_D_mks {w : List Nat} {i : Nat} {ps : List (List Nat)} (h2 : i < w.length) (h3 : A (tx_num (w.drop i)) = true) (h : rp_D A ps (w.take i)) : rp_D A (ps ++ [w.drop i]) w := by
  refine ⟨by rw [List.flatten_append, h.1]; simp, ?_⟩
  intro p hp
  rcases List.mem_append.mp hp with e | e
  · exact h.2 p e
  · rw [List.mem_singleton.mp e]
    refine ⟨fun e => ?_, h3⟩
    have := congrArg List.length e
    rw [List.length_drop] at this
    simp at this
    omega
theorem rp_R_first {w : List Nat} (hw : w ≠ []) : rp_R A w ↔ ∃ i, 1 ≤ i ∧ i ≤ w.length ∧ A (tx_num (w.take i)) = true ∧ rp_R A (w.drop i) := by
  constructor
  · rintro ⟨ps, h⟩
    cases ps with
    | nil => exact absurd h.1.symm hw
    | cons p ps =>
      obtain ⟨h1, h2, h3, h4, h5⟩ := rp_D_cons h
      exact ⟨p.length, h1, h2, by rw [h3]; exact h4, ps, h5⟩
  · rintro ⟨i, h1, h2, h3, ps, h⟩
    exact ⟨_, rp_D_mk h1 h2 h3 h⟩
theorem rp_R_last {w : List Nat} (hw : w ≠ []) : rp_R A w ↔ ∃ i, i < w.length ∧ rp_R A (w.take i) ∧ A (tx_num (w.drop i)) = true := by
  constructor
  · rintro ⟨ps, h⟩
    rcases List.eq_nil_or_concat ps with e | ⟨qs, q, e⟩
    · subst e; exact absurd h.1.symm hw
    · subst e
      rw [List.concat_eq_append] at h
      obtain ⟨i, h1, h2, h3, h4⟩ := rp_D_snoc h
      exact ⟨i, h1, ⟨qs, h4⟩, by rw [h2]; exact h3⟩
  · rintro ⟨i, h1, ⟨ps, h⟩, h3⟩
    exact ⟨_, rp_D_mks h1 h3 h⟩
theorem rp_A_first {w : List Nat} (hw : w ≠ []) : rp_A A w ↔ (∃ i, 1 ≤ i ∧ i ≤ w.length ∧ A (tx_num (w.take i)) = true ∧ rp_A A (w.drop i)) ∨ (∃ i j, i < j ∧ 1 ≤ i ∧ j ≤ w.length ∧ A (tx_num (w.take i)) = true ∧ rp_R A (w.drop i) ∧ A (tx_num (w.take j)) = true ∧ rp_R A (w.drop j)) := by
  constructor
  · rintro ⟨ps, qs, hne, hp, hq⟩
    cases ps with
    | nil => exact absurd hp.1.symm hw
    | cons p ps =>
      cases qs with
      | nil => exact absurd hq.1.symm hw
      | cons q qs =>
        obtain ⟨h1, h2, h3, h4, h5⟩ := rp_D_cons hp
        obtain ⟨k1, k2, k3, k4, k5⟩ := rp_D_cons hq
        rcases Nat.lt_trichotomy p.length q.length with e | e | e
        · exact .inr ⟨_, _, e, h1, k2, by rw [h3]; exact h4, ⟨ps, h5⟩, by rw [k3]; exact k4, ⟨qs, k5⟩⟩
        · left
          rw [← e] at k3 k5
          have e2 : p = q := h3.symm.trans k3
          subst e2
          exact ⟨_, h1, h2, by rw [h3]; exact h4, ps, qs, fun e3 => hne (by rw [e3]), h5, k5⟩
        · exact .inr ⟨_, _, e, k1, h2, by rw [k3]; exact k4, ⟨qs, k5⟩, by rw [h3]; exact h4, ⟨ps, h5⟩⟩
  · rintro (⟨i, h1, h2, h3, ps, qs, hne, hp, hq⟩ | ⟨i, j, hij, h1, h2, h3, ⟨ps, hp⟩, h4, ⟨qs, hq⟩⟩)
    · exact ⟨_, _, fun e => hne (List.cons.inj e).2, rp_D_mk h1 h2 h3 hp, rp_D_mk h1 h2 h3 hq⟩
    · refine ⟨_, _, fun e => ?_, rp_D_mk h1 (by omega) h3 hp, rp_D_mk (by omega) h2 h4 hq⟩
      have := congrArg List.length (List.cons.inj e).1
      rw [List.length_take, List.length_take] at this
      omega
theorem rp_A_last {w : List Nat} (hw : w ≠ []) : rp_A A w ↔ (∃ i, i < w.length ∧ rp_A A (w.take i) ∧ A (tx_num (w.drop i)) = true) ∨ (∃ i j, i < j ∧ j < w.length ∧ rp_R A (w.take i) ∧ A (tx_num (w.drop i)) = true ∧ rp_R A (w.take j) ∧ A (tx_num (w.drop j)) = true) := by
  constructor
  · rintro ⟨ps, qs, hne, hp, hq⟩
    rcases List.eq_nil_or_concat ps with e | ⟨ps, p, e⟩
    · subst e; exact absurd hp.1.symm hw
    · subst e
      rcases List.eq_nil_or_concat qs with e | ⟨qs, q, e⟩
      · subst e; exact absurd hq.1.symm hw
      · subst e
        rw [List.concat_eq_append] at *
        rw [List.concat_eq_append] at *
        obtain ⟨i, h1, h2, h3, h4⟩ := rp_D_snoc hp
        obtain ⟨j, k1, k2, k3, k4⟩ := rp_D_snoc hq
        rcases Nat.lt_trichotomy i j with e | e | e
        · exact .inr ⟨_, _, e, k1, ⟨ps, h4⟩, by rw [h2]; exact h3, ⟨qs, k4⟩, by rw [k2]; exact k3⟩
        · subst e
          have e2 : p = q := h2.symm.trans k2
          subst e2
          exact .inl ⟨i, h1, ⟨ps, qs, fun e3 => hne (by rw [e3]), h4, k4⟩, by rw [h2]; exact h3⟩
        · exact .inr ⟨_, _, e, h1, ⟨qs, k4⟩, by rw [k2]; exact k3, ⟨ps, h4⟩, by rw [h2]; exact h3⟩
  · rintro (⟨i, h1, ⟨ps, qs, hne, hp, hq⟩, h3⟩ | ⟨i, j, hij, h2, ⟨ps, hp⟩, h3, ⟨qs, hq⟩, h4⟩)
    · exact ⟨_, _, fun e => hne (List.append_cancel_right e), rp_D_mks h1 h3 hp, rp_D_mks h1 h3 hq⟩
    · refine ⟨_, _, fun e => ?_, rp_D_mks (by omega) h3 hp, rp_D_mks h2 h4 hq⟩
      have h5 : (ps ++ [w.drop i]).getLast? = (qs ++ [w.drop j]).getLast? := by rw [e]
      rw [List.getLast?_concat, List.getLast?_concat] at h5
      have := congrArg List.length (Option.some.inj h5)
      rw [List.length_drop, List.length_drop] at this
      omega
theorem rp_A_R {w : List Nat} (h : rp_A A w) : rp_R A w := by
  obtain ⟨ps, _, _, h1, _⟩ := h
  exact ⟨ps, h1⟩
end Rp
