/-! OURS. The least text of a kind; ways to part and to repeat. -/
def lst (D : Nat → Prop) (x : Int) : Prop := (x = -1 ∧ ∀ t, ¬ D t) ∨ ∃ t : Nat, x = t ∧ D t ∧ ∀ s, s < t → ¬ D s
theorem lst_uniq {D : Nat → Prop} {x y : Int} (hx : lst D x) (hy : lst D y) : x = y := by
  rcases hx with ⟨h1, h2⟩ | ⟨t, h1, h2, h3⟩
  · rcases hy with ⟨k1, k2⟩ | ⟨u, k1, k2, k3⟩
    · rw [h1, k1]
    · exact absurd k2 (h2 u)
  · rcases hy with ⟨k1, k2⟩ | ⟨u, k1, k2, k3⟩
    · exact absurd h2 (k2 t)
    · rcases Nat.lt_trichotomy t u with e | e | e
      · exact absurd h2 (k3 t e)
      · rw [h1, k1, e]
      · exact absurd k2 (h3 u e)
theorem lst_congr {D D' : Nat → Prop} {x : Int} (h : ∀ t, D t ↔ D' t) (hx : lst D x) : lst D' x := by
  rcases hx with ⟨h1, h2⟩ | ⟨t, h1, h2, h3⟩
  · exact .inl ⟨h1, fun t e => h2 t ((h t).mpr e)⟩
  · exact .inr ⟨t, h1, (h t).mp h2, fun s hs e => h3 s hs ((h s).mpr e)⟩
theorem lst_min {D D' : Nat → Prop} {x : Int} (h1 : ∀ t, D t → D' t) (h2 : ∀ t, D' t → (∀ s, s < t → ¬ D' s) → D t) (hx : lst D x) : lst D' x := by
  have key : ∀ t, D' t → ∃ s, s ≤ t ∧ D s := by
    intro t
    induction t using Nat.strongRecOn with
    | _ t ih =>
      intro ht
      by_cases h : ∃ s, s < t ∧ D' s
      · obtain ⟨s, hs, hd⟩ := h
        obtain ⟨u, hu, he⟩ := ih s hs hd
        exact ⟨u, by omega, he⟩
      · exact ⟨t, Nat.le_refl _, h2 t ht (fun s hs e => h ⟨s, hs, e⟩)⟩
  rcases hx with ⟨e1, e2⟩ | ⟨t, e1, e2, e3⟩
  · refine .inl ⟨e1, fun t ht => ?_⟩
    obtain ⟨s, _, hs⟩ := key t ht
    exact e2 s hs
  · refine .inr ⟨t, e1, h1 t e2, fun s hs e => ?_⟩
    obtain ⟨u, hu, he⟩ := key s e
    exact e3 u (by omega) he
theorem lst_ge {D : Nat → Prop} {x : Int} (h : lst D x) : -1 ≤ x := by
  rcases h with ⟨h1, _⟩ | ⟨t, h1, _, _⟩ <;> omega
theorem lst_none {D : Nat → Prop} {x : Int} (h : lst D x) : x < 0 ↔ ∀ t, ¬ D t := by
  rcases h with ⟨h1, h2⟩ | ⟨t, h1, h2, h3⟩
  · exact ⟨fun _ => h2, fun _ => by omega⟩
  · exact ⟨fun e => by omega, fun e => absurd h2 (e t)⟩
def jn2 (A B : Nat → Bool) (t : Nat) : Prop := t < 1093 ∧ ∃ i j, i < j ∧ j ≤ (tx_let t).length ∧ cp A B (tx_let t) i = true ∧ cp A B (tx_let t) j = true
def am2 (A : Nat → Bool) (t : Nat) : Prop := t < 1093 ∧ rp_A A (tx_let t)
def ra2 (A : Nat → Bool) (t : Nat) : Prop := t < 1093 ∧ ∃ i j, i < j ∧ j < (tx_let t).length ∧ rp_R A ((tx_let t).take i) ∧ A (tx_num ((tx_let t).drop i)) = true ∧ rp_R A ((tx_let t).take j) ∧ A (tx_num ((tx_let t).drop j)) = true
theorem let_take_lt {t i : Nat} (h : i < (tx_let t).length) : tx_num ((tx_let t).take i) < t := by
  have := tx_num_short (u := (tx_let t).take i) (v := tx_let t) (tx_L_take (tx_let_L t) i) (by rw [List.length_take]; omega)
  rw [tx_num_let] at this
  exact this
theorem lst_ra {A : Nat → Bool} {x : Int} (h : lst (ra2 A) x) : lst (am2 A) x := by
  refine lst_min ?_ ?_ h
  · rintro t ⟨h1, i, j, hij, hj, h2⟩
    refine ⟨h1, (rp_A_last ?_).mpr (.inr ⟨i, j, hij, hj, h2⟩)⟩
    intro e
    rw [e] at hj
    simp at hj
  · rintro t ⟨h1, h2⟩ h3
    refine ⟨h1, ?_⟩
    have hw : tx_let t ≠ [] := by
      intro e
      rw [e] at h2
      exact rp_A_nil h2
    rcases (rp_A_last hw).mp h2 with ⟨i, hi, ha, _⟩ | ⟨i, j, hij, hj, h4⟩
    · have hlt := let_take_lt hi
      refine absurd ⟨by omega, ?_⟩ (h3 _ hlt)
      rw [tx_let_num (tx_L_take (tx_let_L t) i)]
      exact ha
    · exact ⟨i, j, hij, hj, h4⟩
/-- sums from 1 to m -/
def sm (g : Nat → Nat) : Nat → Nat
  | 0 => 0
  | m + 1 => sm g m + g (m + 1)
theorem sm_pos (g : Nat → Nat) (m : Nat) : 0 < sm g m ↔ ∃ i, 1 ≤ i ∧ i ≤ m ∧ 1 ≤ g i := by
  induction m with
  | zero => simp only [sm]; constructor
            · intro h; omega
            · rintro ⟨i, h1, h2, _⟩; omega
  | succ m ih =>
    simp only [sm]
    constructor
    · intro h
      rcases Nat.eq_zero_or_pos (sm g m) with e | e
      · exact ⟨m + 1, by omega, Nat.le_refl _, by omega⟩
      · obtain ⟨i, h1, h2, h3⟩ := ih.mp e
        exact ⟨i, h1, by omega, h3⟩
    · rintro ⟨i, h1, h2, h3⟩
      rcases Nat.eq_or_lt_of_le h2 with e | e
      · subst e; omega
      · have := ih.mpr ⟨i, h1, by omega, h3⟩
        omega
theorem sm_two (g : Nat → Nat) (m : Nat) : 1 < sm g m ↔ (∃ i, 1 ≤ i ∧ i ≤ m ∧ 2 ≤ g i) ∨ ∃ i j, 1 ≤ i ∧ i < j ∧ j ≤ m ∧ 1 ≤ g i ∧ 1 ≤ g j := by
  induction m with
  | zero =>
    simp only [sm]
    constructor
    · intro h; omega
    · rintro (⟨i, h1, h2, _⟩ | ⟨i, j, h1, h2, h3, _⟩) <;> omega
  | succ m ih =>
    simp only [sm]
    constructor
    · intro h
      by_cases h1 : 1 < sm g m
      · rcases ih.mp h1 with ⟨i, a, b, c⟩ | ⟨i, j, a, b, c, d, e⟩
        · exact .inl ⟨i, a, by omega, c⟩
        · exact .inr ⟨i, j, a, b, by omega, d, e⟩
      · rcases Nat.eq_zero_or_pos (sm g m) with e | e
        · exact .inl ⟨m + 1, by omega, Nat.le_refl _, by omega⟩
        · obtain ⟨i, a, b, c⟩ := (sm_pos g m).mp e
          exact .inr ⟨i, m + 1, a, by omega, Nat.le_refl _, c, by omega⟩
    · rintro (⟨i, a, b, c⟩ | ⟨i, j, a, b, c, d, e⟩)
      · rcases Nat.eq_or_lt_of_le b with e | e
        · subst e; omega
        · have := ih.mpr (.inl ⟨i, a, by omega, c⟩)
          omega
      · rcases Nat.eq_or_lt_of_le c with f | f
        · subst f
          have := (sm_pos g m).mpr ⟨i, a, by omega, d⟩
          omega
        · have := ih.mpr (.inr ⟨i, j, a, b, by omega, d, e⟩)
          omega
theorem cnt_pos (f : Nat → Bool) (m : Nat) : 0 < cnt f m ↔ ∃ i, i < m ∧ f i = true := by
  induction m with
  | zero => simp only [cnt]; constructor
            · intro h; omega
            · rintro ⟨i, h1, _⟩; omega
  | succ m ih =>
    simp only [cnt]
    constructor
    · intro h
      cases hf : f m with
      | true => exact ⟨m, by omega, hf⟩
      | false =>
        rw [hf] at h
        obtain ⟨i, a, b⟩ := ih.mp (by simpa using h)
        exact ⟨i, by omega, b⟩
    · rintro ⟨i, a, b⟩
      rcases Nat.eq_or_lt_of_le (Nat.le_of_lt_succ a) with e | e
      · subst e; rw [b]; simp
      · have := ih.mpr ⟨i, e, b⟩
        omega
theorem cnt_two (f : Nat → Bool) (m : Nat) : 1 < cnt f m ↔ ∃ i j, i < j ∧ j < m ∧ f i = true ∧ f j = true := by
  induction m with
  | zero => simp only [cnt]; constructor
            · intro h; omega
            · rintro ⟨i, j, h1, h2, _⟩; omega
  | succ m ih =>
    simp only [cnt]
    constructor
    · intro h
      by_cases h1 : 1 < cnt f m
      · obtain ⟨i, j, a, b, c⟩ := ih.mp h1
        exact ⟨i, j, a, by omega, c⟩
      · cases hf : f m with
        | false => rw [hf] at h; simp at h; omega
        | true =>
          rw [hf] at h
          obtain ⟨i, a, b⟩ := (cnt_pos f m).mp (by simp at h; omega)
          exact ⟨i, m, a, by omega, b, hf⟩
    · rintro ⟨i, j, a, b, c, d⟩
      rcases Nat.eq_or_lt_of_le (Nat.le_of_lt_succ b) with e | e
      · subst e
        rw [d]
        have := (cnt_pos f j).mpr ⟨i, a, c⟩
        simp; omega
      · have := ih.mpr ⟨i, j, a, e, c, d⟩
        omega
/-- ways of a repeated text, up to two -/
theorem ways_first {A : Nat → Bool} {w : List Nat} (hw : w ≠ []) (g : Nat → Nat) (h0 : ∀ i, 1 ≤ i → i ≤ w.length → (1 ≤ g i ↔ A (tx_num (w.take i)) = true ∧ rp_R A (w.drop i))) (h1 : ∀ i, 1 ≤ i → i ≤ w.length → (2 ≤ g i ↔ A (tx_num (w.take i)) = true ∧ rp_A A (w.drop i))) : (0 < sm g w.length ↔ rp_R A w) ∧ (1 < sm g w.length ↔ rp_A A w) := by
  constructor
  · rw [sm_pos, rp_R_first hw]
    constructor
    · rintro ⟨i, a, b, c⟩
      exact ⟨i, a, b, (h0 i a b).mp c⟩
    · rintro ⟨i, a, b, c⟩
      exact ⟨i, a, b, (h0 i a b).mpr c⟩
  · rw [sm_two, rp_A_first hw]
    constructor
    · rintro (⟨i, a, b, c⟩ | ⟨i, j, a, b, c, d, e⟩)
      · exact .inl ⟨i, a, b, (h1 i a b).mp c⟩
      · have k1 := (h0 i a (by omega)).mp d
        have k2 := (h0 j (by omega) c).mp e
        exact .inr ⟨i, j, b, a, c, k1.1, k1.2, k2.1, k2.2⟩
    · rintro (⟨i, a, b, c⟩ | ⟨i, j, a, b, c, d, e, f, g'⟩)
      · exact .inl ⟨i, a, b, (h1 i a b).mpr c⟩
      · exact .inr ⟨i, j, b, a, c, (h0 i b (by omega)).mpr ⟨d, e⟩, (h0 j (by omega) c).mpr ⟨f, g'⟩⟩
