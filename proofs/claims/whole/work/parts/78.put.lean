/-! OURS. Putting: letters and lengths. -/
theorem nth_lt {sk : List Nat} {x same o : Nat} (h : nth sk x same = some o) : o < sk.length ∧ sk[o]! = x := by
  unfold nth at h
  have := List.mem_of_getElem? h
  rw [List.mem_filter, List.mem_range] at this
  exact ⟨this.1, by simpa using this.2⟩
theorem org_lt {b : Bool} {sk vk : List Nat} {k o : Nat} (h : org b sk vk k = some o) : o < sk.length := by
  unfold org at h
  cases b with
  | true => rw [cond_true] at h; exact (nth_lt h).1
  | false =>
    rw [cond_false] at h
    split at h
    · cases h; assumption
    · cases h
theorem get_mem {α : Type} [Inhabited α] {l : List α} {i : Nat} (h : i < l.length) : l[i]! ∈ l := by
  rw [getElem!_pos l i h]
  exact List.getElem_mem h
theorem pu_L {P : pgm} {n : Nat} (hg : gds P n) : ∀ k, k < n → ∀ s v, tx_L s → tx_L v → tx_L (sem_pu P k s v) := by
  have rep : ∀ k, k < n → pL P k < k → (∀ s v, tx_L s → tx_L v → tx_L (sem_pu P (pL P k) s v)) → ∀ s v b, tx_L s → tx_L v → tx_L ((List.range (rps (pV P (pL P k)) (pV P k) v).length).flatMap (fun i => match org b ((rps (pS_ P (pL P k)) (pS_ P k) s).map (fun u => tx_num (sem_ky P (pL P k) (sem_sh P (pL P k) u)))) ((rps (pV P (pL P k)) (pV P k) v).map (fun u => tx_num (sem_ky P (pL P k) u))) i with
        | none => sem_cr P (pL P k) (rps (pV P (pL P k)) (pV P k) v)[i]!
        | some o => sem_pu P (pL P k) (rps (pS_ P (pL P k)) (pS_ P k) s)[o]! (rps (pV P (pL P k)) (pV P k) v)[i]!)) := by
    intro k hk hl ih s v b hs hv
    apply tx_L_fm
    intro i hi
    have hi := List.mem_range.mp hi
    have h1 := tx_L_rps hv _ (get_mem hi)
    split
    · exact cr_L hg _ (Nat.lt_trans hl hk) _ h1
    · rename_i o ho
      have := org_lt ho
      rw [List.length_map] at this
      exact ih _ _ (tx_L_rps hs _ (get_mem this)) h1
  intro k
  induction k using Nat.strongRecOn with
  | _ k ih =>
    intro hk s v hs hv
    have g := hg k hk
    unfold gd at g
    have gT := g.1
    replace g := g.2
    generalize hK : pK P k = K at g
    match K, g with
    | 0, _ => rw [pu_0 hK]; exact hv
    | 1, _ => rw [pu_1 hK]; exact hs
    | 2, _ => rw [pu_2 hK]; intro d hd; cases hd
    | 3, g => rw [pu_3 hK g.1]; exact ih _ g.1.1 (Nat.lt_trans g.1.1 hk) _ _ hs hv
    | 4, g =>
      rw [pu_4 hK g.1]
      have a1 := ih _ g.1.1 (Nat.lt_trans g.1.1 hk) _ _ hs hv
      have a2 := ih _ g.1.2 (Nat.lt_trans g.1.2 hk) _ _ hs hv
      have b1 := cr_L hg _ (Nat.lt_trans g.1.1 hk) _ hv
      have b2 := cr_L hg _ (Nat.lt_trans g.1.2 hk) _ hv
      cases pS_ P (pL P k) (tx_num s) <;> cases pV P (pL P k) (tx_num v) <;> cases pV P (pR P k) (tx_num v) <;> assumption
    | 5, g => rw [pu_5 hK g.1]; exact tx_L_app.mpr ⟨ih _ g.1.1 (Nat.lt_trans g.1.1 hk) _ _ (tx_L_take hs _) (tx_L_take hv _), ih _ g.1.2 (Nat.lt_trans g.1.2 hk) _ _ (tx_L_drop hs _) (tx_L_drop hv _)⟩
    | 6, g => rw [pu_6 hK g.1]; exact tx_L_app.mpr ⟨ih _ g.1.1 (Nat.lt_trans g.1.1 hk) _ _ (tx_L_take hs _) (tx_L_drop hv _), ih _ g.1.2 (Nat.lt_trans g.1.2 hk) _ _ (tx_L_drop hs _) (tx_L_take hv _)⟩
    | 7, g => rw [pu_7 hK g.2.1]; exact rep k hk g.2.1.1 (ih _ g.2.1.1 (Nat.lt_trans g.2.1.1 hk)) s v false hs hv
    | 8, g => rw [pu_8 hK g.2.1]; exact rep k hk g.2.1.1 (ih _ g.2.1.1 (Nat.lt_trans g.2.1.1 hk)) s v true hs hv
    | n + 9, g => exact absurd g.1 (by omega)
theorem one_len {w : List Nat} (h : tx_L w) {T : Nat} (hl : ltr T (tx_num w) = true) : w.length = 1 := by
  have h1 := ltr_cases hl
  have h2 : w.length ≤ 1 := (tx_len_le h).mpr (show tx_num w < 4 by omega)
  have h3 : w ≠ [] := by
    intro e
    rw [e, tx_num_nil] at h1
    omega
  have := ne_len h3
  omega
theorem rng_map {α : Type} [Inhabited α] (l : List α) (f : α → Nat) : (List.range l.length).map (fun i => f l[i]!) = l.map f := by
  apply List.ext_getElem
  · simp
  · intro i h1 h2
    have hi : i < l.length := by simpa using h1
    simp [List.getElem?_eq_getElem hi]
theorem pu_len {P : pgm} {n : Nat} (hg : gds P n) : ∀ k, k < n → ∀ s v, tx_L s → tx_L v → pS_ P k (tx_num s) = true → pV P k (tx_num v) = true → (sem_pu P k s v).length ≤ max v.length 1 * lv P k := by
  have rep : ∀ k, k < n → pL P k < k → (∀ s v, tx_L s → tx_L v → pS_ P (pL P k) (tx_num s) = true → pV P (pL P k) (tx_num v) = true → (sem_pu P (pL P k) s v).length ≤ max v.length 1 * lv P (pL P k)) → (∀ t, pS_ P k t = true ↔ rq (pS_ P (pL P k)) t) → (∀ t, pV P k t = true ↔ rq (pV P (pL P k)) t) → ∀ s v b, tx_L s → tx_L v → pS_ P k (tx_num s) = true → pV P k (tx_num v) = true → ((List.range (rps (pV P (pL P k)) (pV P k) v).length).flatMap (fun i => match org b ((rps (pS_ P (pL P k)) (pS_ P k) s).map (fun u => tx_num (sem_ky P (pL P k) (sem_sh P (pL P k) u)))) ((rps (pV P (pL P k)) (pV P k) v).map (fun u => tx_num (sem_ky P (pL P k) u))) i with
        | none => sem_cr P (pL P k) (rps (pV P (pL P k)) (pV P k) v)[i]!
        | some o => sem_pu P (pL P k) (rps (pS_ P (pL P k)) (pS_ P k) s)[o]! (rps (pV P (pL P k)) (pV P k) v)[i]!)).length ≤ max v.length 1 * lv P (pL P k) := by
    intro k hk hl ih hS hV s v b hs hv ms mv
    have m1 := rps_mem hS hs ms
    have m2 := rps_mem hV hv mv
    refine Nat.le_trans (fm_len_mul _ _ (fun i => max (rps (pV P (pL P k)) (pV P k) v)[i]!.length 1) (lv P (pL P k)) ?_) ?_
    · intro i hi
      have hi := List.mem_range.mp hi
      have h1 := m2 _ (get_mem hi)
      split
      · exact cr_len hg _ (Nat.lt_trans hl hk) _
      · rename_i o ho
        have := org_lt ho
        rw [List.length_map] at this
        have h2 := m1 _ (get_mem this)
        exact ih _ _ h2.2.1 h1.2.1 h2.1 h1.1
    · rw [rng_map (rps (pV P (pL P k)) (pV P k) v) (fun u => max u.length 1), rps_sum]
      exact Nat.mul_le_mul_right _ (by omega)
  intro k
  induction k using Nat.strongRecOn with
  | _ k ih =>
    intro hk s v hs hv ms mv
    have g := hg k hk
    unfold gd at g
    have gT := g.1
    replace g := g.2
    generalize hK : pK P k = K at g
    match K, g with
    | 0, _ => rw [pu_0 hK, lv_0 hK]; omega
    | 1, g =>
      rw [pu_1 hK, lv_1 hK, one_len hs ((g.1 _).symm.trans ms)]; omega
    | 2, _ => rw [pu_2 hK]; exact Nat.zero_le _
    | 3, g =>
      rw [pu_3 hK g.1, lv_3 hK g.1]
      rw [g.2.1] at ms
      rw [g.2.2] at mv
      exact ih _ g.1.1 (Nat.lt_trans g.1.1 hk) _ _ hs hv ms mv
    | 4, g =>
      rw [pu_4 hK g.1, lv_4 hK g.1, Nat.mul_add]
      rw [g.2.1] at ms
      have b1 := cr_len hg _ (Nat.lt_trans g.1.1 hk) v
      have b2 := cr_len hg _ (Nat.lt_trans g.1.2 hk) v
      cases c1 : pS_ P (pL P k) (tx_num s) with
      | false =>
        rw [c1, Bool.false_or] at ms
        rw [cond_false]
        cases c2 : pV P (pR P k) (tx_num v) with
        | false => rw [cond_false]; omega
        | true =>
          rw [cond_true]
          have := ih _ g.1.2 (Nat.lt_trans g.1.2 hk) _ _ hs hv ms c2
          omega
      | true =>
        rw [cond_true]
        cases c2 : pV P (pL P k) (tx_num v) with
        | false => rw [cond_false]; omega
        | true =>
          rw [cond_true]
          have := ih _ g.1.1 (Nat.lt_trans g.1.1 hk) _ _ hs hv c1 c2
          omega
    | 5, g =>
      have hc := jn_cut hs ((g.2.1 _).mp ms)
      have hd := jn_cut hv ((g.2.2 _).mp mv)
      rw [pu_5 hK g.1, lv_5 hK g.1, List.length_append]
      refine Nat.le_trans (Nat.add_le_add (ih _ g.1.1 (Nat.lt_trans g.1.1 hk) _ _ (tx_L_take hs _) (tx_L_take hv _) hc.1 hd.1) (ih _ g.1.2 (Nat.lt_trans g.1.2 hk) _ _ (tx_L_drop hs _) (tx_L_drop hv _) hc.2 hd.2)) (mul_split ?_ ?_)
      · rw [List.length_take]; omega
      · rw [List.length_drop]; omega
    | 6, g =>
      have hc := jn_cut hs ((g.2.1 _).mp ms)
      have hd := jn_cut hv ((g.2.2 _).mp mv)
      rw [pu_6 hK g.1, lv_6 hK g.1, List.length_append]
      refine Nat.le_trans (Nat.add_le_add (ih _ g.1.1 (Nat.lt_trans g.1.1 hk) _ _ (tx_L_take hs _) (tx_L_drop hv _) hc.1 hd.2) (ih _ g.1.2 (Nat.lt_trans g.1.2 hk) _ _ (tx_L_drop hs _) (tx_L_take hv _) hc.2 hd.1)) (mul_split ?_ ?_)
      · rw [List.length_drop]; omega
      · rw [List.length_take]; omega
    | 7, g =>
      rw [pu_7 hK g.2.1, lv_7 hK g.2.1]
      exact rep k hk g.2.1.1 (ih _ g.2.1.1 (Nat.lt_trans g.2.1.1 hk)) g.2.2.2.2.1 g.2.2.2.2.2 s v false hs hv ms mv
    | 8, g =>
      rw [pu_8 hK g.2.1, lv_8 hK g.2.1]
      exact rep k hk g.2.1.1 (ih _ g.2.1.1 (Nat.lt_trans g.2.1.1 hk)) g.2.2.2.2.1 g.2.2.2.2.2 s v true hs hv ms mv
    | n + 9, g => exact absurd g.1 (by omega)
