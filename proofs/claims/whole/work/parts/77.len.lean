/-! OURS. Letters and lengths of what is shown, created, and of keys. -/
theorem cr_L {P : pgm} {n : Nat} (hg : gds P n) : ∀ k, k < n → ∀ v, tx_L v → tx_L (sem_cr P k v) := by
  intro k
  induction k using Nat.strongRecOn with
  | _ k ih =>
    intro hk w hw
    have g := hg k hk
    unfold gd at g
    have gT := g.1
    replace g := g.2
    generalize hK : pK P k = K at g
    match K, g with
    | 0, _ => rw [cr_0 hK]; exact hw
    | 1, _ => rw [cr_1 hK]; exact tx_L_one (by omega)
    | 2, _ => rw [cr_2 hK]; intro d hd; cases hd
    | 3, g => rw [cr_3 hK g.1]; exact ih _ g.1.1 (Nat.lt_trans g.1.1 hk) _ hw
    | 4, g =>
      rw [cr_4 hK g.1]
      cases pV P (pL P k) (tx_num w)
      · exact ih _ g.1.2 (Nat.lt_trans g.1.2 hk) _ hw
      · exact ih _ g.1.1 (Nat.lt_trans g.1.1 hk) _ hw
    | 5, g => rw [cr_5 hK g.1]; exact tx_L_app.mpr ⟨ih _ g.1.1 (Nat.lt_trans g.1.1 hk) _ (tx_L_take hw _), ih _ g.1.2 (Nat.lt_trans g.1.2 hk) _ (tx_L_drop hw _)⟩
    | 6, g => rw [cr_6 hK g.1]; exact tx_L_app.mpr ⟨ih _ g.1.1 (Nat.lt_trans g.1.1 hk) _ (tx_L_drop hw _), ih _ g.1.2 (Nat.lt_trans g.1.2 hk) _ (tx_L_take hw _)⟩
    | 7, g => rw [cr_7 hK g.2.1]; exact tx_L_fm (fun p hp => ih _ g.2.1.1 (Nat.lt_trans g.2.1.1 hk) _ (tx_L_rps hw p hp))
    | 8, g => rw [cr_8 hK g.2.1]; exact tx_L_fm (fun p hp => ih _ g.2.1.1 (Nat.lt_trans g.2.1.1 hk) _ (tx_L_rps hw p hp))
    | n + 9, g => exact absurd g.1 (by omega)
theorem ky_L {P : pgm} {n : Nat} (hg : gds P n) : ∀ k, k < n → ∀ v, tx_L v → tx_L (sem_ky P k v) := by
  intro k
  induction k using Nat.strongRecOn with
  | _ k ih =>
    intro hk w hw
    have g := hg k hk
    unfold gd at g
    have gT := g.1
    replace g := g.2
    generalize hK : pK P k = K at g
    match K, g with
    | 0, _ => rw [ky_0 hK]; intro d hd; cases hd
    | 1, _ => rw [ky_1 hK]; intro d hd; cases hd
    | 2, _ => rw [ky_2 hK]; intro d hd; cases hd
    | 3, g => rw [ky_3 hK g.1]; exact hw
    | 4, g =>
      rw [ky_4 hK g.1]
      cases pV P (pL P k) (tx_num w)
      · exact ih _ g.1.2 (Nat.lt_trans g.1.2 hk) _ hw
      · exact ih _ g.1.1 (Nat.lt_trans g.1.1 hk) _ hw
    | 5, g => rw [ky_5 hK g.1]; exact tx_L_app.mpr ⟨ih _ g.1.1 (Nat.lt_trans g.1.1 hk) _ (tx_L_take hw _), ih _ g.1.2 (Nat.lt_trans g.1.2 hk) _ (tx_L_drop hw _)⟩
    | 6, g => rw [ky_6 hK g.1]; exact tx_L_app.mpr ⟨ih _ g.1.1 (Nat.lt_trans g.1.1 hk) _ (tx_L_drop hw _), ih _ g.1.2 (Nat.lt_trans g.1.2 hk) _ (tx_L_take hw _)⟩
    | 7, g => rw [ky_7 hK g.2.1]; exact tx_L_fm (fun p hp => ih _ g.2.1.1 (Nat.lt_trans g.2.1.1 hk) _ (tx_L_rps hw p hp))
    | 8, g => rw [ky_8 hK g.2.1]; exact tx_L_fm (fun p hp => ih _ g.2.1.1 (Nat.lt_trans g.2.1.1 hk) _ (tx_L_rps hw p hp))
    | n + 9, g => exact absurd g.1 (by omega)
theorem fm_len_le {α : Type} (ps : List α) (g h : α → List Nat) (H : ∀ p ∈ ps, (g p).length ≤ (h p).length) : (ps.flatMap g).length ≤ (ps.flatMap h).length := by
  induction ps with
  | nil => simp
  | cons p ps ih =>
    rw [List.flatMap_cons, List.flatMap_cons, List.length_append, List.length_append]
    have h1 := H p (List.mem_cons_self ..)
    have h2 := ih (fun q hq => H q (List.mem_cons_of_mem _ hq))
    omega
theorem fm_len_mul {α : Type} (ps : List α) (g : α → List Nat) (len : α → Nat) (c : Nat) (H : ∀ p ∈ ps, (g p).length ≤ len p * c) : (ps.flatMap g).length ≤ (ps.map len).sum * c := by
  induction ps with
  | nil => simp
  | cons p ps ih =>
    rw [List.flatMap_cons, List.length_append, List.map_cons, List.sum_cons, Nat.add_mul]
    have h1 := H p (List.mem_cons_self ..)
    have h2 := ih (fun q hq => H q (List.mem_cons_of_mem _ hq))
    omega
theorem flat_sum (ps : List (List Nat)) : (ps.map List.length).sum = ps.flatten.length := by
  induction ps with
  | nil => rfl
  | cons p ps ih => rw [List.map_cons, List.sum_cons, List.flatten_cons, List.length_append, ih]
theorem ky_len {P : pgm} {n : Nat} (hg : gds P n) : ∀ k, k < n → ∀ v, (sem_ky P k v).length ≤ v.length := by
  intro k
  induction k using Nat.strongRecOn with
  | _ k ih =>
    intro hk w
    have g := hg k hk
    unfold gd at g
    have gT := g.1
    replace g := g.2
    generalize hK : pK P k = K at g
    match K, g with
    | 0, _ => rw [ky_0 hK]; exact Nat.zero_le _
    | 1, _ => rw [ky_1 hK]; exact Nat.zero_le _
    | 2, _ => rw [ky_2 hK]; exact Nat.zero_le _
    | 3, g => rw [ky_3 hK g.1]; exact Nat.le_refl _
    | 4, g =>
      rw [ky_4 hK g.1]
      cases pV P (pL P k) (tx_num w)
      · exact ih _ g.1.2 (Nat.lt_trans g.1.2 hk) _
      · exact ih _ g.1.1 (Nat.lt_trans g.1.1 hk) _
    | 5, g =>
      rw [ky_5 hK g.1, List.length_append]
      have h1 := ih _ g.1.1 (Nat.lt_trans g.1.1 hk) (w.take (cut (pV P (pL P k)) (pV P (pR P k)) w))
      have h2 := ih _ g.1.2 (Nat.lt_trans g.1.2 hk) (w.drop (cut (pV P (pL P k)) (pV P (pR P k)) w))
      have h3 := cut_le (pV P (pL P k)) (pV P (pR P k)) w
      rw [List.length_take] at h1
      rw [List.length_drop] at h2
      omega
    | 6, g =>
      rw [ky_6 hK g.1, List.length_append]
      have h1 := ih _ g.1.1 (Nat.lt_trans g.1.1 hk) (w.drop (cut (pV P (pR P k)) (pV P (pL P k)) w))
      have h2 := ih _ g.1.2 (Nat.lt_trans g.1.2 hk) (w.take (cut (pV P (pR P k)) (pV P (pL P k)) w))
      have h3 := cut_le (pV P (pR P k)) (pV P (pL P k)) w
      rw [List.length_drop] at h1
      rw [List.length_take] at h2
      omega
    | 7, g =>
      rw [ky_7 hK g.2.1]
      refine Nat.le_trans (fm_len_le _ _ (fun u => u) (fun p _ => ih _ g.2.1.1 (Nat.lt_trans g.2.1.1 hk) p)) ?_
      rw [fm_flat, List.map_id', rps_flat]
      exact Nat.le_refl _
    | 8, g =>
      rw [ky_8 hK g.2.1]
      refine Nat.le_trans (fm_len_le _ _ (fun u => u) (fun p _ => ih _ g.2.1.1 (Nat.lt_trans g.2.1.1 hk) p)) ?_
      rw [fm_flat, List.map_id', rps_flat]
      exact Nat.le_refl _
    | n + 9, g => exact absurd g.1 (by omega)
/-- leaves -/
def lv (P : pgm) (k : Nat) : Nat :=
  if _hl : pL P k < k ∧ pR P k < k then
    match pK P k with
    | 0 => 1
    | 1 => 1
    | 2 => 1
    | 3 => lv P (pL P k)
    | 4 => lv P (pL P k) + lv P (pR P k)
    | 5 => lv P (pL P k) + lv P (pR P k)
    | 6 => lv P (pL P k) + lv P (pR P k)
    | _ => lv P (pL P k)
  else 1
termination_by k
decreasing_by all_goals omega
section Lv
variable {P : pgm} {k : Nat}
theorem lv_0 (hk : pK P k = 0) : lv P k = 1 := by
  rw [lv, hk]; split <;> rfl
theorem lv_1 (hk : pK P k = 1) : lv P k = 1 := by
  rw [lv, hk]; split <;> rfl
theorem lv_2 (hk : pK P k = 2) : lv P k = 1 := by
  rw [lv, hk]; split <;> rfl
theorem lv_3 (hk : pK P k = 3) (hl : pL P k < k ∧ pR P k < k) : lv P k = lv P (pL P k) := by
  rw [lv, dif_pos hl, hk]; rfl
theorem lv_4 (hk : pK P k = 4) (hl : pL P k < k ∧ pR P k < k) : lv P k = lv P (pL P k) + lv P (pR P k) := by
  rw [lv, dif_pos hl, hk]; rfl
theorem lv_5 (hk : pK P k = 5) (hl : pL P k < k ∧ pR P k < k) : lv P k = lv P (pL P k) + lv P (pR P k) := by
  rw [lv, dif_pos hl, hk]; rfl
theorem lv_6 (hk : pK P k = 6) (hl : pL P k < k ∧ pR P k < k) : lv P k = lv P (pL P k) + lv P (pR P k) := by
  rw [lv, dif_pos hl, hk]; rfl
theorem lv_7 (hk : pK P k = 7) (hl : pL P k < k ∧ pR P k < k) : lv P k = lv P (pL P k) := by
  rw [lv, dif_pos hl, hk]; rfl
theorem lv_8 (hk : pK P k = 8) (hl : pL P k < k ∧ pR P k < k) : lv P k = lv P (pL P k) := by
  rw [lv, dif_pos hl, hk]; rfl
end Lv
theorem mul_split {a b n x y : Nat} (ha : a ≤ n) (hb : b ≤ n) : max a 1 * x + max b 1 * y ≤ max n 1 * (x + y) := by
  rw [Nat.mul_add]
  have h1 : max a 1 * x ≤ max n 1 * x := Nat.mul_le_mul_right _ (by omega)
  have h2 : max b 1 * y ≤ max n 1 * y := Nat.mul_le_mul_right _ (by omega)
  omega
theorem rps_sum (A B : Nat → Bool) (w : List Nat) : ((rps A B w).map (fun u => max u.length 1)).sum = w.length := by
  have h : (rps A B w).map (fun u => max u.length 1) = (rps A B w).map List.length := by
    apply List.map_congr_left
    intro p hp
    have := ne_len (rps_ne A B w p hp)
    omega
  rw [h, flat_sum, rps_flat]
theorem sh_len {P : pgm} {n : Nat} (hg : gds P n) : ∀ k, k < n → ∀ w, (sem_sh P k w).length ≤ max w.length 1 * lv P k := by
  intro k
  induction k using Nat.strongRecOn with
  | _ k ih =>
    intro hk w
    have g := hg k hk
    unfold gd at g
    have gT := g.1
    replace g := g.2
    generalize hK : pK P k = K at g
    match K, g with
    | 0, _ => rw [sh_0 hK, lv_0 hK]; omega
    | 1, _ => rw [sh_1 hK]; exact Nat.zero_le _
    | 2, _ => rw [sh_2 hK, lv_2 hK, List.length_cons, List.length_nil]; omega
    | 3, g => rw [sh_3 hK g.1, lv_3 hK g.1]; exact ih _ g.1.1 (Nat.lt_trans g.1.1 hk) _
    | 4, g =>
      rw [sh_4 hK g.1, lv_4 hK g.1, Nat.mul_add]
      have h1 := ih _ g.1.1 (Nat.lt_trans g.1.1 hk) w
      have h2 := ih _ g.1.2 (Nat.lt_trans g.1.2 hk) w
      cases pS_ P (pL P k) (tx_num w)
      · rw [cond_false]; omega
      · rw [cond_true]; omega
    | 5, g =>
      rw [sh_5 hK g.1, lv_5 hK g.1, List.length_append]
      refine Nat.le_trans (Nat.add_le_add (ih _ g.1.1 (Nat.lt_trans g.1.1 hk) _) (ih _ g.1.2 (Nat.lt_trans g.1.2 hk) _)) (mul_split ?_ ?_)
      · rw [List.length_take]; omega
      · rw [List.length_drop]; omega
    | 6, g =>
      rw [sh_6 hK g.1, lv_6 hK g.1, List.length_append, Nat.add_comm]
      refine Nat.le_trans (Nat.add_le_add (ih _ g.1.1 (Nat.lt_trans g.1.1 hk) _) (ih _ g.1.2 (Nat.lt_trans g.1.2 hk) _)) (mul_split ?_ ?_)
      · rw [List.length_take]; omega
      · rw [List.length_drop]; omega
    | 7, g =>
      rw [sh_7 hK g.2.1, lv_7 hK g.2.1]
      refine Nat.le_trans (fm_len_mul _ _ _ _ (fun p _ => ih _ g.2.1.1 (Nat.lt_trans g.2.1.1 hk) p)) ?_
      rw [rps_sum]
      exact Nat.mul_le_mul_right _ (by omega)
    | 8, g =>
      rw [sh_8 hK g.2.1, lv_8 hK g.2.1]
      refine Nat.le_trans (fm_len_mul _ _ _ _ (fun p _ => ih _ g.2.1.1 (Nat.lt_trans g.2.1.1 hk) p)) ?_
      rw [rps_sum]
      exact Nat.mul_le_mul_right _ (by omega)
    | n + 9, g => exact absurd g.1 (by omega)
theorem cr_len {P : pgm} {n : Nat} (hg : gds P n) : ∀ k, k < n → ∀ w, (sem_cr P k w).length ≤ max w.length 1 * lv P k := by
  intro k
  induction k using Nat.strongRecOn with
  | _ k ih =>
    intro hk w
    have g := hg k hk
    unfold gd at g
    have gT := g.1
    replace g := g.2
    generalize hK : pK P k = K at g
    match K, g with
    | 0, _ => rw [cr_0 hK, lv_0 hK]; omega
    | 1, _ => rw [cr_1 hK, lv_1 hK, List.length_cons, List.length_nil]; omega
    | 2, _ => rw [cr_2 hK]; exact Nat.zero_le _
    | 3, g => rw [cr_3 hK g.1, lv_3 hK g.1]; exact ih _ g.1.1 (Nat.lt_trans g.1.1 hk) _
    | 4, g =>
      rw [cr_4 hK g.1, lv_4 hK g.1, Nat.mul_add]
      have h1 := ih _ g.1.1 (Nat.lt_trans g.1.1 hk) w
      have h2 := ih _ g.1.2 (Nat.lt_trans g.1.2 hk) w
      cases pV P (pL P k) (tx_num w)
      · rw [cond_false]; omega
      · rw [cond_true]; omega
    | 5, g =>
      rw [cr_5 hK g.1, lv_5 hK g.1, List.length_append]
      refine Nat.le_trans (Nat.add_le_add (ih _ g.1.1 (Nat.lt_trans g.1.1 hk) _) (ih _ g.1.2 (Nat.lt_trans g.1.2 hk) _)) (mul_split ?_ ?_)
      · rw [List.length_take]; omega
      · rw [List.length_drop]; omega
    | 6, g =>
      rw [cr_6 hK g.1, lv_6 hK g.1, List.length_append]
      refine Nat.le_trans (Nat.add_le_add (ih _ g.1.1 (Nat.lt_trans g.1.1 hk) _) (ih _ g.1.2 (Nat.lt_trans g.1.2 hk) _)) (mul_split ?_ ?_)
      · rw [List.length_drop]; omega
      · rw [List.length_take]; omega
    | 7, g =>
      rw [cr_7 hK g.2.1, lv_7 hK g.2.1]
      refine Nat.le_trans (fm_len_mul _ _ _ _ (fun p _ => ih _ g.2.1.1 (Nat.lt_trans g.2.1.1 hk) p)) ?_
      rw [rps_sum]
      exact Nat.mul_le_mul_right _ (by omega)
    | 8, g =>
      rw [cr_8 hK g.2.1, lv_8 hK g.2.1]
      refine Nat.le_trans (fm_len_mul _ _ _ _ (fun p _ => ih _ g.2.1.1 (Nat.lt_trans g.2.1.1 hk) p)) ?_
      rw [rps_sum]
      exact Nat.mul_le_mul_right _ (by omega)
    | n + 9, g => exact absurd g.1 (by omega)
