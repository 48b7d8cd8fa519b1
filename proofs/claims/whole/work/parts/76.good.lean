/-! OURS. Programs that are good: what their sets hold; where what is shown lies. -/
def ltr (T t : Nat) : Bool := decide (1 ≤ t) && decide (t ≤ 3) && (T == 0 || T == t)
/-- texts in two parts -/
def jn (A B : Nat → Bool) (t : Nat) : Prop := t < 1093 ∧ ∃ i, i ≤ (tx_let t).length ∧ cp A B (tx_let t) i = true
def rq (A : Nat → Bool) (t : Nat) : Prop := t < 1093 ∧ rp_R A (tx_let t)
/-- part k is good and well made -/
def gd (P : pgm) (k : Nat) : Prop :=
  pT P k ≤ 3 ∧ match pK P k with
  | 0 => (∀ t, pS_ P k t = ltr (pT P k) t) ∧ (∀ t, pV P k t = ltr (pT P k) t)
  | 1 => (∀ t, pS_ P k t = ltr (pT P k) t) ∧ (∀ t, pV P k t = (t == 0))
  | 2 => 1 ≤ pT P k ∧ (∀ t, pS_ P k t = (t == 0)) ∧ (∀ t, pV P k t = ltr (pT P k) t)
  | 3 => (pL P k < k ∧ pR P k < k) ∧ (∀ t, pS_ P k t = pS_ P (pL P k) t) ∧ (∀ t, pV P k t = pV P (pL P k) t)
  | 4 => (pL P k < k ∧ pR P k < k) ∧ (∀ t, pS_ P k t = (pS_ P (pL P k) t || pS_ P (pR P k) t)) ∧ (∀ t, pV P k t = (pV P (pL P k) t || pV P (pR P k) t))
  | 5 => (pL P k < k ∧ pR P k < k) ∧ (∀ t, pS_ P k t = true ↔ jn (pS_ P (pL P k)) (pS_ P (pR P k)) t) ∧ (∀ t, pV P k t = true ↔ jn (pV P (pL P k)) (pV P (pR P k)) t)
  | 6 => (pL P k < k ∧ pR P k < k) ∧ (∀ t, pS_ P k t = true ↔ jn (pS_ P (pL P k)) (pS_ P (pR P k)) t) ∧ (∀ t, pV P k t = true ↔ jn (pV P (pR P k)) (pV P (pL P k)) t)
  | n => n ≤ 8 ∧ (pL P k < k ∧ pR P k < k) ∧ pS_ P (pL P k) 0 = false ∧ pV P (pL P k) 0 = false ∧ (∀ t, pS_ P k t = true ↔ rq (pS_ P (pL P k)) t) ∧ (∀ t, pV P k t = true ↔ rq (pV P (pL P k)) t)
def gds (P : pgm) (n : Nat) : Prop := ∀ k, k < n → gd P k
theorem jn_num {A B : Nat → Bool} {w : List Nat} (h : tx_L w) : jn A B (tx_num w) ↔ w.length ≤ 6 ∧ ∃ i, i ≤ w.length ∧ cp A B w i = true := by
  unfold jn
  rw [tx_let_num h, tx_six h]
theorem rq_num {A : Nat → Bool} {w : List Nat} (h : tx_L w) : rq A (tx_num w) ↔ w.length ≤ 6 ∧ rp_R A w := by
  unfold rq
  rw [tx_let_num h, tx_six h]
theorem cut_le (A B : Nat → Bool) (w : List Nat) : cut A B w ≤ w.length := fi_le _ _ _
theorem cuf_le (A B : Nat → Bool) (w : List Nat) : cuf A B w ≤ w.length := fi_le _ _ _
theorem jn_cut {A B : Nat → Bool} {w : List Nat} (h : tx_L w) (hj : jn A B (tx_num w)) : A (tx_num (w.take (cut A B w))) = true ∧ B (tx_num (w.drop (cut A B w))) = true := by
  obtain ⟨_, i, hi, hc⟩ := (jn_num h).mp hj
  have := fi_found (p := cp A B w) (n := w.length) (i := 0) ⟨i, Nat.zero_le _, hi, hc⟩
  exact Bool.and_eq_true_iff.mp this
theorem rq_cuf {A B : Nat → Bool} {w : List Nat} (h : tx_L w) (hB : ∀ t, B t = true ↔ rq A t) (hw : w ≠ []) (hj : B (tx_num w) = true) : A (tx_num (w.take (cuf A B w))) = true ∧ B (tx_num (w.drop (cuf A B w))) = true := by
  obtain ⟨h6, hr⟩ := (rq_num h).mp ((hB _).mp hj)
  obtain ⟨i, h1, h2, h3, h4⟩ := (rp_R_first hw).mp hr
  have : cp A B w i = true := by
    unfold cp
    rw [h3, (hB _).mpr ((rq_num (tx_L_drop h i)).mpr ⟨by rw [List.length_drop]; omega, h4⟩)]
    rfl
  have := fi_found (p := cp A B w) (n := w.length) (i := 1) ⟨i, h1, h2, this⟩
  exact Bool.and_eq_true_iff.mp this
theorem rps_mem {A B : Nat → Bool} (hB : ∀ t, B t = true ↔ rq A t) {w : List Nat} (h : tx_L w) (hj : B (tx_num w) = true) : ∀ p ∈ rps A B w, A (tx_num p) = true ∧ tx_L p ∧ p ≠ [] ∧ p.length ≤ w.length := by
  generalize hn : w.length = n
  induction n using Nat.strongRecOn generalizing w with
  | _ n ih =>
    by_cases hw : w = []
    · subst hw; rw [rps_nil]; intro p hp; cases hp
    · have h1 := cuf_pos (A := A) (B := B) hw
      have h2 := cuf_le A B w
      have h3 := ne_len hw
      have h4 := rq_cuf h hB hw hj
      rw [rps_cons hw]
      intro p hp
      rcases List.mem_cons.mp hp with e | e
      · subst e
        refine ⟨h4.1, tx_L_take h _, ?_, by rw [List.length_take]; omega⟩
        intro e
        have := congrArg List.length e
        rw [List.length_take, List.length_nil] at this
        omega
      · have h5 := ih (w.drop (cuf A B w)).length (by rw [List.length_drop]; omega) (tx_L_drop h _) h4.2 rfl p e
        refine ⟨h5.1, h5.2.1, h5.2.2.1, ?_⟩
        have := h5.2.2.2
        rw [List.length_drop] at this
        omega
theorem rp_R_of {A : Nat → Bool} {ps : List (List Nat)} (h : ∀ p ∈ ps, p ≠ [] ∧ A (tx_num p) = true) : rp_R A ps.flatten := ⟨ps, rfl, h⟩
theorem ltr_cases {T t : Nat} (h : ltr T t = true) : 1 ≤ t ∧ t ≤ 3 ∧ (T = 0 ∨ T = t) := by
  unfold ltr at h
  simp only [Bool.and_eq_true, decide_eq_true_eq, Bool.or_eq_true, beq_iff_eq] at h
  exact ⟨h.1.1, h.1.2, h.2⟩
theorem tx_L_one {d : Nat} (h : d < 3) : tx_L [d] := by
  intro x hx
  rw [List.mem_singleton.mp hx]; exact h
theorem tx_num_one (d : Nat) : tx_num [d] = d + 1 := by
  have := tx_num_snoc [] d
  rw [List.nil_append] at this
  rw [this, tx_num_nil]; omega
theorem tx_L_flat {ps : List (List Nat)} (h : ∀ p ∈ ps, tx_L p) : tx_L ps.flatten := by
  intro d hd
  obtain ⟨p, hp, hd⟩ := List.mem_flatten.mp hd
  exact h p hp d hd
theorem tx_L_fm {α : Type} {ps : List α} {g : α → List Nat} (h : ∀ p ∈ ps, tx_L (g p)) : tx_L (ps.flatMap g) := by
  intro d hd
  obtain ⟨p, hp, hd⟩ := List.mem_flatMap.mp hd
  exact h p hp d hd
theorem tx_L_rps {A B : Nat → Bool} {w : List Nat} (h : tx_L w) : ∀ p ∈ rps A B w, tx_L p := by
  intro p hp d hd
  apply h
  rw [← rps_flat A B w]
  exact List.mem_flatten.mpr ⟨p, hp, hd⟩
/-- letters stay letters -/
theorem sh_L {P : pgm} {n : Nat} (hg : gds P n) : ∀ k, k < n → ∀ w, tx_L w → tx_L (sem_sh P k w) := by
  intro k
  induction k using Nat.strongRecOn with
  | _ k ih =>
    intro hk w hw
    have g := hg k hk
    unfold gd at g
    have gT := g.1
    replace g := g.2
    generalize hK : pK P k = K at g
    match K, g with
    | 0, _ => rw [sh_0 hK]; exact hw
    | 1, _ => rw [sh_1 hK]; intro d hd; cases hd
    | 2, _ => rw [sh_2 hK]; exact tx_L_one (by omega)
    | 3, g => rw [sh_3 hK g.1]; exact ih _ g.1.1 (Nat.lt_trans g.1.1 hk) _ hw
    | 4, g =>
      rw [sh_4 hK g.1]
      cases pS_ P (pL P k) (tx_num w)
      · exact ih _ g.1.2 (Nat.lt_trans g.1.2 hk) _ hw
      · exact ih _ g.1.1 (Nat.lt_trans g.1.1 hk) _ hw
    | 5, g => rw [sh_5 hK g.1]; exact tx_L_app.mpr ⟨ih _ g.1.1 (Nat.lt_trans g.1.1 hk) _ (tx_L_take hw _), ih _ g.1.2 (Nat.lt_trans g.1.2 hk) _ (tx_L_drop hw _)⟩
    | 6, g => rw [sh_6 hK g.1]; exact tx_L_app.mpr ⟨ih _ g.1.2 (Nat.lt_trans g.1.2 hk) _ (tx_L_drop hw _), ih _ g.1.1 (Nat.lt_trans g.1.1 hk) _ (tx_L_take hw _)⟩
    | 7, g => rw [sh_7 hK g.2.1]; exact tx_L_fm (fun p hp => ih _ g.2.1.1 (Nat.lt_trans g.2.1.1 hk) _ (tx_L_rps hw p hp))
    | 8, g => rw [sh_8 hK g.2.1]; exact tx_L_fm (fun p hp => ih _ g.2.1.1 (Nat.lt_trans g.2.1.1 hk) _ (tx_L_rps hw p hp))
    | n + 9, g => exact absurd g.1 (by omega)
theorem fm_flat {α : Type} (ps : List α) (g : α → List Nat) : ps.flatMap g = (ps.map g).flatten := by
  rw [List.flatMap_def]
theorem len_fm {α : Type} {ps : List α} {g : α → List Nat} {p : α} (hp : p ∈ ps) : (g p).length ≤ (ps.flatMap g).length := by
  induction ps with
  | nil => cases hp
  | cons q ps ih =>
    rw [List.flatMap_cons, List.length_append]
    rcases List.mem_cons.mp hp with e | e
    · subst e; omega
    · have := ih e; omega
/-- what is shown of a source is a view -/
theorem sh_V {P : pgm} {n : Nat} (hg : gds P n) : ∀ k, k < n → ∀ w, tx_L w → pS_ P k (tx_num w) = true → (sem_sh P k w).length ≤ 6 → pV P k (tx_num (sem_sh P k w)) = true := by
  intro k
  induction k using Nat.strongRecOn with
  | _ k ih =>
    intro hk w hw hs h6
    have gL := sh_L hg
    have g := hg k hk
    unfold gd at g
    have gT := g.1
    replace g := g.2
    generalize hK : pK P k = K at g
    match K, g with
    | 0, g => rw [sh_0 hK, g.2, ← g.1]; exact hs
    | 1, g => rw [sh_1 hK, g.2]; rfl
    | 2, g =>
      rw [sh_2 hK, g.2.2, tx_num_one]
      have : pT P k - 1 + 1 = pT P k := Nat.sub_add_cancel g.1
      rw [this]
      unfold ltr
      simp only [Bool.and_eq_true, decide_eq_true_eq, Bool.or_eq_true, beq_iff_eq]
      exact ⟨⟨g.1, gT⟩, .inr trivial⟩
    | 3, g =>
      rw [sh_3 hK g.1] at h6 ⊢
      rw [g.2.2]
      rw [g.2.1] at hs
      exact ih _ g.1.1 (Nat.lt_trans g.1.1 hk) _ hw hs h6
    | 4, g =>
      rw [g.2.1] at hs
      rw [sh_4 hK g.1] at h6 ⊢
      cases hc : pS_ P (pL P k) (tx_num w) with
      | false =>
        rw [hc, cond_false] at h6
        rw [hc, Bool.false_or] at hs
        rw [cond_false, g.2.2, ih _ g.1.2 (Nat.lt_trans g.1.2 hk) _ hw hs h6, Bool.or_true]
      | true =>
        rw [hc, cond_true] at h6
        rw [cond_true, g.2.2, ih _ g.1.1 (Nat.lt_trans g.1.1 hk) _ hw hc h6, Bool.true_or]
    | 5, g =>
      have hc := jn_cut hw ((g.2.1 _).mp hs)
      rw [sh_5 hK g.1] at h6 ⊢
      rw [List.length_append] at h6
      have l1 := gL _ (Nat.lt_trans g.1.1 hk) _ (tx_L_take hw (cut (pS_ P (pL P k)) (pS_ P (pR P k)) w))
      have l2 := gL _ (Nat.lt_trans g.1.2 hk) _ (tx_L_drop hw (cut (pS_ P (pL P k)) (pS_ P (pR P k)) w))
      have v1 := ih _ g.1.1 (Nat.lt_trans g.1.1 hk) _ (tx_L_take hw _) hc.1 (by omega)
      have v2 := ih _ g.1.2 (Nat.lt_trans g.1.2 hk) _ (tx_L_drop hw _) hc.2 (by omega)
      rw [g.2.2, jn_num (tx_L_app.mpr ⟨l1, l2⟩), List.length_append]
      refine ⟨h6, (sem_sh P (pL P k) (w.take (cut (pS_ P (pL P k)) (pS_ P (pR P k)) w))).length, by omega, ?_⟩
      unfold cp
      rw [List.take_left, List.drop_left, v1, v2]
      rfl
    | 6, g =>
      have hc := jn_cut hw ((g.2.1 _).mp hs)
      rw [sh_6 hK g.1] at h6 ⊢
      rw [List.length_append] at h6
      have l1 := gL _ (Nat.lt_trans g.1.1 hk) _ (tx_L_take hw (cut (pS_ P (pL P k)) (pS_ P (pR P k)) w))
      have l2 := gL _ (Nat.lt_trans g.1.2 hk) _ (tx_L_drop hw (cut (pS_ P (pL P k)) (pS_ P (pR P k)) w))
      have v1 := ih _ g.1.1 (Nat.lt_trans g.1.1 hk) _ (tx_L_take hw _) hc.1 (by omega)
      have v2 := ih _ g.1.2 (Nat.lt_trans g.1.2 hk) _ (tx_L_drop hw _) hc.2 (by omega)
      rw [g.2.2, jn_num (tx_L_app.mpr ⟨l2, l1⟩), List.length_append]
      refine ⟨h6, (sem_sh P (pR P k) (w.drop (cut (pS_ P (pL P k)) (pS_ P (pR P k)) w))).length, by omega, ?_⟩
      unfold cp
      rw [List.take_left, List.drop_left, v1, v2]
      rfl
    | 7, g =>
      have hm := rps_mem g.2.2.2.2.1 hw hs
      rw [sh_7 hK g.2.1] at h6 ⊢
      have hL := tx_L_fm (fun p hp => gL _ (Nat.lt_trans g.2.1.1 hk) p (hm p hp).2.1)
      rw [g.2.2.2.2.2, rq_num hL]
      refine ⟨h6, ?_⟩
      rw [fm_flat]
      apply rp_R_of
      intro q hq
      obtain ⟨p, hp, e⟩ := List.mem_map.mp hq
      subst e
      have v := ih _ g.2.1.1 (Nat.lt_trans g.2.1.1 hk) p (hm p hp).2.1 (hm p hp).1 (Nat.le_trans (len_fm hp) h6)
      refine ⟨fun e => ?_, v⟩
      rw [e, tx_num_nil, g.2.2.2.1] at v
      cases v
    | 8, g =>
      have hm := rps_mem g.2.2.2.2.1 hw hs
      rw [sh_8 hK g.2.1] at h6 ⊢
      have hL := tx_L_fm (fun p hp => gL _ (Nat.lt_trans g.2.1.1 hk) p (hm p hp).2.1)
      rw [g.2.2.2.2.2, rq_num hL]
      refine ⟨h6, ?_⟩
      rw [fm_flat]
      apply rp_R_of
      intro q hq
      obtain ⟨p, hp, e⟩ := List.mem_map.mp hq
      subst e
      have v := ih _ g.2.1.1 (Nat.lt_trans g.2.1.1 hk) p (hm p hp).2.1 (hm p hp).1 (Nat.le_trans (len_fm hp) h6)
      refine ⟨fun e => ?_, v⟩
      rw [e, tx_num_nil, g.2.2.2.1] at v
      cases v
    | n + 9, g => exact absurd g.1 (by omega)
