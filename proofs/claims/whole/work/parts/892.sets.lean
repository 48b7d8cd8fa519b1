/-! OURS. The sets of a program's parts, as its parts say. -/
noncomputable def dcd (p : Prop) : Bool := @decide p (Classical.propDecidable p)
theorem dcd_iff {p : Prop} : dcd p = true ↔ p := by
  unfold dcd
  exact @decide_eq_true_iff p (Classical.propDecidable p)
abbrev prt : Type := Nat × Nat × Nat × Nat
noncomputable def sts (ps : Nat → prt) (k : Nat) : (Nat → Bool) × (Nat → Bool) :=
  if _h : (ps k).2.1 < k ∧ (ps k).2.2.1 < k then
    (fun t => dcd (t < 1152 ∧ sS (ps k).1 (ps k).2.2.2 (sts ps (ps k).2.1).1 (sts ps (ps k).2.2.1).1 t), fun t => dcd (t < 1152 ∧ sV (ps k).1 (ps k).2.2.2 (sts ps (ps k).2.1).2 (sts ps (ps k).2.2.1).2 t))
  else (fun t => dcd (t < 1152 ∧ sS (ps k).1 (ps k).2.2.2 (fun _ => false) (fun _ => false) t), fun t => dcd (t < 1152 ∧ sV (ps k).1 (ps k).2.2.2 (fun _ => false) (fun _ => false) t))
termination_by k
decreasing_by all_goals omega
/-- a part well made -/
def wfp (ps : Nat → prt) (k : Nat) : Prop := (ps k).1 ≤ 8 ∧ (ps k).2.2.2 ≤ 3 ∧ ((ps k).1 = 2 → 1 ≤ (ps k).2.2.2) ∧ (3 ≤ (ps k).1 → (ps k).2.1 < k ∧ (ps k).2.2.1 < k)
theorem sS_atom {K T : Nat} (h : K < 3) (A B A' B' : Nat → Bool) : sS K T A B = sS K T A' B' := by
  match K, h with
  | 0, _ => rfl
  | 1, _ => rfl
  | 2, _ => rfl
theorem sV_atom {K T : Nat} (h : K < 3) (A B A' B' : Nat → Bool) : sV K T A B = sV K T A' B' := by
  match K, h with
  | 0, _ => rfl
  | 1, _ => rfl
  | 2, _ => rfl
theorem sts_1 {ps : Nat → prt} {k : Nat} (h : wfp ps k) (t : Nat) : (sts ps k).1 t = true ↔ t < 1152 ∧ sS (ps k).1 (ps k).2.2.2 (sts ps (ps k).2.1).1 (sts ps (ps k).2.2.1).1 t := by
  rw [sts]
  split
  · exact dcd_iff
  · rename_i hn
    have hk : (ps k).1 < 3 := Nat.lt_of_not_le (fun e => hn (h.2.2.2 e))
    rw [sS_atom hk (sts ps (ps k).2.1).1 (sts ps (ps k).2.2.1).1 (fun _ => false) (fun _ => false)]
    exact dcd_iff
theorem sts_2 {ps : Nat → prt} {k : Nat} (h : wfp ps k) (t : Nat) : (sts ps k).2 t = true ↔ t < 1152 ∧ sV (ps k).1 (ps k).2.2.2 (sts ps (ps k).2.1).2 (sts ps (ps k).2.2.1).2 t := by
  rw [sts]
  split
  · exact dcd_iff
  · rename_i hn
    have hk : (ps k).1 < 3 := Nat.lt_of_not_le (fun e => hn (h.2.2.2 e))
    rw [sV_atom hk (sts ps (ps k).2.1).2 (sts ps (ps k).2.2.1).2 (fun _ => false) (fun _ => false)]
    exact dcd_iff
def dD1 (ps : Nat → prt) (k : Nat) : Nat → Prop := sD1 (ps k).1 (sts ps (ps k).2.1).1 (sts ps (ps k).2.2.1).1
def dD2 (ps : Nat → prt) (k : Nat) : Nat → Prop := sD2 (ps k).1 (sts ps (ps k).2.1).2 (sts ps (ps k).2.2.1).2
def okp (ps : Nat → prt) (k : Nat) : Prop := (∀ t, ¬ dD1 ps k t) ∧ (∀ t, ¬ dD2 ps k t)
noncomputable def pgo (ps : Nat → prt) : pgm := (ps, fun k => (sts ps k).1, fun k => (sts ps k).2)
theorem sts_big1 {ps : Nat → prt} {k t : Nat} (h : 1152 ≤ t) : (sts ps k).1 t = false := by
  rw [sts]
  split
  · exact Bool.eq_false_iff.mpr (fun e => by have := (dcd_iff.mp e).1; omega)
  · exact Bool.eq_false_iff.mpr (fun e => by have := (dcd_iff.mp e).1; omega)
theorem sts_big2 {ps : Nat → prt} {k t : Nat} (h : 1152 ≤ t) : (sts ps k).2 t = false := by
  rw [sts]
  split
  · exact Bool.eq_false_iff.mpr (fun e => by have := (dcd_iff.mp e).1; omega)
  · exact Bool.eq_false_iff.mpr (fun e => by have := (dcd_iff.mp e).1; omega)
theorem bool_iff {a b : Bool} (h : a = true ↔ b = true) : a = b := Bool.eq_iff_iff.mpr h
theorem gd_of {ps : Nat → prt} {k : Nat} (h : wfp ps k) (hok : okp ps k) : gd (pgo ps) k := by
  have h1 := sts_1 h
  have h2 := sts_2 h
  refine ⟨h.2.1, ?_⟩
  have hl := h.2.2.2
  have hT := h.2.2.1
  obtain ⟨o1, o2⟩ := hok
  unfold dD1 at o1
  unfold dD2 at o2
  rw [show pK (pgo ps) k = (ps k).1 from rfl]
  generalize hK : (ps k).1 = K at *
  have hK8 : K ≤ 8 := by have := h.1; omega
  match K, hK8 with
  | 0, _ =>
    refine ⟨fun t => bool_iff ((h1 t).trans ⟨fun e => e.2, fun e => ⟨?_, e⟩⟩), fun t => bool_iff ((h2 t).trans ⟨fun e => e.2, fun e => ⟨?_, e⟩⟩)⟩
    · have := ltr_cases e; omega
    · have := ltr_cases e; omega
  | 1, _ =>
    refine ⟨fun t => bool_iff ((h1 t).trans ⟨fun e => e.2, fun e => ⟨?_, e⟩⟩), fun t => bool_iff ((h2 t).trans ⟨fun e => by simpa [sV] using e.2, fun e => ⟨?_, by simpa [sV] using e⟩⟩)⟩
    · have := ltr_cases e; omega
    · have : t = 0 := by simpa using e
      omega
  | 2, _ =>
    refine ⟨hT rfl, fun t => bool_iff ((h1 t).trans ⟨fun e => by simpa [sS] using e.2, fun e => ⟨?_, by simpa [sS] using e⟩⟩), fun t => bool_iff ((h2 t).trans ⟨fun e => e.2, fun e => ⟨?_, e⟩⟩)⟩
    · have : t = 0 := by simpa using e
      omega
    · have := ltr_cases e; omega
  | 3, _ =>
    refine ⟨hl (by decide), fun t => bool_iff ((h1 t).trans ⟨fun e => e.2, fun e => ⟨?_, e⟩⟩), fun t => bool_iff ((h2 t).trans ⟨fun e => e.2, fun e => ⟨?_, e⟩⟩)⟩
    · rcases Nat.lt_or_ge t 1152 with q | q
      · exact q
      · have e : (sts ps (ps k).2.1).1 t = true := e
        rw [sts_big1 q] at e; cases e
    · rcases Nat.lt_or_ge t 1152 with q | q
      · exact q
      · have e : (sts ps (ps k).2.1).2 t = true := e
        rw [sts_big2 q] at e; cases e
  | 4, _ =>
    refine ⟨hl (by decide), fun t => bool_iff ((h1 t).trans ⟨fun e => e.2, fun e => ⟨?_, e⟩⟩), fun t => bool_iff ((h2 t).trans ⟨fun e => e.2, fun e => ⟨?_, e⟩⟩)⟩
    · rcases Nat.lt_or_ge t 1152 with q | q
      · exact q
      · have e : ((sts ps (ps k).2.1).1 t || (sts ps (ps k).2.2.1).1 t) = true := e
        rw [sts_big1 q, sts_big1 q] at e; cases e
    · rcases Nat.lt_or_ge t 1152 with q | q
      · exact q
      · have e : ((sts ps (ps k).2.1).2 t || (sts ps (ps k).2.2.1).2 t) = true := e
        rw [sts_big2 q, sts_big2 q] at e; cases e
  | 5, _ =>
    exact ⟨hl (by decide), fun t => (h1 t).trans ⟨fun e => e.2, fun e => ⟨by have := e.1; omega, e⟩⟩, fun t => (h2 t).trans ⟨fun e => e.2, fun e => ⟨by have := e.1; omega, e⟩⟩⟩
  | 6, _ =>
    exact ⟨hl (by decide), fun t => (h1 t).trans ⟨fun e => e.2, fun e => ⟨by have := e.1; omega, e⟩⟩, fun t => (h2 t).trans ⟨fun e => e.2, fun e => ⟨by have := e.1; omega, e⟩⟩⟩
  | 7, _ =>
    exact ⟨by decide, hl (by decide), rD_none o1, rD_none o2, fun t => (h1 t).trans ⟨fun e => e.2, fun e => ⟨by have := e.1; omega, e⟩⟩, fun t => (h2 t).trans ⟨fun e => e.2, fun e => ⟨by have := e.1; omega, e⟩⟩⟩
  | 8, _ =>
    exact ⟨by decide, hl (by decide), rD_none o1, rD_none o2, fun t => (h1 t).trans ⟨fun e => e.2, fun e => ⟨by have := e.1; omega, e⟩⟩, fun t => (h2 t).trans ⟨fun e => e.2, fun e => ⟨by have := e.1; omega, e⟩⟩⟩
  | n + 9, h9 => exact absurd h9 (by omega)
/-- sets that agree -/
def ag (A B : Nat → Bool) : Prop := ∀ t, t < 1152 → A t = B t
theorem ag_symm {A B : Nat → Bool} (h : ag A B) : ag B A := fun t ht => (h t ht).symm
theorem cp_ag {A A' B B' : Nat → Bool} (hA : ag A A') (hB : ag B B') {t i : Nat} (ht : t < 1093) : cp A B (tx_let t) i = cp A' B' (tx_let t) i := by
  have h6 := (tx_let_len t 6).mpr (by rw [tx_st_7]; exact ht)
  have h1 := num_lt (tx_L_take (tx_let_L t) i) (by rw [List.length_take]; omega)
  have h2 := num_lt (tx_L_drop (tx_let_L t) i) (by rw [List.length_drop]; omega)
  unfold cp
  rw [hA _ (by omega), hB _ (by omega)]
theorem jn_ag {A A' B B' : Nat → Bool} (hA : ag A A') (hB : ag B B') (t : Nat) : jn A B t ↔ jn A' B' t := by
  constructor
  · rintro ⟨ht, i, hi, hc⟩
    exact ⟨ht, i, hi, by rw [← cp_ag hA hB ht]; exact hc⟩
  · rintro ⟨ht, i, hi, hc⟩
    exact ⟨ht, i, hi, by rw [cp_ag hA hB ht]; exact hc⟩
theorem jn2_ag {A A' B B' : Nat → Bool} (hA : ag A A') (hB : ag B B') (t : Nat) : jn2 A B t ↔ jn2 A' B' t := by
  constructor
  · rintro ⟨ht, i, j, h1, h2, h3, h4⟩
    exact ⟨ht, i, j, h1, h2, by rw [← cp_ag hA hB ht]; exact h3, by rw [← cp_ag hA hB ht]; exact h4⟩
  · rintro ⟨ht, i, j, h1, h2, h3, h4⟩
    exact ⟨ht, i, j, h1, h2, by rw [cp_ag hA hB ht]; exact h3, by rw [cp_ag hA hB ht]; exact h4⟩
theorem flat_mem_len {ps : List (List Nat)} {p : List Nat} (h : p ∈ ps) : p.length ≤ ps.flatten.length := by
  induction ps with
  | nil => cases h
  | cons q ps ih =>
    rw [List.flatten_cons, List.length_append]
    rcases List.mem_cons.mp h with e | e
    · subst e; omega
    · have := ih e; omega
theorem rp_D_ag {A A' : Nat → Bool} (hA : ag A A') {ps : List (List Nat)} {w : List Nat} (hw : tx_L w) (h6 : w.length ≤ 6) (h : rp_D A ps w) : rp_D A' ps w := by
  refine ⟨h.1, fun p hp => ⟨(h.2 p hp).1, ?_⟩⟩
  have h1 := flat_mem_len hp
  rw [h.1] at h1
  have hl : tx_L p := fun d hd => hw d (by rw [← h.1]; exact List.mem_flatten.mpr ⟨p, hp, hd⟩)
  have := num_lt hl (by omega)
  rw [← hA _ (by omega)]
  exact (h.2 p hp).2
theorem rq_ag {A A' : Nat → Bool} (hA : ag A A') (t : Nat) : rq A t ↔ rq A' t := by
  constructor
  · rintro ⟨ht, ps, h⟩
    exact ⟨ht, ps, rp_D_ag hA (tx_let_L t) ((tx_let_len t 6).mpr (by rw [tx_st_7]; exact ht)) h⟩
  · rintro ⟨ht, ps, h⟩
    exact ⟨ht, ps, rp_D_ag (ag_symm hA) (tx_let_L t) ((tx_let_len t 6).mpr (by rw [tx_st_7]; exact ht)) h⟩
theorem am2_ag {A A' : Nat → Bool} (hA : ag A A') (t : Nat) : am2 A t ↔ am2 A' t := by
  constructor
  · rintro ⟨ht, ps, qs, hne, h1, h2⟩
    have h6 := (tx_let_len t 6).mpr (by rw [tx_st_7]; exact ht)
    exact ⟨ht, ps, qs, hne, rp_D_ag hA (tx_let_L t) h6 h1, rp_D_ag hA (tx_let_L t) h6 h2⟩
  · rintro ⟨ht, ps, qs, hne, h1, h2⟩
    have h6 := (tx_let_len t 6).mpr (by rw [tx_st_7]; exact ht)
    exact ⟨ht, ps, qs, hne, rp_D_ag (ag_symm hA) (tx_let_L t) h6 h1, rp_D_ag (ag_symm hA) (tx_let_L t) h6 h2⟩
theorem rD_ag {A A' : Nat → Bool} (hA : ag A A') (t : Nat) : rD A t ↔ rD A' t := by
  unfold rD
  rw [hA 0 (by decide), am2_ag hA]
theorem sD1_ag {K : Nat} {A A' B B' : Nat → Bool} (hA : ag A A') (hB : ag B B') (t : Nat) : sD1 K A B t ↔ sD1 K A' B' t := by
  unfold sD1
  split
  · constructor
    · rintro ⟨h1, h2⟩
      exact ⟨h1, by rw [← hA t h1, ← hB t h1]; exact h2⟩
    · rintro ⟨h1, h2⟩
      exact ⟨h1, by rw [hA t h1, hB t h1]; exact h2⟩
  · exact jn2_ag hA hB t
  · exact jn2_ag hA hB t
  · exact rD_ag hA t
  · exact rD_ag hA t
  · exact Iff.rfl
theorem sD2_ag {K : Nat} {A A' B B' : Nat → Bool} (hA : ag A A') (hB : ag B B') (t : Nat) : sD2 K A B t ↔ sD2 K A' B' t := by
  unfold sD2
  split
  · exact jn2_ag hA hB t
  · exact jn2_ag hB hA t
  · exact rD_ag hA t
  · exact rD_ag hA t
  · exact Iff.rfl
theorem sS_ag {K T : Nat} {A A' B B' : Nat → Bool} (hA : ag A A') (hB : ag B B') {t : Nat} (ht : t < 1152) : sS K T A B t ↔ sS K T A' B' t := by
  unfold sS
  split
  · exact Iff.rfl
  · exact Iff.rfl
  · exact Iff.rfl
  · show A t = true ↔ A' t = true
    rw [hA t ht]
  · show (A t || B t) = true ↔ (A' t || B' t) = true
    rw [hA t ht, hB t ht]
  · exact jn_ag hA hB t
  · exact jn_ag hA hB t
  · exact rq_ag hA t
theorem sV_ag {K T : Nat} {A A' B B' : Nat → Bool} (hA : ag A A') (hB : ag B B') {t : Nat} (ht : t < 1152) : sV K T A B t ↔ sV K T A' B' t := by
  unfold sV
  split
  · exact Iff.rfl
  · exact Iff.rfl
  · exact Iff.rfl
  · show A t = true ↔ A' t = true
    rw [hA t ht]
  · show (A t || B t) = true ↔ (A' t || B' t) = true
    rw [hA t ht, hB t ht]
  · exact jn_ag hA hB t
  · exact jn_ag hB hA t
  · exact rq_ag hA t
/-- how a part comes out: bad, with its fault and doubt; or good, with its sets -/
def bdO (ps : Nat → prt) (k : Nat) (f d : Int) : Prop := (∃ t : Nat, lst (dD1 ps k) t ∧ f = sWhy (ps k).1 ∧ d = t) ∨ ((∀ t, ¬ dD1 ps k t) ∧ ∃ t : Nat, lst (dD2 ps k) t ∧ f = sWhy (ps k).1 + 1 ∧ d = t)
theorem bdO_uniq {ps : Nat → prt} {k : Nat} {f d f' d' : Int} (h : bdO ps k f d) (h' : bdO ps k f' d') : f = f' ∧ d = d' := by
  rcases h with ⟨t, a, b, c⟩ | ⟨n, t, a, b, c⟩
  · rcases h' with ⟨t', a', b', c'⟩ | ⟨n', t', a', b', c'⟩
    · have := lst_uniq a a'; exact ⟨by omega, by omega⟩
    · rcases a with ⟨e, _⟩ | ⟨u, e, e2, _⟩
      · omega
      · exact absurd e2 (n' u)
  · rcases h' with ⟨t', a', b', c'⟩ | ⟨n', t', a', b', c'⟩
    · rcases a' with ⟨e, _⟩ | ⟨u, e, e2, _⟩
      · omega
      · exact absurd e2 (n u)
    · have := lst_uniq a a'; exact ⟨by omega, by omega⟩
theorem bdO_bad {ps : Nat → prt} {k : Nat} {f d : Int} (h : bdO ps k f d) : ¬ okp ps k := by
  rintro ⟨h1, h2⟩
  rcases h with ⟨t, a, _⟩ | ⟨_, t, a, _⟩
  · rcases a with ⟨e, _⟩ | ⟨u, _, e2, _⟩
    · omega
    · exact h1 u e2
  · rcases a with ⟨e, _⟩ | ⟨u, _, e2, _⟩
    · omega
    · exact h2 u e2
theorem sWhy_pos (K : Nat) : 2 ≤ sWhy K ∧ sWhy K ≤ 6 := by
  unfold sWhy
  split <;> omega
/-- settling over sets that agree with the program's own -/
theorem stO_to {ps : Nat → prt} {k : Nat} (h : wfp ps k) {Sl Sr Vl Vr : Nat → Bool} {f d : Int} {S V : Int → Bool} (hs : stO (ps k).1 (ps k).2.2.2 Sl Sr Vl Vr f d S V) (a1 : 3 ≤ (ps k).1 → ag Sl (sts ps (ps k).2.1).1) (a2 : 3 ≤ (ps k).1 → ag Sr (sts ps (ps k).2.2.1).1) (a3 : 3 ≤ (ps k).1 → ag Vl (sts ps (ps k).2.1).2) (a4 : 3 ≤ (ps k).1 → ag Vr (sts ps (ps k).2.2.1).2) : (¬ f = 0 ∧ bdO ps k f d) ∨ (f = 0 ∧ d = -1 ∧ okp ps k ∧ ag (sN S) (sts ps k).1 ∧ ag (sN V) (sts ps k).2) := by
  have hw := sWhy_pos (ps k).1
  have e1 : ∀ t, sD1 (ps k).1 Sl Sr t ↔ dD1 ps k t := by
    intro t
    unfold dD1
    rcases Nat.lt_or_ge (ps k).1 3 with q | q
    · have : ∀ A B, sD1 (ps k).1 A B t = False := by
        intro A B
        generalize (ps k).1 = K at q
        match K, q with
        | 0, _ => rfl
        | 1, _ => rfl
        | 2, _ => rfl
      rw [this, this]
    · exact sD1_ag (a1 q) (a2 q) t
  have e2 : ∀ t, sD2 (ps k).1 Vl Vr t ↔ dD2 ps k t := by
    intro t
    unfold dD2
    rcases Nat.lt_or_ge (ps k).1 3 with q | q
    · have : ∀ A B, sD2 (ps k).1 A B t = False := by
        intro A B
        generalize (ps k).1 = K at q
        match K, q with
        | 0, _ => rfl
        | 1, _ => rfl
        | 2, _ => rfl
      rw [this, this]
    · exact sD2_ag (a3 q) (a4 q) t
  rcases hs with ⟨t, l, e, g⟩ | ⟨n, t, l, e, g⟩ | ⟨n, m, e, g, s⟩
  · exact .inl ⟨by omega, .inl ⟨t, lst_congr e1 l, e, g⟩⟩
  · exact .inl ⟨by omega, .inr ⟨fun u hu => n u ((e1 u).mpr hu), t, lst_congr e2 l, e, g⟩⟩
  · refine .inr ⟨e, g, ⟨fun u hu => n u ((e1 u).mpr hu), fun u hu => m u ((e2 u).mpr hu)⟩, fun t ht => bool_iff ?_, fun t ht => bool_iff ?_⟩
    · refine (s t ht).1.trans ?_
      rw [sts_1 h]
      rcases Nat.lt_or_ge (ps k).1 3 with q | q
      · rw [sS_atom q Sl Sr]; exact ⟨fun e => ⟨ht, e⟩, fun e => e.2⟩
      · exact ⟨fun e => ⟨ht, (sS_ag (a1 q) (a2 q) ht).mp e⟩, fun e => (sS_ag (a1 q) (a2 q) ht).mpr e.2⟩
    · refine (s t ht).2.trans ?_
      rw [sts_2 h]
      rcases Nat.lt_or_ge (ps k).1 3 with q | q
      · rw [sV_atom q Vl Vr]; exact ⟨fun e => ⟨ht, e⟩, fun e => e.2⟩
      · exact ⟨fun e => ⟨ht, (sV_ag (a3 q) (a4 q) ht).mp e⟩, fun e => (sV_ag (a3 q) (a4 q) ht).mpr e.2⟩
/-- nothing above the last text -/
theorem sts_z1 {ps : Nat → prt} : ∀ k, (∀ j, j ≤ k → wfp ps j) → ∀ t, 1093 ≤ t → (sts ps k).1 t = false ∧ (sts ps k).2 t = false := by
  intro k
  induction k using Nat.strongRecOn with
  | _ k ih =>
    intro hw t ht
    have h := hw k (Nat.le_refl _)
    have hl := h.2.2.2
    have i1 : 3 ≤ (ps k).1 → (sts ps (ps k).2.1).1 t = false ∧ (sts ps (ps k).2.1).2 t = false := fun q => ih _ (hl q).1 (fun j hj => hw j (by have := (hl q).1; omega)) t ht
    have i2 : 3 ≤ (ps k).1 → (sts ps (ps k).2.2.1).1 t = false ∧ (sts ps (ps k).2.2.1).2 t = false := fun q => ih _ (hl q).2 (fun j hj => hw j (by have := (hl q).2; omega)) t ht
    constructor
    · refine Bool.eq_false_iff.mpr (fun e => ?_)
      have e := ((sts_1 h t).mp e).2
      generalize (ps k).1 = K at *
      unfold sS at e
      split at e
      · have := ltr_cases e; omega
      · have := ltr_cases e; omega
      · omega
      · rw [(i1 (by decide)).1] at e; cases e
      · rw [(i1 (by decide)).1, (i2 (by decide)).1] at e; cases e
      · have := e.1; omega
      · have := e.1; omega
      · have := e.1; omega
    · refine Bool.eq_false_iff.mpr (fun e => ?_)
      have e := ((sts_2 h t).mp e).2
      generalize (ps k).1 = K at *
      unfold sV at e
      split at e
      · have := ltr_cases e; omega
      · omega
      · have := ltr_cases e; omega
      · rw [(i1 (by decide)).2] at e; cases e
      · rw [(i1 (by decide)).2, (i2 (by decide)).2] at e; cases e
      · have := e.1; omega
      · have := e.1; omega
      · have := e.1; omega
