/-! OURS. The parser as a small machine. Modes: 0 an atom is wanted, 1 an atom has ended, 2 and 3 behind it (may repeat or not), 4 joins closed, 5 choices closed, 6 failed, 7 read. -/
abbrev lne : Type := Nat × (Nat → Nat)
abbrev opn : Type := Nat × Nat × Nat
abbrev pst : Type := Nat × Nat × List (prt × Nat) × List Nat × List opn
def ltc (c : Nat) : Bool := decide (97 ≤ c) && decide (c ≤ 99)
def sat (c : Nat) : Bool := ltc c || (c == 46 || (c == 45 || (c == 43 || (c == 94 || (c == 61 || c == 40)))))
def tOf (c : Nat) : Nat := if c = 46 then 0 else c - 96
def lk (x : lne) (i : Nat) : Nat := if i < x.1 then x.2 i else 0
def dpt : List opn → Nat
  | [] => 0
  | o :: os => dpt os + (if o.1 = 10 then 1 else 0)
def isO (os : List opn) (k : Nat) : Bool := match os with
  | [] => false
  | o :: _ => o.1 == k
def hd (l : List Nat) : Nat := l.headD 0
def plc (os : List opn) : Nat := (os.headD (0, 0, 0)).2.1
def wnt (os : List opn) : Nat := (os.headD (0, 0, 0)).2.2
def mstep (x : lne) (s : pst) : pst :=
  match s with
  | (m, a, ps, ls, os) =>
    if m = 0 then
      if a < x.1 then
        if (ltc (x.2 a) || x.2 a == 46) = true then (1, a + 1, ps ++ [((0, 0, 0, tOf (x.2 a)), a)], ps.length :: ls, os)
        else if x.2 a = 45 ∨ x.2 a = 43 then
          if (ltc (lk x (a + 1)) || (lk x (a + 1) == 46 && x.2 a == 45)) = true then (1, a + 2, ps ++ [((if x.2 a = 45 then 1 else 2, 0, 0, tOf (lk x (a + 1))), a)], ps.length :: ls, os)
          else (6, a + 1, ps, ls, os)
        else if x.2 a = 94 then (0, a + 1, ps, ls, (5, a, 2) :: os)
        else if x.2 a = 61 then (0, a + 1, ps, ls, (6, a, 2) :: os)
        else if x.2 a = 40 ∧ dpt os < 4 then (0, a + 1, ps, ls, (10, a, 2) :: os)
        else (6, a, ps, ls, os)
      else (6, a, ps, ls, os)
    else if m = 1 then
      if isO os 6 = true then (1, a, ps ++ [((3, hd ls, hd ls, 0), plc os)], ps.length :: ls.tail, os.tail)
      else if isO os 5 = true then
        if wnt os = 2 then (0, a, ps, ls, (5, plc os, 1) :: os.tail)
        else (1, a, ps ++ [((6, hd ls.tail, hd ls, 0), plc os)], ps.length :: ls.tail.tail, os.tail)
      else (2, a, ps, ls, os)
    else if m = 2 ∨ m = 3 then
      if m = 2 ∧ a < x.1 ∧ (x.2 a = 42 ∨ x.2 a = 37) then (3, a + 1, ps ++ [((if x.2 a = 42 then 7 else 8, hd ls, hd ls, 0), a)], ps.length :: ls.tail, os)
      else if isO os 4 = true then (4, a, ps ++ [((5, hd ls.tail, hd ls, 0), plc os)], ps.length :: ls.tail.tail, os.tail)
      else (4, a, ps, ls, os)
    else if m = 4 then
      if sat (lk x a) = true then (0, a, ps, ls, (4, a, 2) :: os)
      else if isO os 7 = true then (5, a, ps ++ [((4, hd ls.tail, hd ls, 0), plc os)], ps.length :: ls.tail.tail, os.tail)
      else (5, a, ps, ls, os)
    else if m = 5 then
      if a < x.1 then
        if x.2 a = 124 then (0, a + 1, ps, ls, (7, a, 2) :: os)
        else if x.2 a = 41 ∧ isO os 10 = true then (1, a + 1, ps, ls, os.tail)
        else (6, a, ps, ls, os)
      else if os = [] then (7, a, ps, ls, os) else (6, a, ps, ls, os)
    else (m, a, ps, ls, os)
def mit (x : lne) : Nat → pst → pst
  | 0, s => s
  | k + 1, s => mit x k (mstep x s)
def Rch (x : lne) (s t : pst) : Prop := ∃ k, mit x k s = t
theorem mit_add (x : lne) (a b : Nat) (s : pst) : mit x (a + b) s = mit x b (mit x a s) := by
  induction a generalizing s with
  | zero => rw [Nat.zero_add]; rfl
  | succ a ih => rw [Nat.succ_add]; exact ih (mstep x s)
theorem Rch_refl (x : lne) (s : pst) : Rch x s s := ⟨0, rfl⟩
theorem Rch_trans {x : lne} {s t u : pst} (h : Rch x s t) (g : Rch x t u) : Rch x s u := by
  obtain ⟨a, ha⟩ := h
  obtain ⟨b, hb⟩ := g
  exact ⟨a + b, by rw [mit_add, ha]; exact hb⟩
theorem Rch_step {x : lne} {s t u : pst} (h : Rch x s t) (e : mstep x t = u) : Rch x s u := Rch_trans h ⟨1, e⟩
theorem mit_fin {x : lne} {s : pst} (h : 6 ≤ s.1) (k : Nat) : mit x k s = s := by
  have e : mstep x s = s := by
    obtain ⟨m, a, ps, ls, os⟩ := s
    have hm : 6 ≤ m := h
    unfold mstep
    dsimp only
    rw [if_neg (by omega), if_neg (by omega), if_neg (by omega), if_neg (by omega), if_neg (by omega)]
  induction k with
  | zero => rfl
  | succ k ih => show mit x k (mstep x s) = s; rw [e]; exact ih
theorem Rch_fin {x : lne} {s t u : pst} (h : Rch x s t) (g : Rch x s u) (ht : 6 ≤ t.1) (hu : 6 ≤ u.1) : t = u := by
  obtain ⟨a, ha⟩ := h
  obtain ⟨b, hb⟩ := g
  rcases Nat.le_total a b with e | e
  · have := mit_add x a (b - a) s
    rw [show a + (b - a) = b by omega, ha, hb, mit_fin ht] at this
    exact this.symm
  · have := mit_add x b (a - b) s
    rw [show b + (a - b) = a by omega, ha, hb, mit_fin hu] at this
    exact this
/-- the parts as a program -/
def psf (ps : List (prt × Nat)) (k : Nat) : prt := (ps[k]!).1
theorem psf_lt {ps : List (prt × Nat)} {y : prt × Nat} {k : Nat} (h : k < ps.length) : psf (ps ++ [y]) k = psf ps k := by unfold psf; rw [snoc_lt h]
theorem psf_at (ps : List (prt × Nat)) (y : prt × Nat) : psf (ps ++ [y]) ps.length = y.1 := by unfold psf; rw [snoc_at]
theorem lv_congr {P P' : pgm} : ∀ k, (∀ j, j ≤ k → P.1 j = P'.1 j) → lv P k = lv P' k := by
  intro k
  induction k using Nat.strongRecOn with
  | _ k ih =>
    intro h
    have e := h k (Nat.le_refl _)
    have eK : pK P k = pK P' k := by show (P.1 k).1 = (P'.1 k).1; rw [e]
    have eL : pL P k = pL P' k := by show (P.1 k).2.1 = (P'.1 k).2.1; rw [e]
    have eR : pR P k = pR P' k := by show (P.1 k).2.2.1 = (P'.1 k).2.2.1; rw [e]
    conv => lhs; rw [lv]
    conv => rhs; rw [lv]
    simp only [eK, eL, eR]
    by_cases hl : pL P' k < k ∧ pR P' k < k
    · rw [dif_pos hl, dif_pos hl, ih _ hl.1 (fun j hj => h j (by omega)), ih _ hl.2 (fun j hj => h j (by omega))]
    · rw [dif_neg hl, dif_neg hl]
noncomputable def LSs (ps : List (prt × Nat)) (ls : List Nat) : Nat := (ls.map (lv (pgo (psf ps)))).sum
theorem lv_app {ps : List (prt × Nat)} {y : prt × Nat} {p : Nat} (h : p < ps.length) : lv (pgo (psf (ps ++ [y]))) p = lv (pgo (psf ps)) p := lv_congr p (fun j hj => psf_lt (by omega))
theorem LSs_app {ps : List (prt × Nat)} {y : prt × Nat} {ls : List Nat} (h : ∀ p ∈ ls, p < ps.length) : LSs (ps ++ [y]) ls = LSs ps ls := by
  unfold LSs
  rw [List.map_congr_left (fun p hp => lv_app (h p hp))]
theorem LSs_cons (ps : List (prt × Nat)) (p : Nat) (ls : List Nat) : LSs ps (p :: ls) = lv (pgo (psf ps)) p + LSs ps ls := by unfold LSs; rw [List.map_cons, List.sum_cons]
def nd : List opn → Nat
  | [] => 0
  | o :: os => nd os + (if o.1 = 4 ∨ o.1 = 7 ∨ (o.1 = 5 ∧ o.2.2 ≠ 2) then 1 else 0)
def eqc : List opn → Nat
  | [] => 0
  | o :: os => eqc os + (if o.1 = 6 then 1 else 0)
theorem eqc_tail (os : List opn) : eqc os.tail ≤ eqc os := by
  cases os with
  | nil => exact Nat.le_refl _
  | cons o os => exact Nat.le_add_right _ _
def inv (x : lne) (s : pst) : Prop := s.2.1 ≤ x.1 ∧ s.2.2.1.length + s.2.2.2.1.length + eqc s.2.2.2.2 ≤ 2 * s.2.1 ∧ (s.1 = 0 → s.2.2.2.1.length = nd s.2.2.2.2 ∧ s.2.2.2.2.length ≤ 2 * s.2.1) ∧ (1 ≤ s.1 → s.1 ≤ 5 → s.2.2.2.1.length = nd s.2.2.2.2 + 1 ∧ s.2.2.2.2.length + 1 ≤ 2 * s.2.1) ∧ (1 ≤ s.1 → s.1 ≠ 6 → hd s.2.2.2.1 + 1 = s.2.2.1.length) ∧ (∀ p ∈ s.2.2.2.1, p < s.2.2.1.length) ∧ (∀ k, k < s.2.2.1.length → wfp (psf s.2.2.1) k) ∧ LSs s.2.2.1 s.2.2.2.1 ≤ s.2.1 ∧ (s.1 = 7 → s.2.2.2.1.length = 1)
/-- a part is added -/
theorem wf_app {ps : List (prt × Nat)} {y : prt × Nat} (h : ∀ k, k < ps.length → wfp (psf ps) k) (hy : y.1.1 ≤ 8 ∧ y.1.2.2.2 ≤ 3 ∧ (y.1.1 = 2 → 1 ≤ y.1.2.2.2) ∧ (3 ≤ y.1.1 → y.1.2.1 < ps.length ∧ y.1.2.2.1 < ps.length)) : ∀ k, k < (ps ++ [y]).length → wfp (psf (ps ++ [y])) k := by
  intro k hk
  rw [List.length_append, List.length_singleton] at hk
  rcases Nat.eq_or_lt_of_le (Nat.le_of_lt_succ hk) with e | e
  · subst e; unfold wfp; rw [psf_at]; exact hy
  · have := h k e
    unfold wfp at this ⊢
    rw [psf_lt e]; exact this
theorem mem_app {ps : List (prt × Nat)} {y : prt × Nat} {ls ls' : List Nat} (h : ∀ p ∈ ls, p < ps.length) (hs : ∀ p ∈ ls', p ∈ ls) : ∀ p ∈ ps.length :: ls', p < (ps ++ [y]).length := by
  intro p hp
  rw [List.length_append, List.length_singleton]
  rcases List.mem_cons.mp hp with e | e
  · omega
  · have := h p (hs p e); omega
theorem lv_pos (P : pgm) : ∀ k, 1 ≤ lv P k := by
  intro k
  induction k using Nat.strongRecOn with
  | _ k ih =>
    rw [lv]
    by_cases hl : pL P k < k ∧ pR P k < k
    · rw [dif_pos hl]
      have h1 := ih _ hl.1
      have h2 := ih _ hl.2
      split <;> omega
    · rw [dif_neg hl]; exact Nat.le_refl _
theorem lv_new1 {ps : List (prt × Nat)} {K T pl : Nat} (hK : K < 3) : lv (pgo (psf (ps ++ [((K, 0, 0, T), pl)]))) ps.length = 1 := by
  have e := psf_at ps ((K, 0, 0, T), pl)
  have hk : pK (pgo (psf (ps ++ [((K, 0, 0, T), pl)]))) ps.length = K := by show (psf _ _).1 = K; rw [e]
  have : K = 0 ∨ K = 1 ∨ K = 2 := by omega
  rcases this with rfl | rfl | rfl
  · exact lv_0 hk
  · exact lv_1 hk
  · exact lv_2 hk
theorem lv_new2 {ps : List (prt × Nat)} {K p q pl : Nat} (hK : 3 ≤ K) (hK8 : K ≤ 8) (hp : p < ps.length) (hq : q < ps.length) : lv (pgo (psf (ps ++ [((K, p, q, 0), pl)]))) ps.length = if K = 4 ∨ K = 5 ∨ K = 6 then lv (pgo (psf ps)) p + lv (pgo (psf ps)) q else lv (pgo (psf ps)) p := by
  have e := psf_at ps ((K, p, q, 0), pl)
  have hk : pK (pgo (psf (ps ++ [((K, p, q, 0), pl)]))) ps.length = K := by show (psf _ _).1 = K; rw [e]
  have hL : pL (pgo (psf (ps ++ [((K, p, q, 0), pl)]))) ps.length = p := by show (psf _ _).2.1 = p; rw [e]
  have hR : pR (pgo (psf (ps ++ [((K, p, q, 0), pl)]))) ps.length = q := by show (psf _ _).2.2.1 = q; rw [e]
  have hl : pL (pgo (psf (ps ++ [((K, p, q, 0), pl)]))) ps.length < ps.length ∧ pR (pgo (psf (ps ++ [((K, p, q, 0), pl)]))) ps.length < ps.length := by rw [hL, hR]; exact ⟨hp, hq⟩
  have : K = 3 ∨ K = 4 ∨ K = 5 ∨ K = 6 ∨ K = 7 ∨ K = 8 := by omega
  rcases this with rfl | rfl | rfl | rfl | rfl | rfl
  · rw [lv_3 hk hl, hL, lv_app hp]; rfl
  · rw [lv_4 hk hl, hL, hR, lv_app hp, lv_app hq]; rfl
  · rw [lv_5 hk hl, hL, hR, lv_app hp, lv_app hq]; rfl
  · rw [lv_6 hk hl, hL, hR, lv_app hp, lv_app hq]; rfl
  · rw [lv_7 hk hl, hL, lv_app hp]; rfl
  · rw [lv_8 hk hl, hL, lv_app hp]; rfl
theorem tOf_le {c : Nat} (h : (ltc c || c == 46) = true) : tOf c ≤ 3 := by
  unfold tOf
  unfold ltc at h
  simp at h
  split <;> omega
theorem tOf_pos {c : Nat} (h : ltc c = true) : 1 ≤ tOf c ∧ tOf c ≤ 3 := by
  unfold ltc at h
  simp at h
  unfold tOf
  rw [if_neg (by omega)]
  omega
theorem inv_step {x : lne} {s : pst} (h : inv x s) : inv x (mstep x s) := by
  obtain ⟨m, a, ps, ls, os⟩ := s
  obtain ⟨h1, h2, h3, h4, h5, h6, h7, h8, h9⟩ := h
  dsimp only at h1 h2 h3 h4 h5 h6 h7 h8 h9
  -- one operand
  have one : ∀ (K pl : Nat) (os' : List opn) (m' a' : Nat), 1 ≤ m → m ≤ 5 → K = 3 ∨ K = 7 ∨ K = 8 → a ≤ a' → a' ≤ x.1 → 1 ≤ m' → m' ≤ 5 → (K = 3 → os'.length + 1 = os.length ∧ nd os' = nd os ∧ eqc os = eqc os' + 1) → (K ≠ 3 → os' = os ∧ a' = a + 1) → inv x (m', a', ps ++ [((K, hd ls, hd ls, 0), pl)], ps.length :: ls.tail, os') := by
    intro K pl os' m' a' hm hm5 hK ha hax hm1 hm6 ho1 ho2
    obtain ⟨g1, g2⟩ := h4 hm hm5
    have g3 := h5 hm (by omega)
    cases ls with
    | nil => simp at g1
    | cons q ls =>
      have hq : q < ps.length := h6 q (List.mem_cons_self ..)
      have hls : ∀ p ∈ ls, p < ps.length := fun p hp => h6 p (List.mem_cons_of_mem _ hp)
      rw [List.length_cons] at h2 g1
      rw [LSs_cons] at h8
      refine ⟨hax, ?_, fun e => absurd e (by show m' ≠ 0; omega), fun _ _ => ⟨?_, ?_⟩, fun _ _ => ?_, ?_, ?_, ?_, fun e => absurd e (by show m' ≠ 7; omega)⟩
      · show (ps ++ _).length + (ps.length :: ls).length + eqc os' ≤ 2 * a'
        rw [List.length_append, List.length_singleton, List.length_cons]
        by_cases e : K = 3
        · have := (ho1 e).2.2; omega
        · rw [(ho2 e).1]; have := (ho2 e).2; omega
      · show (ps.length :: ls).length = nd os' + 1
        rw [List.length_cons]
        by_cases e : K = 3
        · have := (ho1 e).2.1; omega
        · rw [(ho2 e).1]; omega
      · show os'.length + 1 ≤ 2 * a'
        by_cases e : K = 3
        · have := (ho1 e).1; omega
        · rw [(ho2 e).1]; omega
      · show ps.length + 1 = (ps ++ _).length
        rw [List.length_append]; rfl
      · exact mem_app hls (fun p hp => hp)
      · refine wf_app h7 ⟨by show K ≤ 8; omega, Nat.zero_le _, fun e => absurd e (by show K ≠ 2; omega), fun _ => ⟨hq, hq⟩⟩
      · show LSs _ (ps.length :: ls) ≤ a'
        rw [LSs_cons, LSs_app hls]
        have := lv_new2 (pl := pl) (show 3 ≤ K by omega) (by omega) hq hq
        rw [if_neg (by omega)] at this
        rw [show hd (q :: ls) = q from rfl, this]; omega
  -- two operands
  have two : ∀ (K pl m' : Nat), 1 ≤ m → m ≤ 5 → K = 4 ∨ K = 5 ∨ K = 6 → 1 ≤ m' → m' ≤ 5 → nd os = nd os.tail + 1 → os.length = os.tail.length + 1 → inv x (m', a, ps ++ [((K, hd ls.tail, hd ls, 0), pl)], ps.length :: ls.tail.tail, os.tail) := by
    intro K pl m' hm hm5 hK hm1 hm6 ho1 ho2
    obtain ⟨g1, g2⟩ := h4 hm hm5
    have g3 := h5 hm (by omega)
    match ls, g1 with
    | [], g1 => simp at g1
    | [q], g1 => rw [List.length_singleton] at g1; omega
    | q :: p :: ls, g1 =>
      have hq : q < ps.length := h6 q (List.mem_cons_self ..)
      have hp : p < ps.length := h6 p (List.mem_cons_of_mem _ (List.mem_cons_self ..))
      have hls : ∀ r ∈ ls, r < ps.length := fun r hr => h6 r (List.mem_cons_of_mem _ (List.mem_cons_of_mem _ hr))
      rw [List.length_cons, List.length_cons] at h2 g1
      rw [LSs_cons, LSs_cons] at h8
      refine ⟨h1, ?_, fun e => absurd e (by show m' ≠ 0; omega), fun _ _ => ⟨?_, ?_⟩, fun _ _ => ?_, ?_, ?_, ?_, fun e => absurd e (by show m' ≠ 7; omega)⟩
      · show (ps ++ _).length + (ps.length :: ls).length + eqc os.tail ≤ 2 * a
        have := eqc_tail os
        rw [List.length_append, List.length_singleton, List.length_cons]; omega
      · show (ps.length :: ls).length = nd os.tail + 1
        rw [List.length_cons]; omega
      · show os.tail.length + 1 ≤ 2 * a
        omega
      · show ps.length + 1 = (ps ++ _).length
        rw [List.length_append]; rfl
      · exact mem_app hls (fun p hp => hp)
      · exact wf_app h7 ⟨by show K ≤ 8; omega, Nat.zero_le _, fun e => absurd e (by show K ≠ 2; omega), fun _ => ⟨hp, hq⟩⟩
      · show LSs _ (ps.length :: ls) ≤ a
        rw [LSs_cons, LSs_app hls]
        have := lv_new2 (pl := pl) (show 3 ≤ K by omega) (by omega) hp hq
        rw [if_pos (by omega)] at this
        rw [show hd (q :: p :: ls) = q from rfl, show hd (q :: p :: ls).tail = p from rfl, this]; omega
  -- an atom
  have atm : ∀ (K T pl a' : Nat), m = 0 → K < 3 → T ≤ 3 → (K = 2 → 1 ≤ T) → a < a' → a' ≤ x.1 → inv x (1, a', ps ++ [((K, 0, 0, T), pl)], ps.length :: ls, os) := by
    intro K T pl a' hm hK hT hT2 ha hax
    obtain ⟨g1, g2⟩ := h3 hm
    refine ⟨hax, ?_, fun e => absurd e (by show (1 : Nat) ≠ 0; omega), fun _ _ => ⟨?_, ?_⟩, fun _ _ => ?_, ?_, ?_, ?_, fun e => absurd e (by show (1 : Nat) ≠ 7; omega)⟩
    · show (ps ++ _).length + (ps.length :: ls).length + eqc os ≤ 2 * a'
      rw [List.length_append, List.length_singleton, List.length_cons]; omega
    · show (ps.length :: ls).length = nd os + 1
      rw [List.length_cons, g1]
    · show os.length + 1 ≤ 2 * a'
      omega
    · show ps.length + 1 = (ps ++ _).length
      rw [List.length_append]; rfl
    · exact mem_app h6 (fun p hp => hp)
    · exact wf_app h7 ⟨by show K ≤ 8; omega, hT, hT2, fun e => absurd e (by show ¬ 3 ≤ K; omega)⟩
    · show LSs _ (ps.length :: ls) ≤ a'
      rw [LSs_cons, LSs_app h6, lv_new1 hK]; omega
  -- something is begun
  have beg : ∀ (kd a' : Nat), (m = 0 ∧ kd ≠ 4 ∧ kd ≠ 7 ∧ a' = a + 1) ∨ (m = 5 ∧ kd = 7 ∧ a' = a + 1) ∨ (m = 4 ∧ kd = 4 ∧ a' = a) → a' ≤ x.1 → inv x (0, a', ps, ls, (kd, a, 2) :: os) := by
    intro kd a' hc hax
    have hnd : nd ((kd, a, 2) :: os) = nd os + (if kd = 4 ∨ kd = 7 then 1 else 0) := by
      show nd os + _ = _
      by_cases e : kd = 4 ∨ kd = 7
      · rw [if_pos e, if_pos (by rcases e with e | e; exact .inl e; exact .inr (.inl e))]
      · rw [if_neg e, if_neg (by rintro (q | q | q); exact e (.inl q); exact e (.inr q); exact q.2 rfl)]
    have heq : eqc ((kd, a, 2) :: os) ≤ eqc os + (if kd = 6 then 1 else 0) := Nat.le_refl _
    have heq2 : (if kd = 6 then 1 else 0) ≤ 2 * (a' - a) := by
      split <;> omega
    refine ⟨hax, by show ps.length + ls.length + eqc ((kd, a, 2) :: os) ≤ 2 * a'; omega, fun _ => ⟨?_, ?_⟩, fun e => absurd e (by show ¬ 1 ≤ 0; omega), fun e => absurd e (by show ¬ 1 ≤ 0; omega), h6, h7, by show LSs ps ls ≤ a'; omega, fun e => absurd e (by show (0 : Nat) ≠ 7; omega)⟩
    · show ls.length = nd ((kd, a, 2) :: os)
      rw [hnd]
      rcases hc with ⟨e1, e2, e3, _⟩ | ⟨e1, e2, _⟩ | ⟨e1, e2, _⟩
      · rw [if_neg (by omega)]; exact (h3 e1).1
      · rw [if_pos (by omega)]; exact (h4 (by omega) (by omega)).1
      · rw [if_pos (by omega)]; exact (h4 (by omega) (by omega)).1
    · show ((kd, a, 2) :: os).length ≤ 2 * a'
      rw [List.length_cons]
      rcases hc with ⟨e1, e2, e3, _⟩ | ⟨e1, e2, _⟩ | ⟨e1, e2, _⟩
      · have := (h3 e1).2; omega
      · have := (h4 (by omega) (by omega)).2; omega
      · have := (h4 (by omega) (by omega)).2; omega
  have fail : ∀ a', a ≤ a' → a' ≤ x.1 → inv x (6, a', ps, ls, os) := fun a' ha hax => ⟨hax, by show ps.length + ls.length + eqc os ≤ 2 * a'; omega, fun e => absurd e (by show (6 : Nat) ≠ 0; omega), fun _ e => absurd e (by show ¬ 6 ≤ 5; omega), fun _ e => absurd rfl e, h6, h7, by show LSs ps ls ≤ a'; omega, fun e => absurd e (by show (6 : Nat) ≠ 7; omega)⟩
  have move : ∀ m', 1 ≤ m → m ≤ 5 → 1 ≤ m' → m' ≤ 5 → inv x (m', a, ps, ls, os) := fun m' e1 e2 e3 e4 => ⟨h1, h2, fun e => absurd e (by show m' ≠ 0; omega), fun _ _ => h4 e1 e2, fun _ _ => h5 e1 (by omega), h6, h7, h8, fun e => absurd e (by show m' ≠ 7; omega)⟩
  have hO : ∀ k, isO os k = true → ∃ pl w, os = (k, pl, w) :: os.tail := by
    intro k hk
    cases os with
    | nil => cases hk
    | cons o os =>
      obtain ⟨k', pl, w⟩ := o
      have : k' = k := by simpa [isO] using hk
      subst this
      exact ⟨pl, w, rfl⟩
  unfold mstep
  dsimp only
  split
  · rename_i e0
    split
    · rename_i ha
      split
      · rename_i hc
        exact atm 0 _ _ _ e0 (by decide) (tOf_le hc) (fun e => absurd e (by decide)) (by omega) (by omega)
      · split
        · split
          · rename_i hc hd'
            have hlt : a + 1 < x.1 := by
              rcases Nat.lt_or_ge (a + 1) x.1 with q | q
              · exact q
              · unfold lk at hd'; rw [if_neg (by omega)] at hd'; revert hd'; simp [ltc]
            by_cases e : x.2 a = 45
            · rw [if_pos e]
              refine atm 1 _ _ _ e0 (by decide) (tOf_le ?_) (fun e => absurd e (by decide)) (by omega) (by omega)
              revert hd'
              cases ltc (lk x (a + 1)) <;> simp
              intro q _; exact q
            · rw [if_neg e]
              have hl : ltc (lk x (a + 1)) = true := by
                revert hd'
                cases ltc (lk x (a + 1)) <;> simp
                intro _ q; exact e q
              have := tOf_pos hl
              exact atm 2 _ _ _ e0 (by decide) this.2 (fun _ => this.1) (by omega) (by omega)
          · exact fail _ (by omega) (by omega)
        · split
          · exact beg 5 (a + 1) (.inl ⟨e0, by decide, by decide, rfl⟩) (by omega)
          · split
            · exact beg 6 (a + 1) (.inl ⟨e0, by decide, by decide, rfl⟩) (by omega)
            · split
              · exact beg 10 (a + 1) (.inl ⟨e0, by decide, by decide, rfl⟩) (by omega)
              · exact fail _ (Nat.le_refl _) h1
    · exact fail _ (Nat.le_refl _) h1
  · split
    · rename_i e0 e1
      split
      · rename_i hk
        obtain ⟨pl, w, e⟩ := hO 6 hk
        refine one 3 _ _ 1 a (by omega) (by omega) (.inl rfl) (Nat.le_refl _) h1 (by decide) (by decide) (fun _ => ⟨?_, ?_, ?_⟩) (fun q => absurd rfl q)
        · conv => rhs; rw [e]
          rfl
        · conv => rhs; rw [e]
          show _ = nd os.tail + _
          rw [if_neg (show ¬ ((6 : Nat) = 4 ∨ (6 : Nat) = 7 ∨ (6 : Nat) = 5 ∧ w ≠ 2) by omega)]; rfl
        · conv => lhs; rw [e]
          show eqc os.tail + _ = _
          rw [if_pos rfl]
      · split
        · rename_i hk
          obtain ⟨pl, w, e⟩ := hO 5 hk
          split
          · rename_i hw
            have hw2 : w = 2 := by rw [e] at hw; exact hw
            have hn : nd os = nd os.tail := by
              conv => lhs; rw [e]
              show nd os.tail + _ = _
              rw [if_neg (show ¬ ((5 : Nat) = 4 ∨ (5 : Nat) = 7 ∨ (5 : Nat) = 5 ∧ w ≠ 2) by omega)]; rfl
            have hl : os.length = os.tail.length + 1 := by
              conv => lhs; rw [e]
              rfl
            obtain ⟨g1, g2⟩ := h4 (by omega) (by omega)
            refine ⟨h1, ?_, fun _ => ⟨?_, ?_⟩, fun e => absurd e (by show ¬ 1 ≤ 0; omega), fun e => absurd e (by show ¬ 1 ≤ 0; omega), h6, h7, h8, fun e => absurd e (by show (0 : Nat) ≠ 7; omega)⟩
            · show ps.length + ls.length + (eqc os.tail + 0) ≤ 2 * a
              have := eqc_tail os
              omega
            · show ls.length = nd os.tail + _
              rw [if_pos (.inr (.inr ⟨rfl, by show (1 : Nat) ≠ 2; omega⟩))]; omega
            · show (_ :: os.tail).length ≤ 2 * a
              rw [List.length_cons]; omega
          · rename_i hw
            have hw2 : w ≠ 2 := by rw [e] at hw; exact hw
            refine two 6 _ 1 (by omega) (by omega) (by decide) (by decide) (by decide) ?_ ?_
            · conv => lhs; rw [e]
              show nd os.tail + _ = _
              rw [if_pos (.inr (.inr ⟨rfl, hw2⟩))]
            · conv => lhs; rw [e]
              rfl
        · exact move 2 (by omega) (by omega) (by decide) (by decide)
    · split
      · rename_i e0 e1 e2
        split
        · rename_i hc
          refine one _ _ _ 3 (a + 1) (by omega) (by omega) (by split <;> omega) (by omega) (by omega) (by decide) (by decide) (fun q => ?_) (fun _ => ⟨rfl, rfl⟩)
          revert q
          split <;> intro q <;> cases q
        · split
          · rename_i hk
            obtain ⟨pl, w, e⟩ := hO 4 hk
            refine two 5 _ 4 (by omega) (by omega) (by decide) (by decide) (by decide) ?_ ?_
            · conv => lhs; rw [e]
              show nd os.tail + _ = _
              rw [if_pos (.inl rfl)]
            · conv => lhs; rw [e]
              rfl
          · exact move 4 (by omega) (by omega) (by decide) (by decide)
      · split
        · rename_i e0 e1 e2 e3
          split
          · exact beg 4 a (.inr (.inr ⟨e3, rfl, rfl⟩)) h1
          · split
            · rename_i hk
              obtain ⟨pl, w, e⟩ := hO 7 hk
              refine two 4 _ 5 (by omega) (by omega) (by decide) (by decide) (by decide) ?_ ?_
              · conv => lhs; rw [e]
                show nd os.tail + _ = _
                rw [if_pos (.inr (.inl rfl))]
              · conv => lhs; rw [e]
                rfl
            · exact move 5 (by omega) (by omega) (by decide) (by decide)
        · split
          · rename_i e0 e1 e2 e3 e4
            obtain ⟨g1, g2⟩ := h4 (by omega) (by omega)
            have g3 := h5 (by omega) (by omega)
            split
            · split
              · exact beg 7 (a + 1) (.inr (.inl ⟨e4, rfl, rfl⟩)) (by omega)
              · split
                · rename_i hc
                  obtain ⟨pl, w, e⟩ := hO 10 hc.2
                  have hn : nd os = nd os.tail := by
                    conv => lhs; rw [e]
                    show nd os.tail + _ = _
                    rw [if_neg (show ¬ ((10 : Nat) = 4 ∨ (10 : Nat) = 7 ∨ (10 : Nat) = 5 ∧ w ≠ 2) by omega)]; rfl
                  have hl : os.length = os.tail.length + 1 := by
                    conv => lhs; rw [e]
                    rfl
                  have hq := eqc_tail os
                  exact ⟨by show a + 1 ≤ x.1; omega, by show ps.length + ls.length + eqc os.tail ≤ 2 * (a + 1); omega, fun e => absurd e (by show (1 : Nat) ≠ 0; omega), fun _ _ => ⟨by show ls.length = nd os.tail + 1; omega, by show os.tail.length + 1 ≤ 2 * (a + 1); omega⟩, fun _ _ => g3, h6, h7, by show LSs ps ls ≤ a + 1; omega, fun e => absurd e (by show (1 : Nat) ≠ 7; omega)⟩
                · exact fail _ (Nat.le_refl _) h1
            · split
              · rename_i ho
                refine ⟨h1, h2, fun e => absurd e (by show (7 : Nat) ≠ 0; omega), fun _ e => absurd e (by show ¬ 7 ≤ 5; omega), fun _ _ => g3, h6, h7, h8, fun _ => ?_⟩
                show ls.length = 1
                rw [g1, ho]; rfl
              · exact fail _ (Nat.le_refl _) h1
          · exact ⟨h1, h2, h3, h4, h5, h6, h7, h8, h9⟩
