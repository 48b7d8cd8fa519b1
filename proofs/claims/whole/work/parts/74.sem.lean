/-! OURS. What a program means: cuts, what is shown, created, put; keys. -/
/-- the first place from i on, at most n, where p holds; else n -/
def fi (p : Nat → Bool) (n : Nat) (i : Nat) : Nat := if i < n then (if p i then i else fi p n (i + 1)) else n
termination_by n - i
theorem fi_le (p : Nat → Bool) (n i : Nat) : fi p n i ≤ n := by
  generalize hk : n - i = k
  induction k generalizing i with
  | zero => unfold fi; rw [if_neg (by omega)]; exact Nat.le_refl _
  | succ k ih =>
    unfold fi
    split
    · split
      · omega
      · exact ih _ (by omega)
    · exact Nat.le_refl _
theorem fi_ge {p : Nat → Bool} {n i : Nat} (h : i ≤ n) : i ≤ fi p n i := by
  generalize hk : n - i = k
  induction k generalizing i with
  | zero => unfold fi; rw [if_neg (by omega)]; exact h
  | succ k ih =>
    unfold fi
    split
    · split
      · omega
      · have := ih (i := i + 1) (by omega) (by omega); omega
    · exact h
theorem fi_before {p : Nat → Bool} {n i j : Nat} (h1 : i ≤ j) (h2 : j < fi p n i) : p j = false := by
  generalize hk : n - i = k
  induction k generalizing i with
  | zero => unfold fi at h2; rw [if_neg (by omega)] at h2; omega
  | succ k ih =>
    unfold fi at h2
    split at h2
    · split at h2
      · omega
      · rename_i hp
        rcases Nat.eq_or_lt_of_le h1 with e | e
        · subst e; simpa using hp
        · exact ih e h2 (by omega)
    · omega
theorem fi_at {p : Nat → Bool} {n i : Nat} (h : fi p n i < n) : p (fi p n i) = true := by
  generalize hk : n - i = k
  induction k generalizing i with
  | zero => unfold fi at h; rw [if_neg (by omega)] at h; omega
  | succ k ih =>
    unfold fi at h ⊢
    split
    · rename_i h1
      rw [if_pos h1] at h
      split
      · assumption
      · rename_i hp
        rw [if_neg hp] at h
        exact ih h (by omega)
    · rename_i h1
      rw [if_neg h1] at h; omega
theorem fi_eq {p : Nat → Bool} {n i c : Nat} (h1 : i ≤ c) (h2 : c ≤ n) (hb : ∀ j, i ≤ j → j < c → p j = false) (ha : c < n → p c = true) : fi p n i = c := by
  have h3 := fi_le p n i
  have h4 := fi_ge (p := p) (Nat.le_trans h1 h2)
  rcases Nat.lt_trichotomy (fi p n i) c with e | e | e
  · have := fi_at (p := p) (n := n) (i := i) (by omega)
    rw [hb _ h4 e] at this; cases this
  · exact e
  · have := fi_before (p := p) (n := n) h1 e
    rw [ha (by omega)] at this; cases this
/-- a place with p is found -/
theorem fi_found {p : Nat → Bool} {n i : Nat} (h : ∃ j, i ≤ j ∧ j ≤ n ∧ p j = true) : p (fi p n i) = true := by
  obtain ⟨j, h1, h2, h3⟩ := h
  have h4 := fi_le p n i
  rcases Nat.lt_or_ge (fi p n i) n with e | e
  · exact fi_at e
  · have e2 : fi p n i = n := by omega
    rcases Nat.eq_or_lt_of_le h2 with e3 | e3
    · rw [e2, ← e3]; exact h3
    · have := fi_before (p := p) (n := n) h1 (by omega)
      rw [h3] at this; cases this
/-- both ends -/
def cp (A B : Nat → Bool) (w : List Nat) (i : Nat) : Bool := A (tx_num (w.take i)) && B (tx_num (w.drop i))
def cut (A B : Nat → Bool) (w : List Nat) : Nat := fi (cp A B w) w.length 0
def cuf (A B : Nat → Bool) (w : List Nat) : Nat := fi (cp A B w) w.length 1
theorem cuf_pos {A B : Nat → Bool} {w : List Nat} (h : w ≠ []) : 1 ≤ cuf A B w := fi_ge (by
  rcases Nat.eq_zero_or_pos w.length with e | e
  · exact absurd (List.length_eq_zero_iff.mp e) h
  · exact e)
/-- the parts of a text that is repeated -/
def rps (A B : Nat → Bool) (w : List Nat) : List (List Nat) :=
  if _h : w = [] then [] else w.take (cuf A B w) :: rps A B (w.drop (cuf A B w))
termination_by w.length
decreasing_by
  have h1 := cuf_pos (A := A) (B := B) _h
  rw [List.length_drop]
  have : w.length ≠ 0 := fun e => _h (List.length_eq_zero_iff.mp e)
  omega
theorem rps_nil (A B : Nat → Bool) : rps A B [] = [] := by rw [rps]; simp
theorem rps_cons {A B : Nat → Bool} {w : List Nat} (h : w ≠ []) : rps A B w = w.take (cuf A B w) :: rps A B (w.drop (cuf A B w)) := by rw [rps]; simp [h]
theorem rps_flat (A B : Nat → Bool) (w : List Nat) : (rps A B w).flatten = w := by
  generalize hn : w.length = n
  induction n using Nat.strongRecOn generalizing w with
  | _ n ih =>
    by_cases h : w = []
    · subst h; rw [rps_nil]; rfl
    · rw [rps_cons h, List.flatten_cons, ih (w.drop (cuf A B w)).length ?_ _ rfl, List.take_append_drop]
      have h1 := cuf_pos (A := A) (B := B) h
      have : w.length ≠ 0 := fun e => h (List.length_eq_zero_iff.mp e)
      rw [List.length_drop]; omega
theorem rps_ne (A B : Nat → Bool) (w : List Nat) : ∀ p ∈ rps A B w, p ≠ [] := by
  generalize hn : w.length = n
  induction n using Nat.strongRecOn generalizing w with
  | _ n ih =>
    by_cases h : w = []
    · subst h; rw [rps_nil]; intro p hp; cases hp
    · have h1 := cuf_pos (A := A) (B := B) h
      have h2 : w.length ≠ 0 := fun e => h (List.length_eq_zero_iff.mp e)
      have h3 : cuf A B w ≤ w.length := fi_le _ _ _
      rw [rps_cons h]
      intro p hp
      rcases List.mem_cons.mp hp with e | e
      · subst e
        intro e
        have := congrArg List.length e
        rw [List.length_take, List.length_nil] at this
        omega
      · exact ih (w.drop (cuf A B w)).length (by rw [List.length_drop]; omega) _ rfl p e
theorem ne_len {w : List Nat} (h : w ≠ []) : 1 ≤ w.length := by
  rcases Nat.eq_zero_or_pos w.length with e | e
  · exact absurd (List.length_eq_zero_iff.mp e) h
  · exact e
theorem flat_len (ps : List (List Nat)) (h : ∀ p ∈ ps, p ≠ []) : ps.length ≤ ps.flatten.length := by
  induction ps with
  | nil => simp
  | cons p ps ih =>
    have h1 := ne_len (h p (List.mem_cons_self ..))
    have h2 := ih (fun q hq => h q (List.mem_cons_of_mem _ hq))
    rw [List.flatten_cons, List.length_append, List.length_cons]; omega
theorem rps_len (A B : Nat → Bool) (w : List Nat) : (rps A B w).length ≤ w.length := by
  have := flat_len _ (rps_ne A B w)
  rw [rps_flat] at this; exact this
/-- a program: kind, left, right, letter of each part; its sources; its views -/
abbrev pgm : Type := (Nat → Nat × Nat × Nat × Nat) × (Nat → Nat → Bool) × (Nat → Nat → Bool)
abbrev pK (P : pgm) (k : Nat) : Nat := (P.1 k).1
abbrev pL (P : pgm) (k : Nat) : Nat := (P.1 k).2.1
abbrev pR (P : pgm) (k : Nat) : Nat := (P.1 k).2.2.1
abbrev pT (P : pgm) (k : Nat) : Nat := (P.1 k).2.2.2
abbrev pS_ (P : pgm) (k : Nat) : Nat → Bool := P.2.1 k
abbrev pV (P : pgm) (k : Nat) : Nat → Bool := P.2.2 k
/-- what is shown of a source -/
def sem_sh (P : pgm) (k : Nat) (w : List Nat) : List Nat :=
  if _hl : pL P k < k ∧ pR P k < k then
    match pK P k with
    | 0 => w
    | 1 => []
    | 2 => [pT P k - 1]
    | 3 => sem_sh P (pL P k) w
    | 4 => bif pS_ P (pL P k) (tx_num w) then sem_sh P (pL P k) w else sem_sh P (pR P k) w
    | 5 => sem_sh P (pL P k) (w.take (cut (pS_ P (pL P k)) (pS_ P (pR P k)) w)) ++ sem_sh P (pR P k) (w.drop (cut (pS_ P (pL P k)) (pS_ P (pR P k)) w))
    | 6 => sem_sh P (pR P k) (w.drop (cut (pS_ P (pL P k)) (pS_ P (pR P k)) w)) ++ sem_sh P (pL P k) (w.take (cut (pS_ P (pL P k)) (pS_ P (pR P k)) w))
    | _ => (rps (pS_ P (pL P k)) (pS_ P k) w).flatMap (fun u => sem_sh P (pL P k) u)
  else
    match pK P k with
    | 0 => w
    | 1 => []
    | _ => [pT P k - 1]
termination_by k
decreasing_by all_goals omega
/-- what is created from a view -/
def sem_cr (P : pgm) (k : Nat) (v : List Nat) : List Nat :=
  if _hl : pL P k < k ∧ pR P k < k then
    match pK P k with
    | 0 => v
    | 1 => [pT P k - 1]
    | 2 => []
    | 3 => sem_cr P (pL P k) v
    | 4 => bif pV P (pL P k) (tx_num v) then sem_cr P (pL P k) v else sem_cr P (pR P k) v
    | 5 => sem_cr P (pL P k) (v.take (cut (pV P (pL P k)) (pV P (pR P k)) v)) ++ sem_cr P (pR P k) (v.drop (cut (pV P (pL P k)) (pV P (pR P k)) v))
    | 6 => sem_cr P (pL P k) (v.drop (cut (pV P (pR P k)) (pV P (pL P k)) v)) ++ sem_cr P (pR P k) (v.take (cut (pV P (pR P k)) (pV P (pL P k)) v))
    | _ => (rps (pV P (pL P k)) (pV P k) v).flatMap (fun u => sem_cr P (pL P k) u)
  else
    match pK P k with
    | 0 => v
    | 1 => [pT P k - 1]
    | _ => []
termination_by k
decreasing_by all_goals omega
/-- the key of a view -/
def sem_ky (P : pgm) (k : Nat) (v : List Nat) : List Nat :=
  if _hl : pL P k < k ∧ pR P k < k then
    match pK P k with
    | 0 => []
    | 1 => []
    | 2 => []
    | 3 => v
    | 4 => bif pV P (pL P k) (tx_num v) then sem_ky P (pL P k) v else sem_ky P (pR P k) v
    | 5 => sem_ky P (pL P k) (v.take (cut (pV P (pL P k)) (pV P (pR P k)) v)) ++ sem_ky P (pR P k) (v.drop (cut (pV P (pL P k)) (pV P (pR P k)) v))
    | 6 => sem_ky P (pL P k) (v.drop (cut (pV P (pR P k)) (pV P (pL P k)) v)) ++ sem_ky P (pR P k) (v.take (cut (pV P (pR P k)) (pV P (pL P k)) v))
    | _ => (rps (pV P (pL P k)) (pV P k) v).flatMap (fun u => sem_ky P (pL P k) u)
  else []
termination_by k
decreasing_by all_goals omega
/-- the same-th place from i on with a key -/
def nth (sk : List Nat) (x : Nat) : Nat → Option Nat
  | same => ((List.range sk.length).filter (fun i => sk[i]! == x))[same]?
/-- where the parts of a view come from -/
def org (keyed : Bool) (sk vk : List Nat) (k : Nat) : Option Nat :=
  bif keyed then nth sk vk[k]! ((vk.take k).countP (fun x => x == vk[k]!)) else (if k < sk.length then some k else none)
/-- a view put into a source -/
def sem_pu (P : pgm) (k : Nat) (s v : List Nat) : List Nat :=
  if _hl : pL P k < k ∧ pR P k < k then
    match pK P k with
    | 0 => v
    | 1 => s
    | 2 => []
    | 3 => sem_pu P (pL P k) s v
    | 4 => bif pS_ P (pL P k) (tx_num s) then (bif pV P (pL P k) (tx_num v) then sem_pu P (pL P k) s v else sem_cr P (pR P k) v) else (bif pV P (pR P k) (tx_num v) then sem_pu P (pR P k) s v else sem_cr P (pL P k) v)
    | 5 => sem_pu P (pL P k) (s.take (cut (pS_ P (pL P k)) (pS_ P (pR P k)) s)) (v.take (cut (pV P (pL P k)) (pV P (pR P k)) v)) ++ sem_pu P (pR P k) (s.drop (cut (pS_ P (pL P k)) (pS_ P (pR P k)) s)) (v.drop (cut (pV P (pL P k)) (pV P (pR P k)) v))
    | 6 => sem_pu P (pL P k) (s.take (cut (pS_ P (pL P k)) (pS_ P (pR P k)) s)) (v.drop (cut (pV P (pR P k)) (pV P (pL P k)) v)) ++ sem_pu P (pR P k) (s.drop (cut (pS_ P (pL P k)) (pS_ P (pR P k)) s)) (v.take (cut (pV P (pR P k)) (pV P (pL P k)) v))
    | n => (List.range (rps (pV P (pL P k)) (pV P k) v).length).flatMap (fun i => match org (n == 8) ((rps (pS_ P (pL P k)) (pS_ P k) s).map (fun u => tx_num (sem_ky P (pL P k) (sem_sh P (pL P k) u)))) ((rps (pV P (pL P k)) (pV P k) v).map (fun u => tx_num (sem_ky P (pL P k) u))) i with
        | none => sem_cr P (pL P k) (rps (pV P (pL P k)) (pV P k) v)[i]!
        | some o => sem_pu P (pL P k) (rps (pS_ P (pL P k)) (pS_ P k) s)[o]! (rps (pV P (pL P k)) (pV P k) v)[i]!)
  else
    match pK P k with
    | 0 => v
    | 1 => s
    | _ => []
termination_by k
decreasing_by all_goals omega
