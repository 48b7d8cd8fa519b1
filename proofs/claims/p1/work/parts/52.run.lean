/-! OURS. A run with nothing unknown in it, by evaluation: heaps of lists (cO), one step (c1), a run (cr); what it says holds of the small machine. Printed by wip/tools/gen52.py. -/
abbrev cA : Type := List (Nat × Int32) ⊕ List (Nat × Int64) ⊕ List (Nat × Nat)
abbrev cO : Type := (Nat × Nat × cA) ⊕ (Nat × List Value)
abbrev cH : Type := List cO
def cv_i : List (Nat × Int32) → Nat → Int32
  | [] => fun _ => 0
  | q :: r => upd (cv_i r) q.1 q.2
def cv_l : List (Nat × Int64) → Nat → Int64
  | [] => fun _ => 0
  | q :: r => vp_updL (cv_l r) q.1 q.2
def cv_r : List (Nat × Nat) → Nat → Option Nat
  | [] => fun _ => none
  | q :: r => va_up (cv_r r) q.1 (some q.2)
def cv_A : cA → ((Nat → Int32) ⊕ (Nat → Int64) ⊕ (Nat → UInt32) ⊕ (Nat → UInt64) ⊕ (Nat → Option Nat))
  | .inl l => .inl (cv_i l)
  | .inr (.inl l) => .inr (.inl (cv_l l))
  | .inr (.inr l) => .inr (.inr (.inr (.inr (cv_r l))))
def cv_O : cO → ab_O
  | .inl (t, n, a) => .inl (t, n, cv_A a)
  | .inr x => .inr x
def cv (h : cH) : ab_H := h.map cv_O
def cw1 (G : ab_G) : cO → Nat
  | .inl (_, n, _) => n
  | .inr (ci, _) => ab_wc G ci
def cwt (G : ab_G) (h : cH) : Nat := (h.map (cw1 G)).sum
theorem cwt_eq (G : ab_G) (h : cH) : ab_wt G (cv h) = cwt G h := by
  unfold ab_wt cwt cv
  rw [List.map_map]
  congr 1
  apply List.map_congr_left
  intro o _
  cases o <;> rfl
theorem cv_len (h : cH) : (cv h).length = h.length := List.length_map _
theorem cv_at {h : cH} {a : Nat} {o : cO} (e : h[a]? = some o) : (cv h)[a]? = some (cv_O o) := by
  unfold cv
  rw [List.getElem?_map, e]
  rfl
theorem cv_set (h : cH) (a : Nat) (o : cO) : (cv h).set a (cv_O o) = cv (h.set a o) := by
  unfold cv
  rw [List.map_set]
theorem cv_app (h : cH) (o : cO) : cv (h ++ [o]) = cv h ++ [cv_O o] := by
  unfold cv
  rw [List.map_append]
  rfl
def cif : ClassFile.Cond → Int32 → Int32 → Bool
  | .eq, x, y => decide (x = y)
  | .ne, x, y => decide (¬ x = y)
  | .lt, x, y => decide (x < y)
  | .ge, x, y => decide (y ≤ x)
  | .gt, x, y => decide (y < x)
  | .le, x, y => decide (x ≤ y)
theorem cif_T {c : ClassFile.Cond} {x y : Int32} (h : cif c x y = true) : ab_if c x y := by cases c <;> simpa [cif, ab_if] using h
theorem cif_F {c : ClassFile.Cond} {x y : Int32} (h : ¬ cif c x y = true) : ¬ ab_if c x y := by cases c <;> simpa [cif, ab_if] using h
def cin (i : Int32) (n : Nat) : Bool := !(decide (i < 0) || decide (n ≤ i.toNatClampNeg))
theorem cin_T {i : Int32} {n : Nat} (h : cin i n = true) : vp_in i n := by
  unfold cin at h
  simp only [Bool.not_eq_true', Bool.or_eq_false_iff, decide_eq_false_iff_not] at h
  exact fun e => e.elim h.1 h.2
abbrev cC : Type := Nat × ab_L × List Value × cH
def cto (pc : Nat) (off : Int) : Nat := ((pc : Int) + off).toNat

theorem cp0_same {h : ab_H} {b t n1 : Nat} {xs ys : Nat → Int32} (e : h[b]? = some (.inl (t, n1, .inl ys))) : h.set b (.inl (t, n1, .inl (va_cpy xs ys (0 : Int32).toNatClampNeg (0 : Int32).toNatClampNeg (0 : Int32).toNatClampNeg))) = h := by
  have e1 : va_cpy xs ys (0 : Int32).toNatClampNeg (0 : Int32).toNatClampNeg (0 : Int32).toNatClampNeg = ys := by
    funext k
    unfold va_cpy
    rw [if_neg (fun z => absurd z.2 (by show ¬ k < 0 + 0; omega))]
  rw [e1]
  apply List.ext_getElem?
  intro i
  rw [List.getElem?_set]
  split
  · rename_i hi
    subst hi
    rw [e]
    rw [if_pos (List.getElem?_eq_some_iff.mp e).1]
  · rfl
def c_cst (G : ab_G) (j pc : Nat) (i : Instr) (ls : ab_L) (st : List Value) (h : cH) : Option cC := match ab_cst i with
  | some (v, n) => some (pc + n, ls, v :: st, h)
  | none => none
theorem c_cst_ok {G : ab_G} {E : ab_E} {Q : ab_Q} {j pc pc' : Nat} {i : Instr} {ls ls' : ab_L} {st st' : List Value} {h h' : cH} (hf : ab_f G j pc = some i) (e : c_cst G j pc i ls st h = some (pc', ls', st', h')) (k : ab_W G E j Q pc' ls' st' (cv h')) : ab_W G E j Q pc ls st (cv h) := by
  unfold c_cst at e
  split at e
  · cases e
    exact x_cst _ _ _ hf (by assumption) rfl k
  · cases e
def c_ld (G : ab_G) (j pc : Nat) (i : Instr) (ls : ab_L) (st : List Value) (h : cH) : Option cC := match ab_ld i with
  | some (a, n, d) => (match ls[a]? with
    | some (some v) => if ab_kd d v = true then some (pc + n, ls, v :: st, h) else none
    | _ => none)
  | none => none
theorem c_ld_ok {G : ab_G} {E : ab_E} {Q : ab_Q} {j pc pc' : Nat} {i : Instr} {ls ls' : ab_L} {st st' : List Value} {h h' : cH} (hf : ab_f G j pc = some i) (e : c_ld G j pc i ls st h = some (pc', ls', st', h')) (k : ab_W G E j Q pc' ls' st' (cv h')) : ab_W G E j Q pc ls st (cv h) := by
  unfold c_ld at e
  split at e
  · rename_i h1
    split at e
    · rename_i h2
      split at e
      · cases e
        exact x_ld _ _ _ _ hf h1 h2 (by assumption) rfl k
      · cases e
    · cases e
  · cases e
def c_sd (G : ab_G) (j pc : Nat) (i : Instr) (ls : ab_L) (st : List Value) (h : cH) : Option cC := match ab_sd i, st with
  | some (a, n, d), v :: st => if ab_kd d v = true ∧ a < ab_n G j then some (pc + n, ab_s1 ls a v, st, h) else none
  | _, _ => none
theorem c_sd_ok {G : ab_G} {E : ab_E} {Q : ab_Q} {j pc pc' : Nat} {i : Instr} {ls ls' : ab_L} {st st' : List Value} {h h' : cH} (hf : ab_f G j pc = some i) (e : c_sd G j pc i ls st h = some (pc', ls', st', h')) (k : ab_W G E j Q pc' ls' st' (cv h')) : ab_W G E j Q pc ls st (cv h) := by
  unfold c_sd at e
  split at e
  · rename_i h1
    split at e
    · rename_i h2
      cases e
      exact x_st _ _ _ _ _ hf h1 h2.1 h2.2 rfl rfl k
    · cases e
  · cases e
def c_bin (G : ab_G) (j pc : Nat) (i : Instr) (ls : ab_L) (st : List Value) (h : cH) : Option cC := match ab_bin i, st with
  | some g, .int y :: .int x :: st => some (pc + 1, ls, .int (g x y) :: st, h)
  | _, _ => none
theorem c_bin_ok {G : ab_G} {E : ab_E} {Q : ab_Q} {j pc pc' : Nat} {i : Instr} {ls ls' : ab_L} {st st' : List Value} {h h' : cH} (hf : ab_f G j pc = some i) (e : c_bin G j pc i ls st h = some (pc', ls', st', h')) (k : ab_W G E j Q pc' ls' st' (cv h')) : ab_W G E j Q pc ls st (cv h) := by
  unfold c_bin at e
  split at e
  · rename_i h1
    cases e
    exact x_bin _ _ hf h1 rfl rfl k
  · cases e
def c_inc (G : ab_G) (j pc : Nat) (i : Instr) (ls : ab_L) (st : List Value) (h : cH) : Option cC := match i with
  | .iinc a n => (match ls[a]? with
    | some (some (.int x)) => if a < ab_n G j then some (pc + 3, ab_s1 ls a (.int (x + Int32.ofInt n)), st, h) else none
    | _ => none)
  | _ => none
theorem c_inc_ok {G : ab_G} {E : ab_E} {Q : ab_Q} {j pc pc' : Nat} {i : Instr} {ls ls' : ab_L} {st st' : List Value} {h h' : cH} (hf : ab_f G j pc = some i) (e : c_inc G j pc i ls st h = some (pc', ls', st', h')) (k : ab_W G E j Q pc' ls' st' (cv h')) : ab_W G E j Q pc ls st (cv h) := by
  unfold c_inc at e
  split at e
  · split at e
    · rename_i h2
      split at e
      · cases e
        exact x_inc _ _ _ _ _ hf h2 (by assumption) rfl rfl rfl k
      · cases e
    · cases e
  · cases e
def c_dup (G : ab_G) (j pc : Nat) (i : Instr) (ls : ab_L) (st : List Value) (h : cH) : Option cC := match i, st with
  | .dup, v :: st => if ab_c2 v = false then some (pc + 1, ls, v :: v :: st, h) else none
  | _, _ => none
theorem c_dup_ok {G : ab_G} {E : ab_E} {Q : ab_Q} {j pc pc' : Nat} {i : Instr} {ls ls' : ab_L} {st st' : List Value} {h h' : cH} (hf : ab_f G j pc = some i) (e : c_dup G j pc i ls st h = some (pc', ls', st', h')) (k : ab_W G E j Q pc' ls' st' (cv h')) : ab_W G E j Q pc ls st (cv h) := by
  unfold c_dup at e
  split at e
  · split at e
    · cases e
      exact x_dup _ hf (by assumption) rfl k
    · cases e
  · cases e
def c_go (G : ab_G) (j pc : Nat) (i : Instr) (ls : ab_L) (st : List Value) (h : cH) : Option cC := match i with
  | .goto off => if (pc : Int) + off = (cto pc off : Int) then some (cto pc off, ls, st, h) else none
  | _ => none
theorem c_go_ok {G : ab_G} {E : ab_E} {Q : ab_Q} {j pc pc' : Nat} {i : Instr} {ls ls' : ab_L} {st st' : List Value} {h h' : cH} (hf : ab_f G j pc = some i) (e : c_go G j pc i ls st h = some (pc', ls', st', h')) (k : ab_W G E j Q pc' ls' st' (cv h')) : ab_W G E j Q pc ls st (cv h) := by
  unfold c_go at e
  split at e
  · split at e
    · cases e
      exact x_go _ hf (by assumption) k
    · cases e
  · cases e
def c_if (G : ab_G) (j pc : Nat) (i : Instr) (ls : ab_L) (st : List Value) (h : cH) : Option cC := match i, st with
  | .ifCond c off, .int x :: st => if (pc : Int) + off = (cto pc off : Int) then (if cif c x 0 = true then some (cto pc off, ls, st, h) else some (pc + 3, ls, st, h)) else none
  | _, _ => none
theorem c_if_ok {G : ab_G} {E : ab_E} {Q : ab_Q} {j pc pc' : Nat} {i : Instr} {ls ls' : ab_L} {st st' : List Value} {h h' : cH} (hf : ab_f G j pc = some i) (e : c_if G j pc i ls st h = some (pc', ls', st', h')) (k : ab_W G E j Q pc' ls' st' (cv h')) : ab_W G E j Q pc ls st (cv h) := by
  unfold c_if at e
  split at e
  · split at e
    · rename_i h1
      split at e
      · rename_i h2
        cases e
        exact fun P hC => hC.2.1.1 _ _ _ _ _ _ _ _ hf h1 (fun _ => k P hC) (fun z => absurd (cif_T h2) z)
      · rename_i h2
        cases e
        exact fun P hC => hC.2.1.1 _ _ _ _ _ _ _ _ hf h1 (fun z => absurd z (cif_F h2)) (fun _ => k P hC)
    · cases e
  · cases e
def c_ic (G : ab_G) (j pc : Nat) (i : Instr) (ls : ab_L) (st : List Value) (h : cH) : Option cC := match i, st with
  | .if_icmp c off, .int y :: .int x :: st => if (pc : Int) + off = (cto pc off : Int) then (if cif c x y = true then some (cto pc off, ls, st, h) else some (pc + 3, ls, st, h)) else none
  | _, _ => none
theorem c_ic_ok {G : ab_G} {E : ab_E} {Q : ab_Q} {j pc pc' : Nat} {i : Instr} {ls ls' : ab_L} {st st' : List Value} {h h' : cH} (hf : ab_f G j pc = some i) (e : c_ic G j pc i ls st h = some (pc', ls', st', h')) (k : ab_W G E j Q pc' ls' st' (cv h')) : ab_W G E j Q pc ls st (cv h) := by
  unfold c_ic at e
  split at e
  · split at e
    · rename_i h1
      split at e
      · rename_i h2
        cases e
        exact fun P hC => hC.2.1.2.1 _ _ _ _ _ _ _ _ _ hf h1 (fun _ => k P hC) (fun z => absurd (cif_T h2) z)
      · rename_i h2
        cases e
        exact fun P hC => hC.2.1.2.1 _ _ _ _ _ _ _ _ _ hf h1 (fun z => absurd z (cif_F h2)) (fun _ => k P hC)
    · cases e
  · cases e
def c_nu (G : ab_G) (j pc : Nat) (i : Instr) (ls : ab_L) (st : List Value) (h : cH) : Option cC := match i, st with
  | .ifnull off, .null :: st => if (pc : Int) + off = (cto pc off : Int) then some (cto pc off, ls, st, h) else none
  | .ifnull off, .ref _ :: st => if (pc : Int) + off = (cto pc off : Int) then some (pc + 3, ls, st, h) else none
  | .ifnonnull off, .null :: st => if (pc : Int) + off = (cto pc off : Int) then some (pc + 3, ls, st, h) else none
  | .ifnonnull off, .ref _ :: st => if (pc : Int) + off = (cto pc off : Int) then some (cto pc off, ls, st, h) else none
  | _, _ => none
theorem c_nu_ok {G : ab_G} {E : ab_E} {Q : ab_Q} {j pc pc' : Nat} {i : Instr} {ls ls' : ab_L} {st st' : List Value} {h h' : cH} (hf : ab_f G j pc = some i) (e : c_nu G j pc i ls st h = some (pc', ls', st', h')) (k : ab_W G E j Q pc' ls' st' (cv h')) : ab_W G E j Q pc ls st (cv h) := by
  unfold c_nu at e
  split at e
  · split at e
    · cases e
      exact x_nuT _ hf (by assumption) k
    · cases e
  · split at e
    · cases e
      exact x_nuF _ _ hf (by assumption) rfl k
    · cases e
  · split at e
    · cases e
      exact x_nnF _ _ hf (by assumption) rfl k
    · cases e
  · split at e
    · cases e
      exact x_nnT _ hf (by assumption) k
    · cases e
  · cases e
def c_lku (G : ab_G) (j pc : Nat) (i : Instr) (ls : ab_L) (st : List Value) (h : cH) : Option cC := match i, st with
  | .lookupswitch d ps, .int x :: st => if (ps.toList.zip (ps.toList.drop 1)).all (fun (a, next) => a.1 < next.1) = true ∧ (pc : Int) + Op.lookupswitch.offset ps.toList d x.toInt = (cto pc (Op.lookupswitch.offset ps.toList d x.toInt) : Int) then some (cto pc (Op.lookupswitch.offset ps.toList d x.toInt), ls, st, h) else none
  | _, _ => none
theorem c_lku_ok {G : ab_G} {E : ab_E} {Q : ab_Q} {j pc pc' : Nat} {i : Instr} {ls ls' : ab_L} {st st' : List Value} {h h' : cH} (hf : ab_f G j pc = some i) (e : c_lku G j pc i ls st h = some (pc', ls', st', h')) (k : ab_W G E j Q pc' ls' st' (cv h')) : ab_W G E j Q pc ls st (cv h) := by
  unfold c_lku at e
  split at e
  · split at e
    · rename_i h1
      cases e
      exact x_lku _ hf h1.1 rfl h1.2 k
    · cases e
  · cases e
def c_get (G : ab_G) (j pc : Nat) (i : Instr) (ls : ab_L) (st : List Value) (h : cH) : Option cC := match i, st with
  | .getfield idx, .ref a :: st => (match ab_lf G j idx, h[a]? with
    | some (ci, f), some (.inr (ci', fs)) => if ci' = ci then (match fs[f]? with
      | some v => some (pc + 3, ls, v :: st, h)
      | none => none) else none
    | _, _ => none)
  | _, _ => none
theorem c_get_ok {G : ab_G} {E : ab_E} {Q : ab_Q} {j pc pc' : Nat} {i : Instr} {ls ls' : ab_L} {st st' : List Value} {h h' : cH} (hf : ab_f G j pc = some i) (e : c_get G j pc i ls st h = some (pc', ls', st', h')) (k : ab_W G E j Q pc' ls' st' (cv h')) : ab_W G E j Q pc ls st (cv h) := by
  unfold c_get at e
  split at e
  · split at e
    · rename_i h1 h2
      split at e
      · rename_i h3
        subst h3
        split at e
        · rename_i h4
          cases e
          exact x_get _ _ _ _ hf h1 (cv_at h2) h4 rfl k
        · cases e
      · cases e
    · cases e
  · cases e
def c_put (G : ab_G) (j pc : Nat) (i : Instr) (ls : ab_L) (st : List Value) (h : cH) : Option cC := match i, st with
  | .putfield idx, v :: .ref a :: st => (match ab_lf G j idx, h[a]? with
    | some (ci, f), some (.inr (ci', fs)) => if ci' = ci ∧ f < fs.length then (match ab_tf G ci f with
      | some ty => if narrow ty v = v ∧ fits ty v = true then some (pc + 3, ls, st, h.set a (.inr (ci, fs.set f v))) else none
      | none => none) else none
    | _, _ => none)
  | _, _ => none
theorem c_put_ok {G : ab_G} {E : ab_E} {Q : ab_Q} {j pc pc' : Nat} {i : Instr} {ls ls' : ab_L} {st st' : List Value} {h h' : cH} (hf : ab_f G j pc = some i) (e : c_put G j pc i ls st h = some (pc', ls', st', h')) (k : ab_W G E j Q pc' ls' st' (cv h')) : ab_W G E j Q pc ls st (cv h) := by
  unfold c_put at e
  split at e
  · split at e
    · rename_i h1 h2
      split at e
      · rename_i h3
        obtain ⟨h3, h3'⟩ := h3
        subst h3
        split at e
        · rename_i h4
          split at e
          · rename_i h5
            cases e
            exact x_put _ _ _ _ hf h1 (cv_at h2) h3' h4 h5.1 h5.2 _ (by rw [← cv_set] <;> rfl) rfl k
          · cases e
        · cases e
      · cases e
    · cases e
  · cases e
def c_new (G : ab_G) (j pc : Nat) (i : Instr) (ls : ab_L) (st : List Value) (h : cH) : Option cC := match i with
  | .new idx => (match ab_lc G j idx with
    | some ci => (match ab_df G ci with
      | some fs => if h.length + 1 ≤ (ab_cap G).1 ∧ cwt G h + fs.length ≤ (ab_cap G).2 then some (pc + 3, ls, .ref h.length :: st, h ++ [.inr (ci, fs)]) else none
      | none => none)
    | none => none)
  | _ => none
theorem c_new_ok {G : ab_G} {E : ab_E} {Q : ab_Q} {j pc pc' : Nat} {i : Instr} {ls ls' : ab_L} {st st' : List Value} {h h' : cH} (hf : ab_f G j pc = some i) (e : c_new G j pc i ls st h = some (pc', ls', st', h')) (k : ab_W G E j Q pc' ls' st' (cv h')) : ab_W G E j Q pc ls st (cv h) := by
  unfold c_new at e
  split at e
  · split at e
    · rename_i h1
      split at e
      · rename_i h2
        split at e
        · rename_i h3
          cases e
          refine x_new _ _ _ hf h1 h2 (by rw [cv_len]; exact h3.1) (by rw [cwt_eq]; exact h3.2) rfl ?_
          rw [cv_len]
          rw [cv_app] at k
          exact k
        · cases e
      · cases e
    · cases e
  · cases e
def c_nai (G : ab_G) (j pc : Nat) (i : Instr) (ls : ab_L) (st : List Value) (h : cH) : Option cC := match i, st with
  | .newarray .int, .int n :: st => if ab_at G 0 = some .int ∧ ¬ n < 0 ∧ n.toNatClampNeg ≤ 100000 ∧ h.length + 1 ≤ (ab_cap G).1 ∧ cwt G h + n.toNatClampNeg ≤ (ab_cap G).2 then some (pc + 2, ls, .ref h.length :: st, h ++ [.inl (0, n.toNatClampNeg, .inl [])]) else none
  | _, _ => none
theorem c_nai_ok {G : ab_G} {E : ab_E} {Q : ab_Q} {j pc pc' : Nat} {i : Instr} {ls ls' : ab_L} {st st' : List Value} {h h' : cH} (hf : ab_f G j pc = some i) (e : c_nai G j pc i ls st h = some (pc', ls', st', h')) (k : ab_W G E j Q pc' ls' st' (cv h')) : ab_W G E j Q pc ls st (cv h) := by
  unfold c_nai at e
  split at e
  · split at e
    · rename_i h3
      cases e
      refine x_na 0 _ _ hf h3.1 rfl rfl h3.2.1 rfl h3.2.2.1 (by rw [cv_len]; exact h3.2.2.2.1) (by rw [cwt_eq]; exact h3.2.2.2.2) rfl ?_
      rw [cv_len]
      rw [cv_app] at k
      exact k
    · cases e
  · cases e
def c_nal (G : ab_G) (j pc : Nat) (i : Instr) (ls : ab_L) (st : List Value) (h : cH) : Option cC := match i, st with
  | .newarray .long, .int n :: st => if ab_at G 1 = some .long ∧ ¬ n < 0 ∧ n.toNatClampNeg ≤ 100000 ∧ h.length + 1 ≤ (ab_cap G).1 ∧ cwt G h + n.toNatClampNeg ≤ (ab_cap G).2 then some (pc + 2, ls, .ref h.length :: st, h ++ [.inl (1, n.toNatClampNeg, .inr (.inl []))]) else none
  | _, _ => none
theorem c_nal_ok {G : ab_G} {E : ab_E} {Q : ab_Q} {j pc pc' : Nat} {i : Instr} {ls ls' : ab_L} {st st' : List Value} {h h' : cH} (hf : ab_f G j pc = some i) (e : c_nal G j pc i ls st h = some (pc', ls', st', h')) (k : ab_W G E j Q pc' ls' st' (cv h')) : ab_W G E j Q pc ls st (cv h) := by
  unfold c_nal at e
  split at e
  · split at e
    · rename_i h3
      cases e
      refine x_na 1 _ _ hf h3.1 rfl rfl h3.2.1 rfl h3.2.2.1 (by rw [cv_len]; exact h3.2.2.2.1) (by rw [cwt_eq]; exact h3.2.2.2.2) rfl ?_
      rw [cv_len]
      rw [cv_app] at k
      exact k
    · cases e
  · cases e
def c_nac (G : ab_G) (j pc : Nat) (i : Instr) (ls : ab_L) (st : List Value) (h : cH) : Option cC := match i, st with
  | .newarray .char, .int n :: st => if ab_at G 2 = some .char ∧ ¬ n < 0 ∧ n.toNatClampNeg ≤ 100000 ∧ h.length + 1 ≤ (ab_cap G).1 ∧ cwt G h + n.toNatClampNeg ≤ (ab_cap G).2 then some (pc + 2, ls, .ref h.length :: st, h ++ [.inl (2, n.toNatClampNeg, .inl [])]) else none
  | _, _ => none
theorem c_nac_ok {G : ab_G} {E : ab_E} {Q : ab_Q} {j pc pc' : Nat} {i : Instr} {ls ls' : ab_L} {st st' : List Value} {h h' : cH} (hf : ab_f G j pc = some i) (e : c_nac G j pc i ls st h = some (pc', ls', st', h')) (k : ab_W G E j Q pc' ls' st' (cv h')) : ab_W G E j Q pc ls st (cv h) := by
  unfold c_nac at e
  split at e
  · split at e
    · rename_i h3
      cases e
      refine x_na 2 _ _ hf h3.1 rfl rfl h3.2.1 rfl h3.2.2.1 (by rw [cv_len]; exact h3.2.2.2.1) (by rw [cwt_eq]; exact h3.2.2.2.2) rfl ?_
      rw [cv_len]
      rw [cv_app] at k
      exact k
    · cases e
  · cases e
def c_nq (G : ab_G) (j pc : Nat) (i : Instr) (ls : ab_L) (st : List Value) (h : cH) : Option cC := match i, st with
  | .anewarray idx, .int n :: st => (match ab_lc G j idx with
    | some ci => (match (ab_cl G)[ci]? with
      | some r => if ab_at G 3 = some (.object r.1) ∧ ¬ n < 0 ∧ n.toNatClampNeg ≤ 100000 ∧ h.length + 1 ≤ (ab_cap G).1 ∧ cwt G h + n.toNatClampNeg ≤ (ab_cap G).2 then some (pc + 3, ls, .ref h.length :: st, h ++ [.inl (3, n.toNatClampNeg, .inr (.inr []))]) else none
      | none => none)
    | none => none)
  | _, _ => none
theorem c_nq_ok {G : ab_G} {E : ab_E} {Q : ab_Q} {j pc pc' : Nat} {i : Instr} {ls ls' : ab_L} {st st' : List Value} {h h' : cH} (hf : ab_f G j pc = some i) (e : c_nq G j pc i ls st h = some (pc', ls', st', h')) (k : ab_W G E j Q pc' ls' st' (cv h')) : ab_W G E j Q pc ls st (cv h) := by
  unfold c_nq at e
  split at e
  · split at e
    · rename_i h1
      split at e
      · rename_i h2
        split at e
        · rename_i h3
          cases e
          refine x_nq _ _ 3 _ _ hf h1 h2 h3.1 h3.2.1 rfl h3.2.2.1 (by rw [cv_len]; exact h3.2.2.2.1) (by rw [cwt_eq]; exact h3.2.2.2.2) rfl ?_
          rw [cv_len]
          rw [cv_app] at k
          exact k
        · cases e
      · cases e
    · cases e
  · cases e
def c_ist (G : ab_G) (j pc : Nat) (i : Instr) (ls : ab_L) (st : List Value) (h : cH) : Option cC := match i, st with
  | .iastore, .int x :: .int y :: .ref a :: st => (match h[a]? with
    | some (.inl (t, n, .inl l)) => if ab_at G t = some .int ∧ cin y n = true then some (pc + 1, ls, st, h.set a (.inl (t, n, .inl ((y.toNatClampNeg, x) :: l)))) else none
    | _ => none)
  | _, _ => none
theorem c_ist_ok {G : ab_G} {E : ab_E} {Q : ab_Q} {j pc pc' : Nat} {i : Instr} {ls ls' : ab_L} {st st' : List Value} {h h' : cH} (hf : ab_f G j pc = some i) (e : c_ist G j pc i ls st h = some (pc', ls', st', h')) (k : ab_W G E j Q pc' ls' st' (cv h')) : ab_W G E j Q pc ls st (cv h) := by
  unfold c_ist at e
  split at e
  · split at e
    · rename_i h1
      split at e
      · rename_i h2
        cases e
        exact x_ist _ hf (cv_at h1) h2.1 (cin_T h2.2) _ (by rw [← cv_set] <;> rfl) rfl k
      · cases e
    · cases e
  · cases e
def c_ast (G : ab_G) (j pc : Nat) (i : Instr) (ls : ab_L) (st : List Value) (h : cH) : Option cC := match i, st with
  | .aastore, .ref b :: .int y :: .ref a :: st => (match h[a]?, h[b]? with
    | some (.inl (t, n, .inr (.inr l))), some (.inr (ci, _)) => (match (ab_cl G)[ci]? with
      | some r => if ab_at G t = some (.object r.1) ∧ cin y n = true then some (pc + 1, ls, st, h.set a (.inl (t, n, .inr (.inr ((y.toNatClampNeg, b) :: l))))) else none
      | none => none)
    | _, _ => none)
  | _, _ => none
theorem c_ast_ok {G : ab_G} {E : ab_E} {Q : ab_Q} {j pc pc' : Nat} {i : Instr} {ls ls' : ab_L} {st st' : List Value} {h h' : cH} (hf : ab_f G j pc = some i) (e : c_ast G j pc i ls st h = some (pc', ls', st', h')) (k : ab_W G E j Q pc' ls' st' (cv h')) : ab_W G E j Q pc ls st (cv h) := by
  unfold c_ast at e
  split at e
  · split at e
    · rename_i h1 h2
      split at e
      · rename_i h3
        split at e
        · rename_i h4
          cases e
          exact x_ast _ hf (cv_at h1) (cv_at h2) h3 h4.1 (cin_T h4.2) _ (by rw [← cv_set] <;> rfl) rfl k
        · cases e
      · cases e
    · cases e
  · cases e
def c_ild (G : ab_G) (j pc : Nat) (i : Instr) (ls : ab_L) (st : List Value) (h : cH) : Option cC := match i, st with
  | .iaload, .int y :: .ref a :: st => (match h[a]? with
    | some (.inl (t, n, .inl l)) => if ab_at G t = some .int ∧ cin y n = true then some (pc + 1, ls, .int (cv_i l y.toNatClampNeg) :: st, h) else none
    | _ => none)
  | _, _ => none
theorem c_ild_ok {G : ab_G} {E : ab_E} {Q : ab_Q} {j pc pc' : Nat} {i : Instr} {ls ls' : ab_L} {st st' : List Value} {h h' : cH} (hf : ab_f G j pc = some i) (e : c_ild G j pc i ls st h = some (pc', ls', st', h')) (k : ab_W G E j Q pc' ls' st' (cv h')) : ab_W G E j Q pc ls st (cv h) := by
  unfold c_ild at e
  split at e
  · split at e
    · rename_i h1
      split at e
      · rename_i h2
        cases e
        exact x_ild _ _ hf (cv_at h1) h2.1 (cin_T h2.2) rfl rfl k
      · cases e
    · cases e
  · cases e
def c_ald (G : ab_G) (j pc : Nat) (i : Instr) (ls : ab_L) (st : List Value) (h : cH) : Option cC := match i, st with
  | .aaload, .int y :: .ref a :: st => (match h[a]? with
    | some (.inl (t, n, .inr (.inr l))) => (match ab_at G t with
      | some (.object _) => if cin y n = true then some (pc + 1, ls, va_rf (cv_r l y.toNatClampNeg) :: st, h) else none
      | _ => none)
    | _ => none)
  | _, _ => none
theorem c_ald_ok {G : ab_G} {E : ab_E} {Q : ab_Q} {j pc pc' : Nat} {i : Instr} {ls ls' : ab_L} {st st' : List Value} {h h' : cH} (hf : ab_f G j pc = some i) (e : c_ald G j pc i ls st h = some (pc', ls', st', h')) (k : ab_W G E j Q pc' ls' st' (cv h')) : ab_W G E j Q pc ls st (cv h) := by
  unfold c_ald at e
  split at e
  · split at e
    · rename_i h1
      split at e
      · rename_i h3
        split at e
        · rename_i h2
          cases e
          exact x_ald _ _ hf (cv_at h1) h3 (cin_T h2) rfl rfl k
        · cases e
      · cases e
    · cases e
  · cases e
def c_obj (G : ab_G) (j pc : Nat) (i : Instr) (ls : ab_L) (st : List Value) (h : cH) : Option cC := match i, st with
  | .invokespecial idx, .ref _ :: st => if ab_lm G j idx = some 1000000 ∧ (st.map (fun v => v.category)).sum ≤ 16 then some (pc + 3, ls, st, h) else none
  | _, _ => none
theorem c_obj_ok {G : ab_G} {E : ab_E} {Q : ab_Q} {j pc pc' : Nat} {i : Instr} {ls ls' : ab_L} {st st' : List Value} {h h' : cH} (hf : ab_f G j pc = some i) (e : c_obj G j pc i ls st h = some (pc', ls', st', h')) (k : ab_W G E j Q pc' ls' st' (cv h')) : ab_W G E j Q pc ls st (cv h) := by
  unfold c_obj at e
  split at e
  · split at e
    · rename_i h1
      cases e
      exact x_obj _ _ hf h1.1 h1.2 rfl k
    · cases e
  · cases e
def c_min (G : ab_G) (j pc : Nat) (i : Instr) (ls : ab_L) (st : List Value) (h : cH) : Option cC := match i, st with
  | .invokestatic idx, .int y :: .int x :: st => if ab_lm G j idx = some 1000003 ∧ (st.map (fun v => v.category)).sum ≤ 16 then some (pc + 3, ls, .int (if y < x then y else x) :: st, h) else none
  | _, _ => none
theorem c_min_ok {G : ab_G} {E : ab_E} {Q : ab_Q} {j pc pc' : Nat} {i : Instr} {ls ls' : ab_L} {st st' : List Value} {h h' : cH} (hf : ab_f G j pc = some i) (e : c_min G j pc i ls st h = some (pc', ls', st', h')) (k : ab_W G E j Q pc' ls' st' (cv h')) : ab_W G E j Q pc ls st (cv h) := by
  unfold c_min at e
  split at e
  · split at e
    · rename_i h1
      cases e
      exact x_min _ _ hf h1.1 h1.2 rfl k
    · cases e
  · cases e
def c_cp0 (G : ab_G) (j pc : Nat) (i : Instr) (ls : ab_L) (st : List Value) (h : cH) : Option cC := match i, st with
  | .invokestatic idx, .int n :: .int dp :: .ref b :: .int sp :: .ref a :: st => (match h[a]?, h[b]? with
    | some (.inl (t, n0, .inl _)), some (.inl (t', n1, .inl _)) => if t' = t ∧ t = 2 ∧ ab_lm G j idx = some 1000001 ∧ n = 0 ∧ sp = 0 ∧ dp = 0 ∧ ab_at G t = some .char ∧ (st.map (fun v => v.category)).sum ≤ 16 then some (pc + 3, ls, st, h) else none
    | _, _ => none)
  | _, _ => none
theorem c_cp0_ok {G : ab_G} {E : ab_E} {Q : ab_Q} {j pc pc' : Nat} {i : Instr} {ls ls' : ab_L} {st st' : List Value} {h h' : cH} (hf : ab_f G j pc = some i) (e : c_cp0 G j pc i ls st h = some (pc', ls', st', h')) (k : ab_W G E j Q pc' ls' st' (cv h')) : ab_W G E j Q pc ls st (cv h) := by
  unfold c_cp0 at e
  split at e
  · split at e
    · rename_i h1 h2
      split at e
      · rename_i h3
        obtain ⟨rfl, -, g2, rfl, rfl, rfl, g6, g7⟩ := h3
        cases e
        refine x_cpi _ _ hf g2 (cv_at h1) (cv_at h2) g6 rfl (by decide) (by decide) (by decide) (Nat.zero_le _) (Nat.zero_le _) (fun i hi => absurd hi (Nat.not_lt_zero i)) g7 rfl ?_
        rw [cp0_same (cv_at h2)]
        exact k
      · cases e
    · cases e
  · cases e
def c1 (G : ab_G) (j pc : Nat) (i : Instr) (ls : ab_L) (st : List Value) (h : cH) : Option cC := (match c_cst G j pc i ls st h with
  | some c => some c
  | none => (match c_ld G j pc i ls st h with
  | some c => some c
  | none => (match c_sd G j pc i ls st h with
  | some c => some c
  | none => (match c_bin G j pc i ls st h with
  | some c => some c
  | none => (match c_inc G j pc i ls st h with
  | some c => some c
  | none => (match c_dup G j pc i ls st h with
  | some c => some c
  | none => (match c_go G j pc i ls st h with
  | some c => some c
  | none => (match c_if G j pc i ls st h with
  | some c => some c
  | none => (match c_ic G j pc i ls st h with
  | some c => some c
  | none => (match c_nu G j pc i ls st h with
  | some c => some c
  | none => (match c_lku G j pc i ls st h with
  | some c => some c
  | none => (match c_get G j pc i ls st h with
  | some c => some c
  | none => (match c_put G j pc i ls st h with
  | some c => some c
  | none => (match c_new G j pc i ls st h with
  | some c => some c
  | none => (match c_nai G j pc i ls st h with
  | some c => some c
  | none => (match c_nal G j pc i ls st h with
  | some c => some c
  | none => (match c_nac G j pc i ls st h with
  | some c => some c
  | none => (match c_nq G j pc i ls st h with
  | some c => some c
  | none => (match c_ist G j pc i ls st h with
  | some c => some c
  | none => (match c_ast G j pc i ls st h with
  | some c => some c
  | none => (match c_ild G j pc i ls st h with
  | some c => some c
  | none => (match c_ald G j pc i ls st h with
  | some c => some c
  | none => (match c_obj G j pc i ls st h with
  | some c => some c
  | none => (match c_min G j pc i ls st h with
  | some c => some c
  | none => c_cp0 G j pc i ls st h))))))))))))))))))))))))
theorem c1_ok {G : ab_G} {E : ab_E} {Q : ab_Q} {j pc pc' : Nat} {i : Instr} {ls ls' : ab_L} {st st' : List Value} {h h' : cH} (hf : ab_f G j pc = some i) (e : c1 G j pc i ls st h = some (pc', ls', st', h')) (k : ab_W G E j Q pc' ls' st' (cv h')) : ab_W G E j Q pc ls st (cv h) := by
  unfold c1 at e
  split at e
  · rename_i h1
    cases e
    exact c_cst_ok hf h1 k
  split at e
  · rename_i h1
    cases e
    exact c_ld_ok hf h1 k
  split at e
  · rename_i h1
    cases e
    exact c_sd_ok hf h1 k
  split at e
  · rename_i h1
    cases e
    exact c_bin_ok hf h1 k
  split at e
  · rename_i h1
    cases e
    exact c_inc_ok hf h1 k
  split at e
  · rename_i h1
    cases e
    exact c_dup_ok hf h1 k
  split at e
  · rename_i h1
    cases e
    exact c_go_ok hf h1 k
  split at e
  · rename_i h1
    cases e
    exact c_if_ok hf h1 k
  split at e
  · rename_i h1
    cases e
    exact c_ic_ok hf h1 k
  split at e
  · rename_i h1
    cases e
    exact c_nu_ok hf h1 k
  split at e
  · rename_i h1
    cases e
    exact c_lku_ok hf h1 k
  split at e
  · rename_i h1
    cases e
    exact c_get_ok hf h1 k
  split at e
  · rename_i h1
    cases e
    exact c_put_ok hf h1 k
  split at e
  · rename_i h1
    cases e
    exact c_new_ok hf h1 k
  split at e
  · rename_i h1
    cases e
    exact c_nai_ok hf h1 k
  split at e
  · rename_i h1
    cases e
    exact c_nal_ok hf h1 k
  split at e
  · rename_i h1
    cases e
    exact c_nac_ok hf h1 k
  split at e
  · rename_i h1
    cases e
    exact c_nq_ok hf h1 k
  split at e
  · rename_i h1
    cases e
    exact c_ist_ok hf h1 k
  split at e
  · rename_i h1
    cases e
    exact c_ast_ok hf h1 k
  split at e
  · rename_i h1
    cases e
    exact c_ild_ok hf h1 k
  split at e
  · rename_i h1
    cases e
    exact c_ald_ok hf h1 k
  split at e
  · rename_i h1
    cases e
    exact c_obj_ok hf h1 k
  split at e
  · rename_i h1
    cases e
    exact c_min_ok hf h1 k
  exact c_cp0_ok hf e k
def c_rv (G : ab_G) (jj : Nat) (as : List Value) (h : cH) : Bool := match ab_rc G jj with
  | none => true
  | some ci => (match as with
    | .ref b :: _ => (match h[b]? with
      | some (.inr (ci', _)) => ci' == ci
      | _ => false)
    | _ => false)
theorem c_rv_ok {G : ab_G} {jj : Nat} {as : List Value} {h : cH} (e : c_rv G jj as h = true) : ab_rv G jj as (cv h) := by
  unfold c_rv at e
  unfold ab_rv
  cases hc : ab_rc G jj with
  | none => trivial
  | some ci =>
    rw [hc] at e
    simp only at e
    split at e
    · split at e
      · rename_i h1
        have e' := eq_of_beq e
        subst e'
        exact ⟨_, _, _, rfl, cv_at h1⟩
      · cases e
    · cases e
/-- a run without exceptions: n bounds its length, d its calls' depth -/
def cr (G : ab_G) : Nat → Nat → Nat → Nat → ab_L → List Value → cH → Option (Option Value × cH)
  | 0, _, _, _, _, _, _ => none
  | n + 1, d, j, pc, ls, st, h => match ab_f G j pc with
    | none => none
    | some i => match c1 G j pc i ls st h with
      | some c => cr G n d j c.1 c.2.1 c.2.2.1 c.2.2.2
      | none => match i with
        | .return_ => if st = [] ∧ ab_rt G j = none then some (none, h) else none
        | i => match ab_iv i with
          | none => (match st, ab_rt G j with
            | [v], some ty => if ab_re i v ty = true ∧ narrow ty v = v then some (some v, h) else none
            | _, _ => none)
          | some idx => (match ab_lm G j idx with
            | none => none
            | some jj => (match d with
              | 0 => none
              | d' + 1 => if jj < 1000000 ∧ (st.take (ab_na G jj)).reverse.length = ab_na G jj ∧ (ab_in (st.take (ab_na G jj)).reverse).length ≤ ab_n G jj ∧ c_rv G jj (st.take (ab_na G jj)).reverse h = true ∧ ((st.drop (ab_na G jj)).map (fun v => v.category)).sum ≤ 16 then
                (match cr G n d' jj 0 (ab_en (ab_n G jj) (st.take (ab_na G jj)).reverse) [] h with
                | none => none
                | some r => cr G n (d' + 1) j (pc + 3) ls (r.1.toList ++ st.drop (ab_na G jj)) r.2) else none))
theorem cr_ok {G : ab_G} : ∀ (n d j pc : Nat) (ls : ab_L) (st : List Value) (h : cH) (v : Option Value) (h' : cH), cr G n d j pc ls st h = some (v, h') → ab_W G (ab_X G d) j (fun r h1 => r = .inl v ∧ h1 = cv h') pc ls st (cv h) := by
  intro n
  induction n with
  | zero => intro d j pc ls st h v h' e; cases e
  | succ n ih =>
    intro d j pc ls st h v h' e
    unfold cr at e
    split at e
    · cases e
    · rename_i i hf
      split at e
      · rename_i c hc
        obtain ⟨pc1, ls1, st1, h1⟩ := c
        exact c1_ok hf hc (ih d j pc1 ls1 st1 h1 v h' e)
      · split at e
        · split at e
          · rename_i h1
            cases e
            obtain ⟨rfl, h2⟩ := h1
            exact x_rtv hf h2 ⟨rfl, rfl⟩
          · cases e
        · split at e
          · split at e
            · rename_i h1
              split at e
              · rename_i h2
                cases e
                exact x_ret hf h2.1 (by assumption) h2.2 ⟨rfl, rfl⟩
              · cases e
            · cases e
          · rename_i hiv
            split at e
            · cases e
            · rename_i jj hlm
              split at e
              · cases e
              · rename_i d' 
                split at e
                · rename_i h1
                  obtain ⟨g1, g2, g3, g4, g5⟩ := h1
                  split at e
                  · cases e
                  · rename_i r hr
                    obtain ⟨v1, h1⟩ := r
                    refine x_cv _ jj _ (st.take (ab_na G jj)).reverse hf hiv hlm g1 ?_ g2 g3 (c_rv_ok g4) g5 (ih d' jj 0 _ [] h v1 h1 hr) rfl (ih (d' + 1) j (pc + 3) ls _ h1 v h' e)
                    rw [List.reverse_reverse, List.take_append_drop]
                · cases e
theorem cr_S {G : ab_G} {n d j : Nat} {as : List Value} {h : cH} {v : Option Value} {h' : cH} (e : cr G n d j 0 (ab_en (ab_n G j) as) [] h = some (v, h')) : ab_S G (d + 1) j as (cv h) v (cv h') := cr_ok n d j 0 _ [] h v h' e
