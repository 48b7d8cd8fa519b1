/-! OURS. Texts as lists of letters and as numbers. -/
def tx_st : Nat → Nat
  | 0 => 0
  | n + 1 => 3 * tx_st n + 1
def tx_val (w : List Nat) : Nat := w.foldl (fun v d => 3 * v + d) 0
def tx_num (w : List Nat) : Nat := tx_st w.length + tx_val w
/-- letters below three -/
def tx_L (w : List Nat) : Prop := ∀ d ∈ w, d < 3
theorem tx_st_pow (n : Nat) : 2 * tx_st n + 1 = 3 ^ n := by
  induction n with
  | zero => rfl
  | succ n ih => rw [Nat.pow_succ]; simp only [tx_st]; omega
theorem tx_st_succ (n : Nat) : tx_st (n + 1) = tx_st n + 3 ^ n := by
  have := tx_st_pow n
  simp only [tx_st]; omega
theorem tx_st_mono {a b : Nat} (h : a ≤ b) : tx_st a ≤ tx_st b := by
  induction b with
  | zero => rw [Nat.le_zero.mp h]; exact Nat.le_refl _
  | succ b ih =>
    rcases Nat.lt_or_ge b a with h1 | h1
    · rw [show a = b + 1 by omega]; exact Nat.le_refl _
    · exact Nat.le_trans (ih h1) (by rw [tx_st_succ]; exact Nat.le_add_right _ _)
theorem tx_fold (w : List Nat) (x : Nat) : w.foldl (fun v d => 3 * v + d) x = x * 3 ^ w.length + tx_val w := by
  unfold tx_val
  induction w generalizing x with
  | nil => simp
  | cons d w ih =>
    simp only [List.foldl_cons, List.length_cons]
    rw [ih (3 * x + d), ih (3 * 0 + d), Nat.pow_succ, Nat.add_mul]
    have : 3 * x * 3 ^ w.length = x * (3 ^ w.length * 3) := by rw [Nat.mul_comm 3 x, Nat.mul_assoc, Nat.mul_comm 3]
    rw [this]
    simp only [Nat.mul_zero, Nat.zero_add]
    omega
theorem tx_val_app (u v : List Nat) : tx_val (u ++ v) = tx_val u * 3 ^ v.length + tx_val v := by
  show (u ++ v).foldl _ 0 = _
  rw [List.foldl_append, tx_fold v]
  rfl
theorem tx_L_app {u v : List Nat} : tx_L (u ++ v) ↔ tx_L u ∧ tx_L v := by
  constructor
  · intro h
    exact ⟨fun d hd => h d (List.mem_append_left _ hd), fun d hd => h d (List.mem_append_right _ hd)⟩
  · intro ⟨h1, h2⟩ d hd
    rcases List.mem_append.mp hd with h | h
    · exact h1 d h
    · exact h2 d h
theorem tx_L_take {w : List Nat} (h : tx_L w) (i : Nat) : tx_L (w.take i) := fun d hd => h d (List.mem_of_mem_take hd)
theorem tx_L_drop {w : List Nat} (h : tx_L w) (i : Nat) : tx_L (w.drop i) := fun d hd => h d (List.mem_of_mem_drop hd)
theorem tx_val_one (d : Nat) : tx_val [d] = d := by simp [tx_val]
theorem tx_val_lt {w : List Nat} (h : tx_L w) : tx_val w < 3 ^ w.length := by
  induction w with
  | nil => simp [tx_val]
  | cons d w ih =>
    have h1 := ih (fun x hx => h x (List.mem_cons_of_mem _ hx))
    have h2 := h d (List.mem_cons_self ..)
    rw [show d :: w = [d] ++ w from rfl, tx_val_app, tx_val_one, List.length_append, Nat.pow_add]
    simp only [List.length_cons, List.length_nil, Nat.zero_add, Nat.pow_one]
    have : d * 3 ^ w.length ≤ 2 * 3 ^ w.length := Nat.mul_le_mul_right _ (by omega)
    omega
theorem tx_num_lt {w : List Nat} (h : tx_L w) : tx_num w < tx_st (w.length + 1) := by
  rw [tx_st_succ]
  have := tx_val_lt h
  unfold tx_num; omega
theorem tx_num_ge (w : List Nat) : tx_st w.length ≤ tx_num w := by unfold tx_num; omega
theorem tx_num_nil : tx_num [] = 0 := rfl
theorem tx_num_snoc (w : List Nat) (d : Nat) : tx_num (w ++ [d]) = 3 * tx_num w + (d + 1) := by
  unfold tx_num
  rw [tx_val_app, tx_val_one, List.length_append]
  simp only [List.length_cons, List.length_nil, Nat.zero_add, Nat.pow_one, tx_st]
  omega
theorem tx_num_app (u v : List Nat) : tx_num (u ++ v) = tx_st (u.length + v.length) + tx_val u * 3 ^ v.length + tx_val v := by
  unfold tx_num
  rw [tx_val_app, List.length_append]; omega
/-- the letters of a number -/
def tx_let : Nat → List Nat
  | 0 => []
  | t + 1 => tx_let (t / 3) ++ [t % 3]
termination_by t => t
decreasing_by omega
theorem tx_let_succ (t : Nat) : tx_let (t + 1) = tx_let (t / 3) ++ [t % 3] := by rw [tx_let]
theorem tx_let_zero : tx_let 0 = [] := by rw [tx_let]
theorem tx_let_L (t : Nat) : tx_L (tx_let t) := by
  induction t using Nat.strongRecOn with
  | _ t ih =>
    cases t with
    | zero => rw [tx_let_zero]; intro d hd; cases hd
    | succ t =>
      rw [tx_let_succ, tx_L_app]
      refine ⟨ih _ (by omega), ?_⟩
      intro d hd
      rw [List.mem_singleton.mp hd]
      omega
theorem tx_num_let (t : Nat) : tx_num (tx_let t) = t := by
  induction t using Nat.strongRecOn with
  | _ t ih =>
    cases t with
    | zero => rw [tx_let_zero]; rfl
    | succ t => rw [tx_let_succ, tx_num_snoc, ih _ (by omega)]; omega
theorem tx_let_num {w : List Nat} (h : tx_L w) : tx_let (tx_num w) = w := by
  generalize hn : w.length = n
  induction n generalizing w with
  | zero =>
    have : w = [] := List.length_eq_zero_iff.mp hn
    subst this
    rw [tx_num_nil, tx_let_zero]
  | succ n ih =>
    have hw : w = w.dropLast ++ [w.getLast (by intro e; rw [e] at hn; cases hn)] := (List.dropLast_concat_getLast _).symm
    rw [hw] at h
    have h1 := (tx_L_app.mp h).1
    have h2 := (tx_L_app.mp h).2 _ (List.mem_singleton.mpr rfl)
    have h3 := ih h1 (by rw [List.length_dropLast, hn]; rfl)
    rw [hw, tx_num_snoc]
    generalize w.getLast _ = d at *
    rw [show 3 * tx_num w.dropLast + (d + 1) = (3 * tx_num w.dropLast + d) + 1 by omega, tx_let_succ, show (3 * tx_num w.dropLast + d) / 3 = tx_num w.dropLast by omega, show (3 * tx_num w.dropLast + d) % 3 = d by omega, h3]
theorem tx_inj {u v : List Nat} (hu : tx_L u) (hv : tx_L v) (h : tx_num u = tx_num v) : u = v := by
  rw [← tx_let_num hu, ← tx_let_num hv, h]
theorem tx_len_le {w : List Nat} (h : tx_L w) {n : Nat} : w.length ≤ n ↔ tx_num w < tx_st (n + 1) := by
  have h1 := tx_num_lt h
  have h2 := tx_num_ge w
  constructor
  · intro e
    exact Nat.lt_of_lt_of_le h1 (tx_st_mono (by omega))
  · intro e
    rcases Nat.lt_or_ge n w.length with h3 | h3
    · have := tx_st_mono (show n + 1 ≤ w.length by omega)
      omega
    · exact h3
theorem tx_let_len (t n : Nat) : (tx_let t).length ≤ n ↔ t < tx_st (n + 1) := by
  rw [tx_len_le (tx_let_L t), tx_num_let]
theorem tx_val_take {w : List Nat} (h : tx_L w) (i : Nat) : tx_val w / 3 ^ (w.length - i) = tx_val (w.take i) := by
  have h1 := tx_val_app (w.take i) (w.drop i)
  rw [List.take_append_drop] at h1
  have h2 := tx_val_lt (tx_L_drop h i)
  rw [List.length_drop] at h1 h2
  rw [h1, Nat.mul_comm, Nat.mul_add_div (Nat.pow_pos (by omega)), Nat.div_eq_of_lt h2]; omega
theorem tx_val_drop {w : List Nat} (h : tx_L w) (i : Nat) : tx_val w % 3 ^ (w.length - i) = tx_val (w.drop i) := by
  have h1 := tx_val_app (w.take i) (w.drop i)
  rw [List.take_append_drop] at h1
  have h2 := tx_val_lt (tx_L_drop h i)
  rw [List.length_drop] at h1 h2
  rw [h1, Nat.mul_comm, Nat.mul_add_mod, Nat.mod_eq_of_lt h2]
theorem tx_front {w : List Nat} (h : tx_L w) {i : Nat} (hi : i ≤ w.length) : tx_st i + (tx_num w - tx_st w.length) / 3 ^ (w.length - i) = tx_num (w.take i) := by
  rw [show tx_num w - tx_st w.length = tx_val w by unfold tx_num; omega, tx_val_take h i]
  unfold tx_num
  rw [List.length_take, Nat.min_eq_left hi]
theorem tx_rest {w : List Nat} (h : tx_L w) (i : Nat) : tx_st (w.length - i) + (tx_num w - tx_st w.length) % 3 ^ (w.length - i) = tx_num (w.drop i) := by
  rw [show tx_num w - tx_st w.length = tx_val w by unfold tx_num; omega, tx_val_drop h i]
  unfold tx_num
  rw [List.length_drop]
theorem tx_st_7 : tx_st 7 = 1093 := rfl
theorem tx_six {w : List Nat} (h : tx_L w) : w.length ≤ 6 ↔ tx_num w < 1093 := tx_len_le h
theorem tx_num_short {u v : List Nat} (hu : tx_L u) (h : u.length < v.length) : tx_num u < tx_num v :=
  Nat.lt_of_lt_of_le (tx_num_lt hu) (Nat.le_trans (tx_st_mono h) (tx_num_ge v))
