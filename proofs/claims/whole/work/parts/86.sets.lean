/-! OURS, printed by wip/tools/gen86.py: sets emptied, joined, copied, listed. -/
theorem rB_rB (M : mm) (a : Nat) (f g : Int → Bool) : rB (rB M a f) a g = rB M a g := by
  unfold rB
  congr 2
  funext b
  by_cases h : b = a
  · rw [if_pos h, if_pos h]
  · rw [if_neg h, if_neg h]
    show (if b = a then f else M.2.1 b) = _
    rw [if_neg h]
theorem rB_self (M : mm) (a : Nat) : rB M a (M.2.1 a) = M := by
  unfold rB
  congr 2
  funext b
  by_cases h : b = a
  · rw [if_pos h, h]
  · rw [if_neg h]
theorem rI_self (M : mm) (a : Nat) : rI M a (M.1 a) = M := by
  unfold rI
  congr 1
  funext b
  by_cases h : b = a
  · rw [if_pos h, h]
  · rw [if_neg h]
/-- words up to n emptied; joined -/
def clN (B : Int → Bool) (n : Nat) : Int → Bool := fun j => if 0 ≤ j ∧ j < 64 * (n : Int) then false else B j
def orN (A B : Int → Bool) (n : Nat) : Int → Bool := fun j => if 0 ≤ j ∧ j < 64 * (n : Int) then A j || B j else A j
theorem upw_clN (B : Int → Bool) (n : Nat) : upw (clN B n) (n : Int) (fun _ => false) = clN B (n + 1) := by
  funext j
  unfold upw clN
  by_cases h : 64 * (n : Int) ≤ j ∧ j < 64 * (n : Int) + 64
  · rw [if_pos h, if_pos (by omega)]
  · rw [if_neg h]
    by_cases h2 : 0 ≤ j ∧ j < 64 * (n : Int)
    · rw [if_pos h2, if_pos (by omega)]
    · rw [if_neg h2, if_neg (by omega)]
theorem clN_0 (B : Int → Bool) : clN B 0 = B := by
  funext j; unfold clN; rw [if_neg (by omega)]
theorem orN_0 (A B : Int → Bool) : orN A B 0 = A := by
  funext j; unfold orN; rw [if_neg (by omega)]
theorem upw_orN (A B : Int → Bool) (n : Nat) : upw (orN A B n) (n : Int) (fun i => A (64 * (n : Int) + (i : Int)) || B (64 * (n : Int) + (i : Int))) = orN A B (n + 1) := by
  funext j
  unfold upw orN
  by_cases h : 64 * (n : Int) ≤ j ∧ j < 64 * (n : Int) + 64
  · rw [if_pos h, if_pos (by omega)]
    show (A (64 * (n : Int) + ((j - 64 * (n : Int)).toNat : Int)) || B (64 * (n : Int) + ((j - 64 * (n : Int)).toNat : Int))) = _
    rw [show 64 * (n : Int) + ((j - 64 * (n : Int)).toNat : Int) = j by omega]
  · rw [if_neg h]
    by_cases h2 : 0 ≤ j ∧ j < 64 * (n : Int)
    · rw [if_pos h2, if_pos (by omega)]
    · rw [if_neg h2, if_neg (by omega)]
theorem or_word (A B : Int → Bool) (n : Nat) : wd (fun i => orN A B n (64 * (n : Int) + (i : Int))) ||| wd (fun i => B (64 * (n : Int) + (i : Int))) = wd (fun i => A (64 * (n : Int) + (i : Int)) || B (64 * (n : Int) + (i : Int))) := by
  rw [wd_or]
  apply wd_congr
  intro i hi
  unfold orN
  rw [if_neg (by omega)]
/-- the texts below m that a set holds -/
def el (B : Int → Bool) (m : Nat) : List Nat := (List.range m).filter (sN B)
def lsR (l : List Nat) (f : Int → Int) : Int → Int := fun j => if 0 ≤ j ∧ j < (l.length : Int) then ((l.getD j.toNat 0 : Nat) : Int) else f j
theorem el_succ (B : Int → Bool) (m : Nat) : el B (m + 1) = if B (m : Int) = true then el B m ++ [m] else el B m := by
  unfold el
  rw [List.range_succ, List.filter_append]
  by_cases h : B (m : Int) = true
  · rw [if_pos h]; simp [h]
  · rw [if_neg h]; simp [h]
theorem el_skip (B : Int → Bool) (m k : Nat) (h : ∀ i, i < k → B ((m + i : Nat) : Int) = false) : el B (m + k) = el B m := by
  induction k with
  | zero => rfl
  | succ k ih =>
    rw [← Nat.add_assoc, el_succ, if_neg (by rw [h k (by omega)]; decide), ih (fun i hi => h i (by omega))]
theorem el_len (B : Int → Bool) (m : Nat) : (el B m).length ≤ m := by
  unfold el
  have := List.length_filter_le (sN B) (List.range m)
  rw [List.length_range] at this
  exact this
theorem lsR_nil (f : Int → Int) : lsR [] f = f := by
  funext j; unfold lsR; rw [if_neg (by simp only [List.length_nil]; omega)]
theorem sI_lsR (M : mm) (r : Nat) (l : List Nat) (x : Nat) : sI (rI M r (lsR l (M.1 r))) r (l.length : Int) (x : Int) = rI M r (lsR (l ++ [x]) (M.1 r)) := by
  unfold sI rI
  congr 1
  funext b j
  by_cases hb : b = r
  · subst hb
    simp only [true_and, if_true]
    unfold lsR
    rw [List.length_append, List.length_singleton]
    by_cases hj : j = (l.length : Int)
    · rw [if_pos hj, if_pos (by omega), hj]
      simp
    · rw [if_neg hj]
      by_cases h2 : 0 ≤ j ∧ j < (l.length : Int)
      · rw [if_pos h2, if_pos (by omega), List.getD_eq_getElem?_getD, List.getD_eq_getElem?_getD, List.getElem?_append_left (by omega)]
      · rw [if_neg h2, if_neg (by omega)]
  · simp [hb]
theorem shr1 (f : Nat → Bool) : (((wd f).toUInt64 >>> ((Int32.ofInt 1).toInt64.toUInt64 &&& Int64.toUInt64 63)).toInt64) = wd (fun i => decide (i + 1 < 64) && f (i + 1)) := by
  have := wd_ushr f (t := 1) (by decide)
  rw [show ((1 : Nat) : Int) = 1 from rfl] at this
  rw [this]
  apply wd_congr
  intro i hi
  rw [show 1 % 64 + i = i + 1 by omega]
theorem and1 (f : Nat → Bool) : wd f &&& 1 = bif f 0 then 1 else 0 := by
  rw [← wd_one, wd_and]
  cases h : f 0 with
  | true =>
    rw [cond_true]
    apply wd_congr
    intro i hi
    cases i with
    | zero => rw [h]; rfl
    | succ i => simp
  | false =>
    rw [cond_false, ← wd_zero]
    apply wd_congr
    intro i hi
    cases i with
    | zero => rw [h]; rfl
    | succ i => simp
/-- what is left of a word from bit b on -/
def lwB (B : Int → Bool) (n b : Nat) : Nat → Bool := fun i => decide (b + i < 64) && B ((64 * n + b + i : Nat) : Int)
theorem lwB_0 (B : Int → Bool) (n : Nat) : wd (fun i => B (64 * (n : Int) + (i : Int))) = wd (lwB B n 0) := by
  apply wd_congr
  intro i hi
  unfold lwB
  rw [decide_eq_true (by omega), Bool.true_and]
  congr 1
theorem lwB_s (B : Int → Bool) (n b : Nat) : wd (fun i => decide (i + 1 < 64) && lwB B n b (i + 1)) = wd (lwB B n (b + 1)) := by
  apply wd_congr
  intro i hi
  unfold lwB
  rw [show b + (i + 1) = b + 1 + i by omega, show 64 * n + b + (i + 1) = 64 * n + (b + 1) + i by omega]
  by_cases h : b + 1 + i < 64
  · rw [decide_eq_true h, decide_eq_true (show i + 1 < 64 by omega)]; rfl
  · rw [decide_eq_false h]; simp
section C4
variable {L : Nat} {xs : Nat → Int32} {M : mm} {es : ab_H}
theorem c34_loop (d : Nat) {w : Nat} (h : isL w 18) {Q : ab_Q} (kk : Q (.inl none) (hp (rB M w (clN (M.2.1 w) 18)) ++ es)) : ∀ m n : Nat, 18 - n = m → n ≤ 18 → ab_W (pg_G L xs) (ab_X (pg_G L xs) d) 34 Q 6 [some (.ref w), some (.long (wd (fun _ => false))), none, some (zi (n : Nat)), some (zi 18)] [] (hp (rB M w (clN (M.2.1 w) n)) ++ es) := by
  intro m
  induction m using Nat.strongRecOn with
  | _ m ih =>
    intro n hm hn
    refine x_ld 3 1 0 7 rfl rfl rfl rfl rfl ?_
    refine x_ld 4 2 0 9 rfl rfl rfl rfl rfl ?_
    refine z_icge 22 12 rfl rfl rfl ⟨by omega, by omega⟩ (rg_lit 18 rfl) (fun c9 => ?_) (fun c9 => ?_)
    · refine x_rtv rfl rfl ?_
      have e : n = 18 := by omega
      subst e; exact kk
    · refine x_ld 0 1 2 13 rfl rfl rfl rfl rfl ?_
      refine x_ld 3 1 0 14 rfl rfl rfl rfl rfl ?_
      refine x_ld 1 1 1 15 rfl rfl rfl rfl rfl ?_
      refine z_lst 16 rfl h rfl ⟨by omega, by omega⟩ rfl ?_
      refine z_inc 3 19 [some (.ref w), some (.long (wd (fun _ => false))), none, some (zi (((n : Nat) : Int) + 1)), some (zi 18)] rfl rfl (Nat.le_of_ble_eq_true rfl) rfl rfl ?_
      refine x_go 6 rfl rfl ?_
      rw [rB_at, rB_rB, upw_clN]
      exact ih (18 - (n + 1)) (by omega) (n + 1) rfl (by omega)
theorem c34 (d : Nat) {w : Nat} (h : isL w 18) : ab_S (pg_G L xs) (d + 1) 34 [.ref w, .long 0] (hp M ++ es) none (hp (rB M w (clN (M.2.1 w) 18)) ++ es) := by
  rw [← wd_zero]
  show ab_W (pg_G L xs) (ab_X (pg_G L xs) d) 34 _ 0 [some (.ref w), some (.long (wd (fun _ => false))), none, none, none] [] (hp M ++ es)
  refine x_cst (zi 0) 1 1 rfl rfl rfl ?_
  refine x_st 3 1 0 2 [some (.ref w), some (.long (wd (fun _ => false))), none, some (zi 0), none] rfl rfl rfl (Nat.le_of_ble_eq_true rfl) rfl rfl ?_
  refine x_ld 0 1 2 3 rfl rfl rfl rfl rfl ?_
  refine x_len (Int32.ofInt 18) 4 rfl (hp_ob h.1 (h.2.2 _ _ _)) rfl rfl rfl ?_
  refine x_st 4 2 0 6 [some (.ref w), some (.long (wd (fun _ => false))), none, some (zi 0), some (zi 18)] rfl rfl rfl (Nat.le_of_ble_eq_true rfl) rfl rfl ?_
  have := c34_loop (L := L) (xs := xs) d (M := M) (es := es) h (Q := fun r h' => r = .inl none ∧ h' = hp (rB M w (clN (M.2.1 w) 18)) ++ es) ⟨rfl, rfl⟩ _ 0 rfl (Nat.zero_le _)
  rw [clN_0, rB_self] at this
  exact this
theorem c33 (d : Nat) {s w : Nat} (h : isT s w) : ab_S (pg_G L xs) (d + 2) 33 [.ref s] (hp M ++ es) none (hp (rB M w (clN (M.2.1 w) 18)) ++ es) := by
  show ab_W (pg_G L xs) (ab_X (pg_G L xs) (d + 1)) 33 _ 0 [some (.ref s)] [] (hp M ++ es)
  refine x_ld 0 1 2 1 rfl rfl rfl rfl rfl ?_
  refine g_T h 11 4 rfl rfl rfl ?_
  refine x_cst (.long 0) 1 5 rfl rfl rfl ?_
  refine x_cv 15 34 8 [.ref w, .long 0] rfl rfl rfl (Nat.le_of_ble_eq_true rfl) rfl rfl (Nat.le_of_ble_eq_true rfl) trivial (Nat.le_of_ble_eq_true rfl) (c34 d h.2.1) rfl ?_
  refine x_rtv rfl rfl ?_
  exact ⟨rfl, rfl⟩
theorem c23 (d : Nat) {s1 w1 s2 w2 : Nat} (h1 : isT s1 w1) (h2 : isT s2 w2) : ab_S (pg_G L xs) (d + 1) 23 [.ref s1, .ref s2] (hp M ++ es) none (hp (rB M w1 (cpB (M.2.1 w2) (M.2.1 w1))) ++ es) := by
  show ab_W (pg_G L xs) (ab_X (pg_G L xs) d) 23 _ 0 [some (.ref s1), some (.ref s2)] [] (hp M ++ es)
  refine x_ld 1 1 2 1 rfl rfl rfl rfl rfl ?_
  refine g_T h2 11 4 rfl rfl rfl ?_
  refine x_cst (zi 0) 1 5 rfl rfl rfl ?_
  refine x_ld 0 1 2 6 rfl rfl rfl rfl rfl ?_
  refine g_T h1 11 9 rfl rfl rfl ?_
  refine x_cst (zi 0) 1 10 rfl rfl rfl ?_
  refine x_cst (zi 18) 2 12 rfl rfl rfl ?_
  refine z_cpl 21 15 rfl rfl h2.2.1 h1.2.1 (Nat.le_of_ble_eq_true rfl) rfl ?_
  refine x_rtv rfl rfl ?_
  exact ⟨rfl, rfl⟩
theorem c29_loop (d : Nat) {s1 w1 s2 w2 : Nat} (h1 : isT s1 w1) (h2 : isT s2 w2) (hne : w2 ≠ w1) {Q : ab_Q} (kk : Q (.inl none) (hp (rB M w1 (orN (M.2.1 w1) (M.2.1 w2) 18)) ++ es)) : ∀ m n : Nat, 18 - n = m → n ≤ 18 → ab_W (pg_G L xs) (ab_X (pg_G L xs) d) 29 Q 2 [some (.ref s1), some (.ref s2), some (zi (n : Nat))] [] (hp (rB M w1 (orN (M.2.1 w1) (M.2.1 w2) n)) ++ es) := by
  intro m
  induction m using Nat.strongRecOn with
  | _ m ih =>
    intro n hm hn
    refine x_ld 2 1 0 3 rfl rfl rfl rfl rfl ?_
    refine x_cst (zi 18) 2 5 rfl rfl rfl ?_
    refine z_icge 29 8 rfl rfl rfl ⟨by omega, by omega⟩ (rg_lit 18 rfl) (fun c5 => ?_) (fun c5 => ?_)
    · refine x_rtv rfl rfl ?_
      have e : n = 18 := by omega
      subst e; exact kk
    · refine x_ld 0 1 2 9 rfl rfl rfl rfl rfl ?_
      refine g_T h1 11 12 rfl rfl rfl ?_
      refine x_ld 2 1 0 13 rfl rfl rfl rfl rfl ?_
      refine x_dp2 14 rfl rfl rfl rfl ?_
      refine z_lld 15 rfl h1.2.1 rfl ⟨by omega, by omega⟩ rfl ?_
      refine x_ld 1 1 2 16 rfl rfl rfl rfl rfl ?_
      refine g_T h2 11 19 rfl rfl rfl ?_
      refine x_ld 2 1 0 20 rfl rfl rfl rfl rfl ?_
      refine z_lld 21 rfl h2.2.1 rfl ⟨by omega, by omega⟩ rfl ?_
      refine x_lbn (wd (fun i => M.2.1 w1 (64 * (n : Int) + (i : Int)) || M.2.1 w2 (64 * (n : Int) + (i : Int)))) 22 rfl rfl (by rw [rB_at, rB_ne hne]; exact or_word _ _ n) rfl ?_
      refine z_lst 23 rfl h1.2.1 rfl ⟨by omega, by omega⟩ rfl ?_
      refine z_inc 2 26 [some (.ref s1), some (.ref s2), some (zi (((n : Nat) : Int) + 1))] rfl rfl (Nat.le_of_ble_eq_true rfl) rfl rfl ?_
      refine x_go 2 rfl rfl ?_
      rw [rB_at, rB_rB, upw_orN]
      exact ih (18 - (n + 1)) (by omega) (n + 1) rfl (by omega)
theorem c29 (d : Nat) {s1 w1 s2 w2 : Nat} (h1 : isT s1 w1) (h2 : isT s2 w2) (hne : w2 ≠ w1) : ab_S (pg_G L xs) (d + 1) 29 [.ref s1, .ref s2] (hp M ++ es) none (hp (rB M w1 (orN (M.2.1 w1) (M.2.1 w2) 18)) ++ es) := by
  show ab_W (pg_G L xs) (ab_X (pg_G L xs) d) 29 _ 0 [some (.ref s1), some (.ref s2), none] [] (hp M ++ es)
  refine x_cst (zi 0) 1 1 rfl rfl rfl ?_
  refine x_st 2 1 0 2 [some (.ref s1), some (.ref s2), some (zi 0)] rfl rfl rfl (Nat.le_of_ble_eq_true rfl) rfl rfl ?_
  have := c29_loop (L := L) (xs := xs) d (M := M) (es := es) h1 h2 hne (Q := fun r h' => r = .inl none ∧ h' = hp (rB M w1 (orN (M.2.1 w1) (M.2.1 w2) 18)) ++ es) ⟨rfl, rfl⟩ _ 0 rfl (Nat.zero_le _)
  rw [orN_0, rB_self] at this
  exact this
theorem c32_in (d : Nat) {s w r : Nat} (h : isT s w) (hr : isI r 1093) (hB : ∀ t : Nat, 1093 ≤ t → t < 1152 → M.2.1 w (t : Int) = false) {Q : ab_Q} (n : Nat) (hn : n < 18) (kk : ∀ o4 o6, ab_W (pg_G L xs) (ab_X (pg_G L xs) d) 32 Q 75 [some (.ref s), some (.ref r), some (zi ((el (M.2.1 w) (64 * (n + 1))).length : Nat)), some (zi (n : Nat)), o4, none, o6] [] (hp (rI M r (lsR (el (M.2.1 w) (64 * (n + 1))) (M.1 r))) ++ es)) : ∀ m b : Nat, 64 - b = m → b ≤ 64 → ab_W (pg_G L xs) (ab_X (pg_G L xs) d) 32 Q 21 [some (.ref s), some (.ref r), some (zi ((el (M.2.1 w) (64 * n + b)).length : Nat)), some (zi (n : Nat)), some (.long (wd (lwB (M.2.1 w) n b))), none, some (zi (b : Nat))] [] (hp (rI M r (lsR (el (M.2.1 w) (64 * n + b)) (M.1 r))) ++ es) := by
  intro m
  induction m using Nat.strongRecOn with
  | _ m ih =>
    intro b hm hb
    have hel := el_len (M.2.1 w) (64 * n + b)
    refine x_ld 6 2 0 23 rfl rfl rfl rfl rfl ?_
    refine x_cst (zi 64) 2 25 rfl rfl rfl ?_
    refine z_icge 75 28 rfl rfl rfl ⟨by omega, by omega⟩ (rg_lit 64 rfl) (fun c25 => ?_) (fun c25 => ?_)
    · have e : 64 * n + b = 64 * (n + 1) := by omega
      rw [e]; exact kk _ _
    · refine x_ld 4 2 1 30 rfl rfl rfl rfl rfl ?_
      refine x_cst (.long 0) 1 31 rfl rfl rfl ?_
      by_cases hz : ∃ i, i < 64 ∧ lwB (M.2.1 w) n b i = true
      · have hnz : ¬ wd (lwB (M.2.1 w) n b) = 0 := fun e => by obtain ⟨i, hi, hv⟩ := hz; exact absurd (hv.symm.trans (wd_eq_zero.mp e i hi)) (by decide)
        refine x_cmp 32 rfl rfl ?_
        refine x_ifeq 75 35 rfl rfl rfl (fun c => absurd c (lg_ne hnz)) (fun _ => ?_)
        refine x_ld 4 2 1 37 rfl rfl rfl rfl rfl ?_
        refine x_cst (.long 1) 1 38 rfl rfl rfl ?_
        refine x_lbn (bif lwB (M.2.1 w) n b 0 then 1 else 0) 39 rfl rfl (and1 _) rfl ?_
        refine x_cst (.long 0) 1 40 rfl rfl rfl ?_
        cases hv : lwB (M.2.1 w) n b 0 with
        | true =>
          have hv2 : M.2.1 w ((64 * n + b : Nat) : Int) = true := by unfold lwB at hv; simpa using (Bool.and_eq_true_iff.mp hv).2
          have hlt : 64 * n + b < 1093 := by rcases Nat.lt_or_ge (64 * n + b) 1093 with e | e; (· exact e); (· rw [hB _ e (by omega)] at hv2; cases hv2)
          refine x_cmp 41 rfl rfl ?_
          refine x_ifeq 63 44 rfl rfl rfl (fun c => absurd c (by decide)) (fun _ => ?_)
          refine x_ld 2 1 0 45 rfl rfl rfl rfl rfl ?_
          refine x_ld 1 1 2 46 rfl rfl rfl rfl rfl ?_
          refine x_len (Int32.ofInt 1093) 47 rfl (hp_ob hr.1 (hr.2.2 _ _ _)) rfl rfl rfl ?_
          refine z_icge 63 50 rfl rfl rfl ⟨by omega, by omega⟩ (rg_lit 1093 rfl) (fun c => absurd c (by omega)) (fun _ => ?_)
          refine x_ld 1 1 2 51 rfl rfl rfl rfl rfl ?_
          refine x_ld 2 1 0 52 rfl rfl rfl rfl rfl ?_
          refine x_cst (zi 64) 2 54 rfl rfl rfl ?_
          refine x_ld 3 1 0 55 rfl rfl rfl rfl rfl ?_
          refine z_mul 56 rfl rfl ?_
          refine x_ld 6 2 0 58 rfl rfl rfl rfl rfl ?_
          refine z_add 59 rfl rfl ?_
          refine z_ist 60 rfl hr rfl ⟨by omega, by omega⟩ rfl ?_
          refine z_inc 2 63 [some (.ref s), some (.ref r), some (zi ((((el (M.2.1 w) (64 * n + b)).length : Nat) : Int) + 1)), some (zi ((n : Nat) : Int)), some (.long (wd (lwB (M.2.1 w) n b))), none, some (zi ((b : Nat) : Int))] rfl rfl (Nat.le_of_ble_eq_true rfl) rfl rfl ?_
          refine x_ld 4 2 1 65 rfl rfl rfl rfl rfl ?_
          refine x_cst (zi 1) 1 66 rfl rfl rfl ?_
          refine x_lsh (wd (lwB (M.2.1 w) n (b + 1))) 67 rfl rfl ((shr1 _).trans (lwB_s _ _ _)) rfl ?_
          refine x_sl 4 2 69 [some (.ref s), some (.ref r), some (zi ((((el (M.2.1 w) (64 * n + b)).length : Nat) : Int) + 1)), some (zi ((n : Nat) : Int)), some (.long (wd (lwB (M.2.1 w) n (b + 1)))), none, some (zi ((b : Nat) : Int))] rfl rfl (Nat.le_of_ble_eq_true rfl) rfl rfl ?_
          refine z_inc 6 72 [some (.ref s), some (.ref r), some (zi ((((el (M.2.1 w) (64 * n + b)).length : Nat) : Int) + 1)), some (zi ((n : Nat) : Int)), some (.long (wd (lwB (M.2.1 w) n (b + 1)))), none, some (zi (((b : Nat) : Int) + 1))] rfl rfl (Nat.le_of_ble_eq_true rfl) rfl rfl ?_
          refine x_go 21 rfl rfl ?_
          have he := el_succ (M.2.1 w) (64 * n + b)
          rw [if_pos hv2] at he
          have hm2 := sI_lsR M r (el (M.2.1 w) (64 * n + b)) (64 * n + b)
          rw [← he] at hm2
          rw [show 64 * ((n : Nat) : Int) + ((b : Nat) : Int) = ((64 * n + b : Nat) : Int) by omega, hm2]
          have hl : ((el (M.2.1 w) (64 * n + b)).length : Int) + 1 = ((el (M.2.1 w) (64 * n + b + 1)).length : Nat) := by rw [he, List.length_append]; rfl
          rw [hl]
          exact ih (64 - (b + 1)) (by omega) (b + 1) rfl (by omega)
        | false =>
          have hv2 : M.2.1 w ((64 * n + b : Nat) : Int) = false := by
            unfold lwB at hv
            rw [decide_eq_true (by omega), Bool.true_and] at hv; exact hv
          refine x_cmp 41 rfl rfl ?_
          refine x_ifeq 63 44 rfl rfl rfl (fun _ => ?_) (fun c => absurd rfl c)
          refine x_ld 4 2 1 65 rfl rfl rfl rfl rfl ?_
          refine x_cst (zi 1) 1 66 rfl rfl rfl ?_
          refine x_lsh (wd (lwB (M.2.1 w) n (b + 1))) 67 rfl rfl ((shr1 _).trans (lwB_s _ _ _)) rfl ?_
          refine x_sl 4 2 69 [some (.ref s), some (.ref r), some (zi (((el (M.2.1 w) (64 * n + b)).length : Nat) : Int)), some (zi ((n : Nat) : Int)), some (.long (wd (lwB (M.2.1 w) n (b + 1)))), none, some (zi ((b : Nat) : Int))] rfl rfl (Nat.le_of_ble_eq_true rfl) rfl rfl ?_
          refine z_inc 6 72 [some (.ref s), some (.ref r), some (zi (((el (M.2.1 w) (64 * n + b)).length : Nat) : Int)), some (zi ((n : Nat) : Int)), some (.long (wd (lwB (M.2.1 w) n (b + 1)))), none, some (zi (((b : Nat) : Int) + 1))] rfl rfl (Nat.le_of_ble_eq_true rfl) rfl rfl ?_
          refine x_go 21 rfl rfl ?_
          have he := el_succ (M.2.1 w) (64 * n + b)
          rw [if_neg (by rw [hv2]; decide)] at he
          rw [← he]
          exact ih (64 - (b + 1)) (by omega) (b + 1) rfl (by omega)
      · have hz0 : ∀ i, i < 64 → lwB (M.2.1 w) n b i = false := fun i hi => by rcases Bool.eq_false_or_eq_true (lwB (M.2.1 w) n b i) with e | e; (· exact absurd ⟨i, hi, e⟩ hz); (· exact e)
        rw [wd_eq_zero.mpr hz0]
        refine x_cmp 32 rfl rfl ?_
        refine x_ifeq 75 35 rfl rfl rfl (fun _ => ?_) (fun c => absurd rfl c)
        have e : el (M.2.1 w) (64 * (n + 1)) = el (M.2.1 w) (64 * n + b) := by
          rw [show 64 * (n + 1) = 64 * n + b + (64 - b) by omega]
          refine el_skip _ _ _ (fun i hi => ?_)
          have := hz0 i (by omega)
          unfold lwB at this
          rw [decide_eq_true (by omega), Bool.true_and] at this
          exact this
        rw [e] at kk; exact kk _ _
theorem c32_out (d : Nat) {s w r : Nat} (h : isT s w) (hr : isI r 1093) (hB : ∀ t : Nat, 1093 ≤ t → t < 1152 → M.2.1 w (t : Int) = false) {Q : ab_Q} (kk : Q (.inl (some (zi ((el (M.2.1 w) 1152).length : Nat)))) (hp (rI M r (lsR (el (M.2.1 w) 1152) (M.1 r))) ++ es)) : ∀ m n : Nat, 18 - n = m → n ≤ 18 → ∀ o4 o6, ab_W (pg_G L xs) (ab_X (pg_G L xs) d) 32 Q 4 [some (.ref s), some (.ref r), some (zi ((el (M.2.1 w) (64 * n)).length : Nat)), some (zi (n : Nat)), o4, none, o6] [] (hp (rI M r (lsR (el (M.2.1 w) (64 * n)) (M.1 r))) ++ es) := by
  intro m
  induction m using Nat.strongRecOn with
  | _ m ih =>
    intro n hm hn o4 o6
    refine x_ld 3 1 0 5 rfl rfl rfl rfl rfl ?_
    refine x_cst (zi 18) 2 7 rfl rfl rfl ?_
    refine z_icge 81 10 rfl rfl rfl ⟨by omega, by omega⟩ (rg_lit 18 rfl) (fun c7 => ?_) (fun c7 => ?_)
    · refine x_ld 2 1 0 82 rfl rfl rfl rfl rfl ?_
      refine x_ret rfl rfl rfl rfl ?_
      have e : n = 18 := by omega
      subst e; exact kk
    · refine x_ld 0 1 2 11 rfl rfl rfl rfl rfl ?_
      refine g_T h 11 14 rfl rfl rfl ?_
      refine x_ld 3 1 0 15 rfl rfl rfl rfl rfl ?_
      refine z_lld 16 rfl h.2.1 rfl ⟨by omega, by omega⟩ rfl ?_
      rw [show (fun i : Nat => (rI M r (lsR (el (M.2.1 w) (64 * n)) (M.1 r))).2.1 w (64 * ((n : Nat) : Int) + (i : Int))) = (fun i : Nat => M.2.1 w (64 * ((n : Nat) : Int) + (i : Int))) from rfl, lwB_0]
      refine x_sl 4 2 18 [some (.ref s), some (.ref r), some (zi (((el (M.2.1 w) (64 * n)).length : Nat) : Int)), some (zi ((n : Nat) : Int)), some (.long (wd (lwB (M.2.1 w) n 0))), none, o6] rfl rfl (Nat.le_of_ble_eq_true rfl) rfl rfl ?_
      refine x_cst (zi 0) 1 19 rfl rfl rfl ?_
      refine x_st 6 2 0 21 [some (.ref s), some (.ref r), some (zi (((el (M.2.1 w) (64 * n)).length : Nat) : Int)), some (zi ((n : Nat) : Int)), some (.long (wd (lwB (M.2.1 w) n 0))), none, some (zi 0)] rfl rfl rfl (Nat.le_of_ble_eq_true rfl) rfl rfl ?_
      refine c32_in d h hr hB n (by omega) (fun o4 o6 => ?_) _ 0 rfl (Nat.zero_le _)
      refine z_inc 3 78 [some (.ref s), some (.ref r), some (zi ((el (M.2.1 w) (64 * (n + 1))).length : Nat)), some (zi ((n : Int) + 1)), o4, none, o6] rfl rfl (Nat.le_of_ble_eq_true rfl) rfl rfl ?_
      refine x_go 4 rfl rfl ?_
      exact ih (18 - (n + 1)) (by omega) (n + 1) rfl (by omega) _ _
theorem c32 (d : Nat) {s w r : Nat} (h : isT s w) (hr : isI r 1093) (hB : ∀ t : Nat, 1093 ≤ t → t < 1152 → M.2.1 w (t : Int) = false) : ab_S (pg_G L xs) (d + 1) 32 [.ref s, .ref r] (hp M ++ es) (some (zi ((el (M.2.1 w) 1152).length : Nat))) (hp (rI M r (lsR (el (M.2.1 w) 1152) (M.1 r))) ++ es) := by
  show ab_W (pg_G L xs) (ab_X (pg_G L xs) d) 32 _ 0 [some (.ref s), some (.ref r), none, none, none, none, none] [] (hp M ++ es)
  refine x_cst (zi 0) 1 1 rfl rfl rfl ?_
  refine x_st 2 1 0 2 [some (.ref s), some (.ref r), some (zi 0), none, none, none, none] rfl rfl rfl (Nat.le_of_ble_eq_true rfl) rfl rfl ?_
  refine x_cst (zi 0) 1 3 rfl rfl rfl ?_
  refine x_st 3 1 0 4 [some (.ref s), some (.ref r), some (zi 0), some (zi 0), none, none, none] rfl rfl rfl (Nat.le_of_ble_eq_true rfl) rfl rfl ?_
  have := c32_out (L := L) (xs := xs) d (M := M) (es := es) h hr hB (Q := fun r' h' => r' = .inl (some (zi ((el (M.2.1 w) 1152).length : Nat))) ∧ h' = hp (rI M r (lsR (el (M.2.1 w) 1152) (M.1 r))) ++ es) ⟨rfl, rfl⟩ _ 0 rfl (Nat.zero_le _) none none
  rw [show el (M.2.1 w) (64 * 0) = [] from rfl, lsR_nil, rI_self] at this
  exact this
end C4
