/-! OURS, printed by wip/tools/gen85.py: bits counted; loops over sets. -/
theorem lg_ne {x : Int64} (h : ¬ x = 0) : ¬ lg_cmp x 0 = 0 := by
  unfold lg_cmp
  split <;> first | decide | (rw [if_neg h]; decide)
section C3
variable {L : Nat} {xs : Nat → Int32} {M : mm} {es : ab_H}
theorem c27 (d : Nat) (f : Nat → Bool) {hh : ab_H} : ab_S (pg_G L xs) (d + 1) 27 [.long (wd f)] hh (some (zi (cnt f 64 : Nat))) hh := by
  show ab_W (pg_G L xs) (ab_X (pg_G L xs) d) 27 _ 0 [some (.long (wd f)), none] [] hh
  refine x_ld 0 1 1 1 rfl rfl rfl rfl rfl ?_
  refine x_ld 0 1 1 2 rfl rfl rfl rfl rfl ?_
  refine x_cst (zi 1) 1 3 rfl rfl rfl ?_
  refine x_lsh (((wd f).toUInt64 >>> ((Int32.ofInt 1).toInt64.toUInt64 &&& Int64.toUInt64 63)).toInt64) 4 rfl rfl rfl rfl ?_
  refine x_kl 314 _ 7 rfl rfl rfl ?_
  refine x_lbn ((((wd f).toUInt64 >>> ((Int32.ofInt 1).toInt64.toUInt64 &&& Int64.toUInt64 63)).toInt64) &&& 6148914691236517205) 8 rfl rfl rfl rfl ?_
  refine x_lbn ((wd f) - ((((wd f).toUInt64 >>> ((Int32.ofInt 1).toInt64.toUInt64 &&& Int64.toUInt64 63)).toInt64) &&& 6148914691236517205)) 9 rfl rfl rfl rfl ?_
  obtain ⟨x1, e_x1⟩ : ∃ x : Int64, x = (wd f) - ((((wd f).toUInt64 >>> ((Int32.ofInt 1).toInt64.toUInt64 &&& Int64.toUInt64 63)).toInt64) &&& 6148914691236517205) := ⟨_, rfl⟩
  rw [← e_x1]
  refine x_sl 0 1 10 [some (.long x1), none] rfl rfl (Nat.le_of_ble_eq_true rfl) rfl rfl ?_
  refine x_ld 0 1 1 11 rfl rfl rfl rfl rfl ?_
  refine x_kl 316 _ 14 rfl rfl rfl ?_
  refine x_lbn (x1 &&& 3689348814741910323) 15 rfl rfl rfl rfl ?_
  refine x_ld 0 1 1 16 rfl rfl rfl rfl rfl ?_
  refine x_cst (zi 2) 1 17 rfl rfl rfl ?_
  refine x_lsh ((x1.toUInt64 >>> ((Int32.ofInt 2).toInt64.toUInt64 &&& Int64.toUInt64 63)).toInt64) 18 rfl rfl rfl rfl ?_
  refine x_kl 316 _ 21 rfl rfl rfl ?_
  refine x_lbn (((x1.toUInt64 >>> ((Int32.ofInt 2).toInt64.toUInt64 &&& Int64.toUInt64 63)).toInt64) &&& 3689348814741910323) 22 rfl rfl rfl rfl ?_
  refine x_lbn ((x1 &&& 3689348814741910323) + (((x1.toUInt64 >>> ((Int32.ofInt 2).toInt64.toUInt64 &&& Int64.toUInt64 63)).toInt64) &&& 3689348814741910323)) 23 rfl rfl rfl rfl ?_
  obtain ⟨x2, e_x2⟩ : ∃ x : Int64, x = (x1 &&& 3689348814741910323) + (((x1.toUInt64 >>> ((Int32.ofInt 2).toInt64.toUInt64 &&& Int64.toUInt64 63)).toInt64) &&& 3689348814741910323) := ⟨_, rfl⟩
  rw [← e_x2]
  refine x_sl 0 1 24 [some (.long x2), none] rfl rfl (Nat.le_of_ble_eq_true rfl) rfl rfl ?_
  refine x_ld 0 1 1 25 rfl rfl rfl rfl rfl ?_
  refine x_ld 0 1 1 26 rfl rfl rfl rfl rfl ?_
  refine x_cst (zi 4) 1 27 rfl rfl rfl ?_
  refine x_lsh ((x2.toUInt64 >>> ((Int32.ofInt 4).toInt64.toUInt64 &&& Int64.toUInt64 63)).toInt64) 28 rfl rfl rfl rfl ?_
  refine x_lbn (x2 + ((x2.toUInt64 >>> ((Int32.ofInt 4).toInt64.toUInt64 &&& Int64.toUInt64 63)).toInt64)) 29 rfl rfl rfl rfl ?_
  refine x_kl 318 _ 32 rfl rfl rfl ?_
  refine x_lbn ((x2 + ((x2.toUInt64 >>> ((Int32.ofInt 4).toInt64.toUInt64 &&& Int64.toUInt64 63)).toInt64)) &&& 1085102592571150095) 33 rfl rfl rfl rfl ?_
  obtain ⟨x3, e_x3⟩ : ∃ x : Int64, x = (x2 + ((x2.toUInt64 >>> ((Int32.ofInt 4).toInt64.toUInt64 &&& Int64.toUInt64 63)).toInt64)) &&& 1085102592571150095 := ⟨_, rfl⟩
  rw [← e_x3]
  refine x_sl 0 1 34 [some (.long x3), none] rfl rfl (Nat.le_of_ble_eq_true rfl) rfl rfl ?_
  refine x_ld 0 1 1 35 rfl rfl rfl rfl rfl ?_
  refine x_ld 0 1 1 36 rfl rfl rfl rfl rfl ?_
  refine x_cst (zi 8) 2 38 rfl rfl rfl ?_
  refine x_lsh ((x3.toUInt64 >>> ((Int32.ofInt 8).toInt64.toUInt64 &&& Int64.toUInt64 63)).toInt64) 39 rfl rfl rfl rfl ?_
  refine x_lbn (x3 + ((x3.toUInt64 >>> ((Int32.ofInt 8).toInt64.toUInt64 &&& Int64.toUInt64 63)).toInt64)) 40 rfl rfl rfl rfl ?_
  obtain ⟨x4, e_x4⟩ : ∃ x : Int64, x = x3 + ((x3.toUInt64 >>> ((Int32.ofInt 8).toInt64.toUInt64 &&& Int64.toUInt64 63)).toInt64) := ⟨_, rfl⟩
  rw [← e_x4]
  refine x_sl 0 1 41 [some (.long x4), none] rfl rfl (Nat.le_of_ble_eq_true rfl) rfl rfl ?_
  refine x_ld 0 1 1 42 rfl rfl rfl rfl rfl ?_
  refine x_ld 0 1 1 43 rfl rfl rfl rfl rfl ?_
  refine x_cst (zi 16) 2 45 rfl rfl rfl ?_
  refine x_lsh ((x4.toUInt64 >>> ((Int32.ofInt 16).toInt64.toUInt64 &&& Int64.toUInt64 63)).toInt64) 46 rfl rfl rfl rfl ?_
  refine x_lbn (x4 + ((x4.toUInt64 >>> ((Int32.ofInt 16).toInt64.toUInt64 &&& Int64.toUInt64 63)).toInt64)) 47 rfl rfl rfl rfl ?_
  obtain ⟨x5, e_x5⟩ : ∃ x : Int64, x = x4 + ((x4.toUInt64 >>> ((Int32.ofInt 16).toInt64.toUInt64 &&& Int64.toUInt64 63)).toInt64) := ⟨_, rfl⟩
  rw [← e_x5]
  refine x_sl 0 1 48 [some (.long x5), none] rfl rfl (Nat.le_of_ble_eq_true rfl) rfl rfl ?_
  refine x_ld 0 1 1 49 rfl rfl rfl rfl rfl ?_
  refine x_ld 0 1 1 50 rfl rfl rfl rfl rfl ?_
  refine x_cst (zi 32) 2 52 rfl rfl rfl ?_
  refine x_lsh ((x5.toUInt64 >>> ((Int32.ofInt 32).toInt64.toUInt64 &&& Int64.toUInt64 63)).toInt64) 53 rfl rfl rfl rfl ?_
  refine x_lbn (x5 + ((x5.toUInt64 >>> ((Int32.ofInt 32).toInt64.toUInt64 &&& Int64.toUInt64 63)).toInt64)) 54 rfl rfl rfl rfl ?_
  obtain ⟨x6, e_x6⟩ : ∃ x : Int64, x = x5 + ((x5.toUInt64 >>> ((Int32.ofInt 32).toInt64.toUInt64 &&& Int64.toUInt64 63)).toInt64) := ⟨_, rfl⟩
  rw [← e_x6]
  refine x_sl 0 1 55 [some (.long x6), none] rfl rfl (Nat.le_of_ble_eq_true rfl) rfl rfl ?_
  refine x_ld 0 1 1 56 rfl rfl rfl rfl rfl ?_
  refine x_un (.int x6.toInt32) 57 rfl rfl rfl ?_
  refine x_cst (zi 127) 2 59 rfl rfl rfl ?_
  refine x_bin _ 60 rfl rfl (popc f x1 x2 x3 x4 x5 x6 e_x1 e_x2 e_x3 e_x4 e_x5 e_x6) rfl ?_
  refine x_ret rfl rfl rfl rfl ?_
  exact ⟨rfl, rfl⟩
theorem c26 (d : Nat) {f : Nat → Bool} {k : Nat} (hk : k < 64) (h1 : f k = true) (h2 : ∀ i, i < k → f i = false) {hh : ab_H} : ab_S (pg_G L xs) (d + 2) 26 [.long (wd f)] hh (some (zi (k : Nat))) hh := by
  show ab_W (pg_G L xs) (ab_X (pg_G L xs) (d + 1)) 26 _ 0 [some (.long (wd f)), none] [] hh
  refine x_ld 0 1 1 1 rfl rfl rfl rfl rfl ?_
  refine x_ld 0 1 1 2 rfl rfl rfl rfl rfl ?_
  refine x_un (.long (-(wd f))) 3 rfl rfl rfl ?_
  refine x_lbn ((wd f) &&& (-(wd f))) 4 rfl rfl rfl rfl ?_
  refine x_cst (.long 1) 1 5 rfl rfl rfl ?_
  refine x_lbn (wd (fun i => decide (i < k))) 6 rfl rfl (wd_low hk h1 h2) rfl ?_
  refine x_cv 27 27 9 [.long (wd (fun i => decide (i < k)))] rfl rfl rfl (Nat.le_of_ble_eq_true rfl) rfl rfl (Nat.le_of_ble_eq_true rfl) trivial (Nat.le_of_ble_eq_true rfl) (c27 d (fun i => decide (i < k))) rfl ?_
  refine x_ret rfl rfl rfl rfl ?_
  exact ⟨by rw [cnt_lt k 64 (by omega)], rfl⟩
theorem c56_loop (d : Nat) {s w : Nat} (h : isT s w) {Q : ab_Q} (kk : Q (.inl (some (zi (cnt (sN (M.2.1 w)) 1152 : Nat)))) (hp M ++ es)) : ∀ m n : Nat, 18 - n = m → n ≤ 18 → ab_W (pg_G L xs) (ab_X (pg_G L xs) (d + 1)) 56 Q 4 [some (.ref s), some (zi (cnt (sN (M.2.1 w)) (64 * n) : Nat)), some (zi (n : Nat))] [] (hp M ++ es) := by
  intro m
  induction m using Nat.strongRecOn with
  | _ m ih =>
    intro n hm hn
    refine x_ld 2 1 0 5 rfl rfl rfl rfl rfl ?_
    refine x_cst (zi 18) 2 7 rfl rfl rfl ?_
    refine z_icge 28 10 rfl rfl rfl ⟨by omega, by omega⟩ (rg_lit 18 rfl) (fun c7 => ?_) (fun c7 => ?_)
    · refine x_ld 1 1 0 29 rfl rfl rfl rfl rfl ?_
      refine x_ret rfl rfl rfl rfl ?_
      have e : n = 18 := by omega
      subst e; exact kk
    · refine x_ld 1 1 0 11 rfl rfl rfl rfl rfl ?_
      refine x_ld 0 1 2 12 rfl rfl rfl rfl rfl ?_
      refine g_T h 11 15 rfl rfl rfl ?_
      refine x_ld 2 1 0 16 rfl rfl rfl rfl rfl ?_
      refine z_lld 17 rfl h.2.1 rfl ⟨by omega, by omega⟩ rfl ?_
      refine x_cv 27 27 20 [.long (wd (fun i => M.2.1 w (64 * ((n : Nat) : Int) + (i : Int))))] rfl rfl rfl (Nat.le_of_ble_eq_true rfl) rfl rfl (Nat.le_of_ble_eq_true rfl) trivial (Nat.le_of_ble_eq_true rfl) (c27 d (fun i => M.2.1 w (64 * (n : Int) + (i : Int)))) rfl ?_
      refine z_add 21 rfl rfl ?_
      rw [show ((cnt (sN (M.2.1 w)) (64 * n) : Nat) : Int) + ((cnt (fun i => M.2.1 w (64 * (n : Int) + (i : Int))) 64 : Nat) : Int) = ((cnt (sN (M.2.1 w)) (64 * (n + 1)) : Nat) : Int) from (by rw [show 64 * (n + 1) = 64 * n + 64 by omega, cnt_add, Int.natCast_add]; rfl)]
      refine x_st 1 1 0 22 [some (.ref s), some (zi ((cnt (sN (M.2.1 w)) (64 * (n + 1)) : Nat) : Int)), some (zi ((n : Nat) : Int))] rfl rfl rfl (Nat.le_of_ble_eq_true rfl) rfl rfl ?_
      refine z_inc 2 25 [some (.ref s), some (zi ((cnt (sN (M.2.1 w)) (64 * (n + 1)) : Nat) : Int)), some (zi (((n : Nat) : Int) + 1))] rfl rfl (Nat.le_of_ble_eq_true rfl) rfl rfl ?_
      refine x_go 4 rfl rfl ?_
      exact ih (18 - (n + 1)) (by omega) (n + 1) rfl (by omega)
theorem c56 (d : Nat) {s w : Nat} (h : isT s w) : ab_S (pg_G L xs) (d + 2) 56 [.ref s] (hp M ++ es) (some (zi (cnt (sN (M.2.1 w)) 1152 : Nat))) (hp M ++ es) := by
  show ab_W (pg_G L xs) (ab_X (pg_G L xs) (d + 1)) 56 _ 0 [some (.ref s), none, none] [] (hp M ++ es)
  refine x_cst (zi 0) 1 1 rfl rfl rfl ?_
  refine x_st 1 1 0 2 [some (.ref s), some (zi 0), none] rfl rfl rfl (Nat.le_of_ble_eq_true rfl) rfl rfl ?_
  refine x_cst (zi 0) 1 3 rfl rfl rfl ?_
  refine x_st 2 1 0 4 [some (.ref s), some (zi 0), some (zi 0)] rfl rfl rfl (Nat.le_of_ble_eq_true rfl) rfl rfl ?_
  exact c56_loop d h ⟨rfl, rfl⟩ _ 0 rfl (Nat.zero_le _)
theorem c25_loop (d : Nat) {s1 w1 s2 w2 : Nat} (h1 : isT s1 w1) (h2 : isT s2 w2) {Q : ab_Q} (kk : ∀ x, lst (fun t : Nat => t < 1152 ∧ (M.2.1 w1 t && M.2.1 w2 t) = true) x → Q (.inl (some (zi x))) (hp M ++ es)) : ∀ m n : Nat, 18 - n = m → n ≤ 18 → (∀ t : Nat, t < 64 * n → (M.2.1 w1 t && M.2.1 w2 t) = false) → ∀ o3 o4, ab_W (pg_G L xs) (ab_X (pg_G L xs) (d + 2)) 25 Q 2 [some (.ref s1), some (.ref s2), some (zi (n : Nat)), o3, o4] [] (hp M ++ es) := by
  intro m
  induction m using Nat.strongRecOn with
  | _ m ih =>
    intro n hm hn hbf o3 o4
    refine x_ld 2 1 0 3 rfl rfl rfl rfl rfl ?_
    refine x_cst (zi 18) 2 5 rfl rfl rfl ?_
    refine z_icge 44 8 rfl rfl rfl ⟨by omega, by omega⟩ (rg_lit 18 rfl) (fun c5 => ?_) (fun c5 => ?_)
    · refine x_cst (zi (-1)) 1 45 rfl rfl rfl ?_
      refine x_ret rfl rfl rfl rfl ?_
      refine kk (-1) (.inl ⟨rfl, ?_⟩)
      intro t ht
      have := hbf t (by omega)
      rw [ht.2] at this; cases this
    · refine x_ld 0 1 2 9 rfl rfl rfl rfl rfl ?_
      refine g_T h1 11 12 rfl rfl rfl ?_
      refine x_ld 2 1 0 13 rfl rfl rfl rfl rfl ?_
      refine z_lld 14 rfl h1.2.1 rfl ⟨by omega, by omega⟩ rfl ?_
      refine x_ld 1 1 2 15 rfl rfl rfl rfl rfl ?_
      refine g_T h2 11 18 rfl rfl rfl ?_
      refine x_ld 2 1 0 19 rfl rfl rfl rfl rfl ?_
      refine z_lld 20 rfl h2.2.1 rfl ⟨by omega, by omega⟩ rfl ?_
      refine x_lbn (wd (fun i : Nat => M.2.1 w1 (64 * ((n : Nat) : Int) + (i : Int)) && M.2.1 w2 (64 * ((n : Nat) : Int) + (i : Int)))) 21 rfl rfl (wd_and _ _) rfl ?_
      refine x_sl 3 1 22 [some (.ref s1), some (.ref s2), some (zi ((n : Nat) : Int)), some (.long (wd (fun i : Nat => M.2.1 w1 (64 * ((n : Nat) : Int) + (i : Int)) && M.2.1 w2 (64 * ((n : Nat) : Int) + (i : Int))))), none] rfl rfl (Nat.le_of_ble_eq_true rfl) rfl rfl ?_
      refine x_ld 3 1 1 23 rfl rfl rfl rfl rfl ?_
      refine x_cst (.long 0) 1 24 rfl rfl rfl ?_
      by_cases hz : ∃ i, i < 64 ∧ (fun i : Nat => M.2.1 w1 (64 * ((n : Nat) : Int) + (i : Int)) && M.2.1 w2 (64 * ((n : Nat) : Int) + (i : Int))) i = true
      · have hex : ∃ k, k < 64 ∧ (fun i : Nat => M.2.1 w1 (64 * ((n : Nat) : Int) + (i : Int)) && M.2.1 w2 (64 * ((n : Nat) : Int) + (i : Int))) k = true ∧ ∀ i, i < k → (fun i : Nat => M.2.1 w1 (64 * ((n : Nat) : Int) + (i : Int)) && M.2.1 w2 (64 * ((n : Nat) : Int) + (i : Int))) i = false := by
          obtain ⟨i, hi, hb⟩ := hz
          have q1 := fi_found (p := (fun i : Nat => M.2.1 w1 (64 * ((n : Nat) : Int) + (i : Int)) && M.2.1 w2 (64 * ((n : Nat) : Int) + (i : Int)))) (n := i) (i := 0) ⟨i, Nat.zero_le _, Nat.le_refl _, hb⟩
          have q2 := fi_le (fun i : Nat => M.2.1 w1 (64 * ((n : Nat) : Int) + (i : Int)) && M.2.1 w2 (64 * ((n : Nat) : Int) + (i : Int))) i 0
          exact ⟨_, by omega, q1, fun j hj => fi_before (p := (fun i : Nat => M.2.1 w1 (64 * ((n : Nat) : Int) + (i : Int)) && M.2.1 w2 (64 * ((n : Nat) : Int) + (i : Int)))) (n := i) (i := 0) (Nat.zero_le _) hj⟩
        obtain ⟨k, hk, hk1, hk2⟩ := hex
        have hnz : ¬ wd (fun i : Nat => M.2.1 w1 (64 * ((n : Nat) : Int) + (i : Int)) && M.2.1 w2 (64 * ((n : Nat) : Int) + (i : Int))) = 0 := fun e => absurd (hk1.symm.trans (wd_eq_zero.mp e k hk)) (by decide)
        have hcm : ¬ lg_cmp (wd (fun i : Nat => M.2.1 w1 (64 * ((n : Nat) : Int) + (i : Int)) && M.2.1 w2 (64 * ((n : Nat) : Int) + (i : Int)))) 0 = 0 := lg_ne hnz
        refine x_cmp 25 rfl rfl ?_
        refine x_ifeq 38 28 rfl rfl rfl (fun c => absurd c hcm) (fun _ => ?_)
        refine x_cst (zi 64) 2 30 rfl rfl rfl ?_
        refine x_ld 2 1 0 31 rfl rfl rfl rfl rfl ?_
        refine z_mul 32 rfl rfl ?_
        refine x_ld 3 1 1 33 rfl rfl rfl rfl rfl ?_
        refine x_cv 33 26 36 [.long (wd (fun i : Nat => M.2.1 w1 (64 * ((n : Nat) : Int) + (i : Int)) && M.2.1 w2 (64 * ((n : Nat) : Int) + (i : Int))))] rfl rfl rfl (Nat.le_of_ble_eq_true rfl) rfl rfl (Nat.le_of_ble_eq_true rfl) trivial (Nat.le_of_ble_eq_true rfl) (c26 d hk hk1 hk2) rfl ?_
        refine z_add 37 rfl rfl ?_
        refine x_ret rfl rfl rfl rfl ?_
        refine kk _ (.inr ⟨64 * n + k, by omega, ⟨by omega, ?_⟩, ?_⟩)
        · rw [Int.natCast_add, Int.natCast_mul]; exact hk1
        · intro t ht hd
          rcases Nat.lt_or_ge t (64 * n) with e | e
          · have := hbf t e
            rw [hd.2] at this; cases this
          · have h3 := hk2 (t - 64 * n) (by omega)
            have h4 : (M.2.1 w1 t && M.2.1 w2 t) = false := by
              rw [show (t : Int) = 64 * (n : Int) + ((t - 64 * n : Nat) : Int) by omega]; exact h3
            rw [hd.2] at h4; cases h4
      · have hz0 : ∀ i, i < 64 → (fun i : Nat => M.2.1 w1 (64 * ((n : Nat) : Int) + (i : Int)) && M.2.1 w2 (64 * ((n : Nat) : Int) + (i : Int))) i = false := fun i hi => by rcases Bool.eq_false_or_eq_true ((fun i : Nat => M.2.1 w1 (64 * ((n : Nat) : Int) + (i : Int)) && M.2.1 w2 (64 * ((n : Nat) : Int) + (i : Int))) i) with e | e; (· exact absurd ⟨i, hi, e⟩ hz); (· exact e)
        rw [wd_eq_zero.mpr hz0]
        refine x_cmp 25 rfl rfl ?_
        refine x_ifeq 38 28 rfl rfl rfl (fun _ => ?_) (fun c => absurd rfl c)
        refine z_inc 2 41 [some (.ref s1), some (.ref s2), some (zi (((n : Nat) : Int) + 1)), some (.long 0), none] rfl rfl (Nat.le_of_ble_eq_true rfl) rfl rfl ?_
        refine x_go 2 rfl rfl ?_
        refine ih (18 - (n + 1)) (by omega) (n + 1) rfl (by omega) (fun t ht => ?_) _ _
        rcases Nat.lt_or_ge t (64 * n) with e | e
        · exact hbf t e
        · rw [show (t : Int) = 64 * (n : Int) + ((t - 64 * n : Nat) : Int) by omega]; exact hz0 (t - 64 * n) (by omega)
theorem c25 (d : Nat) {s1 w1 s2 w2 : Nat} (h1 : isT s1 w1) (h2 : isT s2 w2) : ab_Z (pg_G L xs) (d + 3) 25 [.ref s1, .ref s2] M es (fun v M' => M' = M ∧ ∃ x, v = some (zi x) ∧ lst (fun t : Nat => t < 1152 ∧ (M.2.1 w1 t && M.2.1 w2 t) = true) x) := by
  show ab_W (pg_G L xs) (ab_X (pg_G L xs) (d + 2)) 25 _ 0 [some (.ref s1), some (.ref s2), none, none, none] [] (hp M ++ es)
  refine x_cst (zi 0) 1 1 rfl rfl rfl ?_
  refine x_st 2 1 0 2 [some (.ref s1), some (.ref s2), some (zi 0), none, none] rfl rfl rfl (Nat.le_of_ble_eq_true rfl) rfl rfl ?_
  exact c25_loop d h1 h2 (fun x hx => ⟨some (zi x), M, rfl, rfl, rfl, x, rfl, hx⟩) _ 0 rfl (Nat.zero_le _) (fun t ht => absurd ht (by omega)) _ _
theorem c101_loop (d : Nat) {s1 w1 s2 w2 : Nat} (h1 : isT s1 w1) (h2 : isT s2 w2) {Q : ab_Q} (kk : ∀ x, lst (fun t : Nat => t < 1152 ∧ (M.2.1 w1 t ^^ M.2.1 w2 t) = true) x → Q (.inl (some (zi x))) (hp M ++ es)) : ∀ m n : Nat, 18 - n = m → n ≤ 18 → (∀ t : Nat, t < 64 * n → (M.2.1 w1 t ^^ M.2.1 w2 t) = false) → ∀ o3 o4, ab_W (pg_G L xs) (ab_X (pg_G L xs) (d + 2)) 101 Q 2 [some (.ref s1), some (.ref s2), some (zi (n : Nat)), o3, o4] [] (hp M ++ es) := by
  intro m
  induction m using Nat.strongRecOn with
  | _ m ih =>
    intro n hm hn hbf o3 o4
    refine x_ld 2 1 0 3 rfl rfl rfl rfl rfl ?_
    refine x_cst (zi 18) 2 5 rfl rfl rfl ?_
    refine z_icge 44 8 rfl rfl rfl ⟨by omega, by omega⟩ (rg_lit 18 rfl) (fun c5 => ?_) (fun c5 => ?_)
    · refine x_cst (zi (-1)) 1 45 rfl rfl rfl ?_
      refine x_ret rfl rfl rfl rfl ?_
      refine kk (-1) (.inl ⟨rfl, ?_⟩)
      intro t ht
      have := hbf t (by omega)
      rw [ht.2] at this; cases this
    · refine x_ld 0 1 2 9 rfl rfl rfl rfl rfl ?_
      refine g_T h1 11 12 rfl rfl rfl ?_
      refine x_ld 2 1 0 13 rfl rfl rfl rfl rfl ?_
      refine z_lld 14 rfl h1.2.1 rfl ⟨by omega, by omega⟩ rfl ?_
      refine x_ld 1 1 2 15 rfl rfl rfl rfl rfl ?_
      refine g_T h2 11 18 rfl rfl rfl ?_
      refine x_ld 2 1 0 19 rfl rfl rfl rfl rfl ?_
      refine z_lld 20 rfl h2.2.1 rfl ⟨by omega, by omega⟩ rfl ?_
      refine x_lbn (wd (fun i : Nat => M.2.1 w1 (64 * ((n : Nat) : Int) + (i : Int)) ^^ M.2.1 w2 (64 * ((n : Nat) : Int) + (i : Int)))) 21 rfl rfl (wd_xor _ _) rfl ?_
      refine x_sl 3 1 22 [some (.ref s1), some (.ref s2), some (zi ((n : Nat) : Int)), some (.long (wd (fun i : Nat => M.2.1 w1 (64 * ((n : Nat) : Int) + (i : Int)) ^^ M.2.1 w2 (64 * ((n : Nat) : Int) + (i : Int))))), none] rfl rfl (Nat.le_of_ble_eq_true rfl) rfl rfl ?_
      refine x_ld 3 1 1 23 rfl rfl rfl rfl rfl ?_
      refine x_cst (.long 0) 1 24 rfl rfl rfl ?_
      by_cases hz : ∃ i, i < 64 ∧ (fun i : Nat => M.2.1 w1 (64 * ((n : Nat) : Int) + (i : Int)) ^^ M.2.1 w2 (64 * ((n : Nat) : Int) + (i : Int))) i = true
      · have hex : ∃ k, k < 64 ∧ (fun i : Nat => M.2.1 w1 (64 * ((n : Nat) : Int) + (i : Int)) ^^ M.2.1 w2 (64 * ((n : Nat) : Int) + (i : Int))) k = true ∧ ∀ i, i < k → (fun i : Nat => M.2.1 w1 (64 * ((n : Nat) : Int) + (i : Int)) ^^ M.2.1 w2 (64 * ((n : Nat) : Int) + (i : Int))) i = false := by
          obtain ⟨i, hi, hb⟩ := hz
          have q1 := fi_found (p := (fun i : Nat => M.2.1 w1 (64 * ((n : Nat) : Int) + (i : Int)) ^^ M.2.1 w2 (64 * ((n : Nat) : Int) + (i : Int)))) (n := i) (i := 0) ⟨i, Nat.zero_le _, Nat.le_refl _, hb⟩
          have q2 := fi_le (fun i : Nat => M.2.1 w1 (64 * ((n : Nat) : Int) + (i : Int)) ^^ M.2.1 w2 (64 * ((n : Nat) : Int) + (i : Int))) i 0
          exact ⟨_, by omega, q1, fun j hj => fi_before (p := (fun i : Nat => M.2.1 w1 (64 * ((n : Nat) : Int) + (i : Int)) ^^ M.2.1 w2 (64 * ((n : Nat) : Int) + (i : Int)))) (n := i) (i := 0) (Nat.zero_le _) hj⟩
        obtain ⟨k, hk, hk1, hk2⟩ := hex
        have hnz : ¬ wd (fun i : Nat => M.2.1 w1 (64 * ((n : Nat) : Int) + (i : Int)) ^^ M.2.1 w2 (64 * ((n : Nat) : Int) + (i : Int))) = 0 := fun e => absurd (hk1.symm.trans (wd_eq_zero.mp e k hk)) (by decide)
        have hcm : ¬ lg_cmp (wd (fun i : Nat => M.2.1 w1 (64 * ((n : Nat) : Int) + (i : Int)) ^^ M.2.1 w2 (64 * ((n : Nat) : Int) + (i : Int)))) 0 = 0 := lg_ne hnz
        refine x_cmp 25 rfl rfl ?_
        refine x_ifeq 38 28 rfl rfl rfl (fun c => absurd c hcm) (fun _ => ?_)
        refine x_cst (zi 64) 2 30 rfl rfl rfl ?_
        refine x_ld 2 1 0 31 rfl rfl rfl rfl rfl ?_
        refine z_mul 32 rfl rfl ?_
        refine x_ld 3 1 1 33 rfl rfl rfl rfl rfl ?_
        refine x_cv 33 26 36 [.long (wd (fun i : Nat => M.2.1 w1 (64 * ((n : Nat) : Int) + (i : Int)) ^^ M.2.1 w2 (64 * ((n : Nat) : Int) + (i : Int))))] rfl rfl rfl (Nat.le_of_ble_eq_true rfl) rfl rfl (Nat.le_of_ble_eq_true rfl) trivial (Nat.le_of_ble_eq_true rfl) (c26 d hk hk1 hk2) rfl ?_
        refine z_add 37 rfl rfl ?_
        refine x_ret rfl rfl rfl rfl ?_
        refine kk _ (.inr ⟨64 * n + k, by omega, ⟨by omega, ?_⟩, ?_⟩)
        · rw [Int.natCast_add, Int.natCast_mul]; exact hk1
        · intro t ht hd
          rcases Nat.lt_or_ge t (64 * n) with e | e
          · have := hbf t e
            rw [hd.2] at this; cases this
          · have h3 := hk2 (t - 64 * n) (by omega)
            have h4 : (M.2.1 w1 t ^^ M.2.1 w2 t) = false := by
              rw [show (t : Int) = 64 * (n : Int) + ((t - 64 * n : Nat) : Int) by omega]; exact h3
            rw [hd.2] at h4; cases h4
      · have hz0 : ∀ i, i < 64 → (fun i : Nat => M.2.1 w1 (64 * ((n : Nat) : Int) + (i : Int)) ^^ M.2.1 w2 (64 * ((n : Nat) : Int) + (i : Int))) i = false := fun i hi => by rcases Bool.eq_false_or_eq_true ((fun i : Nat => M.2.1 w1 (64 * ((n : Nat) : Int) + (i : Int)) ^^ M.2.1 w2 (64 * ((n : Nat) : Int) + (i : Int))) i) with e | e; (· exact absurd ⟨i, hi, e⟩ hz); (· exact e)
        rw [wd_eq_zero.mpr hz0]
        refine x_cmp 25 rfl rfl ?_
        refine x_ifeq 38 28 rfl rfl rfl (fun _ => ?_) (fun c => absurd rfl c)
        refine z_inc 2 41 [some (.ref s1), some (.ref s2), some (zi (((n : Nat) : Int) + 1)), some (.long 0), none] rfl rfl (Nat.le_of_ble_eq_true rfl) rfl rfl ?_
        refine x_go 2 rfl rfl ?_
        refine ih (18 - (n + 1)) (by omega) (n + 1) rfl (by omega) (fun t ht => ?_) _ _
        rcases Nat.lt_or_ge t (64 * n) with e | e
        · exact hbf t e
        · rw [show (t : Int) = 64 * (n : Int) + ((t - 64 * n : Nat) : Int) by omega]; exact hz0 (t - 64 * n) (by omega)
theorem c101 (d : Nat) {s1 w1 s2 w2 : Nat} (h1 : isT s1 w1) (h2 : isT s2 w2) : ab_Z (pg_G L xs) (d + 3) 101 [.ref s1, .ref s2] M es (fun v M' => M' = M ∧ ∃ x, v = some (zi x) ∧ lst (fun t : Nat => t < 1152 ∧ (M.2.1 w1 t ^^ M.2.1 w2 t) = true) x) := by
  show ab_W (pg_G L xs) (ab_X (pg_G L xs) (d + 2)) 101 _ 0 [some (.ref s1), some (.ref s2), none, none, none] [] (hp M ++ es)
  refine x_cst (zi 0) 1 1 rfl rfl rfl ?_
  refine x_st 2 1 0 2 [some (.ref s1), some (.ref s2), some (zi 0), none, none] rfl rfl rfl (Nat.le_of_ble_eq_true rfl) rfl rfl ?_
  exact c101_loop d h1 h2 (fun x hx => ⟨some (zi x), M, rfl, rfl, rfl, x, rfl, hx⟩) _ 0 rfl (Nat.zero_le _) (fun t ht => absurd ht (by omega)) _ _
end C3
