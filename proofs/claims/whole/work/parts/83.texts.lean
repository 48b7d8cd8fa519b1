/-! OURS, printed by wip/tools/gen83.py: texts and sets of the class. -/
def hasB (B : Int → Bool) (t : Int) : Bool := decide (0 ≤ t) && decide (t < 1093) && B t
def adB (B : Int → Bool) (t : Int) : Int → Bool := fun j => B j || decide (j = t)
/-- a text's number, or LONG -/
def nz (w : List Nat) : Int := if w.length ≤ 6 then (tx_num w : Int) else -2
theorem nz_le {w : List Nat} (h : w.length ≤ 6) : nz w = (tx_num w : Int) := if_pos h
theorem nz_gt {w : List Nat} (h : ¬ w.length ≤ 6) : nz w = -2 := if_neg h
theorem num_lt {w : List Nat} (h : tx_L w) (h6 : w.length ≤ 6) : tx_num w < 1093 := (tx_six h).mp h6
theorem hasB_in {B : Int → Bool} {t : Int} (h0 : 0 ≤ t) (h1 : t < 1093) : hasB B t = B t := by
  unfold hasB; simp [h0, h1]
theorem hasB_out {B : Int → Bool} {t : Int} (h : t < 0 ∨ 1093 ≤ t) : hasB B t = false := by
  unfold hasB
  rcases h with h | h
  · rw [decide_eq_false (by omega)]; rfl
  · rw [decide_eq_false (p := t < 1093) (by omega)]; simp
section C1
variable {L : Nat} {xs : Nat → Int32} {M : mm} {es : ab_H}
theorem c38 (d : Nat) {s w : Nat} (h : isT s w) {t : Int} (ht : rg t) : ab_S (pg_G L xs) (d + 1) 38 [.ref s, zi t] (hp M ++ es) (some (zi (bz (hasB (M.2.1 w) t)))) (hp M ++ es) := by
  show ab_W (pg_G L xs) (ab_X (pg_G L xs) d) 38 _ 0 [some (.ref s), some (zi t)] [] (hp M ++ es)
  refine x_ld 1 1 0 1 rfl rfl rfl rfl rfl ?_
  refine z_iflt 33 4 rfl rfl rfl ht (fun c1 => ?_) (fun c1 => ?_)
  · refine x_cst (zi 0) 1 34 rfl rfl rfl ?_
    refine x_ret rfl rfl rfl rfl ?_
    exact ⟨by rw [hasB_out (.inl c1)]; rfl, rfl⟩
  · refine x_ld 1 1 0 5 rfl rfl rfl rfl rfl ?_
    refine x_cst (zi 1093) 3 8 rfl rfl rfl ?_
    refine z_icge 33 11 rfl rfl rfl ht (rg_lit 1093 rfl) (fun c8 => ?_) (fun c8 => ?_)
    · refine x_cst (zi 0) 1 34 rfl rfl rfl ?_
      refine x_ret rfl rfl rfl rfl ?_
      exact ⟨by rw [hasB_out (.inr c8)]; rfl, rfl⟩
    · refine x_ld 0 1 2 12 rfl rfl rfl rfl rfl ?_
      refine g_T h 11 15 rfl rfl rfl ?_
      refine x_ld 1 1 0 16 rfl rfl rfl rfl rfl ?_
      refine x_cst (zi 6) 2 18 rfl rfl rfl ?_
      refine z_shr 19 rfl ⟨by omega, by omega⟩ rfl ?_
      refine z_lld 20 rfl h.2.1 rfl ⟨by omega, by omega⟩ rfl ?_
      refine x_ld 1 1 0 21 rfl rfl rfl rfl rfl ?_
      refine x_lsh (((wd (fun i => M.2.1 w (64 * (t / 64) + (i : Int)))).toUInt64 >>> ((Int32.ofInt t).toInt64.toUInt64 &&& Int64.toUInt64 63)).toInt64) 22 rfl rfl rfl rfl ?_
      refine x_cst (.long 1) 1 23 rfl rfl rfl ?_
      refine x_lbn (bif M.2.1 w t then 1 else 0) 24 rfl rfl (bit_u (by omega) (by omega)) rfl ?_
      refine x_cst (.long 0) 1 25 rfl rfl rfl ?_
      cases hb : M.2.1 w t with
      | true =>
        refine x_cmp 26 rfl rfl ?_
        refine x_ifeq 33 29 rfl rfl rfl (fun c => absurd c (by decide)) (fun _ => ?_)
        refine x_cst (zi 1) 1 30 rfl rfl rfl ?_
        refine x_go 34 rfl rfl ?_
        refine x_ret rfl rfl rfl rfl ?_
        exact ⟨by rw [hasB_in (by omega) (by omega), hb]; rfl, rfl⟩
      | false =>
        refine x_cmp 26 rfl rfl ?_
        refine x_ifeq 33 29 rfl rfl rfl (fun _ => ?_) (fun c => absurd rfl c)
        refine x_cst (zi 0) 1 34 rfl rfl rfl ?_
        refine x_ret rfl rfl rfl rfl ?_
        exact ⟨by rw [hasB_in (by omega) (by omega), hb]; rfl, rfl⟩
theorem c39 (d : Nat) {s w : Nat} (h : isT s w) {t : Int} (h0 : 0 ≤ t) (h1 : t < 1093) : ab_S (pg_G L xs) (d + 1) 39 [.ref s, zi t] (hp M ++ es) none (hp (rB M w (adB (M.2.1 w) t)) ++ es) := by
  show ab_W (pg_G L xs) (ab_X (pg_G L xs) d) 39 _ 0 [some (.ref s), some (zi t)] [] (hp M ++ es)
  refine x_ld 1 1 0 1 rfl rfl rfl rfl rfl ?_
  refine z_iflt 26 4 rfl rfl rfl ⟨by omega, by omega⟩ (fun c => absurd c (by omega)) (fun _ => ?_)
  refine x_ld 1 1 0 5 rfl rfl rfl rfl rfl ?_
  refine x_cst (zi 1093) 3 8 rfl rfl rfl ?_
  refine z_icge 26 11 rfl rfl rfl ⟨by omega, by omega⟩ (rg_lit 1093 rfl) (fun c => absurd c (by omega)) (fun _ => ?_)
  refine x_ld 0 1 2 12 rfl rfl rfl rfl rfl ?_
  refine g_T h 11 15 rfl rfl rfl ?_
  refine x_ld 1 1 0 16 rfl rfl rfl rfl rfl ?_
  refine x_cst (zi 6) 2 18 rfl rfl rfl ?_
  refine z_shr 19 rfl ⟨by omega, by omega⟩ rfl ?_
  refine x_dp2 20 rfl rfl rfl rfl ?_
  refine z_lld 21 rfl h.2.1 rfl ⟨by omega, by omega⟩ rfl ?_
  refine x_cst (.long 1) 1 22 rfl rfl rfl ?_
  refine x_ld 1 1 0 23 rfl rfl rfl rfl rfl ?_
  refine x_lsh (1 <<< ((Int32.ofInt t).toInt64 &&& 63)) 24 rfl rfl rfl rfl ?_
  refine x_lbn (wd (fun i => M.2.1 w (64 * (t / 64) + (i : Int)) || decide ((i : Int) = t % 64))) 25 rfl rfl (or_one (by omega) (by omega)) rfl ?_
  refine z_lst 26 rfl h.2.1 rfl ⟨by omega, by omega⟩ rfl ?_
  refine x_rtv rfl rfl ?_
  exact ⟨rfl, by rw [upw_add]; rfl⟩
theorem c36_loop (d : Nat) {w : List Nat} (hw : tx_L w) (h6 : w.length ≤ 6) {Q : ab_Q} {hh : ab_H} (kk : Q (.inl (some (zi (w.length : Nat)))) hh) : ∀ m n : Nat, w.length - n = m → n ≤ w.length → ab_W (pg_G L xs) (ab_X (pg_G L xs) d) 36 Q 2 [some (zi (tx_num w : Nat)), some (zi (n : Nat))] [] hh := by
  have hlt := num_lt hw h6
  intro m
  induction m using Nat.strongRecOn with
  | _ m ih =>
    intro n hm hn
    refine x_ld 1 1 0 3 rfl rfl rfl rfl rfl ?_
    refine x_cst (zi 6) 2 5 rfl rfl rfl ?_
    refine z_icge 25 8 rfl rfl rfl ⟨by omega, by omega⟩ (rg_lit 6 rfl) (fun c5 => ?_) (fun c5 => ?_)
    · refine x_ld 1 1 0 26 rfl rfl rfl rfl rfl ?_
      refine x_ret rfl rfl rfl rfl ?_
      rw [show n = w.length by omega]; exact kk
    · refine x_ld 0 1 0 9 rfl rfl rfl rfl rfl ?_
      refine x_sta 9 1000000 12 rfl rfl rfl ?_
      refine x_ld 1 1 0 13 rfl rfl rfl rfl rfl ?_
      refine x_cst (zi 1) 1 14 rfl rfl rfl ?_
      refine z_add 15 rfl rfl ?_
      have hst := tx_len_le hw (n := n)
      have hs7 := tx_st_mono (show n + 1 ≤ 7 by omega)
      rw [tx_st_7] at hs7
      refine z_st (n + 1) 16 rfl (by omega) (by omega) rfl ?_
      refine z_iclt 25 19 rfl rfl rfl ⟨by omega, by omega⟩ ⟨by omega, by omega⟩ (fun c16 => ?_) (fun c16 => ?_)
      · refine x_ld 1 1 0 26 rfl rfl rfl rfl rfl ?_
        refine x_ret rfl rfl rfl rfl ?_
        rw [show n = w.length by omega]; exact kk
      · refine z_inc 1 22 [some (zi ((tx_num w : Nat) : Int)), some (zi (((n : Nat) : Int) + 1))] rfl rfl (Nat.le_of_ble_eq_true rfl) rfl rfl ?_
        refine x_go 2 rfl rfl ?_
        exact ih (w.length - (n + 1)) (by omega) (n + 1) rfl (by omega)
theorem c36 (d : Nat) {w : List Nat} (hw : tx_L w) (h6 : w.length ≤ 6) {hh : ab_H} : ab_S (pg_G L xs) (d + 1) 36 [zi (tx_num w : Nat)] hh (some (zi (w.length : Nat))) hh := by
  show ab_W (pg_G L xs) (ab_X (pg_G L xs) d) 36 _ 0 [some (zi (tx_num w : Nat)), none] [] hh
  refine x_cst (zi 0) 1 1 rfl rfl rfl ?_
  refine x_st 1 1 0 2 [some (zi (tx_num w : Nat)), some (zi ((0 : Nat) : Int))] rfl rfl rfl (Nat.le_of_ble_eq_true rfl) rfl rfl ?_
  exact c36_loop d hw h6 ⟨rfl, rfl⟩ _ 0 rfl (Nat.zero_le _)
theorem c70 (d : Nat) {u v : List Nat} (hu : tx_L u) (hv : tx_L v) {hh : ab_H} : ab_S (pg_G L xs) (d + 2) 70 [zi (nz u), zi (nz v)] hh (some (zi (nz (u ++ v)))) hh := by
  by_cases a6 : u.length ≤ 6
  · by_cases b6 : v.length ≤ 6
    · rw [nz_le a6, nz_le b6]
      have ha := num_lt hu a6
      have hb := num_lt hv b6
      have hl := List.length_append (as := u) (bs := v)
      show ab_W (pg_G L xs) (ab_X (pg_G L xs) (d + 1)) 70 _ 0 [some (zi ((tx_num u : Nat) : Int)), some (zi ((tx_num v : Nat) : Int)), none, none] [] hh
      refine x_ld 0 1 0 1 rfl rfl rfl rfl rfl ?_
      refine z_iflt 8 4 rfl rfl rfl ⟨by omega, by omega⟩ (fun c => absurd c (by omega)) (fun _ => ?_)
      refine x_ld 1 1 0 5 rfl rfl rfl rfl rfl ?_
      refine z_ifge 11 8 rfl rfl rfl ⟨by omega, by omega⟩ (fun _ => ?_) (fun c => absurd c (by omega))
      refine x_ld 0 1 0 12 rfl rfl rfl rfl rfl ?_
      refine x_cv 13 36 15 [zi ((tx_num u : Nat) : Int)] rfl rfl rfl (Nat.le_of_ble_eq_true rfl) rfl rfl (Nat.le_of_ble_eq_true rfl) trivial (Nat.le_of_ble_eq_true rfl) (c36 d hu a6) rfl ?_
      refine x_st 2 1 0 16 [some (zi ((tx_num u : Nat) : Int)), some (zi ((tx_num v : Nat) : Int)), some (zi ((u.length : Nat) : Int)), none] rfl rfl rfl (Nat.le_of_ble_eq_true rfl) rfl rfl ?_
      refine x_ld 1 1 0 17 rfl rfl rfl rfl rfl ?_
      refine x_cv 13 36 20 [zi ((tx_num v : Nat) : Int)] rfl rfl rfl (Nat.le_of_ble_eq_true rfl) rfl rfl (Nat.le_of_ble_eq_true rfl) trivial (Nat.le_of_ble_eq_true rfl) (c36 d hv b6) rfl ?_
      refine x_st 3 1 0 21 [some (zi ((tx_num u : Nat) : Int)), some (zi ((tx_num v : Nat) : Int)), some (zi ((u.length : Nat) : Int)), some (zi ((v.length : Nat) : Int))] rfl rfl rfl (Nat.le_of_ble_eq_true rfl) rfl rfl ?_
      refine x_ld 2 1 0 22 rfl rfl rfl rfl rfl ?_
      refine x_ld 3 1 0 23 rfl rfl rfl rfl rfl ?_
      refine z_add 24 rfl rfl ?_
      refine x_cst (zi 6) 2 26 rfl rfl rfl ?_
      refine z_icle 32 29 rfl rfl rfl ⟨by omega, by omega⟩ (rg_lit 6 rfl) (fun c26 => ?_) (fun c26 => ?_)
      · refine x_sta 9 1000000 35 rfl rfl rfl ?_
        refine x_ld 2 1 0 36 rfl rfl rfl rfl rfl ?_
        refine x_ld 3 1 0 37 rfl rfl rfl rfl rfl ?_
        refine z_add 38 rfl rfl ?_
        refine z_st (u.length + v.length) 39 rfl (by omega) (by omega) rfl ?_
        refine x_ld 0 1 0 40 rfl rfl rfl rfl rfl ?_
        refine x_sta 9 1000000 43 rfl rfl rfl ?_
        refine x_ld 2 1 0 44 rfl rfl rfl rfl rfl ?_
        refine z_st (u.length) 45 rfl (by omega) (by omega) rfl ?_
        refine z_sub 46 rfl rfl ?_
        refine x_sta 19 1000001 49 rfl rfl rfl ?_
        refine x_ld 3 1 0 50 rfl rfl rfl rfl rfl ?_
        refine z_pw (v.length) 51 rfl (by omega) (by omega) rfl ?_
        refine z_mul 52 rfl rfl ?_
        refine z_add 53 rfl rfl ?_
        refine x_ld 1 1 0 54 rfl rfl rfl rfl rfl ?_
        refine z_add 55 rfl rfl ?_
        refine x_sta 9 1000000 58 rfl rfl rfl ?_
        refine x_ld 3 1 0 59 rfl rfl rfl rfl rfl ?_
        refine z_st (v.length) 60 rfl (by omega) (by omega) rfl ?_
        refine z_sub 61 rfl rfl ?_
        refine x_ret rfl rfl rfl rfl ?_
        refine ⟨?_, rfl⟩
        rw [nz_le (by omega), tx_num_app]
        have e1 : (tx_num u : Int) - (tx_st u.length : Nat) = (tx_val u : Nat) := by unfold tx_num; omega
        have e2 : (tx_num v : Int) - (tx_st v.length : Nat) = (tx_val v : Nat) := by unfold tx_num; omega
        have e3 : ((tx_st (u.length + v.length) : Nat) : Int) + ((tx_num u : Int) - (tx_st u.length : Nat)) * ((3 ^ v.length : Nat) : Int) + (tx_num v : Int) - (tx_st v.length : Nat) = ((tx_st (u.length + v.length) + tx_val u * 3 ^ v.length + tx_val v : Nat) : Int) := by
          rw [e1, Int.natCast_add, Int.natCast_add, Int.natCast_mul]; omega
        rw [← e3]
      · refine x_cst (zi (-2)) 2 31 rfl rfl rfl ?_
        refine x_ret rfl rfl rfl rfl ?_
        refine ⟨?_, rfl⟩
        rw [nz_gt (by omega)]
    · rw [nz_le a6, nz_gt b6, nz_gt (by rw [List.length_append]; omega)]
      have ha := num_lt hu a6
      show ab_W (pg_G L xs) (ab_X (pg_G L xs) (d + 1)) 70 _ 0 [some (zi ((tx_num u : Nat) : Int)), some (zi (-2)), none, none] [] hh
      refine x_ld 0 1 0 1 rfl rfl rfl rfl rfl ?_
      refine z_iflt 8 4 rfl rfl rfl ⟨by omega, by omega⟩ (fun c => absurd c (by omega)) (fun _ => ?_)
      refine x_ld 1 1 0 5 rfl rfl rfl rfl rfl ?_
      refine z_ifge 11 8 rfl rfl rfl (rg_lit (-2) rfl) (fun c => absurd c (by omega)) (fun _ => ?_)
      refine x_cst (zi (-2)) 2 10 rfl rfl rfl ?_
      refine x_ret rfl rfl rfl rfl ?_
      exact ⟨rfl, rfl⟩
  · rw [nz_gt a6, nz_gt (w := u ++ v) (by rw [List.length_append]; omega)]
    show ab_W (pg_G L xs) (ab_X (pg_G L xs) (d + 1)) 70 _ 0 [some (zi (-2)), some (zi (nz v)), none, none] [] hh
    refine x_ld 0 1 0 1 rfl rfl rfl rfl rfl ?_
    refine z_iflt 8 4 rfl rfl rfl (rg_lit (-2) rfl) (fun _ => ?_) (fun c => absurd c (by omega))
    refine x_cst (zi (-2)) 2 10 rfl rfl rfl ?_
    refine x_ret rfl rfl rfl rfl ?_
    exact ⟨rfl, rfl⟩
end C1
