/-! OURS, printed by wip/tools/gen91.py: the reference's bits and texts. -/
/-- a part's set in a row of sets -/
abbrev mS (B : Int → Bool) (k : Nat) : Nat → Bool := fun t => B (1152 * (k : Int) + (t : Int))
section D1
variable {L : Nat} {xs : Nat → Int32} {M : mm} {es : ab_H}
theorem c123 (d : Nat) {a n : Nat} (h : isL a n) {k t : Nat} (ht : t < 1152) (hk : 18 * k + 18 ≤ n) : ab_S (pg_G L xs) (d + 1) 123 [.ref a, zi ((k : Nat) : Int), zi ((t : Nat) : Int)] (hp M ++ es) (some (zi (bz (M.2.1 a (1152 * ((k : Nat) : Int) + ((t : Nat) : Int)))))) (hp M ++ es) := by
  have hn := h.2.1
  show ab_W (pg_G L xs) (ab_X (pg_G L xs) d) 123 _ 0 [some (.ref a), some (zi ((k : Nat) : Int)), some (zi ((t : Nat) : Int))] [] (hp M ++ es)
  refine x_ld 0 1 2 1 rfl rfl rfl rfl rfl ?_
  refine x_cst (zi 18) 2 3 rfl rfl rfl ?_
  refine x_ld 1 1 0 4 rfl rfl rfl rfl rfl ?_
  refine z_mul 5 rfl rfl ?_
  refine x_ld 2 1 0 6 rfl rfl rfl rfl rfl ?_
  refine x_cst (zi 64) 2 8 rfl rfl rfl ?_
  refine z_div 9 rfl ⟨by omega, by omega⟩ ⟨by omega, by omega⟩ rfl ?_
  refine z_add 10 rfl rfl ?_
  refine z_lld 11 rfl h rfl ⟨by omega, by omega⟩ rfl ?_
  refine x_ld 2 1 0 12 rfl rfl rfl rfl rfl ?_
  refine x_cst (zi 64) 2 14 rfl rfl rfl ?_
  refine z_rem 15 rfl ⟨by omega, by omega⟩ ⟨by omega, by omega⟩ rfl ?_
  refine x_lsh ((wd (fun i => M.2.1 a (64 * ((18 * ((k : Nat) : Int)) + (((t : Nat) : Int) / 64)) + (i : Int)))) >>> ((Int32.ofInt (((t : Nat) : Int) % 64)).toInt64 &&& 63)) 16 rfl rfl rfl rfl ?_
  refine x_cst (.long 1) 1 17 rfl rfl rfl ?_
  refine x_lbn (bif M.2.1 a (1152 * ((k : Nat) : Int) + ((t : Nat) : Int)) then 1 else 0) 18 rfl rfl ((bit_s (B := M.2.1 a) (z := 64 * (18 * ((k : Nat) : Int) + ((t : Nat) : Int) / 64)) (t := ((t : Nat) : Int) % 64) (by omega) (by omega)).trans (by rw [show 64 * (18 * ((k : Nat) : Int) + ((t : Nat) : Int) / 64) + ((t : Nat) : Int) % 64 = 1152 * ((k : Nat) : Int) + ((t : Nat) : Int) by omega])) rfl ?_
  refine x_cst (.long 1) 1 19 rfl rfl rfl ?_
  cases hb : M.2.1 a (1152 * ((k : Nat) : Int) + ((t : Nat) : Int)) with
  | true =>
    refine x_cmp 20 rfl rfl ?_
    refine x_ifne 27 23 rfl rfl rfl (fun c => absurd rfl c) (fun _ => ?_)
    refine x_cst (zi 1) 1 24 rfl rfl rfl ?_
    refine x_go 28 rfl rfl ?_
    refine x_ret rfl rfl rfl rfl ?_
    exact ⟨rfl, rfl⟩
  | false =>
    refine x_cmp 20 rfl rfl ?_
    refine x_ifne 27 23 rfl rfl rfl (fun _ => ?_) (fun c => absurd c (by decide))
    refine x_cst (zi 0) 1 28 rfl rfl rfl ?_
    refine x_ret rfl rfl rfl rfl ?_
    exact ⟨rfl, rfl⟩
theorem c121 (d : Nat) {a n : Nat} (h : isL a n) {k t : Nat} (ht : t < 1152) (hk : 18 * k + 18 ≤ n) : ab_S (pg_G L xs) (d + 1) 121 [.ref a, zi ((k : Nat) : Int), zi ((t : Nat) : Int)] (hp M ++ es) none (hp (rB M a (adB (M.2.1 a) (1152 * ((k : Nat) : Int) + ((t : Nat) : Int)))) ++ es) := by
  have hn := h.2.1
  show ab_W (pg_G L xs) (ab_X (pg_G L xs) d) 121 _ 0 [some (.ref a), some (zi ((k : Nat) : Int)), some (zi ((t : Nat) : Int))] [] (hp M ++ es)
  refine x_ld 0 1 2 1 rfl rfl rfl rfl rfl ?_
  refine x_cst (zi 18) 2 3 rfl rfl rfl ?_
  refine x_ld 1 1 0 4 rfl rfl rfl rfl rfl ?_
  refine z_mul 5 rfl rfl ?_
  refine x_ld 2 1 0 6 rfl rfl rfl rfl rfl ?_
  refine x_cst (zi 64) 2 8 rfl rfl rfl ?_
  refine z_div 9 rfl ⟨by omega, by omega⟩ ⟨by omega, by omega⟩ rfl ?_
  refine z_add 10 rfl rfl ?_
  refine x_ld 0 1 2 11 rfl rfl rfl rfl rfl ?_
  refine x_cst (zi 18) 2 13 rfl rfl rfl ?_
  refine x_ld 1 1 0 14 rfl rfl rfl rfl rfl ?_
  refine z_mul 15 rfl rfl ?_
  refine x_ld 2 1 0 16 rfl rfl rfl rfl rfl ?_
  refine x_cst (zi 64) 2 18 rfl rfl rfl ?_
  refine z_div 19 rfl ⟨by omega, by omega⟩ ⟨by omega, by omega⟩ rfl ?_
  refine z_add 20 rfl rfl ?_
  refine z_lld 21 rfl h rfl ⟨by omega, by omega⟩ rfl ?_
  refine x_cst (.long 1) 1 22 rfl rfl rfl ?_
  refine x_ld 2 1 0 23 rfl rfl rfl rfl rfl ?_
  refine x_cst (zi 64) 2 25 rfl rfl rfl ?_
  refine z_rem 26 rfl ⟨by omega, by omega⟩ ⟨by omega, by omega⟩ rfl ?_
  refine x_lsh (1 <<< ((Int32.ofInt (((t : Nat) : Int) % 64)).toInt64 &&& 63)) 27 rfl rfl rfl rfl ?_
  refine x_lbn (wd (fun i => M.2.1 a (64 * (18 * ((k : Nat) : Int) + ((t : Nat) : Int) / 64) + (i : Int)) || decide ((i : Int) = ((t : Nat) : Int) % 64 % 64))) 28 rfl rfl (or_one (by omega) (by omega)) rfl ?_
  refine z_lst 29 rfl h rfl ⟨by omega, by omega⟩ rfl ?_
  refine x_rtv rfl rfl ?_
  refine ⟨rfl, ?_⟩
  have e := upw_add (M.2.1 a) (1152 * ((k : Nat) : Int) + ((t : Nat) : Int))
  rw [show (1152 * ((k : Nat) : Int) + ((t : Nat) : Int)) / 64 = 18 * ((k : Nat) : Int) + ((t : Nat) : Int) / 64 by omega, show (1152 * ((k : Nat) : Int) + ((t : Nat) : Int)) % 64 = ((t : Nat) : Int) % 64 % 64 by omega] at e
  rw [e]; rfl
theorem c125_loop (d : Nat) {w : List Nat} (hw : tx_L w) (h6 : w.length ≤ 6) {Q : ab_Q} (kk : Q (.inl (some (zi (w.length : Nat)))) (hp M ++ es)) : ∀ m n : Nat, w.length - n = m → n ≤ w.length → ab_W (pg_G L xs) (ab_X (pg_G L xs) d) 125 Q 2 [some (.ref 572), some (zi (tx_num w : Nat)), some (zi (n : Nat))] [] (hp M ++ es) := by
  have hlt := num_lt hw h6
  intro m
  induction m using Nat.strongRecOn with
  | _ m ih =>
    intro n hm hn
    refine x_ld 0 1 2 3 rfl rfl rfl rfl rfl ?_
    refine g_572_0 7 6 rfl rfl rfl ?_
    refine x_ld 2 1 0 7 rfl rfl rfl rfl rfl ?_
    refine x_cst (zi 1) 1 8 rfl rfl rfl ?_
    refine z_add 9 rfl rfl ?_
    have hst := tx_len_le hw (n := n)
    have hs7 := tx_st_mono (show n + 1 ≤ 7 by omega)
    rw [tx_st_7] at hs7
    refine z_mst (n + 1) 10 rfl (by omega) (by omega) rfl ?_
    refine x_ld 1 1 0 11 rfl rfl rfl rfl rfl ?_
    refine z_icgt 20 14 rfl rfl rfl ⟨by omega, by omega⟩ ⟨by omega, by omega⟩ (fun c11 => ?_) (fun c11 => ?_)
    · refine x_ld 2 1 0 21 rfl rfl rfl rfl rfl ?_
      refine x_ret rfl rfl rfl rfl ?_
      have e : n = w.length := by omega
      subst e; exact kk
    · refine z_inc 2 17 [some (.ref 572), some (zi ((tx_num w : Nat) : Int)), some (zi (((n : Nat) : Int) + 1))] rfl rfl (Nat.le_of_ble_eq_true rfl) rfl rfl ?_
      refine x_go 2 rfl rfl ?_
      exact ih (w.length - (n + 1)) (by omega) (n + 1) rfl (by omega)
theorem c125 (d : Nat) {w : List Nat} (hw : tx_L w) (h6 : w.length ≤ 6) : ab_S (pg_G L xs) (d + 1) 125 [.ref 572, zi (tx_num w : Nat)] (hp M ++ es) (some (zi (w.length : Nat))) (hp M ++ es) := by
  show ab_W (pg_G L xs) (ab_X (pg_G L xs) d) 125 _ 0 [some (.ref 572), some (zi ((tx_num w : Nat) : Int)), none] [] (hp M ++ es)
  refine x_cst (zi 0) 1 1 rfl rfl rfl ?_
  refine x_st 2 1 0 2 [some (.ref 572), some (zi ((tx_num w : Nat) : Int)), some (zi 0)] rfl rfl rfl (Nat.le_of_ble_eq_true rfl) rfl rfl ?_
  exact c125_loop d hw h6 ⟨rfl, rfl⟩ _ 0 rfl (Nat.zero_le _)
theorem c126 (d : Nat) {w : List Nat} (hw : tx_L w) (h6 : w.length ≤ 6) {i : Nat} (hi : i ≤ w.length) : ab_S (pg_G L xs) (d + 2) 126 [.ref 572, zi (tx_num w : Nat), zi (i : Nat)] (hp M ++ es) (some (zi (tx_num (w.take i) : Nat))) (hp M ++ es) := by
  have hlt := num_lt hw h6
  have hge := tx_num_ge w
  have hp1 : 3 ^ (w.length - i) ≤ 3 ^ 6 := Nat.pow_le_pow_right (by omega) (by omega)
  have hp2 : 0 < 3 ^ (w.length - i) := Nat.pow_pos (by omega)
  rw [show (3 ^ 6 : Nat) = 729 from rfl] at hp1
  have hf2 : ((tx_st i : Nat) : Int) + ((tx_num w : Int) - (tx_st w.length : Nat)) / ((3 ^ (w.length - i) : Nat) : Int) = (tx_num (w.take i) : Nat) := by
    rw [← tx_front hw hi, ← Int.natCast_sub hge, ← Int.natCast_ediv, ← Int.natCast_add]
  have hr2 : ((tx_st (w.length - i) : Nat) : Int) + ((tx_num w : Int) - (tx_st w.length : Nat)) % ((3 ^ (w.length - i) : Nat) : Int) = (tx_num (w.drop i) : Nat) := by
    rw [← tx_rest hw i, ← Int.natCast_sub hge, ← Int.natCast_emod, ← Int.natCast_add]
  show ab_W (pg_G L xs) (ab_X (pg_G L xs) (d + 1)) 126 _ 0 [some (.ref 572), some (zi ((tx_num w : Nat) : Int)), some (zi ((i : Nat) : Int)), none] [] (hp M ++ es)
  refine x_ld 0 1 2 1 rfl rfl rfl rfl rfl ?_
  refine x_ld 1 1 0 2 rfl rfl rfl rfl rfl ?_
  refine x_cv 221 125 5 [.ref 572, zi ((tx_num w : Nat) : Int)] rfl rfl rfl (Nat.le_of_ble_eq_true rfl) rfl rfl (Nat.le_of_ble_eq_true rfl) ⟨_, _, _, rfl, o_572⟩ (Nat.le_of_ble_eq_true rfl) (c125 d hw h6) rfl ?_
  refine x_st 3 1 0 6 [some (.ref 572), some (zi ((tx_num w : Nat) : Int)), some (zi ((i : Nat) : Int)), some (zi ((w.length : Nat) : Int))] rfl rfl rfl (Nat.le_of_ble_eq_true rfl) rfl rfl ?_
  refine x_ld 0 1 2 7 rfl rfl rfl rfl rfl ?_
  refine g_572_0 7 10 rfl rfl rfl ?_
  refine x_ld 2 1 0 11 rfl rfl rfl rfl rfl ?_
  refine z_mst (i) 12 rfl (by omega) (by omega) rfl ?_
  refine x_ld 1 1 0 13 rfl rfl rfl rfl rfl ?_
  refine x_ld 0 1 2 14 rfl rfl rfl rfl rfl ?_
  refine g_572_0 7 17 rfl rfl rfl ?_
  refine x_ld 3 1 0 18 rfl rfl rfl rfl rfl ?_
  refine z_mst (w.length) 19 rfl (by omega) (by omega) rfl ?_
  refine z_sub 20 rfl rfl ?_
  refine x_ld 0 1 2 21 rfl rfl rfl rfl rfl ?_
  refine g_572_1 13 24 rfl rfl rfl ?_
  refine x_ld 3 1 0 25 rfl rfl rfl rfl rfl ?_
  refine x_ld 2 1 0 26 rfl rfl rfl rfl rfl ?_
  refine z_sub 27 rfl rfl ?_
  rw [show ((w.length : Nat) : Int) - ((i : Nat) : Int) = ((w.length - i : Nat) : Int) from (by omega)]
  refine z_mpw (w.length - i) 28 rfl (by omega) (by omega) rfl ?_
  refine z_div 29 rfl ⟨by omega, by omega⟩ ⟨by omega, by omega⟩ rfl ?_
  refine z_add 30 rfl rfl ?_
  rw [show ((tx_st (i) : Nat) : Int) + ((((tx_num w : Nat) : Int) - ((tx_st (w.length) : Nat) : Int)) / ((3 ^ (w.length - i) : Nat) : Int)) = ((tx_num (w.take i) : Nat) : Int) from hf2]
  refine x_ret rfl rfl rfl rfl ?_
  exact ⟨rfl, rfl⟩
theorem c127 (d : Nat) {w : List Nat} (hw : tx_L w) (h6 : w.length ≤ 6) {i : Nat} (hi : i ≤ w.length) : ab_S (pg_G L xs) (d + 2) 127 [.ref 572, zi (tx_num w : Nat), zi (i : Nat)] (hp M ++ es) (some (zi (tx_num (w.drop i) : Nat))) (hp M ++ es) := by
  have hlt := num_lt hw h6
  have hge := tx_num_ge w
  have hp1 : 3 ^ (w.length - i) ≤ 3 ^ 6 := Nat.pow_le_pow_right (by omega) (by omega)
  have hp2 : 0 < 3 ^ (w.length - i) := Nat.pow_pos (by omega)
  rw [show (3 ^ 6 : Nat) = 729 from rfl] at hp1
  have hf2 : ((tx_st i : Nat) : Int) + ((tx_num w : Int) - (tx_st w.length : Nat)) / ((3 ^ (w.length - i) : Nat) : Int) = (tx_num (w.take i) : Nat) := by
    rw [← tx_front hw hi, ← Int.natCast_sub hge, ← Int.natCast_ediv, ← Int.natCast_add]
  have hr2 : ((tx_st (w.length - i) : Nat) : Int) + ((tx_num w : Int) - (tx_st w.length : Nat)) % ((3 ^ (w.length - i) : Nat) : Int) = (tx_num (w.drop i) : Nat) := by
    rw [← tx_rest hw i, ← Int.natCast_sub hge, ← Int.natCast_emod, ← Int.natCast_add]
  show ab_W (pg_G L xs) (ab_X (pg_G L xs) (d + 1)) 127 _ 0 [some (.ref 572), some (zi ((tx_num w : Nat) : Int)), some (zi ((i : Nat) : Int)), none] [] (hp M ++ es)
  refine x_ld 0 1 2 1 rfl rfl rfl rfl rfl ?_
  refine x_ld 1 1 0 2 rfl rfl rfl rfl rfl ?_
  refine x_cv 221 125 5 [.ref 572, zi ((tx_num w : Nat) : Int)] rfl rfl rfl (Nat.le_of_ble_eq_true rfl) rfl rfl (Nat.le_of_ble_eq_true rfl) ⟨_, _, _, rfl, o_572⟩ (Nat.le_of_ble_eq_true rfl) (c125 d hw h6) rfl ?_
  refine x_st 3 1 0 6 [some (.ref 572), some (zi ((tx_num w : Nat) : Int)), some (zi ((i : Nat) : Int)), some (zi ((w.length : Nat) : Int))] rfl rfl rfl (Nat.le_of_ble_eq_true rfl) rfl rfl ?_
  refine x_ld 0 1 2 7 rfl rfl rfl rfl rfl ?_
  refine g_572_0 7 10 rfl rfl rfl ?_
  refine x_ld 3 1 0 11 rfl rfl rfl rfl rfl ?_
  refine x_ld 2 1 0 12 rfl rfl rfl rfl rfl ?_
  refine z_sub 13 rfl rfl ?_
  rw [show ((w.length : Nat) : Int) - ((i : Nat) : Int) = ((w.length - i : Nat) : Int) from (by omega)]
  refine z_mst (w.length - i) 14 rfl (by omega) (by omega) rfl ?_
  refine x_ld 1 1 0 15 rfl rfl rfl rfl rfl ?_
  refine x_ld 0 1 2 16 rfl rfl rfl rfl rfl ?_
  refine g_572_0 7 19 rfl rfl rfl ?_
  refine x_ld 3 1 0 20 rfl rfl rfl rfl rfl ?_
  refine z_mst (w.length) 21 rfl (by omega) (by omega) rfl ?_
  refine z_sub 22 rfl rfl ?_
  refine x_ld 0 1 2 23 rfl rfl rfl rfl rfl ?_
  refine g_572_1 13 26 rfl rfl rfl ?_
  refine x_ld 3 1 0 27 rfl rfl rfl rfl rfl ?_
  refine x_ld 2 1 0 28 rfl rfl rfl rfl rfl ?_
  refine z_sub 29 rfl rfl ?_
  rw [show ((w.length : Nat) : Int) - ((i : Nat) : Int) = ((w.length - i : Nat) : Int) from (by omega)]
  refine z_mpw (w.length - i) 30 rfl (by omega) (by omega) rfl ?_
  refine z_rem 31 rfl ⟨by omega, by omega⟩ ⟨by omega, by omega⟩ rfl ?_
  refine z_add 32 rfl rfl ?_
  rw [show ((tx_st (w.length - i) : Nat) : Int) + ((((tx_num w : Nat) : Int) - ((tx_st (w.length) : Nat) : Int)) % ((3 ^ (w.length - i) : Nat) : Int)) = ((tx_num (w.drop i) : Nat) : Int) from hr2]
  refine x_ret rfl rfl rfl rfl ?_
  exact ⟨rfl, rfl⟩
def clP (B : Int → Bool) (k n : Nat) : Int → Bool := fun j => if 1152 * (k : Int) ≤ j ∧ j < 1152 * (k : Int) + 64 * (n : Int) then false else B j
theorem upw_clP (B : Int → Bool) (k n : Nat) : upw (clP B k n) (18 * (k : Int) + (n : Int)) (fun _ => false) = clP B k (n + 1) := by
  funext j
  unfold upw clP
  by_cases h : 64 * (18 * (k : Int) + (n : Int)) ≤ j ∧ j < 64 * (18 * (k : Int) + (n : Int)) + 64
  · rw [if_pos h, if_pos (by omega)]
  · rw [if_neg h]
    by_cases h2 : 1152 * (k : Int) ≤ j ∧ j < 1152 * (k : Int) + 64 * (n : Int)
    · rw [if_pos h2, if_pos (by omega)]
    · rw [if_neg h2, if_neg (by omega)]
theorem clP_0 (B : Int → Bool) (k : Nat) : clP B k 0 = B := by
  funext j; unfold clP; rw [if_neg (by omega)]
theorem c119_loop (d : Nat) {a N k : Nat} (h : isL a N) (hk : 18 * k + 18 ≤ N) {Q : ab_Q} (kk : Q (.inl none) (hp (rB M a (clP (M.2.1 a) k 18)) ++ es)) : ∀ m n : Nat, 18 - n = m → n ≤ 18 → ab_W (pg_G L xs) (ab_X (pg_G L xs) d) 119 Q 2 [some (.ref 572), some (.ref a), some (zi (k : Nat)), some (zi (n : Nat))] [] (hp (rB M a (clP (M.2.1 a) k n)) ++ es) := by
  have hN := h.2.1
  intro m
  induction m using Nat.strongRecOn with
  | _ m ih =>
    intro n hm hn
    refine x_ld 3 1 0 3 rfl rfl rfl rfl rfl ?_
    refine x_cst (zi 18) 2 5 rfl rfl rfl ?_
    refine z_icge 23 8 rfl rfl rfl ⟨by omega, by omega⟩ (rg_lit 18 rfl) (fun c5 => ?_) (fun c5 => ?_)
    · refine x_rtv rfl rfl ?_
      have e : n = 18 := by omega
      subst e; exact kk
    · refine x_ld 1 1 2 9 rfl rfl rfl rfl rfl ?_
      refine x_cst (zi 18) 2 11 rfl rfl rfl ?_
      refine x_ld 2 1 0 12 rfl rfl rfl rfl rfl ?_
      refine z_mul 13 rfl rfl ?_
      refine x_ld 3 1 0 14 rfl rfl rfl rfl rfl ?_
      refine z_add 15 rfl rfl ?_
      refine x_cst (.long 0) 1 16 rfl rfl rfl ?_
      rw [← wd_zero]
      refine z_lst 17 rfl h rfl ⟨by omega, by omega⟩ rfl ?_
      refine z_inc 3 20 [some (.ref 572), some (.ref a), some (zi ((k : Nat) : Int)), some (zi (((n : Nat) : Int) + 1))] rfl rfl (Nat.le_of_ble_eq_true rfl) rfl rfl ?_
      refine x_go 2 rfl rfl ?_
      rw [rB_at, rB_rB, upw_clP]
      exact ih (18 - (n + 1)) (by omega) (n + 1) rfl (by omega)
theorem c119 (d : Nat) {a N k : Nat} (h : isL a N) (hk : 18 * k + 18 ≤ N) : ab_S (pg_G L xs) (d + 1) 119 [.ref 572, .ref a, zi (k : Nat)] (hp M ++ es) none (hp (rB M a (clP (M.2.1 a) k 18)) ++ es) := by
  show ab_W (pg_G L xs) (ab_X (pg_G L xs) d) 119 _ 0 [some (.ref 572), some (.ref a), some (zi ((k : Nat) : Int)), none] [] (hp M ++ es)
  refine x_cst (zi 0) 1 1 rfl rfl rfl ?_
  refine x_st 3 1 0 2 [some (.ref 572), some (.ref a), some (zi ((k : Nat) : Int)), some (zi 0)] rfl rfl rfl (Nat.le_of_ble_eq_true rfl) rfl rfl ?_
  have q := c119_loop (L := L) (xs := xs) d (M := M) (es := es) h hk (Q := fun r h' => r = .inl none ∧ h' = hp (rB M a (clP (M.2.1 a) k 18)) ++ es) ⟨rfl, rfl⟩ _ 0 rfl (Nat.zero_le _)
  rw [clP_0, rB_self] at q; exact q
end D1
