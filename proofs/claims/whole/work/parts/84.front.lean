/-! OURS, printed by wip/tools/gen84.py: the front of a text, what is behind it; loops over sets. -/
/-- a set as a function of text numbers -/
abbrev sN (B : Int → Bool) : Nat → Bool := fun t => B (t : Int)
section C2
variable {L : Nat} {xs : Nat → Int32} {M : mm} {es : ab_H}
theorem c69 (d : Nat) {w : List Nat} (hw : tx_L w) (h6 : w.length ≤ 6) {i : Nat} (hi : i ≤ w.length) {hh : ab_H} : ab_S (pg_G L xs) (d + 2) 69 [zi (tx_num w : Nat), zi (tx_num (w.take i) : Nat)] hh (some (zi (tx_num (w.drop i) : Nat))) hh := by
  have hlt := num_lt hw h6
  have hge := tx_num_ge w
  have hti : (w.take i).length = i := by rw [List.length_take]; omega
  have hp1 : 3 ^ (w.length - i) ≤ 3 ^ 6 := Nat.pow_le_pow_right (by omega) (by omega)
  have hp2 : 0 < 3 ^ (w.length - i) := Nat.pow_pos (by omega)
  rw [show (3 ^ 6 : Nat) = 729 from rfl] at hp1
  show ab_W (pg_G L xs) (ab_X (pg_G L xs) (d + 1)) 69 _ 0 [some (zi ((tx_num w : Nat) : Int)), some (zi ((tx_num (w.take i) : Nat) : Int)), none, none] [] hh
  refine x_ld 0 1 0 1 rfl rfl rfl rfl rfl ?_
  refine x_cv 13 36 4 [zi ((tx_num w : Nat) : Int)] rfl rfl rfl (Nat.le_of_ble_eq_true rfl) rfl rfl (Nat.le_of_ble_eq_true rfl) trivial (Nat.le_of_ble_eq_true rfl) (c36 d hw h6) rfl ?_
  refine x_st 2 1 0 5 [some (zi ((tx_num w : Nat) : Int)), some (zi ((tx_num (w.take i) : Nat) : Int)), some (zi ((w.length : Nat) : Int)), none] rfl rfl rfl (Nat.le_of_ble_eq_true rfl) rfl rfl ?_
  refine x_ld 2 1 0 6 rfl rfl rfl rfl rfl ?_
  refine x_ld 1 1 0 7 rfl rfl rfl rfl rfl ?_
  refine x_cv 13 36 10 [zi ((tx_num (w.take i) : Nat) : Int)] rfl rfl rfl (Nat.le_of_ble_eq_true rfl) rfl rfl (Nat.le_of_ble_eq_true rfl) trivial (Nat.le_of_ble_eq_true rfl) (c36 d (tx_L_take hw i) (by omega)) rfl ?_
  refine z_sub 11 rfl rfl ?_
  refine x_cst (zi 0) 1 12 rfl rfl rfl ?_
  refine z_max 28 15 rfl rfl (Nat.le_of_ble_eq_true rfl) ⟨by omega, by omega⟩ (rg_lit 0 rfl) rfl ?_
  rw [show max (((w.length : Nat) : Int) - (((w.take i).length : Nat) : Int)) 0 = ((w.length - i : Nat) : Int) from (by omega)]
  refine x_st 3 1 0 16 [some (zi ((tx_num w : Nat) : Int)), some (zi ((tx_num (w.take i) : Nat) : Int)), some (zi ((w.length : Nat) : Int)), some (zi ((w.length - i : Nat) : Int))] rfl rfl rfl (Nat.le_of_ble_eq_true rfl) rfl rfl ?_
  refine x_sta 9 1000000 19 rfl rfl rfl ?_
  refine x_ld 3 1 0 20 rfl rfl rfl rfl rfl ?_
  refine z_st (w.length - i) 21 rfl (by omega) (by omega) rfl ?_
  refine x_ld 0 1 0 22 rfl rfl rfl rfl rfl ?_
  refine x_sta 9 1000000 25 rfl rfl rfl ?_
  refine x_ld 2 1 0 26 rfl rfl rfl rfl rfl ?_
  refine z_st (w.length) 27 rfl (by omega) (by omega) rfl ?_
  refine z_sub 28 rfl rfl ?_
  refine x_sta 19 1000001 31 rfl rfl rfl ?_
  refine x_ld 3 1 0 32 rfl rfl rfl rfl rfl ?_
  refine z_pw (w.length - i) 33 rfl (by omega) (by omega) rfl ?_
  refine z_rem 34 rfl ⟨by omega, by omega⟩ ⟨by omega, by omega⟩ rfl ?_
  refine z_add 35 rfl rfl ?_
  refine x_ret rfl rfl rfl rfl ?_
  refine ⟨?_, rfl⟩
  rw [← tx_rest hw i, ← Int.natCast_sub hge, ← Int.natCast_emod, ← Int.natCast_add]
theorem c68_loop (d : Nat) {w : List Nat} (hw : tx_L w) (h6 : w.length ≤ 6) {s1 w1 s2 w2 : Nat} (h1 : isT s1 w1) (h2 : isT s2 w2) {Q : ab_Q} (hex : ∃ i, i ≤ w.length ∧ cp (sN (M.2.1 w1)) (sN (M.2.1 w2)) w i = true) (kk : Q (.inl (some (zi (tx_num (w.take (cut (sN (M.2.1 w1)) (sN (M.2.1 w2)) w)) : Nat)))) (hp M ++ es)) : ∀ m n : Nat, w.length - n = m → n ≤ w.length → (∀ i, i < n → cp (sN (M.2.1 w1)) (sN (M.2.1 w2)) w i = false) → ∀ o6 o7, ab_W (pg_G L xs) (ab_X (pg_G L xs) (d + 1)) 68 Q 17 [some (zi (tx_num w : Nat)), some (.ref s1), some (.ref s2), some (zi (w.length : Nat)), some (zi ((tx_num w : Int) - (tx_st w.length : Nat))), some (zi (n : Nat)), o6, o7] [] (hp M ++ es) := by
  have hlt := num_lt hw h6
  have hge := tx_num_ge w
  intro m
  induction m using Nat.strongRecOn with
  | _ m ih =>
    intro n hm hn hbf o6 o7
    have hp1 : 3 ^ (w.length - n) ≤ 3 ^ 6 := Nat.pow_le_pow_right (by omega) (by omega)
    have hp2 : 0 < 3 ^ (w.length - n) := Nat.pow_pos (by omega)
    rw [show (3 ^ 6 : Nat) = 729 from rfl] at hp1
    have hf := tx_front hw hn
    have hr := tx_rest hw n
    have hf2 : ((tx_st n : Nat) : Int) + ((tx_num w : Int) - (tx_st w.length : Nat)) / ((3 ^ (w.length - n) : Nat) : Int) = (tx_num (w.take n) : Nat) := by
      rw [← hf, ← Int.natCast_sub hge, ← Int.natCast_ediv, ← Int.natCast_add]
    have hr2 : ((tx_st (w.length - n) : Nat) : Int) + ((tx_num w : Int) - (tx_st w.length : Nat)) % ((3 ^ (w.length - n) : Nat) : Int) = (tx_num (w.drop n) : Nat) := by
      rw [← hr, ← Int.natCast_sub hge, ← Int.natCast_emod, ← Int.natCast_add]
    have l1 := num_lt (tx_L_take hw n) (by rw [List.length_take]; omega)
    have l2 := num_lt (tx_L_drop hw n) (by rw [List.length_drop]; omega)
    refine x_ld 5 2 0 19 rfl rfl rfl rfl rfl ?_
    refine x_ld 3 1 0 20 rfl rfl rfl rfl rfl ?_
    refine z_icgt 88 23 rfl rfl rfl ⟨by omega, by omega⟩ ⟨by omega, by omega⟩ (fun c => absurd c (by omega)) (fun _ => ?_)
    refine x_ld 3 1 0 24 rfl rfl rfl rfl rfl ?_
    refine x_ld 5 2 0 26 rfl rfl rfl rfl rfl ?_
    refine z_sub 27 rfl rfl ?_
    rw [show ((w.length : Nat) : Int) - ((n : Nat) : Int) = ((w.length - n : Nat) : Int) from (by omega)]
    refine x_st 6 2 0 29 [some (zi ((tx_num w : Nat) : Int)), some (.ref s1), some (.ref s2), some (zi ((w.length : Nat) : Int)), some (zi (((tx_num w : Nat) : Int) - ((tx_st w.length : Nat) : Int))), some (zi ((n : Nat) : Int)), some (zi ((w.length - n : Nat) : Int)), o7] rfl rfl rfl (Nat.le_of_ble_eq_true rfl) rfl rfl ?_
    refine x_sta 9 1000000 32 rfl rfl rfl ?_
    refine x_ld 5 2 0 34 rfl rfl rfl rfl rfl ?_
    refine z_st (n) 35 rfl (by omega) (by omega) rfl ?_
    refine x_ld 4 2 0 37 rfl rfl rfl rfl rfl ?_
    refine x_sta 19 1000001 40 rfl rfl rfl ?_
    refine x_ld 6 2 0 42 rfl rfl rfl rfl rfl ?_
    refine z_pw (w.length - n) 43 rfl (by omega) (by omega) rfl ?_
    refine z_div 44 rfl ⟨by omega, by omega⟩ ⟨by omega, by omega⟩ rfl ?_
    refine z_add 45 rfl rfl ?_
    rw [show ((tx_st (n) : Nat) : Int) + ((((tx_num w : Nat) : Int) - ((tx_st w.length : Nat) : Int)) / ((3 ^ (w.length - n) : Nat) : Int)) = ((tx_num (w.take n) : Nat) : Int) from hf2]
    refine x_st 7 2 0 47 [some (zi ((tx_num w : Nat) : Int)), some (.ref s1), some (.ref s2), some (zi ((w.length : Nat) : Int)), some (zi (((tx_num w : Nat) : Int) - ((tx_st w.length : Nat) : Int))), some (zi ((n : Nat) : Int)), some (zi ((w.length - n : Nat) : Int)), some (zi ((tx_num (w.take n) : Nat) : Int))] rfl rfl rfl (Nat.le_of_ble_eq_true rfl) rfl rfl ?_
    refine x_ld 1 1 2 48 rfl rfl rfl rfl rfl ?_
    refine x_ld 7 2 0 50 rfl rfl rfl rfl rfl ?_
    refine x_cv 22 38 53 [.ref s1, zi ((tx_num (w.take n) : Nat) : Int)] rfl rfl rfl (Nat.le_of_ble_eq_true rfl) rfl rfl (Nat.le_of_ble_eq_true rfl) ⟨_, _, _, rfl, oT h1⟩ (Nat.le_of_ble_eq_true rfl) (c38 d h1 (t := ((tx_num (w.take n) : Nat) : Int)) ⟨by omega, by omega⟩) rfl ?_
    rw [hasB_in (B := M.2.1 w1) (t := ((tx_num (w.take n) : Nat) : Int)) (by omega) (by omega)]
    rcases Bool.eq_false_or_eq_true (M.2.1 w1 ((tx_num (w.take n) : Nat) : Int)) with hb1 | hb1
    · rw [hb1]
      refine z_ifeq 82 56 rfl rfl rfl (rg_lit 1 rfl) (fun c => absurd c (by decide)) (fun _ => ?_)
      refine x_ld 2 1 2 57 rfl rfl rfl rfl rfl ?_
      refine x_sta 9 1000000 60 rfl rfl rfl ?_
      refine x_ld 6 2 0 62 rfl rfl rfl rfl rfl ?_
      refine z_st (w.length - n) 63 rfl (by omega) (by omega) rfl ?_
      refine x_ld 4 2 0 65 rfl rfl rfl rfl rfl ?_
      refine x_sta 19 1000001 68 rfl rfl rfl ?_
      refine x_ld 6 2 0 70 rfl rfl rfl rfl rfl ?_
      refine z_pw (w.length - n) 71 rfl (by omega) (by omega) rfl ?_
      refine z_rem 72 rfl ⟨by omega, by omega⟩ ⟨by omega, by omega⟩ rfl ?_
      refine z_add 73 rfl rfl ?_
      rw [show ((tx_st (w.length - n) : Nat) : Int) + ((((tx_num w : Nat) : Int) - ((tx_st w.length : Nat) : Int)) % ((3 ^ (w.length - n) : Nat) : Int)) = ((tx_num (w.drop n) : Nat) : Int) from hr2]
      refine x_cv 22 38 76 [.ref s2, zi ((tx_num (w.drop n) : Nat) : Int)] rfl rfl rfl (Nat.le_of_ble_eq_true rfl) rfl rfl (Nat.le_of_ble_eq_true rfl) ⟨_, _, _, rfl, oT h2⟩ (Nat.le_of_ble_eq_true rfl) (c38 d h2 (t := ((tx_num (w.drop n) : Nat) : Int)) ⟨by omega, by omega⟩) rfl ?_
      rw [hasB_in (B := M.2.1 w2) (t := ((tx_num (w.drop n) : Nat) : Int)) (by omega) (by omega)]
      rcases Bool.eq_false_or_eq_true (M.2.1 w2 ((tx_num (w.drop n) : Nat) : Int)) with hb2 | hb2
      · rw [hb2]
        refine z_ifeq 82 79 rfl rfl rfl (rg_lit 1 rfl) (fun c => absurd c (by decide)) (fun _ => ?_)
        refine x_ld 7 2 0 81 rfl rfl rfl rfl rfl ?_
        refine x_ret rfl rfl rfl rfl ?_
        have hc : cut (sN (M.2.1 w1)) (sN (M.2.1 w2)) w = n := fi_eq (Nat.zero_le _) hn (fun q _ hq => hbf q hq) (fun _ => by unfold cp; show (M.2.1 w1 _ && M.2.1 w2 _) = true; rw [hb1, hb2]; rfl)
        rw [hc] at kk; exact kk
      · rw [hb2]
        refine z_ifeq 82 79 rfl rfl rfl (rg_lit 0 rfl) (fun _ => ?_) (fun c => absurd c (by decide))
        refine z_inc 5 85 [some (zi ((tx_num w : Nat) : Int)), some (.ref s1), some (.ref s2), some (zi ((w.length : Nat) : Int)), some (zi (((tx_num w : Nat) : Int) - ((tx_st w.length : Nat) : Int))), some (zi (((n : Nat) : Int) + 1)), some (zi ((w.length - n : Nat) : Int)), some (zi ((tx_num (w.take n) : Nat) : Int))] rfl rfl (Nat.le_of_ble_eq_true rfl) rfl rfl ?_
        refine x_go 17 rfl rfl ?_
        have hcp : cp (sN (M.2.1 w1)) (sN (M.2.1 w2)) w n = false := by unfold cp; show (M.2.1 w1 _ && M.2.1 w2 _) = false; first | (rw [hb1]; rfl) | (rw [hb1, hb2]; rfl)
        have hnn : n < w.length := by
          rcases Nat.eq_or_lt_of_le hn with e | e
          · obtain ⟨i, hi, hc⟩ := hex
            rcases Nat.lt_or_ge i n with f | f
            · rw [hbf i f] at hc; cases hc
            · rw [show i = n by omega, hcp] at hc; cases hc
          · exact e
        exact ih (w.length - (n + 1)) (by omega) (n + 1) rfl (by omega) (fun i hi => by rcases Nat.eq_or_lt_of_le (Nat.le_of_lt_succ hi) with e | e; (· rw [e]; exact hcp); (· exact hbf i e)) _ _
    · rw [hb1]
      refine z_ifeq 82 56 rfl rfl rfl (rg_lit 0 rfl) (fun _ => ?_) (fun c => absurd c (by decide))
      refine z_inc 5 85 [some (zi ((tx_num w : Nat) : Int)), some (.ref s1), some (.ref s2), some (zi ((w.length : Nat) : Int)), some (zi (((tx_num w : Nat) : Int) - ((tx_st w.length : Nat) : Int))), some (zi (((n : Nat) : Int) + 1)), some (zi ((w.length - n : Nat) : Int)), some (zi ((tx_num (w.take n) : Nat) : Int))] rfl rfl (Nat.le_of_ble_eq_true rfl) rfl rfl ?_
      refine x_go 17 rfl rfl ?_
      have hcp : cp (sN (M.2.1 w1)) (sN (M.2.1 w2)) w n = false := by unfold cp; show (M.2.1 w1 _ && M.2.1 w2 _) = false; first | (rw [hb1]; rfl) | (rw [hb1, hb2]; rfl)
      have hnn : n < w.length := by
        rcases Nat.eq_or_lt_of_le hn with e | e
        · obtain ⟨i, hi, hc⟩ := hex
          rcases Nat.lt_or_ge i n with f | f
          · rw [hbf i f] at hc; cases hc
          · rw [show i = n by omega, hcp] at hc; cases hc
        · exact e
      exact ih (w.length - (n + 1)) (by omega) (n + 1) rfl (by omega) (fun i hi => by rcases Nat.eq_or_lt_of_le (Nat.le_of_lt_succ hi) with e | e; (· rw [e]; exact hcp); (· exact hbf i e)) _ _
theorem c68 (d : Nat) {w : List Nat} (hw : tx_L w) (h6 : w.length ≤ 6) {s1 w1 s2 w2 : Nat} (h1 : isT s1 w1) (h2 : isT s2 w2) (hex : ∃ i, i ≤ w.length ∧ cp (sN (M.2.1 w1)) (sN (M.2.1 w2)) w i = true) : ab_S (pg_G L xs) (d + 2) 68 [zi (tx_num w : Nat), .ref s1, .ref s2] (hp M ++ es) (some (zi (tx_num (w.take (cut (sN (M.2.1 w1)) (sN (M.2.1 w2)) w)) : Nat))) (hp M ++ es) := by
  show ab_W (pg_G L xs) (ab_X (pg_G L xs) (d + 1)) 68 _ 0 [some (zi ((tx_num w : Nat) : Int)), some (.ref s1), some (.ref s2), none, none, none, none, none] [] (hp M ++ es)
  refine x_ld 0 1 0 1 rfl rfl rfl rfl rfl ?_
  refine x_cv 13 36 4 [zi ((tx_num w : Nat) : Int)] rfl rfl rfl (Nat.le_of_ble_eq_true rfl) rfl rfl (Nat.le_of_ble_eq_true rfl) trivial (Nat.le_of_ble_eq_true rfl) (c36 d hw h6) rfl ?_
  refine x_st 3 1 0 5 [some (zi ((tx_num w : Nat) : Int)), some (.ref s1), some (.ref s2), some (zi ((w.length : Nat) : Int)), none, none, none, none] rfl rfl rfl (Nat.le_of_ble_eq_true rfl) rfl rfl ?_
  refine x_ld 0 1 0 6 rfl rfl rfl rfl rfl ?_
  refine x_sta 9 1000000 9 rfl rfl rfl ?_
  refine x_ld 3 1 0 10 rfl rfl rfl rfl rfl ?_
  refine z_st (w.length) 11 rfl (by omega) (by omega) rfl ?_
  refine z_sub 12 rfl rfl ?_
  refine x_st 4 2 0 14 [some (zi ((tx_num w : Nat) : Int)), some (.ref s1), some (.ref s2), some (zi ((w.length : Nat) : Int)), some (zi (((tx_num w : Nat) : Int) - ((tx_st (w.length) : Nat) : Int))), none, none, none] rfl rfl rfl (Nat.le_of_ble_eq_true rfl) rfl rfl ?_
  refine x_cst (zi 0) 1 15 rfl rfl rfl ?_
  refine x_st 5 2 0 17 [some (zi ((tx_num w : Nat) : Int)), some (.ref s1), some (.ref s2), some (zi ((w.length : Nat) : Int)), some (zi (((tx_num w : Nat) : Int) - ((tx_st (w.length) : Nat) : Int))), some (zi 0), none, none] rfl rfl rfl (Nat.le_of_ble_eq_true rfl) rfl rfl ?_
  exact c68_loop d hw h6 h1 h2 hex ⟨rfl, rfl⟩ _ 0 rfl (Nat.zero_le _) (fun i hi => absurd hi (Nat.not_lt_zero i)) _ _
end C2
