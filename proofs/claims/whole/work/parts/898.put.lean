/-! OURS, printed by wip/tools/gen898.py: putting into choices, pairs and repeats. -/
section C15
variable {L : Nat} {xs : Nat → Int32} {M : mm} {es : ab_H}
theorem c77_q (D : Nat) {p q r : Nat} (h : isP p) (hq : isP q) (hr : isP r) (eq : M.2.2 p 3 = q) (er : M.2.2 p 4 = r) {s v : List Nat} (hv : tx_L v) (v6 : v.length ≤ 6) {deep : Nat} {F : Int → mm → Prop} (c0 : ab_S (pg_G L xs) (D + 1) 66 [.ref p, zi ((tx_num s : Nat) : Int)] (hp M ++ es) (some (.ref q)) (hp M ++ es)) (cT : M.2.1 (q + 4) ((tx_num v : Nat) : Int) = true → ab_Z (pg_G L xs) (D + 1) 76 [.ref q, zi ((tx_num s : Nat) : Int), zi ((tx_num v : Nat) : Int), zi (((deep : Nat) : Int) + 1)] M es (fun w M' => ∃ x, w = some (zi x) ∧ F x M')) (cF : M.2.1 (q + 4) ((tx_num v : Nat) : Int) = false → ab_Z (pg_G L xs) (D + 1) 78 [.ref r, zi ((tx_num v : Nat) : Int), zi (((deep : Nat) : Int) + 1)] M es (fun w M' => ∃ x, w = some (zi x) ∧ F x M')) : ab_Z (pg_G L xs) (D + 2) 77 [.ref p, zi ((tx_num s : Nat) : Int), zi ((tx_num v : Nat) : Int), zi ((deep : Nat) : Int)] M es (fun w M' => ∃ x, w = some (zi x) ∧ F x M') := by
  have hlt := num_lt hv v6
  show ab_W (pg_G L xs) (ab_X (pg_G L xs) (D + 1)) 77 _ 0 [some (.ref p), some (zi ((tx_num s : Nat) : Int)), some (zi ((tx_num v : Nat) : Int)), some (zi ((deep : Nat) : Int)), none, none] [] (hp M ++ es)
  refine x_ld 0 1 2 1 rfl rfl rfl rfl rfl ?_
  refine x_ld 1 1 0 2 rfl rfl rfl rfl rfl ?_
  refine x_cv 123 66 5 [.ref p, zi ((tx_num s : Nat) : Int)] rfl rfl rfl (Nat.le_of_ble_eq_true rfl) rfl rfl (Nat.le_of_ble_eq_true rfl) ⟨_, _, _, rfl, oP h⟩ (Nat.le_of_ble_eq_true rfl) c0 rfl ?_
  refine x_st 4 2 2 7 [some (.ref p), some (zi ((tx_num s : Nat) : Int)), some (zi ((tx_num v : Nat) : Int)), some (zi ((deep : Nat) : Int)), some (.ref q), none] rfl rfl rfl (Nat.le_of_ble_eq_true rfl) rfl rfl ?_
  refine x_ld 4 2 2 9 rfl rfl rfl rfl rfl ?_
  refine g_P_6 hq 28 12 rfl rfl rfl ?_
  refine x_ld 2 1 0 13 rfl rfl rfl rfl rfl ?_
  refine x_cv 115 38 16 [.ref (q + 3), zi ((tx_num v : Nat) : Int)] rfl rfl rfl (Nat.le_of_ble_eq_true rfl) rfl rfl (Nat.le_of_ble_eq_true rfl) ⟨_, _, _, rfl, oT (iT_P3 hq)⟩ (Nat.le_of_ble_eq_true rfl) (c38 D (iT_P3 hq) (t := ((tx_num v : Nat) : Int)) ⟨by omega, by omega⟩) rfl ?_
  rw [hasB_in (B := M.2.1 (q + 4)) (t := ((tx_num v : Nat) : Int)) (by omega) (by omega)]
  rcases Bool.eq_false_or_eq_true (M.2.1 (q + 4) ((tx_num v : Nat) : Int)) with hb | hb
  · rw [hb]
    refine z_ifeq 30 19 rfl rfl rfl (rg_lit 1 rfl) (fun c => absurd c (by decide)) (fun _ => ?_)
    refine x_ld 4 2 2 21 rfl rfl rfl rfl rfl ?_
    refine x_ld 1 1 0 22 rfl rfl rfl rfl rfl ?_
    refine x_ld 2 1 0 23 rfl rfl rfl rfl rfl ?_
    refine x_ld 3 1 0 24 rfl rfl rfl rfl rfl ?_
    refine x_cst (zi 1) 1 25 rfl rfl rfl ?_
    refine z_add 26 rfl rfl ?_
    refine x_ce 166 76 29 [.ref q, zi ((tx_num s : Nat) : Int), zi ((tx_num v : Nat) : Int), zi (((deep : Nat) : Int) + 1)] rfl rfl rfl (Nat.le_of_ble_eq_true rfl) rfl rfl (Nat.le_of_ble_eq_true rfl) ⟨_, _, _, rfl, oP hq⟩ (Nat.le_of_ble_eq_true rfl) (cT hb) rfl ?_
    rintro w M' ⟨x, rfl, hF⟩
    refine x_ret rfl rfl rfl rfl ?_
    exact ⟨_, _, rfl, rfl, x, rfl, hF⟩
  · rw [hb]
    refine z_ifeq 30 19 rfl rfl rfl (rg_lit 0 rfl) (fun _ => ?_) (fun c => absurd c (by decide))
    refine x_ld 4 2 2 32 rfl rfl rfl rfl rfl ?_
    refine x_ld 0 1 2 33 rfl rfl rfl rfl rfl ?_
    refine g_P_3 h 53 36 rfl rfl eq rfl ?_
    refine x_ac 46 39 rfl rfl rfl (by have := isP_lt hq; omega) (by have := isP_lt hq; omega) (fun c => absurd rfl c) (fun _ => ?_)
    refine x_ld 0 1 2 40 rfl rfl rfl rfl rfl ?_
    refine g_P_4 h 57 43 rfl rfl er rfl ?_
    refine x_go 50 rfl rfl ?_
    refine x_st 5 2 2 52 [some (.ref p), some (zi ((tx_num s : Nat) : Int)), some (zi ((tx_num v : Nat) : Int)), some (zi ((deep : Nat) : Int)), some (.ref q), some (.ref r)] rfl rfl rfl (Nat.le_of_ble_eq_true rfl) rfl rfl ?_
    refine x_ld 5 2 2 54 rfl rfl rfl rfl rfl ?_
    refine x_ld 2 1 0 55 rfl rfl rfl rfl rfl ?_
    refine x_ld 3 1 0 56 rfl rfl rfl rfl rfl ?_
    refine x_cst (zi 1) 1 57 rfl rfl rfl ?_
    refine z_add 58 rfl rfl ?_
    refine x_ce 145 78 61 [.ref r, zi ((tx_num v : Nat) : Int), zi (((deep : Nat) : Int) + 1)] rfl rfl rfl (Nat.le_of_ble_eq_true rfl) rfl rfl (Nat.le_of_ble_eq_true rfl) ⟨_, _, _, rfl, oP hr⟩ (Nat.le_of_ble_eq_true rfl) (cF hb) rfl ?_
    rintro w M' ⟨x, rfl, hF⟩
    refine x_ret rfl rfl rfl rfl ?_
    exact ⟨_, _, rfl, rfl, x, rfl, hF⟩
theorem c77_r (D : Nat) {p q r : Nat} (h : isP p) (hq : isP q) (hr : isP r) (eq : M.2.2 p 3 = q) (er : M.2.2 p 4 = r) {s v : List Nat} (hv : tx_L v) (v6 : v.length ≤ 6) {deep : Nat} {F : Int → mm → Prop} (c0 : ab_S (pg_G L xs) (D + 1) 66 [.ref p, zi ((tx_num s : Nat) : Int)] (hp M ++ es) (some (.ref r)) (hp M ++ es)) (cT : M.2.1 (r + 4) ((tx_num v : Nat) : Int) = true → ab_Z (pg_G L xs) (D + 1) 76 [.ref r, zi ((tx_num s : Nat) : Int), zi ((tx_num v : Nat) : Int), zi (((deep : Nat) : Int) + 1)] M es (fun w M' => ∃ x, w = some (zi x) ∧ F x M')) (cF : M.2.1 (r + 4) ((tx_num v : Nat) : Int) = false → ab_Z (pg_G L xs) (D + 1) 78 [.ref q, zi ((tx_num v : Nat) : Int), zi (((deep : Nat) : Int) + 1)] M es (fun w M' => ∃ x, w = some (zi x) ∧ F x M')) : ab_Z (pg_G L xs) (D + 2) 77 [.ref p, zi ((tx_num s : Nat) : Int), zi ((tx_num v : Nat) : Int), zi ((deep : Nat) : Int)] M es (fun w M' => ∃ x, w = some (zi x) ∧ F x M') := by
  have hlt := num_lt hv v6
  show ab_W (pg_G L xs) (ab_X (pg_G L xs) (D + 1)) 77 _ 0 [some (.ref p), some (zi ((tx_num s : Nat) : Int)), some (zi ((tx_num v : Nat) : Int)), some (zi ((deep : Nat) : Int)), none, none] [] (hp M ++ es)
  refine x_ld 0 1 2 1 rfl rfl rfl rfl rfl ?_
  refine x_ld 1 1 0 2 rfl rfl rfl rfl rfl ?_
  refine x_cv 123 66 5 [.ref p, zi ((tx_num s : Nat) : Int)] rfl rfl rfl (Nat.le_of_ble_eq_true rfl) rfl rfl (Nat.le_of_ble_eq_true rfl) ⟨_, _, _, rfl, oP h⟩ (Nat.le_of_ble_eq_true rfl) c0 rfl ?_
  refine x_st 4 2 2 7 [some (.ref p), some (zi ((tx_num s : Nat) : Int)), some (zi ((tx_num v : Nat) : Int)), some (zi ((deep : Nat) : Int)), some (.ref r), none] rfl rfl rfl (Nat.le_of_ble_eq_true rfl) rfl rfl ?_
  refine x_ld 4 2 2 9 rfl rfl rfl rfl rfl ?_
  refine g_P_6 hr 28 12 rfl rfl rfl ?_
  refine x_ld 2 1 0 13 rfl rfl rfl rfl rfl ?_
  refine x_cv 115 38 16 [.ref (r + 3), zi ((tx_num v : Nat) : Int)] rfl rfl rfl (Nat.le_of_ble_eq_true rfl) rfl rfl (Nat.le_of_ble_eq_true rfl) ⟨_, _, _, rfl, oT (iT_P3 hr)⟩ (Nat.le_of_ble_eq_true rfl) (c38 D (iT_P3 hr) (t := ((tx_num v : Nat) : Int)) ⟨by omega, by omega⟩) rfl ?_
  rw [hasB_in (B := M.2.1 (r + 4)) (t := ((tx_num v : Nat) : Int)) (by omega) (by omega)]
  rcases Bool.eq_false_or_eq_true (M.2.1 (r + 4) ((tx_num v : Nat) : Int)) with hb | hb
  · rw [hb]
    refine z_ifeq 30 19 rfl rfl rfl (rg_lit 1 rfl) (fun c => absurd c (by decide)) (fun _ => ?_)
    refine x_ld 4 2 2 21 rfl rfl rfl rfl rfl ?_
    refine x_ld 1 1 0 22 rfl rfl rfl rfl rfl ?_
    refine x_ld 2 1 0 23 rfl rfl rfl rfl rfl ?_
    refine x_ld 3 1 0 24 rfl rfl rfl rfl rfl ?_
    refine x_cst (zi 1) 1 25 rfl rfl rfl ?_
    refine z_add 26 rfl rfl ?_
    refine x_ce 166 76 29 [.ref r, zi ((tx_num s : Nat) : Int), zi ((tx_num v : Nat) : Int), zi (((deep : Nat) : Int) + 1)] rfl rfl rfl (Nat.le_of_ble_eq_true rfl) rfl rfl (Nat.le_of_ble_eq_true rfl) ⟨_, _, _, rfl, oP hr⟩ (Nat.le_of_ble_eq_true rfl) (cT hb) rfl ?_
    rintro w M' ⟨x, rfl, hF⟩
    refine x_ret rfl rfl rfl rfl ?_
    exact ⟨_, _, rfl, rfl, x, rfl, hF⟩
  · rw [hb]
    refine z_ifeq 30 19 rfl rfl rfl (rg_lit 0 rfl) (fun _ => ?_) (fun c => absurd c (by decide))
    refine x_ld 4 2 2 32 rfl rfl rfl rfl rfl ?_
    refine x_ld 0 1 2 33 rfl rfl rfl rfl rfl ?_
    refine g_P_3 h 53 36 rfl rfl eq rfl ?_
    refine x_ac 46 39 rfl rfl rfl (by have := isP_lt hr; omega) (by have := isP_lt hq; omega) (fun _ => ?_) (fun c => ?_)
    · refine x_ld 0 1 2 47 rfl rfl rfl rfl rfl ?_
      refine g_P_3 h 53 50 rfl rfl eq rfl ?_
      refine x_st 5 2 2 52 [some (.ref p), some (zi ((tx_num s : Nat) : Int)), some (zi ((tx_num v : Nat) : Int)), some (zi ((deep : Nat) : Int)), some (.ref r), some (.ref q)] rfl rfl rfl (Nat.le_of_ble_eq_true rfl) rfl rfl ?_
      refine x_ld 5 2 2 54 rfl rfl rfl rfl rfl ?_
      refine x_ld 2 1 0 55 rfl rfl rfl rfl rfl ?_
      refine x_ld 3 1 0 56 rfl rfl rfl rfl rfl ?_
      refine x_cst (zi 1) 1 57 rfl rfl rfl ?_
      refine z_add 58 rfl rfl ?_
      refine x_ce 145 78 61 [.ref q, zi ((tx_num v : Nat) : Int), zi (((deep : Nat) : Int) + 1)] rfl rfl rfl (Nat.le_of_ble_eq_true rfl) rfl rfl (Nat.le_of_ble_eq_true rfl) ⟨_, _, _, rfl, oP hq⟩ (Nat.le_of_ble_eq_true rfl) (cF hb) rfl ?_
      rintro w M' ⟨x, rfl, hF⟩
      refine x_ret rfl rfl rfl rfl ?_
      exact ⟨_, _, rfl, rfl, x, rfl, hF⟩
    · refine x_ld 0 1 2 40 rfl rfl rfl rfl rfl ?_
      refine g_P_4 h 57 43 rfl rfl er rfl ?_
      refine x_go 50 rfl rfl ?_
      refine x_st 5 2 2 52 [some (.ref p), some (zi ((tx_num s : Nat) : Int)), some (zi ((tx_num v : Nat) : Int)), some (zi ((deep : Nat) : Int)), some (.ref r), some (.ref r)] rfl rfl rfl (Nat.le_of_ble_eq_true rfl) rfl rfl ?_
      refine x_ld 5 2 2 54 rfl rfl rfl rfl rfl ?_
      refine x_ld 2 1 0 55 rfl rfl rfl rfl rfl ?_
      refine x_ld 3 1 0 56 rfl rfl rfl rfl rfl ?_
      refine x_cst (zi 1) 1 57 rfl rfl rfl ?_
      refine z_add 58 rfl rfl ?_
      refine x_ce 145 78 61 [.ref r, zi ((tx_num v : Nat) : Int), zi (((deep : Nat) : Int) + 1)] rfl rfl rfl (Nat.le_of_ble_eq_true rfl) rfl rfl (Nat.le_of_ble_eq_true rfl) ⟨_, _, _, rfl, oP hr⟩ (Nat.le_of_ble_eq_true rfl) (by rw [c]; exact cF hb) rfl ?_
      rintro w M' ⟨x, rfl, hF⟩
      refine x_ret rfl rfl rfl rfl ?_
      exact ⟨_, _, rfl, rfl, x, rfl, hF⟩
theorem c82_5 (D : Nat) {p q r : Nat} (h : isP p) (hq : isP q) (hr : isP r) (eq : M.2.2 p 3 = q) (er : M.2.2 p 4 = r) (hk : M.1 p 0 = 5) {A B C E : Nat → Bool} (aA : ag (sN (M.2.1 (q + 2))) A) (aB : ag (sN (M.2.1 (r + 2))) B) (aC : ag (sN (M.2.1 (q + 4))) C) (aE : ag (sN (M.2.1 (r + 4))) E) {s v : List Nat} (hs : tx_L s) (s6 : s.length ≤ 6) (hv : tx_L v) (v6 : v.length ≤ 6) (js : ∃ i, i ≤ s.length ∧ cp A B s i = true) (jv : ∃ i, i ≤ v.length ∧ cp C E v i = true) {deep : Nat} (hd : deep ≤ 100) {n k : Nat} {u1 u2 : List Nat} (hu1 : tx_L u1) (hu2 : tx_L u2) (c1 : ab_Z (pg_G L xs) (D + 2) 76 [.ref q, zi ((tx_num (s.take (cut A B s)) : Nat) : Int), zi ((tx_num (v.take (cut C E v)) : Nat) : Int), zi ((deep : Int) + 1)] M es (fun w M' => w = some (zi (nz u1)) ∧ Fu n k M M')) (c2 : ∀ M1, Fu n k M M1 → ab_Z (pg_G L xs) (D + 2) 76 [.ref r, zi ((tx_num (s.drop (cut A B s)) : Nat) : Int), zi ((tx_num (v.drop (cut C E v)) : Nat) : Int), zi ((deep : Int) + 1)] M1 es (fun w M' => w = some (zi (nz u2)) ∧ Fu n k M1 M')) : ab_Z (pg_G L xs) (D + 3) 82 [.ref p, zi ((tx_num s : Nat) : Int), zi ((tx_num v : Nat) : Int), zi ((deep : Nat) : Int)] M es (fun w M' => w = some (zi (nz (u1 ++ u2))) ∧ Fu n k M M') := by
  have hes : ∃ i, i ≤ s.length ∧ cp (sN (M.2.1 (q + 2))) (sN (M.2.1 (r + 2))) s i = true := by
    obtain ⟨i, hi, hc⟩ := js
    exact ⟨i, hi, by rw [cp_agw aA aB hs s6]; exact hc⟩
  have hev : ∃ i, i ≤ v.length ∧ cp (sN (M.2.1 (q + 4))) (sN (M.2.1 (r + 4))) v i = true := by
    obtain ⟨i, hi, hc⟩ := jv
    exact ⟨i, hi, by rw [cp_agw aC aE hv v6]; exact hc⟩
  show ab_W (pg_G L xs) (ab_X (pg_G L xs) (D + 2)) 82 _ 0 [some (.ref p), some (zi ((tx_num s : Nat) : Int)), some (zi ((tx_num v : Nat) : Int)), some (zi ((deep : Nat) : Int)), none, none, none, none, none, none, none] [] (hp M ++ es)
  refine x_ld 1 1 0 1 rfl rfl rfl rfl rfl ?_
  refine x_ld 0 1 2 2 rfl rfl rfl rfl rfl ?_
  refine g_P_3 h 53 5 rfl rfl eq rfl ?_
  refine g_P_5 hq 24 8 rfl rfl rfl ?_
  refine x_ld 0 1 2 9 rfl rfl rfl rfl rfl ?_
  refine g_P_4 h 57 12 rfl rfl er rfl ?_
  refine g_P_5 hr 24 15 rfl rfl rfl ?_
  refine x_cv 133 68 18 [zi ((tx_num s : Nat) : Int), .ref (q + 1), .ref (r + 1)] rfl rfl rfl (Nat.le_of_ble_eq_true rfl) rfl rfl (Nat.le_of_ble_eq_true rfl) trivial (Nat.le_of_ble_eq_true rfl) (c68 D hs s6 (iT_P1 hq) (iT_P1 hr) hes) rfl ?_
  rw [cut_ag aA aB hs s6]
  refine x_st 4 2 0 20 [some (.ref p), some (zi ((tx_num s : Nat) : Int)), some (zi ((tx_num v : Nat) : Int)), some (zi ((deep : Nat) : Int)), some (zi ((tx_num (s.take (cut A B s)) : Nat) : Int)), none, none, none, none, none, none] rfl rfl rfl (Nat.le_of_ble_eq_true rfl) rfl rfl ?_
  refine x_ld 1 1 0 21 rfl rfl rfl rfl rfl ?_
  refine x_ld 4 2 0 23 rfl rfl rfl rfl rfl ?_
  refine x_cv 139 69 26 [zi ((tx_num s : Nat) : Int), zi ((tx_num (s.take (cut A B s)) : Nat) : Int)] rfl rfl rfl (Nat.le_of_ble_eq_true rfl) rfl rfl (Nat.le_of_ble_eq_true rfl) trivial (Nat.le_of_ble_eq_true rfl) (c69 D hs s6 (cut_le A B s)) rfl ?_
  refine x_st 5 2 0 28 [some (.ref p), some (zi ((tx_num s : Nat) : Int)), some (zi ((tx_num v : Nat) : Int)), some (zi ((deep : Nat) : Int)), some (zi ((tx_num (s.take (cut A B s)) : Nat) : Int)), some (zi ((tx_num (s.drop (cut A B s)) : Nat) : Int)), none, none, none, none, none] rfl rfl rfl (Nat.le_of_ble_eq_true rfl) rfl rfl ?_
  refine x_ld 2 1 0 29 rfl rfl rfl rfl rfl ?_
  refine x_ld 0 1 2 30 rfl rfl rfl rfl rfl ?_
  refine x_cv 104 40 33 [.ref p] rfl rfl rfl (Nat.le_of_ble_eq_true rfl) rfl rfl (Nat.le_of_ble_eq_true rfl) ⟨_, _, _, rfl, oP h⟩ (Nat.le_of_ble_eq_true rfl) (c40j (D + 1) h hk) rfl ?_
  rw [eq]
  refine g_P_6 hq 28 36 rfl rfl rfl ?_
  refine x_ld 0 1 2 37 rfl rfl rfl rfl rfl ?_
  refine x_cv 108 41 40 [.ref p] rfl rfl rfl (Nat.le_of_ble_eq_true rfl) rfl rfl (Nat.le_of_ble_eq_true rfl) ⟨_, _, _, rfl, oP h⟩ (Nat.le_of_ble_eq_true rfl) (c41j (D + 1) h hk) rfl ?_
  rw [er]
  refine g_P_6 hr 28 43 rfl rfl rfl ?_
  refine x_cv 133 68 46 [zi ((tx_num v : Nat) : Int), .ref (q + 3), .ref (r + 3)] rfl rfl rfl (Nat.le_of_ble_eq_true rfl) rfl rfl (Nat.le_of_ble_eq_true rfl) trivial (Nat.le_of_ble_eq_true rfl) (c68 D hv v6 (iT_P3 hq) (iT_P3 hr) hev) rfl ?_
  rw [cut_ag aC aE hv v6]
  refine x_st 6 2 0 48 [some (.ref p), some (zi ((tx_num s : Nat) : Int)), some (zi ((tx_num v : Nat) : Int)), some (zi ((deep : Nat) : Int)), some (zi ((tx_num (s.take (cut A B s)) : Nat) : Int)), some (zi ((tx_num (s.drop (cut A B s)) : Nat) : Int)), some (zi ((tx_num (v.take (cut C E v)) : Nat) : Int)), none, none, none, none] rfl rfl rfl (Nat.le_of_ble_eq_true rfl) rfl rfl ?_
  refine x_ld 2 1 0 49 rfl rfl rfl rfl rfl ?_
  refine x_ld 6 2 0 51 rfl rfl rfl rfl rfl ?_
  refine x_cv 139 69 54 [zi ((tx_num v : Nat) : Int), zi ((tx_num (v.take (cut C E v)) : Nat) : Int)] rfl rfl rfl (Nat.le_of_ble_eq_true rfl) rfl rfl (Nat.le_of_ble_eq_true rfl) trivial (Nat.le_of_ble_eq_true rfl) (c69 D hv v6 (cut_le C E v)) rfl ?_
  refine x_st 7 2 0 56 [some (.ref p), some (zi ((tx_num s : Nat) : Int)), some (zi ((tx_num v : Nat) : Int)), some (zi ((deep : Nat) : Int)), some (zi ((tx_num (s.take (cut A B s)) : Nat) : Int)), some (zi ((tx_num (s.drop (cut A B s)) : Nat) : Int)), some (zi ((tx_num (v.take (cut C E v)) : Nat) : Int)), some (zi ((tx_num (v.drop (cut C E v)) : Nat) : Int)), none, none, none] rfl rfl rfl (Nat.le_of_ble_eq_true rfl) rfl rfl ?_
  refine x_ld 0 1 2 57 rfl rfl rfl rfl rfl ?_
  refine g_P_0 h 9 60 rfl rfl hk rfl ?_
  refine x_cst (zi 6) 2 62 rfl rfl rfl ?_
  refine z_icne 69 65 rfl rfl rfl (rg_lit 5 rfl) (rg_lit 6 rfl) (fun _ => ?_) (fun c => absurd c (by decide))
  refine x_cst (zi 0) 1 70 rfl rfl rfl ?_
  refine x_st 8 2 0 72 [some (.ref p), some (zi ((tx_num s : Nat) : Int)), some (zi ((tx_num v : Nat) : Int)), some (zi ((deep : Nat) : Int)), some (zi ((tx_num (s.take (cut A B s)) : Nat) : Int)), some (zi ((tx_num (s.drop (cut A B s)) : Nat) : Int)), some (zi ((tx_num (v.take (cut C E v)) : Nat) : Int)), some (zi ((tx_num (v.drop (cut C E v)) : Nat) : Int)), some (zi 0), none, none] rfl rfl rfl (Nat.le_of_ble_eq_true rfl) rfl rfl ?_
  refine x_ld 0 1 2 73 rfl rfl rfl rfl rfl ?_
  refine g_P_3 h 53 76 rfl rfl eq rfl ?_
  refine x_ld 4 2 0 78 rfl rfl rfl rfl rfl ?_
  refine x_ld 8 2 0 80 rfl rfl rfl rfl rfl ?_
  refine z_ifeq 88 83 rfl rfl rfl (rg_lit 0 rfl) (fun _ => ?_) (fun c => absurd c (by decide))
  refine x_ld 6 2 0 90 rfl rfl rfl rfl rfl ?_
  refine x_ld 3 1 0 91 rfl rfl rfl rfl rfl ?_
  refine x_cst (zi 1) 1 92 rfl rfl rfl ?_
  refine z_add 93 rfl rfl ?_
  refine x_ce 166 76 96 [.ref q, zi ((tx_num (s.take (cut A B s)) : Nat) : Int), zi ((tx_num (v.take (cut C E v)) : Nat) : Int), zi (((deep : Nat) : Int) + 1)] rfl rfl rfl (Nat.le_of_ble_eq_true rfl) rfl rfl (Nat.le_of_ble_eq_true rfl) ⟨_, _, _, rfl, oP hq⟩ (Nat.le_of_ble_eq_true rfl) c1 rfl ?_
  rintro w M1 ⟨rfl, F1⟩
  refine x_st 9 2 0 98 [some (.ref p), some (zi ((tx_num s : Nat) : Int)), some (zi ((tx_num v : Nat) : Int)), some (zi ((deep : Nat) : Int)), some (zi ((tx_num (s.take (cut A B s)) : Nat) : Int)), some (zi ((tx_num (s.drop (cut A B s)) : Nat) : Int)), some (zi ((tx_num (v.take (cut C E v)) : Nat) : Int)), some (zi ((tx_num (v.drop (cut C E v)) : Nat) : Int)), some (zi 0), some (zi (nz u1)), none] rfl rfl rfl (Nat.le_of_ble_eq_true rfl) rfl rfl ?_
  refine x_ld 0 1 2 99 rfl rfl rfl rfl rfl ?_
  refine g_P_4 h 57 102 rfl rfl ((congrFun (congrFun (congrArg Prod.snd F1.2.2) p) 4).trans er) rfl ?_
  refine x_ld 5 2 0 104 rfl rfl rfl rfl rfl ?_
  refine x_ld 8 2 0 106 rfl rfl rfl rfl rfl ?_
  refine z_ifeq 114 109 rfl rfl rfl (rg_lit 0 rfl) (fun _ => ?_) (fun c => absurd c (by decide))
  refine x_ld 7 2 0 116 rfl rfl rfl rfl rfl ?_
  refine x_ld 3 1 0 117 rfl rfl rfl rfl rfl ?_
  refine x_cst (zi 1) 1 118 rfl rfl rfl ?_
  refine z_add 119 rfl rfl ?_
  refine x_ce 166 76 122 [.ref r, zi ((tx_num (s.drop (cut A B s)) : Nat) : Int), zi ((tx_num (v.drop (cut C E v)) : Nat) : Int), zi (((deep : Nat) : Int) + 1)] rfl rfl rfl (Nat.le_of_ble_eq_true rfl) rfl rfl (Nat.le_of_ble_eq_true rfl) ⟨_, _, _, rfl, oP hr⟩ (Nat.le_of_ble_eq_true rfl) (c2 M1 F1) rfl ?_
  rintro w2 M2 ⟨rfl, F2⟩
  refine x_st 10 2 0 124 [some (.ref p), some (zi ((tx_num s : Nat) : Int)), some (zi ((tx_num v : Nat) : Int)), some (zi ((deep : Nat) : Int)), some (zi ((tx_num (s.take (cut A B s)) : Nat) : Int)), some (zi ((tx_num (s.drop (cut A B s)) : Nat) : Int)), some (zi ((tx_num (v.take (cut C E v)) : Nat) : Int)), some (zi ((tx_num (v.drop (cut C E v)) : Nat) : Int)), some (zi 0), some (zi (nz u1)), some (zi (nz u2))] rfl rfl rfl (Nat.le_of_ble_eq_true rfl) rfl rfl ?_
  refine x_ld 9 2 0 126 rfl rfl rfl rfl rfl ?_
  refine x_ld 10 2 0 128 rfl rfl rfl rfl rfl ?_
  refine x_cv 142 70 131 [zi (nz u1), zi (nz u2)] rfl rfl rfl (Nat.le_of_ble_eq_true rfl) rfl rfl (Nat.le_of_ble_eq_true rfl) trivial (Nat.le_of_ble_eq_true rfl) (c70 D hu1 hu2) rfl ?_
  refine x_ret rfl rfl rfl rfl ?_
  exact ⟨_, M2, rfl, rfl, rfl, Fu_trans F1 F2⟩
theorem c82_6 (D : Nat) {p q r : Nat} (h : isP p) (hq : isP q) (hr : isP r) (eq : M.2.2 p 3 = q) (er : M.2.2 p 4 = r) (hk : M.1 p 0 = 6) {A B C E : Nat → Bool} (aA : ag (sN (M.2.1 (q + 2))) A) (aB : ag (sN (M.2.1 (r + 2))) B) (aC : ag (sN (M.2.1 (r + 4))) C) (aE : ag (sN (M.2.1 (q + 4))) E) {s v : List Nat} (hs : tx_L s) (s6 : s.length ≤ 6) (hv : tx_L v) (v6 : v.length ≤ 6) (js : ∃ i, i ≤ s.length ∧ cp A B s i = true) (jv : ∃ i, i ≤ v.length ∧ cp C E v i = true) {deep : Nat} (hd : deep ≤ 100) {n k : Nat} {u1 u2 : List Nat} (hu1 : tx_L u1) (hu2 : tx_L u2) (c1 : ab_Z (pg_G L xs) (D + 2) 76 [.ref q, zi ((tx_num (s.take (cut A B s)) : Nat) : Int), zi ((tx_num (v.drop (cut C E v)) : Nat) : Int), zi ((deep : Int) + 1)] M es (fun w M' => w = some (zi (nz u1)) ∧ Fu n k M M')) (c2 : ∀ M1, Fu n k M M1 → ab_Z (pg_G L xs) (D + 2) 76 [.ref r, zi ((tx_num (s.drop (cut A B s)) : Nat) : Int), zi ((tx_num (v.take (cut C E v)) : Nat) : Int), zi ((deep : Int) + 1)] M1 es (fun w M' => w = some (zi (nz u2)) ∧ Fu n k M1 M')) : ab_Z (pg_G L xs) (D + 3) 82 [.ref p, zi ((tx_num s : Nat) : Int), zi ((tx_num v : Nat) : Int), zi ((deep : Nat) : Int)] M es (fun w M' => w = some (zi (nz (u1 ++ u2))) ∧ Fu n k M M') := by
  have hes : ∃ i, i ≤ s.length ∧ cp (sN (M.2.1 (q + 2))) (sN (M.2.1 (r + 2))) s i = true := by
    obtain ⟨i, hi, hc⟩ := js
    exact ⟨i, hi, by rw [cp_agw aA aB hs s6]; exact hc⟩
  have hev : ∃ i, i ≤ v.length ∧ cp (sN (M.2.1 (r + 4))) (sN (M.2.1 (q + 4))) v i = true := by
    obtain ⟨i, hi, hc⟩ := jv
    exact ⟨i, hi, by rw [cp_agw aC aE hv v6]; exact hc⟩
  show ab_W (pg_G L xs) (ab_X (pg_G L xs) (D + 2)) 82 _ 0 [some (.ref p), some (zi ((tx_num s : Nat) : Int)), some (zi ((tx_num v : Nat) : Int)), some (zi ((deep : Nat) : Int)), none, none, none, none, none, none, none] [] (hp M ++ es)
  refine x_ld 1 1 0 1 rfl rfl rfl rfl rfl ?_
  refine x_ld 0 1 2 2 rfl rfl rfl rfl rfl ?_
  refine g_P_3 h 53 5 rfl rfl eq rfl ?_
  refine g_P_5 hq 24 8 rfl rfl rfl ?_
  refine x_ld 0 1 2 9 rfl rfl rfl rfl rfl ?_
  refine g_P_4 h 57 12 rfl rfl er rfl ?_
  refine g_P_5 hr 24 15 rfl rfl rfl ?_
  refine x_cv 133 68 18 [zi ((tx_num s : Nat) : Int), .ref (q + 1), .ref (r + 1)] rfl rfl rfl (Nat.le_of_ble_eq_true rfl) rfl rfl (Nat.le_of_ble_eq_true rfl) trivial (Nat.le_of_ble_eq_true rfl) (c68 D hs s6 (iT_P1 hq) (iT_P1 hr) hes) rfl ?_
  rw [cut_ag aA aB hs s6]
  refine x_st 4 2 0 20 [some (.ref p), some (zi ((tx_num s : Nat) : Int)), some (zi ((tx_num v : Nat) : Int)), some (zi ((deep : Nat) : Int)), some (zi ((tx_num (s.take (cut A B s)) : Nat) : Int)), none, none, none, none, none, none] rfl rfl rfl (Nat.le_of_ble_eq_true rfl) rfl rfl ?_
  refine x_ld 1 1 0 21 rfl rfl rfl rfl rfl ?_
  refine x_ld 4 2 0 23 rfl rfl rfl rfl rfl ?_
  refine x_cv 139 69 26 [zi ((tx_num s : Nat) : Int), zi ((tx_num (s.take (cut A B s)) : Nat) : Int)] rfl rfl rfl (Nat.le_of_ble_eq_true rfl) rfl rfl (Nat.le_of_ble_eq_true rfl) trivial (Nat.le_of_ble_eq_true rfl) (c69 D hs s6 (cut_le A B s)) rfl ?_
  refine x_st 5 2 0 28 [some (.ref p), some (zi ((tx_num s : Nat) : Int)), some (zi ((tx_num v : Nat) : Int)), some (zi ((deep : Nat) : Int)), some (zi ((tx_num (s.take (cut A B s)) : Nat) : Int)), some (zi ((tx_num (s.drop (cut A B s)) : Nat) : Int)), none, none, none, none, none] rfl rfl rfl (Nat.le_of_ble_eq_true rfl) rfl rfl ?_
  refine x_ld 2 1 0 29 rfl rfl rfl rfl rfl ?_
  refine x_ld 0 1 2 30 rfl rfl rfl rfl rfl ?_
  refine x_cv 104 40 33 [.ref p] rfl rfl rfl (Nat.le_of_ble_eq_true rfl) rfl rfl (Nat.le_of_ble_eq_true rfl) ⟨_, _, _, rfl, oP h⟩ (Nat.le_of_ble_eq_true rfl) (c40x (D + 1) h hk) rfl ?_
  rw [er]
  refine g_P_6 hr 28 36 rfl rfl rfl ?_
  refine x_ld 0 1 2 37 rfl rfl rfl rfl rfl ?_
  refine x_cv 108 41 40 [.ref p] rfl rfl rfl (Nat.le_of_ble_eq_true rfl) rfl rfl (Nat.le_of_ble_eq_true rfl) ⟨_, _, _, rfl, oP h⟩ (Nat.le_of_ble_eq_true rfl) (c41x (D + 1) h hk) rfl ?_
  rw [eq]
  refine g_P_6 hq 28 43 rfl rfl rfl ?_
  refine x_cv 133 68 46 [zi ((tx_num v : Nat) : Int), .ref (r + 3), .ref (q + 3)] rfl rfl rfl (Nat.le_of_ble_eq_true rfl) rfl rfl (Nat.le_of_ble_eq_true rfl) trivial (Nat.le_of_ble_eq_true rfl) (c68 D hv v6 (iT_P3 hr) (iT_P3 hq) hev) rfl ?_
  rw [cut_ag aC aE hv v6]
  refine x_st 6 2 0 48 [some (.ref p), some (zi ((tx_num s : Nat) : Int)), some (zi ((tx_num v : Nat) : Int)), some (zi ((deep : Nat) : Int)), some (zi ((tx_num (s.take (cut A B s)) : Nat) : Int)), some (zi ((tx_num (s.drop (cut A B s)) : Nat) : Int)), some (zi ((tx_num (v.take (cut C E v)) : Nat) : Int)), none, none, none, none] rfl rfl rfl (Nat.le_of_ble_eq_true rfl) rfl rfl ?_
  refine x_ld 2 1 0 49 rfl rfl rfl rfl rfl ?_
  refine x_ld 6 2 0 51 rfl rfl rfl rfl rfl ?_
  refine x_cv 139 69 54 [zi ((tx_num v : Nat) : Int), zi ((tx_num (v.take (cut C E v)) : Nat) : Int)] rfl rfl rfl (Nat.le_of_ble_eq_true rfl) rfl rfl (Nat.le_of_ble_eq_true rfl) trivial (Nat.le_of_ble_eq_true rfl) (c69 D hv v6 (cut_le C E v)) rfl ?_
  refine x_st 7 2 0 56 [some (.ref p), some (zi ((tx_num s : Nat) : Int)), some (zi ((tx_num v : Nat) : Int)), some (zi ((deep : Nat) : Int)), some (zi ((tx_num (s.take (cut A B s)) : Nat) : Int)), some (zi ((tx_num (s.drop (cut A B s)) : Nat) : Int)), some (zi ((tx_num (v.take (cut C E v)) : Nat) : Int)), some (zi ((tx_num (v.drop (cut C E v)) : Nat) : Int)), none, none, none] rfl rfl rfl (Nat.le_of_ble_eq_true rfl) rfl rfl ?_
  refine x_ld 0 1 2 57 rfl rfl rfl rfl rfl ?_
  refine g_P_0 h 9 60 rfl rfl hk rfl ?_
  refine x_cst (zi 6) 2 62 rfl rfl rfl ?_
  refine z_icne 69 65 rfl rfl rfl (rg_lit 6 rfl) (rg_lit 6 rfl) (fun c => absurd c (by decide)) (fun _ => ?_)
  refine x_cst (zi 1) 1 66 rfl rfl rfl ?_
  refine x_go 70 rfl rfl ?_
  refine x_st 8 2 0 72 [some (.ref p), some (zi ((tx_num s : Nat) : Int)), some (zi ((tx_num v : Nat) : Int)), some (zi ((deep : Nat) : Int)), some (zi ((tx_num (s.take (cut A B s)) : Nat) : Int)), some (zi ((tx_num (s.drop (cut A B s)) : Nat) : Int)), some (zi ((tx_num (v.take (cut C E v)) : Nat) : Int)), some (zi ((tx_num (v.drop (cut C E v)) : Nat) : Int)), some (zi 1), none, none] rfl rfl rfl (Nat.le_of_ble_eq_true rfl) rfl rfl ?_
  refine x_ld 0 1 2 73 rfl rfl rfl rfl rfl ?_
  refine g_P_3 h 53 76 rfl rfl eq rfl ?_
  refine x_ld 4 2 0 78 rfl rfl rfl rfl rfl ?_
  refine x_ld 8 2 0 80 rfl rfl rfl rfl rfl ?_
  refine z_ifeq 88 83 rfl rfl rfl (rg_lit 1 rfl) (fun c => absurd c (by decide)) (fun _ => ?_)
  refine x_ld 7 2 0 85 rfl rfl rfl rfl rfl ?_
  refine x_go 90 rfl rfl ?_
  refine x_ld 3 1 0 91 rfl rfl rfl rfl rfl ?_
  refine x_cst (zi 1) 1 92 rfl rfl rfl ?_
  refine z_add 93 rfl rfl ?_
  refine x_ce 166 76 96 [.ref q, zi ((tx_num (s.take (cut A B s)) : Nat) : Int), zi ((tx_num (v.drop (cut C E v)) : Nat) : Int), zi (((deep : Nat) : Int) + 1)] rfl rfl rfl (Nat.le_of_ble_eq_true rfl) rfl rfl (Nat.le_of_ble_eq_true rfl) ⟨_, _, _, rfl, oP hq⟩ (Nat.le_of_ble_eq_true rfl) c1 rfl ?_
  rintro w M1 ⟨rfl, F1⟩
  refine x_st 9 2 0 98 [some (.ref p), some (zi ((tx_num s : Nat) : Int)), some (zi ((tx_num v : Nat) : Int)), some (zi ((deep : Nat) : Int)), some (zi ((tx_num (s.take (cut A B s)) : Nat) : Int)), some (zi ((tx_num (s.drop (cut A B s)) : Nat) : Int)), some (zi ((tx_num (v.take (cut C E v)) : Nat) : Int)), some (zi ((tx_num (v.drop (cut C E v)) : Nat) : Int)), some (zi 1), some (zi (nz u1)), none] rfl rfl rfl (Nat.le_of_ble_eq_true rfl) rfl rfl ?_
  refine x_ld 0 1 2 99 rfl rfl rfl rfl rfl ?_
  refine g_P_4 h 57 102 rfl rfl ((congrFun (congrFun (congrArg Prod.snd F1.2.2) p) 4).trans er) rfl ?_
  refine x_ld 5 2 0 104 rfl rfl rfl rfl rfl ?_
  refine x_ld 8 2 0 106 rfl rfl rfl rfl rfl ?_
  refine z_ifeq 114 109 rfl rfl rfl (rg_lit 1 rfl) (fun c => absurd c (by decide)) (fun _ => ?_)
  refine x_ld 6 2 0 111 rfl rfl rfl rfl rfl ?_
  refine x_go 116 rfl rfl ?_
  refine x_ld 3 1 0 117 rfl rfl rfl rfl rfl ?_
  refine x_cst (zi 1) 1 118 rfl rfl rfl ?_
  refine z_add 119 rfl rfl ?_
  refine x_ce 166 76 122 [.ref r, zi ((tx_num (s.drop (cut A B s)) : Nat) : Int), zi ((tx_num (v.take (cut C E v)) : Nat) : Int), zi (((deep : Nat) : Int) + 1)] rfl rfl rfl (Nat.le_of_ble_eq_true rfl) rfl rfl (Nat.le_of_ble_eq_true rfl) ⟨_, _, _, rfl, oP hr⟩ (Nat.le_of_ble_eq_true rfl) (c2 M1 F1) rfl ?_
  rintro w2 M2 ⟨rfl, F2⟩
  refine x_st 10 2 0 124 [some (.ref p), some (zi ((tx_num s : Nat) : Int)), some (zi ((tx_num v : Nat) : Int)), some (zi ((deep : Nat) : Int)), some (zi ((tx_num (s.take (cut A B s)) : Nat) : Int)), some (zi ((tx_num (s.drop (cut A B s)) : Nat) : Int)), some (zi ((tx_num (v.take (cut C E v)) : Nat) : Int)), some (zi ((tx_num (v.drop (cut C E v)) : Nat) : Int)), some (zi 1), some (zi (nz u1)), some (zi (nz u2))] rfl rfl rfl (Nat.le_of_ble_eq_true rfl) rfl rfl ?_
  refine x_ld 9 2 0 126 rfl rfl rfl rfl rfl ?_
  refine x_ld 10 2 0 128 rfl rfl rfl rfl rfl ?_
  refine x_cv 142 70 131 [zi (nz u1), zi (nz u2)] rfl rfl rfl (Nat.le_of_ble_eq_true rfl) rfl rfl (Nat.le_of_ble_eq_true rfl) trivial (Nat.le_of_ble_eq_true rfl) (c70 D hu1 hu2) rfl ?_
  refine x_ret rfl rfl rfl rfl ?_
  exact ⟨_, M2, rfl, rfl, rfl, Fu_trans F1 F2⟩
theorem c83_loop (D : Nat) {p q n l : Nat} (h : isP p) (hq : isP q) (eq : M.2.2 p 3 = q) (hsep : ∀ j, j ≤ l → p ≠ n + 3 + 9 * j ∧ (n + 3 + 9 * j + 8 < p ∨ p + 8 < n + 3 + 9 * j)) {s v : List Nat} {deep sc : Nat} (hd : deep ≤ 100) {sp vp : List (List Nat)} (hs6 : sp.length ≤ 6) (hv6 : vp.length ≤ 6) (hsp : ∀ u ∈ sp, tx_num u < 1093) (hvp : ∀ u ∈ vp, tx_num u < 1093) (rs : ∀ i, i < sp.length → M.1 (p + 5) (i : Int) = ((tx_num sp[i]! : Nat) : Int)) (rv : ∀ i, i < vp.length → M.1 (p + 7) (i : Int) = ((tx_num vp[i]! : Nat) : Int)) (hvc : M.1 p 13 = (vp.length : Int)) {o : Nat → Option Nat} (ro : ∀ i, i < vp.length → M.1 (p + 8) (i : Int) = oz (o i)) (ho : ∀ i j, i < vp.length → o i = some j → j < sp.length) {f : Nat → List Nat} (hf : ∀ i, i < vp.length → tx_L (f i)) (c1 : ∀ i, i < vp.length → o i = none → ∀ M', Fu n l M M' → ab_S (pg_G L xs) (D + 2) 78 [.ref q, zi ((tx_num vp[i]! : Nat) : Int), zi ((deep : Int) + 1)] (hp M' ++ es) (some (zi (nz (f i)))) (hp M' ++ es)) (c2 : ∀ i j, i < vp.length → o i = some j → ∀ M', Fu n l M M' → ab_Z (pg_G L xs) (D + 2) 76 [.ref q, zi ((tx_num sp[j]! : Nat) : Int), zi ((tx_num vp[i]! : Nat) : Int), zi ((deep : Int) + 1)] M' es (fun w M'' => w = some (zi (nz (f i))) ∧ Fu n l M' M'')) {Q : ab_Q} (kk : ∀ M', Fu n l M M' → Q (.inl (some (zi (nz ((List.range vp.length).flatMap f))))) (hp M' ++ es)) : ∀ m i : Nat, vp.length - i = m → i ≤ vp.length → ∀ M', Fu n l M M' → ∀ o7 o8, ab_W (pg_G L xs) (ab_X (pg_G L xs) (D + 2)) 83 Q 75 [some (.ref p), some (zi (tx_num s : Nat)), some (zi (tx_num v : Nat)), some (zi (deep : Nat)), some (zi (sc : Nat)), some (zi (nz ((List.range i).flatMap f))), some (zi (i : Nat)), o7, o8] [] (hp M' ++ es) := by
  intro m
  induction m using Nat.strongRecOn with
  | _ m ih =>
    intro i hm hi M' hF o7 o8
    have eqM : M'.2.2 p 3 = q := by rw [hF.2.2]; exact eq
    have hpp : M'.1 p = M.1 p := hF.1 p (fun j hj => by have := hsep j hj; omega)
    have hp5 : M'.1 (p + 5) = M.1 (p + 5) := hF.1 _ (fun j hj => by have := hsep j hj; omega)
    have hp7 : M'.1 (p + 7) = M.1 (p + 7) := hF.1 _ (fun j hj => by have := hsep j hj; omega)
    have hp8 : M'.1 (p + 8) = M.1 (p + 8) := hF.1 _ (fun j hj => by have := hsep j hj; omega)
    have hvcM : M'.1 p 13 = (vp.length : Int) := by rw [hpp]; exact hvc
    refine x_ld 6 2 0 77 rfl rfl rfl rfl rfl ?_
    refine x_ld 0 1 2 78 rfl rfl rfl rfl rfl ?_
    refine g_P_13 h 50 81 rfl rfl hvcM rfl ?_
    refine z_icge 160 84 rfl rfl rfl ⟨by omega, by omega⟩ ⟨by omega, by omega⟩ (fun c81 => ?_) (fun c81 => ?_)
    · refine x_ld 5 2 0 162 rfl rfl rfl rfl rfl ?_
      refine x_ret rfl rfl rfl rfl ?_
      have e : i = vp.length := by omega
      subst e; exact kk M' hF
    · have hil : i < vp.length := by omega
      have ro' : M'.1 (p + 8) (i : Int) = oz (o i) := by rw [hp8]; exact ro i hil
      have rv' : M'.1 (p + 7) (i : Int) = ((tx_num vp[i]! : Nat) : Int) := by rw [hp7]; exact rv i hil
      have hfi := hf i hil
      have hacc : tx_L ((List.range i).flatMap f) := tx_L_fm (fun j hj => hf j (by have := List.mem_range.mp hj; omega))
      have hvi := hvp _ (get_mem hil)
      refine x_ld 0 1 2 85 rfl rfl rfl rfl rfl ?_
      refine g_P_12 h 47 88 rfl rfl rfl ?_
      refine x_ld 6 2 0 90 rfl rfl rfl rfl rfl ?_
      refine z_ild (oz (o i)) 91 rfl (iP8 h) rfl ⟨by omega, by omega⟩ ro' rfl ?_
      refine x_st 7 2 0 93 [some (.ref p), some (zi ((tx_num s : Nat) : Int)), some (zi ((tx_num v : Nat) : Int)), some (zi ((deep : Nat) : Int)), some (zi ((sc : Nat) : Int)), some (zi (nz ((List.range i).flatMap f))), some (zi ((i : Nat) : Int)), some (zi (oz (o i))), o8] rfl rfl rfl (Nat.le_of_ble_eq_true rfl) rfl rfl ?_
      cases hoi : o i with
      | none =>
        show ab_W _ _ _ _ _ [some (.ref p), some (zi ((tx_num s : Nat) : Int)), some (zi ((tx_num v : Nat) : Int)), some (zi ((deep : Nat) : Int)), some (zi ((sc : Nat) : Int)), some (zi (nz ((List.range i).flatMap f))), some (zi ((i : Nat) : Int)), some (zi (-1)), o8] _ _
        refine x_ld 7 2 0 95 rfl rfl rfl rfl rfl ?_
        refine x_cst (zi (-1)) 1 96 rfl rfl rfl ?_
        refine z_icne 119 99 rfl rfl rfl (rg_lit (-1) rfl) (rg_lit (-1) rfl) (fun c => absurd c (by decide)) (fun _ => ?_)
        refine x_ld 0 1 2 100 rfl rfl rfl rfl rfl ?_
        refine g_P_3 h 53 103 rfl rfl eqM rfl ?_
        refine x_ld 0 1 2 104 rfl rfl rfl rfl rfl ?_
        refine g_P_11 h 44 107 rfl rfl rfl ?_
        refine x_ld 6 2 0 109 rfl rfl rfl rfl rfl ?_
        refine z_ild ((tx_num vp[i]! : Nat) : Int) 110 rfl (iP7 h) rfl ⟨by omega, by omega⟩ rv' rfl ?_
        refine x_ld 3 1 0 111 rfl rfl rfl rfl rfl ?_
        refine x_cst (zi 1) 1 112 rfl rfl rfl ?_
        refine z_add 113 rfl rfl ?_
        refine x_cv 145 78 116 [.ref q, zi ((tx_num vp[i]! : Nat) : Int), zi (((deep : Nat) : Int) + 1)] rfl rfl rfl (Nat.le_of_ble_eq_true rfl) rfl rfl (Nat.le_of_ble_eq_true rfl) ⟨_, _, _, rfl, oP hq⟩ (Nat.le_of_ble_eq_true rfl) (c1 i hil hoi M' hF) rfl ?_
        refine x_go 143 rfl rfl ?_
        refine x_st 8 2 0 145 [some (.ref p), some (zi ((tx_num s : Nat) : Int)), some (zi ((tx_num v : Nat) : Int)), some (zi ((deep : Nat) : Int)), some (zi ((sc : Nat) : Int)), some (zi (nz ((List.range i).flatMap f))), some (zi ((i : Nat) : Int)), some (zi (-1)), some (zi (nz (f i)))] rfl rfl rfl (Nat.le_of_ble_eq_true rfl) rfl rfl ?_
        refine x_ld 5 2 0 147 rfl rfl rfl rfl rfl ?_
        refine x_ld 8 2 0 149 rfl rfl rfl rfl rfl ?_
        refine x_cv 142 70 152 [zi (nz ((List.range i).flatMap f)), zi (nz (f i))] rfl rfl rfl (Nat.le_of_ble_eq_true rfl) rfl rfl (Nat.le_of_ble_eq_true rfl) trivial (Nat.le_of_ble_eq_true rfl) (c70 D hacc hfi) rfl ?_
        refine x_st 5 2 0 154 [some (.ref p), some (zi ((tx_num s : Nat) : Int)), some (zi ((tx_num v : Nat) : Int)), some (zi ((deep : Nat) : Int)), some (zi ((sc : Nat) : Int)), some (zi (nz ((List.range i).flatMap f ++ f i))), some (zi ((i : Nat) : Int)), some (zi (-1)), some (zi (nz (f i)))] rfl rfl rfl (Nat.le_of_ble_eq_true rfl) rfl rfl ?_
        refine z_inc 6 157 [some (.ref p), some (zi ((tx_num s : Nat) : Int)), some (zi ((tx_num v : Nat) : Int)), some (zi ((deep : Nat) : Int)), some (zi ((sc : Nat) : Int)), some (zi (nz ((List.range i).flatMap f ++ f i))), some (zi (((i : Nat) : Int) + 1)), some (zi (-1)), some (zi (nz (f i)))] rfl rfl (Nat.le_of_ble_eq_true rfl) rfl rfl ?_
        refine x_go 75 rfl rfl ?_
        have hrs : (List.range (i + 1)).flatMap f = (List.range i).flatMap f ++ f i := by rw [List.range_succ, List.flatMap_append]; simp
        rw [← hrs]
        exact ih (vp.length - (i + 1)) (by omega) (i + 1) rfl (by omega) M' hF _ _
      | some j =>
        have hj := ho i j hil hoi
        have rs' : M'.1 (p + 5) (j : Int) = ((tx_num sp[j]! : Nat) : Int) := by rw [hp5]; exact rs j hj
        have hsj := hsp _ (get_mem hj)
        show ab_W _ _ _ _ _ [some (.ref p), some (zi ((tx_num s : Nat) : Int)), some (zi ((tx_num v : Nat) : Int)), some (zi ((deep : Nat) : Int)), some (zi ((sc : Nat) : Int)), some (zi (nz ((List.range i).flatMap f))), some (zi ((i : Nat) : Int)), some (zi ((j : Nat) : Int)), o8] _ _
        refine x_ld 7 2 0 95 rfl rfl rfl rfl rfl ?_
        refine x_cst (zi (-1)) 1 96 rfl rfl rfl ?_
        refine z_icne 119 99 rfl rfl rfl ⟨by omega, by omega⟩ (rg_lit (-1) rfl) (fun _ => ?_) (fun c => absurd c (by omega))
        refine x_ld 0 1 2 120 rfl rfl rfl rfl rfl ?_
        refine g_P_3 h 53 123 rfl rfl eqM rfl ?_
        refine x_ld 0 1 2 124 rfl rfl rfl rfl rfl ?_
        refine g_P_9 h 37 127 rfl rfl rfl ?_
        refine x_ld 7 2 0 129 rfl rfl rfl rfl rfl ?_
        refine z_ild ((tx_num sp[j]! : Nat) : Int) 130 rfl (iP5 h) rfl ⟨by omega, by omega⟩ rs' rfl ?_
        refine x_ld 0 1 2 131 rfl rfl rfl rfl rfl ?_
        refine g_P_11 h 44 134 rfl rfl rfl ?_
        refine x_ld 6 2 0 136 rfl rfl rfl rfl rfl ?_
        refine z_ild ((tx_num vp[i]! : Nat) : Int) 137 rfl (iP7 h) rfl ⟨by omega, by omega⟩ rv' rfl ?_
        refine x_ld 3 1 0 138 rfl rfl rfl rfl rfl ?_
        refine x_cst (zi 1) 1 139 rfl rfl rfl ?_
        refine z_add 140 rfl rfl ?_
        refine x_ce 166 76 143 [.ref q, zi ((tx_num sp[j]! : Nat) : Int), zi ((tx_num vp[i]! : Nat) : Int), zi (((deep : Nat) : Int) + 1)] rfl rfl rfl (Nat.le_of_ble_eq_true rfl) rfl rfl (Nat.le_of_ble_eq_true rfl) ⟨_, _, _, rfl, oP hq⟩ (Nat.le_of_ble_eq_true rfl) (c2 i j hil hoi M' hF) rfl ?_
        rintro w M2 ⟨rfl, F2⟩
        refine x_st 8 2 0 145 [some (.ref p), some (zi ((tx_num s : Nat) : Int)), some (zi ((tx_num v : Nat) : Int)), some (zi ((deep : Nat) : Int)), some (zi ((sc : Nat) : Int)), some (zi (nz ((List.range i).flatMap f))), some (zi ((i : Nat) : Int)), some (zi ((j : Nat) : Int)), some (zi (nz (f i)))] rfl rfl rfl (Nat.le_of_ble_eq_true rfl) rfl rfl ?_
        refine x_ld 5 2 0 147 rfl rfl rfl rfl rfl ?_
        refine x_ld 8 2 0 149 rfl rfl rfl rfl rfl ?_
        refine x_cv 142 70 152 [zi (nz ((List.range i).flatMap f)), zi (nz (f i))] rfl rfl rfl (Nat.le_of_ble_eq_true rfl) rfl rfl (Nat.le_of_ble_eq_true rfl) trivial (Nat.le_of_ble_eq_true rfl) (c70 D hacc hfi) rfl ?_
        refine x_st 5 2 0 154 [some (.ref p), some (zi ((tx_num s : Nat) : Int)), some (zi ((tx_num v : Nat) : Int)), some (zi ((deep : Nat) : Int)), some (zi ((sc : Nat) : Int)), some (zi (nz ((List.range i).flatMap f ++ f i))), some (zi ((i : Nat) : Int)), some (zi ((j : Nat) : Int)), some (zi (nz (f i)))] rfl rfl rfl (Nat.le_of_ble_eq_true rfl) rfl rfl ?_
        refine z_inc 6 157 [some (.ref p), some (zi ((tx_num s : Nat) : Int)), some (zi ((tx_num v : Nat) : Int)), some (zi ((deep : Nat) : Int)), some (zi ((sc : Nat) : Int)), some (zi (nz ((List.range i).flatMap f ++ f i))), some (zi (((i : Nat) : Int) + 1)), some (zi ((j : Nat) : Int)), some (zi (nz (f i)))] rfl rfl (Nat.le_of_ble_eq_true rfl) rfl rfl ?_
        refine x_go 75 rfl rfl ?_
        have hrs : (List.range (i + 1)).flatMap f = (List.range i).flatMap f ++ f i := by rw [List.range_succ, List.flatMap_append]; simp
        rw [← hrs]
        exact ih (vp.length - (i + 1)) (by omega) (i + 1) rfl (by omega) M2 (Fu_trans hF F2) _ _
end C15
