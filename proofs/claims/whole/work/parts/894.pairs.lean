/-! OURS, printed by wip/tools/gen894.py: pairs and repeats of shown, created, keyOf. -/
theorem fi_congr {p q : Nat → Bool} {n : Nat} (h : ∀ i, i < n → p i = q i) (i : Nat) : fi p n i = fi q n i := by
  generalize hk : n - i = k
  induction k generalizing i with
  | zero => unfold fi; rw [if_neg (by omega), if_neg (by omega)]
  | succ k ih =>
    unfold fi
    rw [if_pos (show i < n by omega), if_pos (show i < n by omega), h i (by omega), ih (i + 1) (by omega)]
theorem cp_agw {A A' B B' : Nat → Bool} (hA : ag A A') (hB : ag B B') {w : List Nat} (hw : tx_L w) (h6 : w.length ≤ 6) (i : Nat) : cp A B w i = cp A' B' w i := by
  have h1 := num_lt (tx_L_take hw i) (by rw [List.length_take]; omega)
  have h2 := num_lt (tx_L_drop hw i) (by rw [List.length_drop]; omega)
  unfold cp
  rw [hA _ (by omega), hB _ (by omega)]
theorem cut_ag {A A' B B' : Nat → Bool} (hA : ag A A') (hB : ag B B') {w : List Nat} (hw : tx_L w) (h6 : w.length ≤ 6) : cut A B w = cut A' B' w := fi_congr (fun i _ => cp_agw hA hB hw h6 i) 0
theorem cut_cuf {A B : Nat → Bool} (h0 : A 0 = false) {w : List Nat} (hw : w ≠ []) : cut A B w = cuf A B w := by
  unfold cut cuf
  rw [fi, if_pos (show 0 < w.length from ne_len hw), if_neg]
  unfold cp
  rw [List.take_zero, tx_num_nil, h0, Bool.false_and]
  decide
section C11
variable {L : Nat} {xs : Nat → Int32} {M : mm} {es : ab_H}
theorem c66 (d : Nat) {p q r : Nat} (h : isP p) (hq : isP q) (hr : isP r) (eq : M.2.2 p 3 = q) (er : M.2.2 p 4 = r) {w : List Nat} (hw : tx_L w) (h6 : w.length ≤ 6) : ab_S (pg_G L xs) (d + 2) 66 [.ref p, zi (tx_num w : Nat)] (hp M ++ es) (some (.ref (bif M.2.1 (q + 2) (tx_num w : Nat) then q else r))) (hp M ++ es) := by
  have hlt := num_lt hw h6
  show ab_W (pg_G L xs) (ab_X (pg_G L xs) (d + 1)) 66 _ 0 [some (.ref p), some (zi ((tx_num w : Nat) : Int))] [] (hp M ++ es)
  refine x_ld 0 1 2 1 rfl rfl rfl rfl rfl ?_
  refine g_P_3 h 53 4 rfl rfl eq rfl ?_
  refine g_P_5 hq 24 7 rfl rfl rfl ?_
  refine x_ld 1 1 0 8 rfl rfl rfl rfl rfl ?_
  refine x_cv 115 38 11 [.ref (q + 1), zi ((tx_num w : Nat) : Int)] rfl rfl rfl (Nat.le_of_ble_eq_true rfl) rfl rfl (Nat.le_of_ble_eq_true rfl) ⟨_, _, _, rfl, oT (iT_P1 hq)⟩ (Nat.le_of_ble_eq_true rfl) (c38 d (iT_P1 hq) (t := ((tx_num w : Nat) : Int)) ⟨by omega, by omega⟩) rfl ?_
  rw [hasB_in (B := M.2.1 (q + 2)) (t := ((tx_num w : Nat) : Int)) (by omega) (by omega)]
  rcases Bool.eq_false_or_eq_true (M.2.1 (q + 2) ((tx_num w : Nat) : Int)) with hb | hb
  · rw [hb]
    refine z_ifeq 21 14 rfl rfl rfl (rg_lit 1 rfl) (fun c => absurd c (by decide)) (fun _ => ?_)
    refine x_ld 0 1 2 15 rfl rfl rfl rfl rfl ?_
    refine g_P_3 h 53 18 rfl rfl eq rfl ?_
    refine x_go 25 rfl rfl ?_
    refine x_ret rfl rfl rfl rfl ?_
    exact ⟨rfl, rfl⟩
  · rw [hb]
    refine z_ifeq 21 14 rfl rfl rfl (rg_lit 0 rfl) (fun _ => ?_) (fun c => absurd c (by decide))
    refine x_ld 0 1 2 22 rfl rfl rfl rfl rfl ?_
    refine g_P_4 h 57 25 rfl rfl er rfl ?_
    refine x_ret rfl rfl rfl rfl ?_
    exact ⟨rfl, rfl⟩
theorem c79 (d : Nat) {p q r : Nat} (h : isP p) (hq : isP q) (hr : isP r) (eq : M.2.2 p 3 = q) (er : M.2.2 p 4 = r) {w : List Nat} (hw : tx_L w) (h6 : w.length ≤ 6) : ab_S (pg_G L xs) (d + 2) 79 [.ref p, zi (tx_num w : Nat)] (hp M ++ es) (some (.ref (bif M.2.1 (q + 4) (tx_num w : Nat) then q else r))) (hp M ++ es) := by
  have hlt := num_lt hw h6
  show ab_W (pg_G L xs) (ab_X (pg_G L xs) (d + 1)) 79 _ 0 [some (.ref p), some (zi ((tx_num w : Nat) : Int))] [] (hp M ++ es)
  refine x_ld 0 1 2 1 rfl rfl rfl rfl rfl ?_
  refine g_P_3 h 53 4 rfl rfl eq rfl ?_
  refine g_P_6 hq 28 7 rfl rfl rfl ?_
  refine x_ld 1 1 0 8 rfl rfl rfl rfl rfl ?_
  refine x_cv 115 38 11 [.ref (q + 3), zi ((tx_num w : Nat) : Int)] rfl rfl rfl (Nat.le_of_ble_eq_true rfl) rfl rfl (Nat.le_of_ble_eq_true rfl) ⟨_, _, _, rfl, oT (iT_P3 hq)⟩ (Nat.le_of_ble_eq_true rfl) (c38 d (iT_P3 hq) (t := ((tx_num w : Nat) : Int)) ⟨by omega, by omega⟩) rfl ?_
  rw [hasB_in (B := M.2.1 (q + 4)) (t := ((tx_num w : Nat) : Int)) (by omega) (by omega)]
  rcases Bool.eq_false_or_eq_true (M.2.1 (q + 4) ((tx_num w : Nat) : Int)) with hb | hb
  · rw [hb]
    refine z_ifeq 21 14 rfl rfl rfl (rg_lit 1 rfl) (fun c => absurd c (by decide)) (fun _ => ?_)
    refine x_ld 0 1 2 15 rfl rfl rfl rfl rfl ?_
    refine g_P_3 h 53 18 rfl rfl eq rfl ?_
    refine x_go 25 rfl rfl ?_
    refine x_ret rfl rfl rfl rfl ?_
    exact ⟨rfl, rfl⟩
  · rw [hb]
    refine z_ifeq 21 14 rfl rfl rfl (rg_lit 0 rfl) (fun _ => ?_) (fun c => absurd c (by decide))
    refine x_ld 0 1 2 22 rfl rfl rfl rfl rfl ?_
    refine g_P_4 h 57 25 rfl rfl er rfl ?_
    refine x_ret rfl rfl rfl rfl ?_
    exact ⟨rfl, rfl⟩
theorem c67_5 (D : Nat) {p q r : Nat} (h : isP p) (hq : isP q) (hr : isP r) (eq : M.2.2 p 3 = q) (er : M.2.2 p 4 = r) (hk : M.1 p 0 = 5) {A B : Nat → Bool} (aA : ag (sN (M.2.1 (q + 2))) A) (aB : ag (sN (M.2.1 (r + 2))) B) {w : List Nat} (hw : tx_L w) (h6 : w.length ≤ 6) (hj : ∃ i, i ≤ w.length ∧ cp A B w i = true) {deep : Nat} (hd : deep ≤ 100) {u1 u2 : List Nat} (hu1 : tx_L u1) (hu2 : tx_L u2) (c1 : ab_S (pg_G L xs) (D + 3) 65 [.ref q, zi ((tx_num (w.take (cut A B w)) : Nat) : Int), zi ((deep : Int) + 1)] (hp M ++ es) (some (zi (nz u1))) (hp M ++ es)) (c2 : ab_S (pg_G L xs) (D + 3) 65 [.ref r, zi ((tx_num (w.drop (cut A B w)) : Nat) : Int), zi ((deep : Int) + 1)] (hp M ++ es) (some (zi (nz u2))) (hp M ++ es)) : ab_S (pg_G L xs) (D + 4) 67 [.ref p, zi (tx_num w : Nat), zi (deep : Nat)] (hp M ++ es) (some (zi (nz (u1 ++ u2)))) (hp M ++ es) := by
  have hex : ∃ i, i ≤ w.length ∧ cp (sN (M.2.1 (q + 2))) (sN (M.2.1 (r + 2))) w i = true := by
    obtain ⟨i, hi, hc⟩ := hj
    exact ⟨i, hi, by rw [cp_agw aA aB hw h6]; exact hc⟩
  show ab_W (pg_G L xs) (ab_X (pg_G L xs) (D + 3)) 67 _ 0 [some (.ref p), some (zi ((tx_num w : Nat) : Int)), some (zi ((deep : Nat) : Int)), none, none, none] [] (hp M ++ es)
  refine x_ld 1 1 0 1 rfl rfl rfl rfl rfl ?_
  refine x_ld 0 1 2 2 rfl rfl rfl rfl rfl ?_
  refine g_P_3 h 53 5 rfl rfl eq rfl ?_
  refine g_P_5 hq 24 8 rfl rfl rfl ?_
  refine x_ld 0 1 2 9 rfl rfl rfl rfl rfl ?_
  refine g_P_4 h 57 12 rfl rfl er rfl ?_
  refine g_P_5 hr 24 15 rfl rfl rfl ?_
  refine x_cv 133 68 18 [zi ((tx_num w : Nat) : Int), .ref (q + 1), .ref (r + 1)] rfl rfl rfl (Nat.le_of_ble_eq_true rfl) rfl rfl (Nat.le_of_ble_eq_true rfl) trivial (Nat.le_of_ble_eq_true rfl) (c68 (D + 1) hw h6 (iT_P1 hq) (iT_P1 hr) hex) rfl ?_
  rw [cut_ag aA aB hw h6]
  refine x_st 3 1 0 19 [some (.ref p), some (zi ((tx_num w : Nat) : Int)), some (zi ((deep : Nat) : Int)), some (zi ((tx_num (w.take (cut A B w)) : Nat) : Int)), none, none] rfl rfl rfl (Nat.le_of_ble_eq_true rfl) rfl rfl ?_
  refine x_ld 0 1 2 20 rfl rfl rfl rfl rfl ?_
  refine g_P_3 h 53 23 rfl rfl eq rfl ?_
  refine x_ld 3 1 0 24 rfl rfl rfl rfl rfl ?_
  refine x_ld 2 1 0 25 rfl rfl rfl rfl rfl ?_
  refine x_cst (zi 1) 1 26 rfl rfl rfl ?_
  refine z_add 27 rfl rfl ?_
  refine x_cv 119 65 30 [.ref q, zi ((tx_num (w.take (cut A B w)) : Nat) : Int), zi (((deep : Nat) : Int) + 1)] rfl rfl rfl (Nat.le_of_ble_eq_true rfl) rfl rfl (Nat.le_of_ble_eq_true rfl) ⟨_, _, _, rfl, oP hq⟩ (Nat.le_of_ble_eq_true rfl) c1 rfl ?_
  refine x_st 4 2 0 32 [some (.ref p), some (zi ((tx_num w : Nat) : Int)), some (zi ((deep : Nat) : Int)), some (zi ((tx_num (w.take (cut A B w)) : Nat) : Int)), some (zi (nz u1)), none] rfl rfl rfl (Nat.le_of_ble_eq_true rfl) rfl rfl ?_
  refine x_ld 0 1 2 33 rfl rfl rfl rfl rfl ?_
  refine g_P_4 h 57 36 rfl rfl er rfl ?_
  refine x_ld 1 1 0 37 rfl rfl rfl rfl rfl ?_
  refine x_ld 3 1 0 38 rfl rfl rfl rfl rfl ?_
  refine x_cv 139 69 41 [zi ((tx_num w : Nat) : Int), zi ((tx_num (w.take (cut A B w)) : Nat) : Int)] rfl rfl rfl (Nat.le_of_ble_eq_true rfl) rfl rfl (Nat.le_of_ble_eq_true rfl) trivial (Nat.le_of_ble_eq_true rfl) (c69 (D + 1) hw h6 (cut_le A B w)) rfl ?_
  refine x_ld 2 1 0 42 rfl rfl rfl rfl rfl ?_
  refine x_cst (zi 1) 1 43 rfl rfl rfl ?_
  refine z_add 44 rfl rfl ?_
  refine x_cv 119 65 47 [.ref r, zi ((tx_num (w.drop (cut A B w)) : Nat) : Int), zi (((deep : Nat) : Int) + 1)] rfl rfl rfl (Nat.le_of_ble_eq_true rfl) rfl rfl (Nat.le_of_ble_eq_true rfl) ⟨_, _, _, rfl, oP hr⟩ (Nat.le_of_ble_eq_true rfl) c2 rfl ?_
  refine x_st 5 2 0 49 [some (.ref p), some (zi ((tx_num w : Nat) : Int)), some (zi ((deep : Nat) : Int)), some (zi ((tx_num (w.take (cut A B w)) : Nat) : Int)), some (zi (nz u1)), some (zi (nz u2))] rfl rfl rfl (Nat.le_of_ble_eq_true rfl) rfl rfl ?_
  refine x_ld 0 1 2 50 rfl rfl rfl rfl rfl ?_
  refine g_P_0 h 9 53 rfl rfl hk rfl ?_
  refine x_cst (zi 6) 2 55 rfl rfl rfl ?_
  refine z_icne 68 58 rfl rfl rfl (rg_lit 5 rfl) (rg_lit 6 rfl) (fun _ => ?_) (fun c => absurd c (by decide))
  refine x_ld 4 2 0 70 rfl rfl rfl rfl rfl ?_
  refine x_ld 5 2 0 72 rfl rfl rfl rfl rfl ?_
  refine x_cv 142 70 75 [zi (nz u1), zi (nz u2)] rfl rfl rfl (Nat.le_of_ble_eq_true rfl) rfl rfl (Nat.le_of_ble_eq_true rfl) trivial (Nat.le_of_ble_eq_true rfl) (c70 (D + 1) hu1 hu2) rfl ?_
  refine x_ret rfl rfl rfl rfl ?_
  exact ⟨rfl, rfl⟩
theorem c67_6 (D : Nat) {p q r : Nat} (h : isP p) (hq : isP q) (hr : isP r) (eq : M.2.2 p 3 = q) (er : M.2.2 p 4 = r) (hk : M.1 p 0 = 6) {A B : Nat → Bool} (aA : ag (sN (M.2.1 (q + 2))) A) (aB : ag (sN (M.2.1 (r + 2))) B) {w : List Nat} (hw : tx_L w) (h6 : w.length ≤ 6) (hj : ∃ i, i ≤ w.length ∧ cp A B w i = true) {deep : Nat} (hd : deep ≤ 100) {u1 u2 : List Nat} (hu1 : tx_L u1) (hu2 : tx_L u2) (c1 : ab_S (pg_G L xs) (D + 3) 65 [.ref q, zi ((tx_num (w.take (cut A B w)) : Nat) : Int), zi ((deep : Int) + 1)] (hp M ++ es) (some (zi (nz u1))) (hp M ++ es)) (c2 : ab_S (pg_G L xs) (D + 3) 65 [.ref r, zi ((tx_num (w.drop (cut A B w)) : Nat) : Int), zi ((deep : Int) + 1)] (hp M ++ es) (some (zi (nz u2))) (hp M ++ es)) : ab_S (pg_G L xs) (D + 4) 67 [.ref p, zi (tx_num w : Nat), zi (deep : Nat)] (hp M ++ es) (some (zi (nz (u2 ++ u1)))) (hp M ++ es) := by
  have hex : ∃ i, i ≤ w.length ∧ cp (sN (M.2.1 (q + 2))) (sN (M.2.1 (r + 2))) w i = true := by
    obtain ⟨i, hi, hc⟩ := hj
    exact ⟨i, hi, by rw [cp_agw aA aB hw h6]; exact hc⟩
  show ab_W (pg_G L xs) (ab_X (pg_G L xs) (D + 3)) 67 _ 0 [some (.ref p), some (zi ((tx_num w : Nat) : Int)), some (zi ((deep : Nat) : Int)), none, none, none] [] (hp M ++ es)
  refine x_ld 1 1 0 1 rfl rfl rfl rfl rfl ?_
  refine x_ld 0 1 2 2 rfl rfl rfl rfl rfl ?_
  refine g_P_3 h 53 5 rfl rfl eq rfl ?_
  refine g_P_5 hq 24 8 rfl rfl rfl ?_
  refine x_ld 0 1 2 9 rfl rfl rfl rfl rfl ?_
  refine g_P_4 h 57 12 rfl rfl er rfl ?_
  refine g_P_5 hr 24 15 rfl rfl rfl ?_
  refine x_cv 133 68 18 [zi ((tx_num w : Nat) : Int), .ref (q + 1), .ref (r + 1)] rfl rfl rfl (Nat.le_of_ble_eq_true rfl) rfl rfl (Nat.le_of_ble_eq_true rfl) trivial (Nat.le_of_ble_eq_true rfl) (c68 (D + 1) hw h6 (iT_P1 hq) (iT_P1 hr) hex) rfl ?_
  rw [cut_ag aA aB hw h6]
  refine x_st 3 1 0 19 [some (.ref p), some (zi ((tx_num w : Nat) : Int)), some (zi ((deep : Nat) : Int)), some (zi ((tx_num (w.take (cut A B w)) : Nat) : Int)), none, none] rfl rfl rfl (Nat.le_of_ble_eq_true rfl) rfl rfl ?_
  refine x_ld 0 1 2 20 rfl rfl rfl rfl rfl ?_
  refine g_P_3 h 53 23 rfl rfl eq rfl ?_
  refine x_ld 3 1 0 24 rfl rfl rfl rfl rfl ?_
  refine x_ld 2 1 0 25 rfl rfl rfl rfl rfl ?_
  refine x_cst (zi 1) 1 26 rfl rfl rfl ?_
  refine z_add 27 rfl rfl ?_
  refine x_cv 119 65 30 [.ref q, zi ((tx_num (w.take (cut A B w)) : Nat) : Int), zi (((deep : Nat) : Int) + 1)] rfl rfl rfl (Nat.le_of_ble_eq_true rfl) rfl rfl (Nat.le_of_ble_eq_true rfl) ⟨_, _, _, rfl, oP hq⟩ (Nat.le_of_ble_eq_true rfl) c1 rfl ?_
  refine x_st 4 2 0 32 [some (.ref p), some (zi ((tx_num w : Nat) : Int)), some (zi ((deep : Nat) : Int)), some (zi ((tx_num (w.take (cut A B w)) : Nat) : Int)), some (zi (nz u1)), none] rfl rfl rfl (Nat.le_of_ble_eq_true rfl) rfl rfl ?_
  refine x_ld 0 1 2 33 rfl rfl rfl rfl rfl ?_
  refine g_P_4 h 57 36 rfl rfl er rfl ?_
  refine x_ld 1 1 0 37 rfl rfl rfl rfl rfl ?_
  refine x_ld 3 1 0 38 rfl rfl rfl rfl rfl ?_
  refine x_cv 139 69 41 [zi ((tx_num w : Nat) : Int), zi ((tx_num (w.take (cut A B w)) : Nat) : Int)] rfl rfl rfl (Nat.le_of_ble_eq_true rfl) rfl rfl (Nat.le_of_ble_eq_true rfl) trivial (Nat.le_of_ble_eq_true rfl) (c69 (D + 1) hw h6 (cut_le A B w)) rfl ?_
  refine x_ld 2 1 0 42 rfl rfl rfl rfl rfl ?_
  refine x_cst (zi 1) 1 43 rfl rfl rfl ?_
  refine z_add 44 rfl rfl ?_
  refine x_cv 119 65 47 [.ref r, zi ((tx_num (w.drop (cut A B w)) : Nat) : Int), zi (((deep : Nat) : Int) + 1)] rfl rfl rfl (Nat.le_of_ble_eq_true rfl) rfl rfl (Nat.le_of_ble_eq_true rfl) ⟨_, _, _, rfl, oP hr⟩ (Nat.le_of_ble_eq_true rfl) c2 rfl ?_
  refine x_st 5 2 0 49 [some (.ref p), some (zi ((tx_num w : Nat) : Int)), some (zi ((deep : Nat) : Int)), some (zi ((tx_num (w.take (cut A B w)) : Nat) : Int)), some (zi (nz u1)), some (zi (nz u2))] rfl rfl rfl (Nat.le_of_ble_eq_true rfl) rfl rfl ?_
  refine x_ld 0 1 2 50 rfl rfl rfl rfl rfl ?_
  refine g_P_0 h 9 53 rfl rfl hk rfl ?_
  refine x_cst (zi 6) 2 55 rfl rfl rfl ?_
  refine z_icne 68 58 rfl rfl rfl (rg_lit 6 rfl) (rg_lit 6 rfl) (fun c => absurd c (by decide)) (fun _ => ?_)
  refine x_ld 5 2 0 60 rfl rfl rfl rfl rfl ?_
  refine x_ld 4 2 0 62 rfl rfl rfl rfl rfl ?_
  refine x_cv 142 70 65 [zi (nz u2), zi (nz u1)] rfl rfl rfl (Nat.le_of_ble_eq_true rfl) rfl rfl (Nat.le_of_ble_eq_true rfl) trivial (Nat.le_of_ble_eq_true rfl) (c70 (D + 1) hu2 hu1) rfl ?_
  refine x_go 75 rfl rfl ?_
  refine x_ret rfl rfl rfl rfl ?_
  exact ⟨rfl, rfl⟩
theorem c71_loop (D : Nat) {p q : Nat} (h : isP p) (hq : isP q) (eq : M.2.2 p 3 = q) {A B : Nat → Bool} (aA : ag (sN (M.2.1 (q + 2))) A) (aB : ag (sN (M.2.1 (p + 2))) B) (hB : ∀ t, B t = true ↔ rq A t) (h0 : A 0 = false) {deep : Nat} (hd : deep ≤ 100) {f : List Nat → List Nat} (w0 : List Nat) {Q : ab_Q} : ∀ m i : Nat, 6 - i = m → ∀ (w acc : List Nat), tx_L w → i + w.length ≤ 6 → B (tx_num w) = true → tx_L acc → (∀ u ∈ rps A B w, tx_L (f u) ∧ ab_S (pg_G L xs) (D + 3) 65 [.ref q, zi (tx_num u : Nat), zi ((deep : Int) + 1)] (hp M ++ es) (some (zi (nz (f u)))) (hp M ++ es)) → Q (.inl (some (zi (nz (acc ++ (rps A B w).flatMap f))))) (hp M ++ es) → ∀ o6, ab_W (pg_G L xs) (ab_X (pg_G L xs) (D + 3)) 71 Q 8 [some (.ref p), some (zi (tx_num w0 : Nat)), some (zi (deep : Nat)), some (zi (nz acc)), some (zi (tx_num w : Nat)), some (zi (i : Nat)), o6] [] (hp M ++ es) := by
  intro m
  induction m using Nat.strongRecOn with
  | _ m ih =>
    intro i hm w acc hw h6 hm2 ha hcc hQ o6
    have hlt := num_lt hw (by omega)
    refine x_ld 5 2 0 10 rfl rfl rfl rfl rfl ?_
    refine x_cst (zi 6) 2 12 rfl rfl rfl ?_
    refine z_icge 70 15 rfl rfl rfl ⟨by omega, by omega⟩ (rg_lit 6 rfl) (fun c12 => ?_) (fun c12 => ?_)
    · refine x_ld 3 1 0 71 rfl rfl rfl rfl rfl ?_
      refine x_ret rfl rfl rfl rfl ?_
      have e : w = [] := by
        rcases Nat.eq_zero_or_pos w.length with e | e
        · exact List.length_eq_zero_iff.mp e
        · have := tx_num_short (u := []) (v := w) (fun d hd => by cases hd) e
          rw [tx_num_nil] at this
          omega
      rw [e, rps_nil, List.flatMap_nil, List.append_nil] at hQ; exact hQ
    · refine x_ld 4 2 0 17 rfl rfl rfl rfl rfl ?_
      refine z_ifle 70 20 rfl rfl rfl ⟨by omega, by omega⟩ (fun c17 => ?_) (fun c17 => ?_)
      · refine x_ld 3 1 0 71 rfl rfl rfl rfl rfl ?_
        refine x_ret rfl rfl rfl rfl ?_
        have e : w = [] := by
          rcases Nat.eq_zero_or_pos w.length with e | e
          · exact List.length_eq_zero_iff.mp e
          · have := tx_num_short (u := []) (v := w) (fun d hd => by cases hd) e
            rw [tx_num_nil] at this
            omega
        rw [e, rps_nil, List.flatMap_nil, List.append_nil] at hQ; exact hQ
      · have hne : w ≠ [] := fun e => by rw [e, tx_num_nil] at c17; omega
        have hcu := rq_cuf hw hB hne hm2
        have hpos := cuf_pos (A := A) (B := B) hne
        have hle := cuf_le A B w
        have hex : ∃ i, i ≤ w.length ∧ cp (sN (M.2.1 (q + 2))) (sN (M.2.1 (p + 2))) w i = true := ⟨_, hle, by rw [cp_agw aA aB hw (by omega)]; unfold cp; rw [hcu.1, hcu.2]; rfl⟩
        have hcc1 := hcc _ (by rw [rps_cons hne]; exact List.mem_cons_self ..)
        refine x_ld 4 2 0 22 rfl rfl rfl rfl rfl ?_
        refine x_ld 0 1 2 23 rfl rfl rfl rfl rfl ?_
        refine g_P_3 h 53 26 rfl rfl eq rfl ?_
        refine g_P_5 hq 24 29 rfl rfl rfl ?_
        refine x_ld 0 1 2 30 rfl rfl rfl rfl rfl ?_
        refine g_P_5 h 24 33 rfl rfl rfl ?_
        refine x_cv 133 68 36 [zi ((tx_num w : Nat) : Int), .ref (q + 1), .ref (p + 1)] rfl rfl rfl (Nat.le_of_ble_eq_true rfl) rfl rfl (Nat.le_of_ble_eq_true rfl) trivial (Nat.le_of_ble_eq_true rfl) (c68 (D + 1) hw (by omega) (iT_P1 hq) (iT_P1 h) hex) rfl ?_
        rw [cut_ag aA aB hw (by omega), cut_cuf h0 hne]
        refine x_st 6 2 0 38 [some (.ref p), some (zi ((tx_num w0 : Nat) : Int)), some (zi ((deep : Nat) : Int)), some (zi (nz acc)), some (zi ((tx_num w : Nat) : Int)), some (zi ((i : Nat) : Int)), some (zi ((tx_num (w.take (cuf A B w)) : Nat) : Int))] rfl rfl rfl (Nat.le_of_ble_eq_true rfl) rfl rfl ?_
        refine x_ld 3 1 0 39 rfl rfl rfl rfl rfl ?_
        refine x_ld 0 1 2 40 rfl rfl rfl rfl rfl ?_
        refine g_P_3 h 53 43 rfl rfl eq rfl ?_
        refine x_ld 6 2 0 45 rfl rfl rfl rfl rfl ?_
        refine x_ld 2 1 0 46 rfl rfl rfl rfl rfl ?_
        refine x_cst (zi 1) 1 47 rfl rfl rfl ?_
        refine z_add 48 rfl rfl ?_
        refine x_cv 119 65 51 [.ref q, zi ((tx_num (w.take (cuf A B w)) : Nat) : Int), zi (((deep : Nat) : Int) + 1)] rfl rfl rfl (Nat.le_of_ble_eq_true rfl) rfl rfl (Nat.le_of_ble_eq_true rfl) ⟨_, _, _, rfl, oP hq⟩ (Nat.le_of_ble_eq_true rfl) hcc1.2 rfl ?_
        refine x_cv 142 70 54 [zi (nz acc), zi (nz (f (w.take (cuf A B w))))] rfl rfl rfl (Nat.le_of_ble_eq_true rfl) rfl rfl (Nat.le_of_ble_eq_true rfl) trivial (Nat.le_of_ble_eq_true rfl) (c70 (D + 1) ha hcc1.1) rfl ?_
        refine x_st 3 1 0 55 [some (.ref p), some (zi ((tx_num w0 : Nat) : Int)), some (zi ((deep : Nat) : Int)), some (zi (nz (acc ++ f (w.take (cuf A B w))))), some (zi ((tx_num w : Nat) : Int)), some (zi ((i : Nat) : Int)), some (zi ((tx_num (w.take (cuf A B w)) : Nat) : Int))] rfl rfl rfl (Nat.le_of_ble_eq_true rfl) rfl rfl ?_
        refine x_ld 4 2 0 57 rfl rfl rfl rfl rfl ?_
        refine x_ld 6 2 0 59 rfl rfl rfl rfl rfl ?_
        refine x_cv 139 69 62 [zi ((tx_num w : Nat) : Int), zi ((tx_num (w.take (cuf A B w)) : Nat) : Int)] rfl rfl rfl (Nat.le_of_ble_eq_true rfl) rfl rfl (Nat.le_of_ble_eq_true rfl) trivial (Nat.le_of_ble_eq_true rfl) (c69 (D + 1) hw (by omega) hle) rfl ?_
        refine x_st 4 2 0 64 [some (.ref p), some (zi ((tx_num w0 : Nat) : Int)), some (zi ((deep : Nat) : Int)), some (zi (nz (acc ++ f (w.take (cuf A B w))))), some (zi ((tx_num (w.drop (cuf A B w)) : Nat) : Int)), some (zi ((i : Nat) : Int)), some (zi ((tx_num (w.take (cuf A B w)) : Nat) : Int))] rfl rfl rfl (Nat.le_of_ble_eq_true rfl) rfl rfl ?_
        refine z_inc 5 67 [some (.ref p), some (zi ((tx_num w0 : Nat) : Int)), some (zi ((deep : Nat) : Int)), some (zi (nz (acc ++ f (w.take (cuf A B w))))), some (zi ((tx_num (w.drop (cuf A B w)) : Nat) : Int)), some (zi (((i : Nat) : Int) + 1)), some (zi ((tx_num (w.take (cuf A B w)) : Nat) : Int))] rfl rfl (Nat.le_of_ble_eq_true rfl) rfl rfl ?_
        refine x_go 8 rfl rfl ?_
        refine ih (6 - (i + 1)) (by omega) (i + 1) rfl _ _ (tx_L_drop hw _) (by rw [List.length_drop]; omega) hcu.2 (tx_L_app.mpr ⟨ha, hcc1.1⟩) (fun u hu => hcc u (by rw [rps_cons hne]; exact List.mem_cons_of_mem _ hu)) ?_ _
        rw [rps_cons hne, List.flatMap_cons, ← List.append_assoc] at hQ; exact hQ
theorem c71 (D : Nat) {p q : Nat} (h : isP p) (hq : isP q) (eq : M.2.2 p 3 = q) {A B : Nat → Bool} (aA : ag (sN (M.2.1 (q + 2))) A) (aB : ag (sN (M.2.1 (p + 2))) B) (hB : ∀ t, B t = true ↔ rq A t) (h0 : A 0 = false) {deep : Nat} (hd : deep ≤ 100) {f : List Nat → List Nat} {w : List Nat} (hw : tx_L w) (h6 : w.length ≤ 6) (hm : B (tx_num w) = true) (hcc : ∀ u ∈ rps A B w, tx_L (f u) ∧ ab_S (pg_G L xs) (D + 3) 65 [.ref q, zi (tx_num u : Nat), zi ((deep : Int) + 1)] (hp M ++ es) (some (zi (nz (f u)))) (hp M ++ es)) : ab_S (pg_G L xs) (D + 4) 71 [.ref p, zi (tx_num w : Nat), zi (deep : Nat)] (hp M ++ es) (some (zi (nz ((rps A B w).flatMap f)))) (hp M ++ es) := by
  show ab_W (pg_G L xs) (ab_X (pg_G L xs) (D + 3)) 71 _ 0 [some (.ref p), some (zi ((tx_num w : Nat) : Int)), some (zi ((deep : Nat) : Int)), none, none, none, none] [] (hp M ++ es)
  refine x_cst (zi 0) 1 1 rfl rfl rfl ?_
  refine x_st 3 1 0 2 [some (.ref p), some (zi ((tx_num w : Nat) : Int)), some (zi ((deep : Nat) : Int)), some (zi 0), none, none, none] rfl rfl rfl (Nat.le_of_ble_eq_true rfl) rfl rfl ?_
  refine x_ld 1 1 0 3 rfl rfl rfl rfl rfl ?_
  refine x_st 4 2 0 5 [some (.ref p), some (zi ((tx_num w : Nat) : Int)), some (zi ((deep : Nat) : Int)), some (zi 0), some (zi ((tx_num w : Nat) : Int)), none, none] rfl rfl rfl (Nat.le_of_ble_eq_true rfl) rfl rfl ?_
  refine x_cst (zi 0) 1 6 rfl rfl rfl ?_
  refine x_st 5 2 0 8 [some (.ref p), some (zi ((tx_num w : Nat) : Int)), some (zi ((deep : Nat) : Int)), some (zi 0), some (zi ((tx_num w : Nat) : Int)), some (zi 0), none] rfl rfl rfl (Nat.le_of_ble_eq_true rfl) rfl rfl ?_
  exact c71_loop D h hq eq aA aB hB h0 hd w _ 0 rfl w [] hw (by omega) hm (fun d hd => by cases hd) hcc ⟨rfl, rfl⟩ _
theorem c80_5 (D : Nat) {p q r : Nat} (h : isP p) (hq : isP q) (hr : isP r) (eq : M.2.2 p 3 = q) (er : M.2.2 p 4 = r) (hk : M.1 p 0 = 5) {A B : Nat → Bool} (aA : ag (sN (M.2.1 (q + 4))) A) (aB : ag (sN (M.2.1 (r + 4))) B) {w : List Nat} (hw : tx_L w) (h6 : w.length ≤ 6) (hj : ∃ i, i ≤ w.length ∧ cp A B w i = true) {deep : Nat} (hd : deep ≤ 100) {u1 u2 : List Nat} (hu1 : tx_L u1) (hu2 : tx_L u2) (c1 : ab_S (pg_G L xs) (D + 3) 78 [.ref q, zi ((tx_num (w.take (cut A B w)) : Nat) : Int), zi ((deep : Int) + 1)] (hp M ++ es) (some (zi (nz u1))) (hp M ++ es)) (c2 : ab_S (pg_G L xs) (D + 3) 78 [.ref r, zi ((tx_num (w.drop (cut A B w)) : Nat) : Int), zi ((deep : Int) + 1)] (hp M ++ es) (some (zi (nz u2))) (hp M ++ es)) : ab_S (pg_G L xs) (D + 4) 80 [.ref p, zi (tx_num w : Nat), zi (deep : Nat)] (hp M ++ es) (some (zi (nz (u1 ++ u2)))) (hp M ++ es) := by
  have hex : ∃ i, i ≤ w.length ∧ cp (sN (M.2.1 (q + 4))) (sN (M.2.1 (r + 4))) w i = true := by
    obtain ⟨i, hi, hc⟩ := hj
    exact ⟨i, hi, by rw [cp_agw aA aB hw h6]; exact hc⟩
  show ab_W (pg_G L xs) (ab_X (pg_G L xs) (D + 3)) 80 _ 0 [some (.ref p), some (zi ((tx_num w : Nat) : Int)), some (zi ((deep : Nat) : Int)), none, none, none] [] (hp M ++ es)
  refine x_ld 1 1 0 1 rfl rfl rfl rfl rfl ?_
  refine x_ld 0 1 2 2 rfl rfl rfl rfl rfl ?_
  refine x_cv 104 40 5 [.ref p] rfl rfl rfl (Nat.le_of_ble_eq_true rfl) rfl rfl (Nat.le_of_ble_eq_true rfl) ⟨_, _, _, rfl, oP h⟩ (Nat.le_of_ble_eq_true rfl) (c40j (D + 2) h hk) rfl ?_
  rw [eq]
  refine g_P_6 hq 28 8 rfl rfl rfl ?_
  refine x_ld 0 1 2 9 rfl rfl rfl rfl rfl ?_
  refine x_cv 108 41 12 [.ref p] rfl rfl rfl (Nat.le_of_ble_eq_true rfl) rfl rfl (Nat.le_of_ble_eq_true rfl) ⟨_, _, _, rfl, oP h⟩ (Nat.le_of_ble_eq_true rfl) (c41j (D + 2) h hk) rfl ?_
  rw [er]
  refine g_P_6 hr 28 15 rfl rfl rfl ?_
  refine x_cv 133 68 18 [zi ((tx_num w : Nat) : Int), .ref (q + 3), .ref (r + 3)] rfl rfl rfl (Nat.le_of_ble_eq_true rfl) rfl rfl (Nat.le_of_ble_eq_true rfl) trivial (Nat.le_of_ble_eq_true rfl) (c68 (D + 1) hw h6 (iT_P3 hq) (iT_P3 hr) hex) rfl ?_
  rw [cut_ag aA aB hw h6]
  refine x_st 3 1 0 19 [some (.ref p), some (zi ((tx_num w : Nat) : Int)), some (zi ((deep : Nat) : Int)), some (zi ((tx_num (w.take (cut A B w)) : Nat) : Int)), none, none] rfl rfl rfl (Nat.le_of_ble_eq_true rfl) rfl rfl ?_
  refine x_ld 0 1 2 20 rfl rfl rfl rfl rfl ?_
  refine x_cv 104 40 23 [.ref p] rfl rfl rfl (Nat.le_of_ble_eq_true rfl) rfl rfl (Nat.le_of_ble_eq_true rfl) ⟨_, _, _, rfl, oP h⟩ (Nat.le_of_ble_eq_true rfl) (c40j (D + 2) h hk) rfl ?_
  rw [eq]
  refine x_ld 3 1 0 24 rfl rfl rfl rfl rfl ?_
  refine x_ld 2 1 0 25 rfl rfl rfl rfl rfl ?_
  refine x_cst (zi 1) 1 26 rfl rfl rfl ?_
  refine z_add 27 rfl rfl ?_
  refine x_cv 145 78 30 [.ref q, zi ((tx_num (w.take (cut A B w)) : Nat) : Int), zi (((deep : Nat) : Int) + 1)] rfl rfl rfl (Nat.le_of_ble_eq_true rfl) rfl rfl (Nat.le_of_ble_eq_true rfl) ⟨_, _, _, rfl, oP hq⟩ (Nat.le_of_ble_eq_true rfl) c1 rfl ?_
  refine x_st 4 2 0 32 [some (.ref p), some (zi ((tx_num w : Nat) : Int)), some (zi ((deep : Nat) : Int)), some (zi ((tx_num (w.take (cut A B w)) : Nat) : Int)), some (zi (nz u1)), none] rfl rfl rfl (Nat.le_of_ble_eq_true rfl) rfl rfl ?_
  refine x_ld 0 1 2 33 rfl rfl rfl rfl rfl ?_
  refine x_cv 108 41 36 [.ref p] rfl rfl rfl (Nat.le_of_ble_eq_true rfl) rfl rfl (Nat.le_of_ble_eq_true rfl) ⟨_, _, _, rfl, oP h⟩ (Nat.le_of_ble_eq_true rfl) (c41j (D + 2) h hk) rfl ?_
  rw [er]
  refine x_ld 1 1 0 37 rfl rfl rfl rfl rfl ?_
  refine x_ld 3 1 0 38 rfl rfl rfl rfl rfl ?_
  refine x_cv 139 69 41 [zi ((tx_num w : Nat) : Int), zi ((tx_num (w.take (cut A B w)) : Nat) : Int)] rfl rfl rfl (Nat.le_of_ble_eq_true rfl) rfl rfl (Nat.le_of_ble_eq_true rfl) trivial (Nat.le_of_ble_eq_true rfl) (c69 (D + 1) hw h6 (cut_le A B w)) rfl ?_
  refine x_ld 2 1 0 42 rfl rfl rfl rfl rfl ?_
  refine x_cst (zi 1) 1 43 rfl rfl rfl ?_
  refine z_add 44 rfl rfl ?_
  refine x_cv 145 78 47 [.ref r, zi ((tx_num (w.drop (cut A B w)) : Nat) : Int), zi (((deep : Nat) : Int) + 1)] rfl rfl rfl (Nat.le_of_ble_eq_true rfl) rfl rfl (Nat.le_of_ble_eq_true rfl) ⟨_, _, _, rfl, oP hr⟩ (Nat.le_of_ble_eq_true rfl) c2 rfl ?_
  refine x_st 5 2 0 49 [some (.ref p), some (zi ((tx_num w : Nat) : Int)), some (zi ((deep : Nat) : Int)), some (zi ((tx_num (w.take (cut A B w)) : Nat) : Int)), some (zi (nz u1)), some (zi (nz u2))] rfl rfl rfl (Nat.le_of_ble_eq_true rfl) rfl rfl ?_
  refine x_ld 0 1 2 50 rfl rfl rfl rfl rfl ?_
  refine g_P_0 h 9 53 rfl rfl hk rfl ?_
  refine x_cst (zi 6) 2 55 rfl rfl rfl ?_
  refine z_icne 68 58 rfl rfl rfl (rg_lit 5 rfl) (rg_lit 6 rfl) (fun _ => ?_) (fun c => absurd c (by decide))
  refine x_ld 4 2 0 70 rfl rfl rfl rfl rfl ?_
  refine x_ld 5 2 0 72 rfl rfl rfl rfl rfl ?_
  refine x_cv 142 70 75 [zi (nz u1), zi (nz u2)] rfl rfl rfl (Nat.le_of_ble_eq_true rfl) rfl rfl (Nat.le_of_ble_eq_true rfl) trivial (Nat.le_of_ble_eq_true rfl) (c70 (D + 1) hu1 hu2) rfl ?_
  refine x_ret rfl rfl rfl rfl ?_
  exact ⟨rfl, rfl⟩
theorem c80_6 (D : Nat) {p q r : Nat} (h : isP p) (hq : isP q) (hr : isP r) (eq : M.2.2 p 3 = q) (er : M.2.2 p 4 = r) (hk : M.1 p 0 = 6) {A B : Nat → Bool} (aA : ag (sN (M.2.1 (r + 4))) A) (aB : ag (sN (M.2.1 (q + 4))) B) {w : List Nat} (hw : tx_L w) (h6 : w.length ≤ 6) (hj : ∃ i, i ≤ w.length ∧ cp A B w i = true) {deep : Nat} (hd : deep ≤ 100) {u1 u2 : List Nat} (hu1 : tx_L u1) (hu2 : tx_L u2) (c1 : ab_S (pg_G L xs) (D + 3) 78 [.ref r, zi ((tx_num (w.take (cut A B w)) : Nat) : Int), zi ((deep : Int) + 1)] (hp M ++ es) (some (zi (nz u1))) (hp M ++ es)) (c2 : ab_S (pg_G L xs) (D + 3) 78 [.ref q, zi ((tx_num (w.drop (cut A B w)) : Nat) : Int), zi ((deep : Int) + 1)] (hp M ++ es) (some (zi (nz u2))) (hp M ++ es)) : ab_S (pg_G L xs) (D + 4) 80 [.ref p, zi (tx_num w : Nat), zi (deep : Nat)] (hp M ++ es) (some (zi (nz (u2 ++ u1)))) (hp M ++ es) := by
  have hex : ∃ i, i ≤ w.length ∧ cp (sN (M.2.1 (r + 4))) (sN (M.2.1 (q + 4))) w i = true := by
    obtain ⟨i, hi, hc⟩ := hj
    exact ⟨i, hi, by rw [cp_agw aA aB hw h6]; exact hc⟩
  show ab_W (pg_G L xs) (ab_X (pg_G L xs) (D + 3)) 80 _ 0 [some (.ref p), some (zi ((tx_num w : Nat) : Int)), some (zi ((deep : Nat) : Int)), none, none, none] [] (hp M ++ es)
  refine x_ld 1 1 0 1 rfl rfl rfl rfl rfl ?_
  refine x_ld 0 1 2 2 rfl rfl rfl rfl rfl ?_
  refine x_cv 104 40 5 [.ref p] rfl rfl rfl (Nat.le_of_ble_eq_true rfl) rfl rfl (Nat.le_of_ble_eq_true rfl) ⟨_, _, _, rfl, oP h⟩ (Nat.le_of_ble_eq_true rfl) (c40x (D + 2) h hk) rfl ?_
  rw [er]
  refine g_P_6 hr 28 8 rfl rfl rfl ?_
  refine x_ld 0 1 2 9 rfl rfl rfl rfl rfl ?_
  refine x_cv 108 41 12 [.ref p] rfl rfl rfl (Nat.le_of_ble_eq_true rfl) rfl rfl (Nat.le_of_ble_eq_true rfl) ⟨_, _, _, rfl, oP h⟩ (Nat.le_of_ble_eq_true rfl) (c41x (D + 2) h hk) rfl ?_
  rw [eq]
  refine g_P_6 hq 28 15 rfl rfl rfl ?_
  refine x_cv 133 68 18 [zi ((tx_num w : Nat) : Int), .ref (r + 3), .ref (q + 3)] rfl rfl rfl (Nat.le_of_ble_eq_true rfl) rfl rfl (Nat.le_of_ble_eq_true rfl) trivial (Nat.le_of_ble_eq_true rfl) (c68 (D + 1) hw h6 (iT_P3 hr) (iT_P3 hq) hex) rfl ?_
  rw [cut_ag aA aB hw h6]
  refine x_st 3 1 0 19 [some (.ref p), some (zi ((tx_num w : Nat) : Int)), some (zi ((deep : Nat) : Int)), some (zi ((tx_num (w.take (cut A B w)) : Nat) : Int)), none, none] rfl rfl rfl (Nat.le_of_ble_eq_true rfl) rfl rfl ?_
  refine x_ld 0 1 2 20 rfl rfl rfl rfl rfl ?_
  refine x_cv 104 40 23 [.ref p] rfl rfl rfl (Nat.le_of_ble_eq_true rfl) rfl rfl (Nat.le_of_ble_eq_true rfl) ⟨_, _, _, rfl, oP h⟩ (Nat.le_of_ble_eq_true rfl) (c40x (D + 2) h hk) rfl ?_
  rw [er]
  refine x_ld 3 1 0 24 rfl rfl rfl rfl rfl ?_
  refine x_ld 2 1 0 25 rfl rfl rfl rfl rfl ?_
  refine x_cst (zi 1) 1 26 rfl rfl rfl ?_
  refine z_add 27 rfl rfl ?_
  refine x_cv 145 78 30 [.ref r, zi ((tx_num (w.take (cut A B w)) : Nat) : Int), zi (((deep : Nat) : Int) + 1)] rfl rfl rfl (Nat.le_of_ble_eq_true rfl) rfl rfl (Nat.le_of_ble_eq_true rfl) ⟨_, _, _, rfl, oP hr⟩ (Nat.le_of_ble_eq_true rfl) c1 rfl ?_
  refine x_st 4 2 0 32 [some (.ref p), some (zi ((tx_num w : Nat) : Int)), some (zi ((deep : Nat) : Int)), some (zi ((tx_num (w.take (cut A B w)) : Nat) : Int)), some (zi (nz u1)), none] rfl rfl rfl (Nat.le_of_ble_eq_true rfl) rfl rfl ?_
  refine x_ld 0 1 2 33 rfl rfl rfl rfl rfl ?_
  refine x_cv 108 41 36 [.ref p] rfl rfl rfl (Nat.le_of_ble_eq_true rfl) rfl rfl (Nat.le_of_ble_eq_true rfl) ⟨_, _, _, rfl, oP h⟩ (Nat.le_of_ble_eq_true rfl) (c41x (D + 2) h hk) rfl ?_
  rw [eq]
  refine x_ld 1 1 0 37 rfl rfl rfl rfl rfl ?_
  refine x_ld 3 1 0 38 rfl rfl rfl rfl rfl ?_
  refine x_cv 139 69 41 [zi ((tx_num w : Nat) : Int), zi ((tx_num (w.take (cut A B w)) : Nat) : Int)] rfl rfl rfl (Nat.le_of_ble_eq_true rfl) rfl rfl (Nat.le_of_ble_eq_true rfl) trivial (Nat.le_of_ble_eq_true rfl) (c69 (D + 1) hw h6 (cut_le A B w)) rfl ?_
  refine x_ld 2 1 0 42 rfl rfl rfl rfl rfl ?_
  refine x_cst (zi 1) 1 43 rfl rfl rfl ?_
  refine z_add 44 rfl rfl ?_
  refine x_cv 145 78 47 [.ref q, zi ((tx_num (w.drop (cut A B w)) : Nat) : Int), zi (((deep : Nat) : Int) + 1)] rfl rfl rfl (Nat.le_of_ble_eq_true rfl) rfl rfl (Nat.le_of_ble_eq_true rfl) ⟨_, _, _, rfl, oP hq⟩ (Nat.le_of_ble_eq_true rfl) c2 rfl ?_
  refine x_st 5 2 0 49 [some (.ref p), some (zi ((tx_num w : Nat) : Int)), some (zi ((deep : Nat) : Int)), some (zi ((tx_num (w.take (cut A B w)) : Nat) : Int)), some (zi (nz u1)), some (zi (nz u2))] rfl rfl rfl (Nat.le_of_ble_eq_true rfl) rfl rfl ?_
  refine x_ld 0 1 2 50 rfl rfl rfl rfl rfl ?_
  refine g_P_0 h 9 53 rfl rfl hk rfl ?_
  refine x_cst (zi 6) 2 55 rfl rfl rfl ?_
  refine z_icne 68 58 rfl rfl rfl (rg_lit 6 rfl) (rg_lit 6 rfl) (fun c => absurd c (by decide)) (fun _ => ?_)
  refine x_ld 5 2 0 60 rfl rfl rfl rfl rfl ?_
  refine x_ld 4 2 0 62 rfl rfl rfl rfl rfl ?_
  refine x_cv 142 70 65 [zi (nz u2), zi (nz u1)] rfl rfl rfl (Nat.le_of_ble_eq_true rfl) rfl rfl (Nat.le_of_ble_eq_true rfl) trivial (Nat.le_of_ble_eq_true rfl) (c70 (D + 1) hu2 hu1) rfl ?_
  refine x_go 75 rfl rfl ?_
  refine x_ret rfl rfl rfl rfl ?_
  exact ⟨rfl, rfl⟩
theorem c81_loop (D : Nat) {p q : Nat} (h : isP p) (hq : isP q) (eq : M.2.2 p 3 = q) {A B : Nat → Bool} (aA : ag (sN (M.2.1 (q + 4))) A) (aB : ag (sN (M.2.1 (p + 4))) B) (hB : ∀ t, B t = true ↔ rq A t) (h0 : A 0 = false) {deep : Nat} (hd : deep ≤ 100) {f : List Nat → List Nat} (w0 : List Nat) {Q : ab_Q} : ∀ m i : Nat, 6 - i = m → ∀ (w acc : List Nat), tx_L w → i + w.length ≤ 6 → B (tx_num w) = true → tx_L acc → (∀ u ∈ rps A B w, tx_L (f u) ∧ ab_S (pg_G L xs) (D + 3) 78 [.ref q, zi (tx_num u : Nat), zi ((deep : Int) + 1)] (hp M ++ es) (some (zi (nz (f u)))) (hp M ++ es)) → Q (.inl (some (zi (nz (acc ++ (rps A B w).flatMap f))))) (hp M ++ es) → ∀ o6, ab_W (pg_G L xs) (ab_X (pg_G L xs) (D + 3)) 81 Q 8 [some (.ref p), some (zi (tx_num w0 : Nat)), some (zi (deep : Nat)), some (zi (nz acc)), some (zi (tx_num w : Nat)), some (zi (i : Nat)), o6] [] (hp M ++ es) := by
  intro m
  induction m using Nat.strongRecOn with
  | _ m ih =>
    intro i hm w acc hw h6 hm2 ha hcc hQ o6
    have hlt := num_lt hw (by omega)
    refine x_ld 5 2 0 10 rfl rfl rfl rfl rfl ?_
    refine x_cst (zi 6) 2 12 rfl rfl rfl ?_
    refine z_icge 70 15 rfl rfl rfl ⟨by omega, by omega⟩ (rg_lit 6 rfl) (fun c12 => ?_) (fun c12 => ?_)
    · refine x_ld 3 1 0 71 rfl rfl rfl rfl rfl ?_
      refine x_ret rfl rfl rfl rfl ?_
      have e : w = [] := by
        rcases Nat.eq_zero_or_pos w.length with e | e
        · exact List.length_eq_zero_iff.mp e
        · have := tx_num_short (u := []) (v := w) (fun d hd => by cases hd) e
          rw [tx_num_nil] at this
          omega
      rw [e, rps_nil, List.flatMap_nil, List.append_nil] at hQ; exact hQ
    · refine x_ld 4 2 0 17 rfl rfl rfl rfl rfl ?_
      refine z_ifle 70 20 rfl rfl rfl ⟨by omega, by omega⟩ (fun c17 => ?_) (fun c17 => ?_)
      · refine x_ld 3 1 0 71 rfl rfl rfl rfl rfl ?_
        refine x_ret rfl rfl rfl rfl ?_
        have e : w = [] := by
          rcases Nat.eq_zero_or_pos w.length with e | e
          · exact List.length_eq_zero_iff.mp e
          · have := tx_num_short (u := []) (v := w) (fun d hd => by cases hd) e
            rw [tx_num_nil] at this
            omega
        rw [e, rps_nil, List.flatMap_nil, List.append_nil] at hQ; exact hQ
      · have hne : w ≠ [] := fun e => by rw [e, tx_num_nil] at c17; omega
        have hcu := rq_cuf hw hB hne hm2
        have hpos := cuf_pos (A := A) (B := B) hne
        have hle := cuf_le A B w
        have hex : ∃ i, i ≤ w.length ∧ cp (sN (M.2.1 (q + 4))) (sN (M.2.1 (p + 4))) w i = true := ⟨_, hle, by rw [cp_agw aA aB hw (by omega)]; unfold cp; rw [hcu.1, hcu.2]; rfl⟩
        have hcc1 := hcc _ (by rw [rps_cons hne]; exact List.mem_cons_self ..)
        refine x_ld 4 2 0 22 rfl rfl rfl rfl rfl ?_
        refine x_ld 0 1 2 23 rfl rfl rfl rfl rfl ?_
        refine g_P_3 h 53 26 rfl rfl eq rfl ?_
        refine g_P_6 hq 28 29 rfl rfl rfl ?_
        refine x_ld 0 1 2 30 rfl rfl rfl rfl rfl ?_
        refine g_P_6 h 28 33 rfl rfl rfl ?_
        refine x_cv 133 68 36 [zi ((tx_num w : Nat) : Int), .ref (q + 3), .ref (p + 3)] rfl rfl rfl (Nat.le_of_ble_eq_true rfl) rfl rfl (Nat.le_of_ble_eq_true rfl) trivial (Nat.le_of_ble_eq_true rfl) (c68 (D + 1) hw (by omega) (iT_P3 hq) (iT_P3 h) hex) rfl ?_
        rw [cut_ag aA aB hw (by omega), cut_cuf h0 hne]
        refine x_st 6 2 0 38 [some (.ref p), some (zi ((tx_num w0 : Nat) : Int)), some (zi ((deep : Nat) : Int)), some (zi (nz acc)), some (zi ((tx_num w : Nat) : Int)), some (zi ((i : Nat) : Int)), some (zi ((tx_num (w.take (cuf A B w)) : Nat) : Int))] rfl rfl rfl (Nat.le_of_ble_eq_true rfl) rfl rfl ?_
        refine x_ld 3 1 0 39 rfl rfl rfl rfl rfl ?_
        refine x_ld 0 1 2 40 rfl rfl rfl rfl rfl ?_
        refine g_P_3 h 53 43 rfl rfl eq rfl ?_
        refine x_ld 6 2 0 45 rfl rfl rfl rfl rfl ?_
        refine x_ld 2 1 0 46 rfl rfl rfl rfl rfl ?_
        refine x_cst (zi 1) 1 47 rfl rfl rfl ?_
        refine z_add 48 rfl rfl ?_
        refine x_cv 145 78 51 [.ref q, zi ((tx_num (w.take (cuf A B w)) : Nat) : Int), zi (((deep : Nat) : Int) + 1)] rfl rfl rfl (Nat.le_of_ble_eq_true rfl) rfl rfl (Nat.le_of_ble_eq_true rfl) ⟨_, _, _, rfl, oP hq⟩ (Nat.le_of_ble_eq_true rfl) hcc1.2 rfl ?_
        refine x_cv 142 70 54 [zi (nz acc), zi (nz (f (w.take (cuf A B w))))] rfl rfl rfl (Nat.le_of_ble_eq_true rfl) rfl rfl (Nat.le_of_ble_eq_true rfl) trivial (Nat.le_of_ble_eq_true rfl) (c70 (D + 1) ha hcc1.1) rfl ?_
        refine x_st 3 1 0 55 [some (.ref p), some (zi ((tx_num w0 : Nat) : Int)), some (zi ((deep : Nat) : Int)), some (zi (nz (acc ++ f (w.take (cuf A B w))))), some (zi ((tx_num w : Nat) : Int)), some (zi ((i : Nat) : Int)), some (zi ((tx_num (w.take (cuf A B w)) : Nat) : Int))] rfl rfl rfl (Nat.le_of_ble_eq_true rfl) rfl rfl ?_
        refine x_ld 4 2 0 57 rfl rfl rfl rfl rfl ?_
        refine x_ld 6 2 0 59 rfl rfl rfl rfl rfl ?_
        refine x_cv 139 69 62 [zi ((tx_num w : Nat) : Int), zi ((tx_num (w.take (cuf A B w)) : Nat) : Int)] rfl rfl rfl (Nat.le_of_ble_eq_true rfl) rfl rfl (Nat.le_of_ble_eq_true rfl) trivial (Nat.le_of_ble_eq_true rfl) (c69 (D + 1) hw (by omega) hle) rfl ?_
        refine x_st 4 2 0 64 [some (.ref p), some (zi ((tx_num w0 : Nat) : Int)), some (zi ((deep : Nat) : Int)), some (zi (nz (acc ++ f (w.take (cuf A B w))))), some (zi ((tx_num (w.drop (cuf A B w)) : Nat) : Int)), some (zi ((i : Nat) : Int)), some (zi ((tx_num (w.take (cuf A B w)) : Nat) : Int))] rfl rfl rfl (Nat.le_of_ble_eq_true rfl) rfl rfl ?_
        refine z_inc 5 67 [some (.ref p), some (zi ((tx_num w0 : Nat) : Int)), some (zi ((deep : Nat) : Int)), some (zi (nz (acc ++ f (w.take (cuf A B w))))), some (zi ((tx_num (w.drop (cuf A B w)) : Nat) : Int)), some (zi (((i : Nat) : Int) + 1)), some (zi ((tx_num (w.take (cuf A B w)) : Nat) : Int))] rfl rfl (Nat.le_of_ble_eq_true rfl) rfl rfl ?_
        refine x_go 8 rfl rfl ?_
        refine ih (6 - (i + 1)) (by omega) (i + 1) rfl _ _ (tx_L_drop hw _) (by rw [List.length_drop]; omega) hcu.2 (tx_L_app.mpr ⟨ha, hcc1.1⟩) (fun u hu => hcc u (by rw [rps_cons hne]; exact List.mem_cons_of_mem _ hu)) ?_ _
        rw [rps_cons hne, List.flatMap_cons, ← List.append_assoc] at hQ; exact hQ
theorem c81 (D : Nat) {p q : Nat} (h : isP p) (hq : isP q) (eq : M.2.2 p 3 = q) {A B : Nat → Bool} (aA : ag (sN (M.2.1 (q + 4))) A) (aB : ag (sN (M.2.1 (p + 4))) B) (hB : ∀ t, B t = true ↔ rq A t) (h0 : A 0 = false) {deep : Nat} (hd : deep ≤ 100) {f : List Nat → List Nat} {w : List Nat} (hw : tx_L w) (h6 : w.length ≤ 6) (hm : B (tx_num w) = true) (hcc : ∀ u ∈ rps A B w, tx_L (f u) ∧ ab_S (pg_G L xs) (D + 3) 78 [.ref q, zi (tx_num u : Nat), zi ((deep : Int) + 1)] (hp M ++ es) (some (zi (nz (f u)))) (hp M ++ es)) : ab_S (pg_G L xs) (D + 4) 81 [.ref p, zi (tx_num w : Nat), zi (deep : Nat)] (hp M ++ es) (some (zi (nz ((rps A B w).flatMap f)))) (hp M ++ es) := by
  show ab_W (pg_G L xs) (ab_X (pg_G L xs) (D + 3)) 81 _ 0 [some (.ref p), some (zi ((tx_num w : Nat) : Int)), some (zi ((deep : Nat) : Int)), none, none, none, none] [] (hp M ++ es)
  refine x_cst (zi 0) 1 1 rfl rfl rfl ?_
  refine x_st 3 1 0 2 [some (.ref p), some (zi ((tx_num w : Nat) : Int)), some (zi ((deep : Nat) : Int)), some (zi 0), none, none, none] rfl rfl rfl (Nat.le_of_ble_eq_true rfl) rfl rfl ?_
  refine x_ld 1 1 0 3 rfl rfl rfl rfl rfl ?_
  refine x_st 4 2 0 5 [some (.ref p), some (zi ((tx_num w : Nat) : Int)), some (zi ((deep : Nat) : Int)), some (zi 0), some (zi ((tx_num w : Nat) : Int)), none, none] rfl rfl rfl (Nat.le_of_ble_eq_true rfl) rfl rfl ?_
  refine x_cst (zi 0) 1 6 rfl rfl rfl ?_
  refine x_st 5 2 0 8 [some (.ref p), some (zi ((tx_num w : Nat) : Int)), some (zi ((deep : Nat) : Int)), some (zi 0), some (zi ((tx_num w : Nat) : Int)), some (zi 0), none] rfl rfl rfl (Nat.le_of_ble_eq_true rfl) rfl rfl ?_
  exact c81_loop D h hq eq aA aB hB h0 hd w _ 0 rfl w [] hw (by omega) hm (fun d hd => by cases hd) hcc ⟨rfl, rfl⟩ _
theorem c87_5 (D : Nat) {p q r : Nat} (h : isP p) (hq : isP q) (hr : isP r) (eq : M.2.2 p 3 = q) (er : M.2.2 p 4 = r) (hk : M.1 p 0 = 5) {A B : Nat → Bool} (aA : ag (sN (M.2.1 (q + 4))) A) (aB : ag (sN (M.2.1 (r + 4))) B) {w : List Nat} (hw : tx_L w) (h6 : w.length ≤ 6) (hj : ∃ i, i ≤ w.length ∧ cp A B w i = true) {deep : Nat} (hd : deep ≤ 100) {u1 u2 : List Nat} (hu1 : tx_L u1) (hu2 : tx_L u2) (c1 : ab_S (pg_G L xs) (D + 3) 86 [.ref q, zi ((tx_num (w.take (cut A B w)) : Nat) : Int), zi ((deep : Int) + 1)] (hp M ++ es) (some (zi (nz u1))) (hp M ++ es)) (c2 : ab_S (pg_G L xs) (D + 3) 86 [.ref r, zi ((tx_num (w.drop (cut A B w)) : Nat) : Int), zi ((deep : Int) + 1)] (hp M ++ es) (some (zi (nz u2))) (hp M ++ es)) : ab_S (pg_G L xs) (D + 4) 87 [.ref p, zi (tx_num w : Nat), zi (deep : Nat)] (hp M ++ es) (some (zi (nz (u1 ++ u2)))) (hp M ++ es) := by
  have hex : ∃ i, i ≤ w.length ∧ cp (sN (M.2.1 (q + 4))) (sN (M.2.1 (r + 4))) w i = true := by
    obtain ⟨i, hi, hc⟩ := hj
    exact ⟨i, hi, by rw [cp_agw aA aB hw h6]; exact hc⟩
  show ab_W (pg_G L xs) (ab_X (pg_G L xs) (D + 3)) 87 _ 0 [some (.ref p), some (zi ((tx_num w : Nat) : Int)), some (zi ((deep : Nat) : Int)), none, none, none] [] (hp M ++ es)
  refine x_ld 1 1 0 1 rfl rfl rfl rfl rfl ?_
  refine x_ld 0 1 2 2 rfl rfl rfl rfl rfl ?_
  refine x_cv 104 40 5 [.ref p] rfl rfl rfl (Nat.le_of_ble_eq_true rfl) rfl rfl (Nat.le_of_ble_eq_true rfl) ⟨_, _, _, rfl, oP h⟩ (Nat.le_of_ble_eq_true rfl) (c40j (D + 2) h hk) rfl ?_
  rw [eq]
  refine g_P_6 hq 28 8 rfl rfl rfl ?_
  refine x_ld 0 1 2 9 rfl rfl rfl rfl rfl ?_
  refine x_cv 108 41 12 [.ref p] rfl rfl rfl (Nat.le_of_ble_eq_true rfl) rfl rfl (Nat.le_of_ble_eq_true rfl) ⟨_, _, _, rfl, oP h⟩ (Nat.le_of_ble_eq_true rfl) (c41j (D + 2) h hk) rfl ?_
  rw [er]
  refine g_P_6 hr 28 15 rfl rfl rfl ?_
  refine x_cv 133 68 18 [zi ((tx_num w : Nat) : Int), .ref (q + 3), .ref (r + 3)] rfl rfl rfl (Nat.le_of_ble_eq_true rfl) rfl rfl (Nat.le_of_ble_eq_true rfl) trivial (Nat.le_of_ble_eq_true rfl) (c68 (D + 1) hw h6 (iT_P3 hq) (iT_P3 hr) hex) rfl ?_
  rw [cut_ag aA aB hw h6]
  refine x_st 3 1 0 19 [some (.ref p), some (zi ((tx_num w : Nat) : Int)), some (zi ((deep : Nat) : Int)), some (zi ((tx_num (w.take (cut A B w)) : Nat) : Int)), none, none] rfl rfl rfl (Nat.le_of_ble_eq_true rfl) rfl rfl ?_
  refine x_ld 0 1 2 20 rfl rfl rfl rfl rfl ?_
  refine x_cv 104 40 23 [.ref p] rfl rfl rfl (Nat.le_of_ble_eq_true rfl) rfl rfl (Nat.le_of_ble_eq_true rfl) ⟨_, _, _, rfl, oP h⟩ (Nat.le_of_ble_eq_true rfl) (c40j (D + 2) h hk) rfl ?_
  rw [eq]
  refine x_ld 3 1 0 24 rfl rfl rfl rfl rfl ?_
  refine x_ld 2 1 0 25 rfl rfl rfl rfl rfl ?_
  refine x_cst (zi 1) 1 26 rfl rfl rfl ?_
  refine z_add 27 rfl rfl ?_
  refine x_cv 157 86 30 [.ref q, zi ((tx_num (w.take (cut A B w)) : Nat) : Int), zi (((deep : Nat) : Int) + 1)] rfl rfl rfl (Nat.le_of_ble_eq_true rfl) rfl rfl (Nat.le_of_ble_eq_true rfl) ⟨_, _, _, rfl, oP hq⟩ (Nat.le_of_ble_eq_true rfl) c1 rfl ?_
  refine x_st 4 2 0 32 [some (.ref p), some (zi ((tx_num w : Nat) : Int)), some (zi ((deep : Nat) : Int)), some (zi ((tx_num (w.take (cut A B w)) : Nat) : Int)), some (zi (nz u1)), none] rfl rfl rfl (Nat.le_of_ble_eq_true rfl) rfl rfl ?_
  refine x_ld 0 1 2 33 rfl rfl rfl rfl rfl ?_
  refine x_cv 108 41 36 [.ref p] rfl rfl rfl (Nat.le_of_ble_eq_true rfl) rfl rfl (Nat.le_of_ble_eq_true rfl) ⟨_, _, _, rfl, oP h⟩ (Nat.le_of_ble_eq_true rfl) (c41j (D + 2) h hk) rfl ?_
  rw [er]
  refine x_ld 1 1 0 37 rfl rfl rfl rfl rfl ?_
  refine x_ld 3 1 0 38 rfl rfl rfl rfl rfl ?_
  refine x_cv 139 69 41 [zi ((tx_num w : Nat) : Int), zi ((tx_num (w.take (cut A B w)) : Nat) : Int)] rfl rfl rfl (Nat.le_of_ble_eq_true rfl) rfl rfl (Nat.le_of_ble_eq_true rfl) trivial (Nat.le_of_ble_eq_true rfl) (c69 (D + 1) hw h6 (cut_le A B w)) rfl ?_
  refine x_ld 2 1 0 42 rfl rfl rfl rfl rfl ?_
  refine x_cst (zi 1) 1 43 rfl rfl rfl ?_
  refine z_add 44 rfl rfl ?_
  refine x_cv 157 86 47 [.ref r, zi ((tx_num (w.drop (cut A B w)) : Nat) : Int), zi (((deep : Nat) : Int) + 1)] rfl rfl rfl (Nat.le_of_ble_eq_true rfl) rfl rfl (Nat.le_of_ble_eq_true rfl) ⟨_, _, _, rfl, oP hr⟩ (Nat.le_of_ble_eq_true rfl) c2 rfl ?_
  refine x_st 5 2 0 49 [some (.ref p), some (zi ((tx_num w : Nat) : Int)), some (zi ((deep : Nat) : Int)), some (zi ((tx_num (w.take (cut A B w)) : Nat) : Int)), some (zi (nz u1)), some (zi (nz u2))] rfl rfl rfl (Nat.le_of_ble_eq_true rfl) rfl rfl ?_
  refine x_ld 0 1 2 50 rfl rfl rfl rfl rfl ?_
  refine g_P_0 h 9 53 rfl rfl hk rfl ?_
  refine x_cst (zi 6) 2 55 rfl rfl rfl ?_
  refine z_icne 68 58 rfl rfl rfl (rg_lit 5 rfl) (rg_lit 6 rfl) (fun _ => ?_) (fun c => absurd c (by decide))
  refine x_ld 4 2 0 70 rfl rfl rfl rfl rfl ?_
  refine x_ld 5 2 0 72 rfl rfl rfl rfl rfl ?_
  refine x_cv 142 70 75 [zi (nz u1), zi (nz u2)] rfl rfl rfl (Nat.le_of_ble_eq_true rfl) rfl rfl (Nat.le_of_ble_eq_true rfl) trivial (Nat.le_of_ble_eq_true rfl) (c70 (D + 1) hu1 hu2) rfl ?_
  refine x_ret rfl rfl rfl rfl ?_
  exact ⟨rfl, rfl⟩
theorem c87_6 (D : Nat) {p q r : Nat} (h : isP p) (hq : isP q) (hr : isP r) (eq : M.2.2 p 3 = q) (er : M.2.2 p 4 = r) (hk : M.1 p 0 = 6) {A B : Nat → Bool} (aA : ag (sN (M.2.1 (r + 4))) A) (aB : ag (sN (M.2.1 (q + 4))) B) {w : List Nat} (hw : tx_L w) (h6 : w.length ≤ 6) (hj : ∃ i, i ≤ w.length ∧ cp A B w i = true) {deep : Nat} (hd : deep ≤ 100) {u1 u2 : List Nat} (hu1 : tx_L u1) (hu2 : tx_L u2) (c1 : ab_S (pg_G L xs) (D + 3) 86 [.ref r, zi ((tx_num (w.take (cut A B w)) : Nat) : Int), zi ((deep : Int) + 1)] (hp M ++ es) (some (zi (nz u1))) (hp M ++ es)) (c2 : ab_S (pg_G L xs) (D + 3) 86 [.ref q, zi ((tx_num (w.drop (cut A B w)) : Nat) : Int), zi ((deep : Int) + 1)] (hp M ++ es) (some (zi (nz u2))) (hp M ++ es)) : ab_S (pg_G L xs) (D + 4) 87 [.ref p, zi (tx_num w : Nat), zi (deep : Nat)] (hp M ++ es) (some (zi (nz (u2 ++ u1)))) (hp M ++ es) := by
  have hex : ∃ i, i ≤ w.length ∧ cp (sN (M.2.1 (r + 4))) (sN (M.2.1 (q + 4))) w i = true := by
    obtain ⟨i, hi, hc⟩ := hj
    exact ⟨i, hi, by rw [cp_agw aA aB hw h6]; exact hc⟩
  show ab_W (pg_G L xs) (ab_X (pg_G L xs) (D + 3)) 87 _ 0 [some (.ref p), some (zi ((tx_num w : Nat) : Int)), some (zi ((deep : Nat) : Int)), none, none, none] [] (hp M ++ es)
  refine x_ld 1 1 0 1 rfl rfl rfl rfl rfl ?_
  refine x_ld 0 1 2 2 rfl rfl rfl rfl rfl ?_
  refine x_cv 104 40 5 [.ref p] rfl rfl rfl (Nat.le_of_ble_eq_true rfl) rfl rfl (Nat.le_of_ble_eq_true rfl) ⟨_, _, _, rfl, oP h⟩ (Nat.le_of_ble_eq_true rfl) (c40x (D + 2) h hk) rfl ?_
  rw [er]
  refine g_P_6 hr 28 8 rfl rfl rfl ?_
  refine x_ld 0 1 2 9 rfl rfl rfl rfl rfl ?_
  refine x_cv 108 41 12 [.ref p] rfl rfl rfl (Nat.le_of_ble_eq_true rfl) rfl rfl (Nat.le_of_ble_eq_true rfl) ⟨_, _, _, rfl, oP h⟩ (Nat.le_of_ble_eq_true rfl) (c41x (D + 2) h hk) rfl ?_
  rw [eq]
  refine g_P_6 hq 28 15 rfl rfl rfl ?_
  refine x_cv 133 68 18 [zi ((tx_num w : Nat) : Int), .ref (r + 3), .ref (q + 3)] rfl rfl rfl (Nat.le_of_ble_eq_true rfl) rfl rfl (Nat.le_of_ble_eq_true rfl) trivial (Nat.le_of_ble_eq_true rfl) (c68 (D + 1) hw h6 (iT_P3 hr) (iT_P3 hq) hex) rfl ?_
  rw [cut_ag aA aB hw h6]
  refine x_st 3 1 0 19 [some (.ref p), some (zi ((tx_num w : Nat) : Int)), some (zi ((deep : Nat) : Int)), some (zi ((tx_num (w.take (cut A B w)) : Nat) : Int)), none, none] rfl rfl rfl (Nat.le_of_ble_eq_true rfl) rfl rfl ?_
  refine x_ld 0 1 2 20 rfl rfl rfl rfl rfl ?_
  refine x_cv 104 40 23 [.ref p] rfl rfl rfl (Nat.le_of_ble_eq_true rfl) rfl rfl (Nat.le_of_ble_eq_true rfl) ⟨_, _, _, rfl, oP h⟩ (Nat.le_of_ble_eq_true rfl) (c40x (D + 2) h hk) rfl ?_
  rw [er]
  refine x_ld 3 1 0 24 rfl rfl rfl rfl rfl ?_
  refine x_ld 2 1 0 25 rfl rfl rfl rfl rfl ?_
  refine x_cst (zi 1) 1 26 rfl rfl rfl ?_
  refine z_add 27 rfl rfl ?_
  refine x_cv 157 86 30 [.ref r, zi ((tx_num (w.take (cut A B w)) : Nat) : Int), zi (((deep : Nat) : Int) + 1)] rfl rfl rfl (Nat.le_of_ble_eq_true rfl) rfl rfl (Nat.le_of_ble_eq_true rfl) ⟨_, _, _, rfl, oP hr⟩ (Nat.le_of_ble_eq_true rfl) c1 rfl ?_
  refine x_st 4 2 0 32 [some (.ref p), some (zi ((tx_num w : Nat) : Int)), some (zi ((deep : Nat) : Int)), some (zi ((tx_num (w.take (cut A B w)) : Nat) : Int)), some (zi (nz u1)), none] rfl rfl rfl (Nat.le_of_ble_eq_true rfl) rfl rfl ?_
  refine x_ld 0 1 2 33 rfl rfl rfl rfl rfl ?_
  refine x_cv 108 41 36 [.ref p] rfl rfl rfl (Nat.le_of_ble_eq_true rfl) rfl rfl (Nat.le_of_ble_eq_true rfl) ⟨_, _, _, rfl, oP h⟩ (Nat.le_of_ble_eq_true rfl) (c41x (D + 2) h hk) rfl ?_
  rw [eq]
  refine x_ld 1 1 0 37 rfl rfl rfl rfl rfl ?_
  refine x_ld 3 1 0 38 rfl rfl rfl rfl rfl ?_
  refine x_cv 139 69 41 [zi ((tx_num w : Nat) : Int), zi ((tx_num (w.take (cut A B w)) : Nat) : Int)] rfl rfl rfl (Nat.le_of_ble_eq_true rfl) rfl rfl (Nat.le_of_ble_eq_true rfl) trivial (Nat.le_of_ble_eq_true rfl) (c69 (D + 1) hw h6 (cut_le A B w)) rfl ?_
  refine x_ld 2 1 0 42 rfl rfl rfl rfl rfl ?_
  refine x_cst (zi 1) 1 43 rfl rfl rfl ?_
  refine z_add 44 rfl rfl ?_
  refine x_cv 157 86 47 [.ref q, zi ((tx_num (w.drop (cut A B w)) : Nat) : Int), zi (((deep : Nat) : Int) + 1)] rfl rfl rfl (Nat.le_of_ble_eq_true rfl) rfl rfl (Nat.le_of_ble_eq_true rfl) ⟨_, _, _, rfl, oP hq⟩ (Nat.le_of_ble_eq_true rfl) c2 rfl ?_
  refine x_st 5 2 0 49 [some (.ref p), some (zi ((tx_num w : Nat) : Int)), some (zi ((deep : Nat) : Int)), some (zi ((tx_num (w.take (cut A B w)) : Nat) : Int)), some (zi (nz u1)), some (zi (nz u2))] rfl rfl rfl (Nat.le_of_ble_eq_true rfl) rfl rfl ?_
  refine x_ld 0 1 2 50 rfl rfl rfl rfl rfl ?_
  refine g_P_0 h 9 53 rfl rfl hk rfl ?_
  refine x_cst (zi 6) 2 55 rfl rfl rfl ?_
  refine z_icne 68 58 rfl rfl rfl (rg_lit 6 rfl) (rg_lit 6 rfl) (fun c => absurd c (by decide)) (fun _ => ?_)
  refine x_ld 5 2 0 60 rfl rfl rfl rfl rfl ?_
  refine x_ld 4 2 0 62 rfl rfl rfl rfl rfl ?_
  refine x_cv 142 70 65 [zi (nz u2), zi (nz u1)] rfl rfl rfl (Nat.le_of_ble_eq_true rfl) rfl rfl (Nat.le_of_ble_eq_true rfl) trivial (Nat.le_of_ble_eq_true rfl) (c70 (D + 1) hu2 hu1) rfl ?_
  refine x_go 75 rfl rfl ?_
  refine x_ret rfl rfl rfl rfl ?_
  exact ⟨rfl, rfl⟩
theorem c88_loop (D : Nat) {p q : Nat} (h : isP p) (hq : isP q) (eq : M.2.2 p 3 = q) {A B : Nat → Bool} (aA : ag (sN (M.2.1 (q + 4))) A) (aB : ag (sN (M.2.1 (p + 4))) B) (hB : ∀ t, B t = true ↔ rq A t) (h0 : A 0 = false) {deep : Nat} (hd : deep ≤ 100) {f : List Nat → List Nat} (w0 : List Nat) {Q : ab_Q} : ∀ m i : Nat, 6 - i = m → ∀ (w acc : List Nat), tx_L w → i + w.length ≤ 6 → B (tx_num w) = true → tx_L acc → (∀ u ∈ rps A B w, tx_L (f u) ∧ ab_S (pg_G L xs) (D + 3) 86 [.ref q, zi (tx_num u : Nat), zi ((deep : Int) + 1)] (hp M ++ es) (some (zi (nz (f u)))) (hp M ++ es)) → Q (.inl (some (zi (nz (acc ++ (rps A B w).flatMap f))))) (hp M ++ es) → ∀ o6, ab_W (pg_G L xs) (ab_X (pg_G L xs) (D + 3)) 88 Q 8 [some (.ref p), some (zi (tx_num w0 : Nat)), some (zi (deep : Nat)), some (zi (nz acc)), some (zi (tx_num w : Nat)), some (zi (i : Nat)), o6] [] (hp M ++ es) := by
  intro m
  induction m using Nat.strongRecOn with
  | _ m ih =>
    intro i hm w acc hw h6 hm2 ha hcc hQ o6
    have hlt := num_lt hw (by omega)
    refine x_ld 5 2 0 10 rfl rfl rfl rfl rfl ?_
    refine x_cst (zi 6) 2 12 rfl rfl rfl ?_
    refine z_icge 70 15 rfl rfl rfl ⟨by omega, by omega⟩ (rg_lit 6 rfl) (fun c12 => ?_) (fun c12 => ?_)
    · refine x_ld 3 1 0 71 rfl rfl rfl rfl rfl ?_
      refine x_ret rfl rfl rfl rfl ?_
      have e : w = [] := by
        rcases Nat.eq_zero_or_pos w.length with e | e
        · exact List.length_eq_zero_iff.mp e
        · have := tx_num_short (u := []) (v := w) (fun d hd => by cases hd) e
          rw [tx_num_nil] at this
          omega
      rw [e, rps_nil, List.flatMap_nil, List.append_nil] at hQ; exact hQ
    · refine x_ld 4 2 0 17 rfl rfl rfl rfl rfl ?_
      refine z_ifle 70 20 rfl rfl rfl ⟨by omega, by omega⟩ (fun c17 => ?_) (fun c17 => ?_)
      · refine x_ld 3 1 0 71 rfl rfl rfl rfl rfl ?_
        refine x_ret rfl rfl rfl rfl ?_
        have e : w = [] := by
          rcases Nat.eq_zero_or_pos w.length with e | e
          · exact List.length_eq_zero_iff.mp e
          · have := tx_num_short (u := []) (v := w) (fun d hd => by cases hd) e
            rw [tx_num_nil] at this
            omega
        rw [e, rps_nil, List.flatMap_nil, List.append_nil] at hQ; exact hQ
      · have hne : w ≠ [] := fun e => by rw [e, tx_num_nil] at c17; omega
        have hcu := rq_cuf hw hB hne hm2
        have hpos := cuf_pos (A := A) (B := B) hne
        have hle := cuf_le A B w
        have hex : ∃ i, i ≤ w.length ∧ cp (sN (M.2.1 (q + 4))) (sN (M.2.1 (p + 4))) w i = true := ⟨_, hle, by rw [cp_agw aA aB hw (by omega)]; unfold cp; rw [hcu.1, hcu.2]; rfl⟩
        have hcc1 := hcc _ (by rw [rps_cons hne]; exact List.mem_cons_self ..)
        refine x_ld 4 2 0 22 rfl rfl rfl rfl rfl ?_
        refine x_ld 0 1 2 23 rfl rfl rfl rfl rfl ?_
        refine g_P_3 h 53 26 rfl rfl eq rfl ?_
        refine g_P_6 hq 28 29 rfl rfl rfl ?_
        refine x_ld 0 1 2 30 rfl rfl rfl rfl rfl ?_
        refine g_P_6 h 28 33 rfl rfl rfl ?_
        refine x_cv 133 68 36 [zi ((tx_num w : Nat) : Int), .ref (q + 3), .ref (p + 3)] rfl rfl rfl (Nat.le_of_ble_eq_true rfl) rfl rfl (Nat.le_of_ble_eq_true rfl) trivial (Nat.le_of_ble_eq_true rfl) (c68 (D + 1) hw (by omega) (iT_P3 hq) (iT_P3 h) hex) rfl ?_
        rw [cut_ag aA aB hw (by omega), cut_cuf h0 hne]
        refine x_st 6 2 0 38 [some (.ref p), some (zi ((tx_num w0 : Nat) : Int)), some (zi ((deep : Nat) : Int)), some (zi (nz acc)), some (zi ((tx_num w : Nat) : Int)), some (zi ((i : Nat) : Int)), some (zi ((tx_num (w.take (cuf A B w)) : Nat) : Int))] rfl rfl rfl (Nat.le_of_ble_eq_true rfl) rfl rfl ?_
        refine x_ld 3 1 0 39 rfl rfl rfl rfl rfl ?_
        refine x_ld 0 1 2 40 rfl rfl rfl rfl rfl ?_
        refine g_P_3 h 53 43 rfl rfl eq rfl ?_
        refine x_ld 6 2 0 45 rfl rfl rfl rfl rfl ?_
        refine x_ld 2 1 0 46 rfl rfl rfl rfl rfl ?_
        refine x_cst (zi 1) 1 47 rfl rfl rfl ?_
        refine z_add 48 rfl rfl ?_
        refine x_cv 157 86 51 [.ref q, zi ((tx_num (w.take (cuf A B w)) : Nat) : Int), zi (((deep : Nat) : Int) + 1)] rfl rfl rfl (Nat.le_of_ble_eq_true rfl) rfl rfl (Nat.le_of_ble_eq_true rfl) ⟨_, _, _, rfl, oP hq⟩ (Nat.le_of_ble_eq_true rfl) hcc1.2 rfl ?_
        refine x_cv 142 70 54 [zi (nz acc), zi (nz (f (w.take (cuf A B w))))] rfl rfl rfl (Nat.le_of_ble_eq_true rfl) rfl rfl (Nat.le_of_ble_eq_true rfl) trivial (Nat.le_of_ble_eq_true rfl) (c70 (D + 1) ha hcc1.1) rfl ?_
        refine x_st 3 1 0 55 [some (.ref p), some (zi ((tx_num w0 : Nat) : Int)), some (zi ((deep : Nat) : Int)), some (zi (nz (acc ++ f (w.take (cuf A B w))))), some (zi ((tx_num w : Nat) : Int)), some (zi ((i : Nat) : Int)), some (zi ((tx_num (w.take (cuf A B w)) : Nat) : Int))] rfl rfl rfl (Nat.le_of_ble_eq_true rfl) rfl rfl ?_
        refine x_ld 4 2 0 57 rfl rfl rfl rfl rfl ?_
        refine x_ld 6 2 0 59 rfl rfl rfl rfl rfl ?_
        refine x_cv 139 69 62 [zi ((tx_num w : Nat) : Int), zi ((tx_num (w.take (cuf A B w)) : Nat) : Int)] rfl rfl rfl (Nat.le_of_ble_eq_true rfl) rfl rfl (Nat.le_of_ble_eq_true rfl) trivial (Nat.le_of_ble_eq_true rfl) (c69 (D + 1) hw (by omega) hle) rfl ?_
        refine x_st 4 2 0 64 [some (.ref p), some (zi ((tx_num w0 : Nat) : Int)), some (zi ((deep : Nat) : Int)), some (zi (nz (acc ++ f (w.take (cuf A B w))))), some (zi ((tx_num (w.drop (cuf A B w)) : Nat) : Int)), some (zi ((i : Nat) : Int)), some (zi ((tx_num (w.take (cuf A B w)) : Nat) : Int))] rfl rfl rfl (Nat.le_of_ble_eq_true rfl) rfl rfl ?_
        refine z_inc 5 67 [some (.ref p), some (zi ((tx_num w0 : Nat) : Int)), some (zi ((deep : Nat) : Int)), some (zi (nz (acc ++ f (w.take (cuf A B w))))), some (zi ((tx_num (w.drop (cuf A B w)) : Nat) : Int)), some (zi (((i : Nat) : Int) + 1)), some (zi ((tx_num (w.take (cuf A B w)) : Nat) : Int))] rfl rfl (Nat.le_of_ble_eq_true rfl) rfl rfl ?_
        refine x_go 8 rfl rfl ?_
        refine ih (6 - (i + 1)) (by omega) (i + 1) rfl _ _ (tx_L_drop hw _) (by rw [List.length_drop]; omega) hcu.2 (tx_L_app.mpr ⟨ha, hcc1.1⟩) (fun u hu => hcc u (by rw [rps_cons hne]; exact List.mem_cons_of_mem _ hu)) ?_ _
        rw [rps_cons hne, List.flatMap_cons, ← List.append_assoc] at hQ; exact hQ
theorem c88 (D : Nat) {p q : Nat} (h : isP p) (hq : isP q) (eq : M.2.2 p 3 = q) {A B : Nat → Bool} (aA : ag (sN (M.2.1 (q + 4))) A) (aB : ag (sN (M.2.1 (p + 4))) B) (hB : ∀ t, B t = true ↔ rq A t) (h0 : A 0 = false) {deep : Nat} (hd : deep ≤ 100) {f : List Nat → List Nat} {w : List Nat} (hw : tx_L w) (h6 : w.length ≤ 6) (hm : B (tx_num w) = true) (hcc : ∀ u ∈ rps A B w, tx_L (f u) ∧ ab_S (pg_G L xs) (D + 3) 86 [.ref q, zi (tx_num u : Nat), zi ((deep : Int) + 1)] (hp M ++ es) (some (zi (nz (f u)))) (hp M ++ es)) : ab_S (pg_G L xs) (D + 4) 88 [.ref p, zi (tx_num w : Nat), zi (deep : Nat)] (hp M ++ es) (some (zi (nz ((rps A B w).flatMap f)))) (hp M ++ es) := by
  show ab_W (pg_G L xs) (ab_X (pg_G L xs) (D + 3)) 88 _ 0 [some (.ref p), some (zi ((tx_num w : Nat) : Int)), some (zi ((deep : Nat) : Int)), none, none, none, none] [] (hp M ++ es)
  refine x_cst (zi 0) 1 1 rfl rfl rfl ?_
  refine x_st 3 1 0 2 [some (.ref p), some (zi ((tx_num w : Nat) : Int)), some (zi ((deep : Nat) : Int)), some (zi 0), none, none, none] rfl rfl rfl (Nat.le_of_ble_eq_true rfl) rfl rfl ?_
  refine x_ld 1 1 0 3 rfl rfl rfl rfl rfl ?_
  refine x_st 4 2 0 5 [some (.ref p), some (zi ((tx_num w : Nat) : Int)), some (zi ((deep : Nat) : Int)), some (zi 0), some (zi ((tx_num w : Nat) : Int)), none, none] rfl rfl rfl (Nat.le_of_ble_eq_true rfl) rfl rfl ?_
  refine x_cst (zi 0) 1 6 rfl rfl rfl ?_
  refine x_st 5 2 0 8 [some (.ref p), some (zi ((tx_num w : Nat) : Int)), some (zi ((deep : Nat) : Int)), some (zi 0), some (zi ((tx_num w : Nat) : Int)), some (zi 0), none] rfl rfl rfl (Nat.le_of_ble_eq_true rfl) rfl rfl ?_
  exact c88_loop D h hq eq aA aB hB h0 hd w _ 0 rfl w [] hw (by omega) hm (fun d hd => by cases hd) hcc ⟨rfl, rfl⟩ _
end C11
