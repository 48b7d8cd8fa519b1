/-! OURS, printed by wip/tools/gen891.py: settle. -/
theorem stO_rg {K T : Nat} {Sl Sr Vl Vr : Nat → Bool} {f d : Int} {S V : Int → Bool} (h : stO K T Sl Sr Vl Vr f d S V) : 0 ≤ f ∧ f ≤ 7 := by
  have hw : 2 ≤ sWhy K ∧ sWhy K ≤ 6 := by
    unfold sWhy
    split <;> omega
  rcases h with ⟨t, _, h1, _⟩ | ⟨_, t, _, h1, _⟩ | ⟨_, _, h1, _⟩ <;> omega
section C9
variable {L : Nat} {xs : Nat → Int32} {M : mm} {es : ab_H}
theorem c22_0 (d : Nat) {p q r : Nat} (h : isP p) {T : Nat} (hT : M.1 p 2 = (T : Int)) (hT3 : T ≤ 3) (hk : M.1 p 0 = 0)  : ab_Z (pg_G L xs) (d + 6) 22 [.ref p, .ref 2] M es (fun v M' => v = some (zi (bz (decide (M'.1 p 7 = 0)))) ∧ Fp p M M' ∧ stO 0 T (sN (M.2.1 (q + 2))) (sN (M.2.1 (r + 2))) (sN (M.2.1 (q + 4))) (sN (M.2.1 (r + 4))) (M'.1 p 7) (M'.1 p 8) (M'.2.1 (p + 2)) (M'.2.1 (p + 4))) := by
  have gp := isP_ge h
  show ab_W (pg_G L xs) (ab_X (pg_G L xs) (d + 5)) 22 _ 0 [some (.ref p), some (.ref 2)] [] (hp M ++ es)
  refine x_ld 0 1 2 1 rfl rfl rfl rfl rfl ?_
  refine x_cst (zi 0) 1 2 rfl rfl rfl ?_
  refine s_P_7 h 31 5 rfl rfl rfl rfl rfl rfl ?_
  refine x_ld 0 1 2 6 rfl rfl rfl rfl rfl ?_
  refine x_cst (zi (-1)) 1 7 rfl rfl rfl ?_
  refine s_P_8 h 34 10 rfl rfl rfl rfl rfl rfl ?_
  refine x_ld 0 1 2 11 rfl rfl rfl rfl rfl ?_
  refine g_P_0 h 9 14 rfl rfl ((rd_nk (Ne.symm (by decide))).trans ((rd_nk (Ne.symm (by decide))).trans hk)) rfl ?_
  refine x_tou 106 rfl (.inl (by decide)) rfl ?_
  refine x_ld 0 1 2 107 rfl rfl rfl rfl rfl ?_
  refine x_ce 74 44 110 [.ref p] rfl rfl rfl (Nat.le_of_ble_eq_true rfl) rfl rfl (Nat.le_of_ble_eq_true rfl) ⟨_, _, _, rfl, oP h⟩ (Nat.le_of_ble_eq_true rfl) (c44_0 (M := (sI (sI M p 7 0) p 8 (-1))) (d + 2) h (T := T) ((rd_nk (M := (sI M p 7 0)) (a := p) (b := p) (k := 8) (j := 2) (x := -1) (by decide)).trans ((rd_nk (by decide)).trans hT)) hT3 ((rd_nk (M := (sI M p 7 0)) (a := p) (b := p) (k := 8) (j := 7) (x := -1) (by decide)).trans rd_eq) rd_eq ((rd_nk (M := (sI M p 7 0)) (a := p) (b := p) (k := 8) (j := 0) (x := -1) (by decide)).trans ((rd_nk (by decide)).trans hk)) (sN (M.2.1 (q + 2))) (sN (M.2.1 (r + 2))) (sN (M.2.1 (q + 4))) (sN (M.2.1 (r + 4)))) rfl ?_
  rintro v M' ⟨ev, hF, hO⟩
  subst ev
  have hrg := stO_rg hO
  refine x_ld 0 1 2 111 rfl rfl rfl rfl rfl ?_
  refine g_P_7 h 31 114 rfl rfl rfl rfl ?_
  refine z_ifne 121 117 rfl rfl rfl ⟨by omega, by omega⟩ (fun c114 => ?_) (fun c114 => ?_)
  · refine x_cst (zi 0) 1 122 rfl rfl rfl ?_
    refine x_ret rfl rfl rfl rfl ?_
    exact ⟨_, M', rfl, rfl, by rw [decide_eq_false c114]; rfl, Fp_trans (Fp_trans (Fp_I7 ..) (Fp_I8 ..)) hF, hO⟩
  · refine x_cst (zi 1) 1 118 rfl rfl rfl ?_
    refine x_go 122 rfl rfl ?_
    refine x_ret rfl rfl rfl rfl ?_
    exact ⟨_, M', rfl, rfl, by rw [decide_eq_true c114]; rfl, Fp_trans (Fp_trans (Fp_I7 ..) (Fp_I8 ..)) hF, hO⟩
theorem c22_1 (d : Nat) {p q r : Nat} (h : isP p) {T : Nat} (hT : M.1 p 2 = (T : Int)) (hT3 : T ≤ 3) (hk : M.1 p 0 = 1)  : ab_Z (pg_G L xs) (d + 6) 22 [.ref p, .ref 2] M es (fun v M' => v = some (zi (bz (decide (M'.1 p 7 = 0)))) ∧ Fp p M M' ∧ stO 1 T (sN (M.2.1 (q + 2))) (sN (M.2.1 (r + 2))) (sN (M.2.1 (q + 4))) (sN (M.2.1 (r + 4))) (M'.1 p 7) (M'.1 p 8) (M'.2.1 (p + 2)) (M'.2.1 (p + 4))) := by
  have gp := isP_ge h
  show ab_W (pg_G L xs) (ab_X (pg_G L xs) (d + 5)) 22 _ 0 [some (.ref p), some (.ref 2)] [] (hp M ++ es)
  refine x_ld 0 1 2 1 rfl rfl rfl rfl rfl ?_
  refine x_cst (zi 0) 1 2 rfl rfl rfl ?_
  refine s_P_7 h 31 5 rfl rfl rfl rfl rfl rfl ?_
  refine x_ld 0 1 2 6 rfl rfl rfl rfl rfl ?_
  refine x_cst (zi (-1)) 1 7 rfl rfl rfl ?_
  refine s_P_8 h 34 10 rfl rfl rfl rfl rfl rfl ?_
  refine x_ld 0 1 2 11 rfl rfl rfl rfl rfl ?_
  refine g_P_0 h 9 14 rfl rfl ((rd_nk (Ne.symm (by decide))).trans ((rd_nk (Ne.symm (by decide))).trans hk)) rfl ?_
  refine x_tou 106 rfl (.inl (by decide)) rfl ?_
  refine x_ld 0 1 2 107 rfl rfl rfl rfl rfl ?_
  refine x_ce 74 44 110 [.ref p] rfl rfl rfl (Nat.le_of_ble_eq_true rfl) rfl rfl (Nat.le_of_ble_eq_true rfl) ⟨_, _, _, rfl, oP h⟩ (Nat.le_of_ble_eq_true rfl) (c44_1 (M := (sI (sI M p 7 0) p 8 (-1))) (d + 2) h (T := T) ((rd_nk (M := (sI M p 7 0)) (a := p) (b := p) (k := 8) (j := 2) (x := -1) (by decide)).trans ((rd_nk (by decide)).trans hT)) hT3 ((rd_nk (M := (sI M p 7 0)) (a := p) (b := p) (k := 8) (j := 7) (x := -1) (by decide)).trans rd_eq) rd_eq ((rd_nk (M := (sI M p 7 0)) (a := p) (b := p) (k := 8) (j := 0) (x := -1) (by decide)).trans ((rd_nk (by decide)).trans hk)) (sN (M.2.1 (q + 2))) (sN (M.2.1 (r + 2))) (sN (M.2.1 (q + 4))) (sN (M.2.1 (r + 4)))) rfl ?_
  rintro v M' ⟨ev, hF, hO⟩
  subst ev
  have hrg := stO_rg hO
  refine x_ld 0 1 2 111 rfl rfl rfl rfl rfl ?_
  refine g_P_7 h 31 114 rfl rfl rfl rfl ?_
  refine z_ifne 121 117 rfl rfl rfl ⟨by omega, by omega⟩ (fun c114 => ?_) (fun c114 => ?_)
  · refine x_cst (zi 0) 1 122 rfl rfl rfl ?_
    refine x_ret rfl rfl rfl rfl ?_
    exact ⟨_, M', rfl, rfl, by rw [decide_eq_false c114]; rfl, Fp_trans (Fp_trans (Fp_I7 ..) (Fp_I8 ..)) hF, hO⟩
  · refine x_cst (zi 1) 1 118 rfl rfl rfl ?_
    refine x_go 122 rfl rfl ?_
    refine x_ret rfl rfl rfl rfl ?_
    exact ⟨_, M', rfl, rfl, by rw [decide_eq_true c114]; rfl, Fp_trans (Fp_trans (Fp_I7 ..) (Fp_I8 ..)) hF, hO⟩
theorem c22_2 (d : Nat) {p q r : Nat} (h : isP p) {T : Nat} (hT : M.1 p 2 = (T : Int)) (hT3 : T ≤ 3) (hk : M.1 p 0 = 2)  : ab_Z (pg_G L xs) (d + 6) 22 [.ref p, .ref 2] M es (fun v M' => v = some (zi (bz (decide (M'.1 p 7 = 0)))) ∧ Fp p M M' ∧ stO 2 T (sN (M.2.1 (q + 2))) (sN (M.2.1 (r + 2))) (sN (M.2.1 (q + 4))) (sN (M.2.1 (r + 4))) (M'.1 p 7) (M'.1 p 8) (M'.2.1 (p + 2)) (M'.2.1 (p + 4))) := by
  have gp := isP_ge h
  show ab_W (pg_G L xs) (ab_X (pg_G L xs) (d + 5)) 22 _ 0 [some (.ref p), some (.ref 2)] [] (hp M ++ es)
  refine x_ld 0 1 2 1 rfl rfl rfl rfl rfl ?_
  refine x_cst (zi 0) 1 2 rfl rfl rfl ?_
  refine s_P_7 h 31 5 rfl rfl rfl rfl rfl rfl ?_
  refine x_ld 0 1 2 6 rfl rfl rfl rfl rfl ?_
  refine x_cst (zi (-1)) 1 7 rfl rfl rfl ?_
  refine s_P_8 h 34 10 rfl rfl rfl rfl rfl rfl ?_
  refine x_ld 0 1 2 11 rfl rfl rfl rfl rfl ?_
  refine g_P_0 h 9 14 rfl rfl ((rd_nk (Ne.symm (by decide))).trans ((rd_nk (Ne.symm (by decide))).trans hk)) rfl ?_
  refine x_tou 106 rfl (.inl (by decide)) rfl ?_
  refine x_ld 0 1 2 107 rfl rfl rfl rfl rfl ?_
  refine x_ce 74 44 110 [.ref p] rfl rfl rfl (Nat.le_of_ble_eq_true rfl) rfl rfl (Nat.le_of_ble_eq_true rfl) ⟨_, _, _, rfl, oP h⟩ (Nat.le_of_ble_eq_true rfl) (c44_2 (M := (sI (sI M p 7 0) p 8 (-1))) (d + 2) h (T := T) ((rd_nk (M := (sI M p 7 0)) (a := p) (b := p) (k := 8) (j := 2) (x := -1) (by decide)).trans ((rd_nk (by decide)).trans hT)) hT3 ((rd_nk (M := (sI M p 7 0)) (a := p) (b := p) (k := 8) (j := 7) (x := -1) (by decide)).trans rd_eq) rd_eq ((rd_nk (M := (sI M p 7 0)) (a := p) (b := p) (k := 8) (j := 0) (x := -1) (by decide)).trans ((rd_nk (by decide)).trans hk)) (sN (M.2.1 (q + 2))) (sN (M.2.1 (r + 2))) (sN (M.2.1 (q + 4))) (sN (M.2.1 (r + 4)))) rfl ?_
  rintro v M' ⟨ev, hF, hO⟩
  subst ev
  have hrg := stO_rg hO
  refine x_ld 0 1 2 111 rfl rfl rfl rfl rfl ?_
  refine g_P_7 h 31 114 rfl rfl rfl rfl ?_
  refine z_ifne 121 117 rfl rfl rfl ⟨by omega, by omega⟩ (fun c114 => ?_) (fun c114 => ?_)
  · refine x_cst (zi 0) 1 122 rfl rfl rfl ?_
    refine x_ret rfl rfl rfl rfl ?_
    exact ⟨_, M', rfl, rfl, by rw [decide_eq_false c114]; rfl, Fp_trans (Fp_trans (Fp_I7 ..) (Fp_I8 ..)) hF, hO⟩
  · refine x_cst (zi 1) 1 118 rfl rfl rfl ?_
    refine x_go 122 rfl rfl ?_
    refine x_ret rfl rfl rfl rfl ?_
    exact ⟨_, M', rfl, rfl, by rw [decide_eq_true c114]; rfl, Fp_trans (Fp_trans (Fp_I7 ..) (Fp_I8 ..)) hF, hO⟩
set_option maxRecDepth 16000 in
theorem c22_3 (d : Nat) {p q r : Nat} (h : isP p) (hq : isP q) (hr : isP r) (eq : M.2.2 p 3 = q) (er : M.2.2 p 4 = r) (nq : q ≠ p) (nr : r ≠ p) (T : Nat) (hk : M.1 p 0 = 3) (zs : ∀ a, (a = q + 2 ∨ a = q + 4 ∨ a = r + 2 ∨ a = r + 4) → ∀ t : Nat, 1093 ≤ t → t < 1152 → M.2.1 a (t : Int) = false) : ab_Z (pg_G L xs) (d + 6) 22 [.ref p, .ref 2] M es (fun v M' => v = some (zi (bz (decide (M'.1 p 7 = 0)))) ∧ Fp p M M' ∧ stO 3 T (sN (M.2.1 (q + 2))) (sN (M.2.1 (r + 2))) (sN (M.2.1 (q + 4))) (sN (M.2.1 (r + 4))) (M'.1 p 7) (M'.1 p 8) (M'.2.1 (p + 2)) (M'.2.1 (p + 4))) := by
  have gp := isP_ge h
  have sq := isP_sep hq h nq
  have sr := isP_sep hr h nr
  show ab_W (pg_G L xs) (ab_X (pg_G L xs) (d + 5)) 22 _ 0 [some (.ref p), some (.ref 2)] [] (hp M ++ es)
  refine x_ld 0 1 2 1 rfl rfl rfl rfl rfl ?_
  refine x_cst (zi 0) 1 2 rfl rfl rfl ?_
  refine s_P_7 h 31 5 rfl rfl rfl rfl rfl rfl ?_
  refine x_ld 0 1 2 6 rfl rfl rfl rfl rfl ?_
  refine x_cst (zi (-1)) 1 7 rfl rfl rfl ?_
  refine s_P_8 h 34 10 rfl rfl rfl rfl rfl rfl ?_
  refine x_ld 0 1 2 11 rfl rfl rfl rfl rfl ?_
  refine g_P_0 h 9 14 rfl rfl ((rd_nk (Ne.symm (by decide))).trans ((rd_nk (Ne.symm (by decide))).trans hk)) rfl ?_
  refine x_tin 52 rfl (by decide) (by decide) rfl rfl ?_
  refine x_ld 0 1 2 53 rfl rfl rfl rfl rfl ?_
  refine g_P_5 h 24 56 rfl rfl rfl ?_
  refine x_ld 0 1 2 57 rfl rfl rfl rfl rfl ?_
  refine g_P_3 h 53 60 rfl rfl eq rfl ?_
  refine g_P_5 hq 24 63 rfl rfl rfl ?_
  refine x_cv 60 23 66 [.ref (p + 1), .ref (q + 1)] rfl rfl rfl (Nat.le_of_ble_eq_true rfl) rfl rfl (Nat.le_of_ble_eq_true rfl) ⟨_, _, _, rfl, oT (iT_P1 h)⟩ (Nat.le_of_ble_eq_true rfl) (c23 (M := (sI (sI M p 7 0) p 8 (-1))) (d + 4) (iT_P1 h) (iT_P1 hq)) rfl ?_
  refine x_ld 0 1 2 67 rfl rfl rfl rfl rfl ?_
  refine g_P_6 h 28 70 rfl rfl rfl ?_
  refine x_ld 0 1 2 71 rfl rfl rfl rfl rfl ?_
  refine g_P_3 h 53 74 rfl rfl eq rfl ?_
  refine g_P_6 hq 28 77 rfl rfl rfl ?_
  refine x_cv 60 23 80 [.ref (p + 3), .ref (q + 3)] rfl rfl rfl (Nat.le_of_ble_eq_true rfl) rfl rfl (Nat.le_of_ble_eq_true rfl) ⟨_, _, _, rfl, oT (iT_P3 h)⟩ (Nat.le_of_ble_eq_true rfl) (c23 (M := (rB (sI (sI M p 7 0) p 8 (-1)) (p + 2) (cpB ((sI (sI M p 7 0) p 8 (-1)).2.1 (q + 2)) ((sI (sI M p 7 0) p 8 (-1)).2.1 (p + 2))))) (d + 4) (iT_P3 h) (iT_P3 hq)) rfl ?_
  refine x_go 110 rfl rfl ?_
  refine x_ld 0 1 2 111 rfl rfl rfl rfl rfl ?_
  refine g_P_7 h 31 114 rfl rfl ((rd_nk (Ne.symm (by decide))).trans rd_eq) rfl ?_
  refine z_ifne 121 117 rfl rfl rfl (rg_lit 0 rfl) (fun c => absurd c (by decide)) (fun _ => ?_)
  refine x_cst (zi 1) 1 118 rfl rfl rfl ?_
  refine x_go 122 rfl rfl ?_
  refine x_ret rfl rfl rfl rfl ?_
  refine ⟨_, _, rfl, rfl, (congrArg (fun b => some (zi (bz b))) (decide_eq_true (show (sI (sI M p 7 0) p 8 (-1)).1 p 7 = 0 from ((rd_nk (M := (sI M p 7 0)) (a := p) (b := p) (k := 8) (j := 7) (x := -1) (by decide)).trans rd_eq)))).symm, ?_, .inr (.inr ⟨fun _ e => e, fun _ e => e, ((rd_nk (M := (sI M p 7 0)) (a := p) (b := p) (k := 8) (j := 7) (x := -1) (by decide)).trans rd_eq), rd_eq (M := (sI M p 7 0)) (a := p) (k := 8) (x := -1), fun t ht => ?_⟩)⟩
  · exact Fp_trans (Fp_trans (Fp_I7 ..) (Fp_I8 ..)) (Fp_trans (Fp_B2 ..) (Fp_B4 ..))
  · have h24 : ¬ p + 2 = p + 4 := by omega
    have h42 : ¬ p + 4 = p + 2 := by omega
    have e1 : ¬ q + 2 = p + 2 := by omega
    have e3 : ¬ q + 4 = p + 4 := by omega
    have e5 : ¬ q + 4 = p + 2 := by omega
    have hlu : (0 : Int) ≤ (t : Int) ∧ (t : Int) < 1152 := by omega
    simp only [rB, cpB, h24, h42, e1, e3, e5, ↓reduceIte, if_pos hlu]
    exact ⟨Iff.rfl, Iff.rfl⟩
theorem c22_4 (d : Nat) {p q r : Nat} (h : isP p) (hq : isP q) (hr : isP r) (eq : M.2.2 p 3 = q) (er : M.2.2 p 4 = r) (nq : q ≠ p) (nr : r ≠ p) (T : Nat) (hk : M.1 p 0 = 4) (zs : ∀ a, (a = q + 2 ∨ a = q + 4 ∨ a = r + 2 ∨ a = r + 4) → ∀ t : Nat, 1093 ≤ t → t < 1152 → M.2.1 a (t : Int) = false) : ab_Z (pg_G L xs) (d + 6) 22 [.ref p, .ref 2] M es (fun v M' => v = some (zi (bz (decide (M'.1 p 7 = 0)))) ∧ Fp p M M' ∧ stO 4 T (sN (M.2.1 (q + 2))) (sN (M.2.1 (r + 2))) (sN (M.2.1 (q + 4))) (sN (M.2.1 (r + 4))) (M'.1 p 7) (M'.1 p 8) (M'.2.1 (p + 2)) (M'.2.1 (p + 4))) := by
  have gp := isP_ge h
  have sq := isP_sep hq h nq
  have sr := isP_sep hr h nr
  show ab_W (pg_G L xs) (ab_X (pg_G L xs) (d + 5)) 22 _ 0 [some (.ref p), some (.ref 2)] [] (hp M ++ es)
  refine x_ld 0 1 2 1 rfl rfl rfl rfl rfl ?_
  refine x_cst (zi 0) 1 2 rfl rfl rfl ?_
  refine s_P_7 h 31 5 rfl rfl rfl rfl rfl rfl ?_
  refine x_ld 0 1 2 6 rfl rfl rfl rfl rfl ?_
  refine x_cst (zi (-1)) 1 7 rfl rfl rfl ?_
  refine s_P_8 h 34 10 rfl rfl rfl rfl rfl rfl ?_
  refine x_ld 0 1 2 11 rfl rfl rfl rfl rfl ?_
  refine g_P_0 h 9 14 rfl rfl ((rd_nk (Ne.symm (by decide))).trans ((rd_nk (Ne.symm (by decide))).trans hk)) rfl ?_
  refine x_tin 83 rfl (by decide) (by decide) rfl rfl ?_
  refine x_ld 0 1 2 84 rfl rfl rfl rfl rfl ?_
  refine x_ce 64 24 87 [.ref p] rfl rfl rfl (Nat.le_of_ble_eq_true rfl) rfl rfl (Nat.le_of_ble_eq_true rfl) ⟨_, _, _, rfl, oP h⟩ (Nat.le_of_ble_eq_true rfl) (c24 (M := (sI (sI M p 7 0) p 8 (-1))) (d + 1) h hq hr eq er nq nr ((rd_nk (M := (sI M p 7 0)) (a := p) (b := p) (k := 8) (j := 7) (x := -1) (by decide)).trans rd_eq) rd_eq T) rfl ?_
  rintro v M' ⟨ev, hF, hO⟩
  subst ev
  have hrg := stO_rg hO
  refine x_go 110 rfl rfl ?_
  refine x_ld 0 1 2 111 rfl rfl rfl rfl rfl ?_
  refine g_P_7 h 31 114 rfl rfl rfl rfl ?_
  refine z_ifne 121 117 rfl rfl rfl ⟨by omega, by omega⟩ (fun c114 => ?_) (fun c114 => ?_)
  · refine x_cst (zi 0) 1 122 rfl rfl rfl ?_
    refine x_ret rfl rfl rfl rfl ?_
    exact ⟨_, M', rfl, rfl, by rw [decide_eq_false c114]; rfl, Fp_trans (Fp_trans (Fp_I7 ..) (Fp_I8 ..)) hF, hO⟩
  · refine x_cst (zi 1) 1 118 rfl rfl rfl ?_
    refine x_go 122 rfl rfl ?_
    refine x_ret rfl rfl rfl rfl ?_
    exact ⟨_, M', rfl, rfl, by rw [decide_eq_true c114]; rfl, Fp_trans (Fp_trans (Fp_I7 ..) (Fp_I8 ..)) hF, hO⟩
theorem c22_5 (d : Nat) {p q r : Nat} (h : isP p) (hq : isP q) (hr : isP r) (eq : M.2.2 p 3 = q) (er : M.2.2 p 4 = r) (nq : q ≠ p) (nr : r ≠ p) (T : Nat) (hk : M.1 p 0 = 5) (zs : ∀ a, (a = q + 2 ∨ a = q + 4 ∨ a = r + 2 ∨ a = r + 4) → ∀ t : Nat, 1093 ≤ t → t < 1152 → M.2.1 a (t : Int) = false) : ab_Z (pg_G L xs) (d + 6) 22 [.ref p, .ref 2] M es (fun v M' => v = some (zi (bz (decide (M'.1 p 7 = 0)))) ∧ Fp p M M' ∧ stO 5 T (sN (M.2.1 (q + 2))) (sN (M.2.1 (r + 2))) (sN (M.2.1 (q + 4))) (sN (M.2.1 (r + 4))) (M'.1 p 7) (M'.1 p 8) (M'.2.1 (p + 2)) (M'.2.1 (p + 4))) := by
  have gp := isP_ge h
  have sq := isP_sep hq h nq
  have sr := isP_sep hr h nr
  show ab_W (pg_G L xs) (ab_X (pg_G L xs) (d + 5)) 22 _ 0 [some (.ref p), some (.ref 2)] [] (hp M ++ es)
  refine x_ld 0 1 2 1 rfl rfl rfl rfl rfl ?_
  refine x_cst (zi 0) 1 2 rfl rfl rfl ?_
  refine s_P_7 h 31 5 rfl rfl rfl rfl rfl rfl ?_
  refine x_ld 0 1 2 6 rfl rfl rfl rfl rfl ?_
  refine x_cst (zi (-1)) 1 7 rfl rfl rfl ?_
  refine s_P_8 h 34 10 rfl rfl rfl rfl rfl rfl ?_
  refine x_ld 0 1 2 11 rfl rfl rfl rfl rfl ?_
  refine g_P_0 h 9 14 rfl rfl ((rd_nk (Ne.symm (by decide))).trans ((rd_nk (Ne.symm (by decide))).trans hk)) rfl ?_
  refine x_tin 90 rfl (by decide) (by decide) rfl rfl ?_
  refine x_ld 0 1 2 91 rfl rfl rfl rfl rfl ?_
  refine x_ld 1 1 2 92 rfl rfl rfl rfl rfl ?_
  refine x_ce 67 30 95 [.ref p, .ref 2] rfl rfl rfl (Nat.le_of_ble_eq_true rfl) rfl rfl (Nat.le_of_ble_eq_true rfl) ⟨_, _, _, rfl, oP h⟩ (Nat.le_of_ble_eq_true rfl) (c30_5 (M := (sI (sI M p 7 0) p 8 (-1))) d h hq hr eq er nq nr ((rd_nk (M := (sI M p 7 0)) (a := p) (b := p) (k := 8) (j := 7) (x := -1) (by decide)).trans rd_eq) rd_eq T ((rd_nk (M := (sI M p 7 0)) (a := p) (b := p) (k := 8) (j := 0) (x := -1) (by decide)).trans ((rd_nk (by decide)).trans hk)) zs) rfl ?_
  rintro v M' ⟨ev, hF, hO⟩
  subst ev
  have hrg := stO_rg hO
  refine x_go 110 rfl rfl ?_
  refine x_ld 0 1 2 111 rfl rfl rfl rfl rfl ?_
  refine g_P_7 h 31 114 rfl rfl rfl rfl ?_
  refine z_ifne 121 117 rfl rfl rfl ⟨by omega, by omega⟩ (fun c114 => ?_) (fun c114 => ?_)
  · refine x_cst (zi 0) 1 122 rfl rfl rfl ?_
    refine x_ret rfl rfl rfl rfl ?_
    exact ⟨_, M', rfl, rfl, by rw [decide_eq_false c114]; rfl, Fp_trans (Fp_trans (Fp_I7 ..) (Fp_I8 ..)) hF, hO⟩
  · refine x_cst (zi 1) 1 118 rfl rfl rfl ?_
    refine x_go 122 rfl rfl ?_
    refine x_ret rfl rfl rfl rfl ?_
    exact ⟨_, M', rfl, rfl, by rw [decide_eq_true c114]; rfl, Fp_trans (Fp_trans (Fp_I7 ..) (Fp_I8 ..)) hF, hO⟩
theorem c22_6 (d : Nat) {p q r : Nat} (h : isP p) (hq : isP q) (hr : isP r) (eq : M.2.2 p 3 = q) (er : M.2.2 p 4 = r) (nq : q ≠ p) (nr : r ≠ p) (T : Nat) (hk : M.1 p 0 = 6) (zs : ∀ a, (a = q + 2 ∨ a = q + 4 ∨ a = r + 2 ∨ a = r + 4) → ∀ t : Nat, 1093 ≤ t → t < 1152 → M.2.1 a (t : Int) = false) : ab_Z (pg_G L xs) (d + 6) 22 [.ref p, .ref 2] M es (fun v M' => v = some (zi (bz (decide (M'.1 p 7 = 0)))) ∧ Fp p M M' ∧ stO 6 T (sN (M.2.1 (q + 2))) (sN (M.2.1 (r + 2))) (sN (M.2.1 (q + 4))) (sN (M.2.1 (r + 4))) (M'.1 p 7) (M'.1 p 8) (M'.2.1 (p + 2)) (M'.2.1 (p + 4))) := by
  have gp := isP_ge h
  have sq := isP_sep hq h nq
  have sr := isP_sep hr h nr
  show ab_W (pg_G L xs) (ab_X (pg_G L xs) (d + 5)) 22 _ 0 [some (.ref p), some (.ref 2)] [] (hp M ++ es)
  refine x_ld 0 1 2 1 rfl rfl rfl rfl rfl ?_
  refine x_cst (zi 0) 1 2 rfl rfl rfl ?_
  refine s_P_7 h 31 5 rfl rfl rfl rfl rfl rfl ?_
  refine x_ld 0 1 2 6 rfl rfl rfl rfl rfl ?_
  refine x_cst (zi (-1)) 1 7 rfl rfl rfl ?_
  refine s_P_8 h 34 10 rfl rfl rfl rfl rfl rfl ?_
  refine x_ld 0 1 2 11 rfl rfl rfl rfl rfl ?_
  refine g_P_0 h 9 14 rfl rfl ((rd_nk (Ne.symm (by decide))).trans ((rd_nk (Ne.symm (by decide))).trans hk)) rfl ?_
  refine x_tin 90 rfl (by decide) (by decide) rfl rfl ?_
  refine x_ld 0 1 2 91 rfl rfl rfl rfl rfl ?_
  refine x_ld 1 1 2 92 rfl rfl rfl rfl rfl ?_
  refine x_ce 67 30 95 [.ref p, .ref 2] rfl rfl rfl (Nat.le_of_ble_eq_true rfl) rfl rfl (Nat.le_of_ble_eq_true rfl) ⟨_, _, _, rfl, oP h⟩ (Nat.le_of_ble_eq_true rfl) (c30_6 (M := (sI (sI M p 7 0) p 8 (-1))) d h hq hr eq er nq nr ((rd_nk (M := (sI M p 7 0)) (a := p) (b := p) (k := 8) (j := 7) (x := -1) (by decide)).trans rd_eq) rd_eq T ((rd_nk (M := (sI M p 7 0)) (a := p) (b := p) (k := 8) (j := 0) (x := -1) (by decide)).trans ((rd_nk (by decide)).trans hk)) zs) rfl ?_
  rintro v M' ⟨ev, hF, hO⟩
  subst ev
  have hrg := stO_rg hO
  refine x_go 110 rfl rfl ?_
  refine x_ld 0 1 2 111 rfl rfl rfl rfl rfl ?_
  refine g_P_7 h 31 114 rfl rfl rfl rfl ?_
  refine z_ifne 121 117 rfl rfl rfl ⟨by omega, by omega⟩ (fun c114 => ?_) (fun c114 => ?_)
  · refine x_cst (zi 0) 1 122 rfl rfl rfl ?_
    refine x_ret rfl rfl rfl rfl ?_
    exact ⟨_, M', rfl, rfl, by rw [decide_eq_false c114]; rfl, Fp_trans (Fp_trans (Fp_I7 ..) (Fp_I8 ..)) hF, hO⟩
  · refine x_cst (zi 1) 1 118 rfl rfl rfl ?_
    refine x_go 122 rfl rfl ?_
    refine x_ret rfl rfl rfl rfl ?_
    exact ⟨_, M', rfl, rfl, by rw [decide_eq_true c114]; rfl, Fp_trans (Fp_trans (Fp_I7 ..) (Fp_I8 ..)) hF, hO⟩
theorem c22_7 (d : Nat) {p q r : Nat} (h : isP p) (hq : isP q) (hr : isP r) (eq : M.2.2 p 3 = q) (er : M.2.2 p 4 = r) (nq : q ≠ p) (nr : r ≠ p) (T : Nat) (hk : M.1 p 0 = 7) (zs : ∀ a, (a = q + 2 ∨ a = q + 4 ∨ a = r + 2 ∨ a = r + 4) → ∀ t : Nat, 1093 ≤ t → t < 1152 → M.2.1 a (t : Int) = false) : ab_Z (pg_G L xs) (d + 6) 22 [.ref p, .ref 2] M es (fun v M' => v = some (zi (bz (decide (M'.1 p 7 = 0)))) ∧ Fp p M M' ∧ stO 7 T (sN (M.2.1 (q + 2))) (sN (M.2.1 (r + 2))) (sN (M.2.1 (q + 4))) (sN (M.2.1 (r + 4))) (M'.1 p 7) (M'.1 p 8) (M'.2.1 (p + 2)) (M'.2.1 (p + 4))) := by
  have gp := isP_ge h
  have sq := isP_sep hq h nq
  have sr := isP_sep hr h nr
  show ab_W (pg_G L xs) (ab_X (pg_G L xs) (d + 5)) 22 _ 0 [some (.ref p), some (.ref 2)] [] (hp M ++ es)
  refine x_ld 0 1 2 1 rfl rfl rfl rfl rfl ?_
  refine x_cst (zi 0) 1 2 rfl rfl rfl ?_
  refine s_P_7 h 31 5 rfl rfl rfl rfl rfl rfl ?_
  refine x_ld 0 1 2 6 rfl rfl rfl rfl rfl ?_
  refine x_cst (zi (-1)) 1 7 rfl rfl rfl ?_
  refine s_P_8 h 34 10 rfl rfl rfl rfl rfl rfl ?_
  refine x_ld 0 1 2 11 rfl rfl rfl rfl rfl ?_
  refine g_P_0 h 9 14 rfl rfl ((rd_nk (Ne.symm (by decide))).trans ((rd_nk (Ne.symm (by decide))).trans hk)) rfl ?_
  refine x_tin 98 rfl (by decide) (by decide) rfl rfl ?_
  refine x_ld 0 1 2 99 rfl rfl rfl rfl rfl ?_
  refine x_ld 1 1 2 100 rfl rfl rfl rfl rfl ?_
  refine x_ce 71 42 103 [.ref p, .ref 2] rfl rfl rfl (Nat.le_of_ble_eq_true rfl) rfl rfl (Nat.le_of_ble_eq_true rfl) ⟨_, _, _, rfl, oP h⟩ (Nat.le_of_ble_eq_true rfl) (c42_7 (M := (sI (sI M p 7 0) p 8 (-1))) d h hq hr eq er nq nr ((rd_nk (M := (sI M p 7 0)) (a := p) (b := p) (k := 8) (j := 7) (x := -1) (by decide)).trans rd_eq) rd_eq T ((rd_nk (M := (sI M p 7 0)) (a := p) (b := p) (k := 8) (j := 0) (x := -1) (by decide)).trans ((rd_nk (by decide)).trans hk)) zs) rfl ?_
  rintro v M' ⟨ev, hF, hO⟩
  subst ev
  have hrg := stO_rg hO
  refine x_go 110 rfl rfl ?_
  refine x_ld 0 1 2 111 rfl rfl rfl rfl rfl ?_
  refine g_P_7 h 31 114 rfl rfl rfl rfl ?_
  refine z_ifne 121 117 rfl rfl rfl ⟨by omega, by omega⟩ (fun c114 => ?_) (fun c114 => ?_)
  · refine x_cst (zi 0) 1 122 rfl rfl rfl ?_
    refine x_ret rfl rfl rfl rfl ?_
    exact ⟨_, M', rfl, rfl, by rw [decide_eq_false c114]; rfl, Fp_trans (Fp_trans (Fp_I7 ..) (Fp_I8 ..)) hF, hO⟩
  · refine x_cst (zi 1) 1 118 rfl rfl rfl ?_
    refine x_go 122 rfl rfl ?_
    refine x_ret rfl rfl rfl rfl ?_
    exact ⟨_, M', rfl, rfl, by rw [decide_eq_true c114]; rfl, Fp_trans (Fp_trans (Fp_I7 ..) (Fp_I8 ..)) hF, hO⟩
theorem c22_8 (d : Nat) {p q r : Nat} (h : isP p) (hq : isP q) (hr : isP r) (eq : M.2.2 p 3 = q) (er : M.2.2 p 4 = r) (nq : q ≠ p) (nr : r ≠ p) (T : Nat) (hk : M.1 p 0 = 8) (zs : ∀ a, (a = q + 2 ∨ a = q + 4 ∨ a = r + 2 ∨ a = r + 4) → ∀ t : Nat, 1093 ≤ t → t < 1152 → M.2.1 a (t : Int) = false) : ab_Z (pg_G L xs) (d + 6) 22 [.ref p, .ref 2] M es (fun v M' => v = some (zi (bz (decide (M'.1 p 7 = 0)))) ∧ Fp p M M' ∧ stO 8 T (sN (M.2.1 (q + 2))) (sN (M.2.1 (r + 2))) (sN (M.2.1 (q + 4))) (sN (M.2.1 (r + 4))) (M'.1 p 7) (M'.1 p 8) (M'.2.1 (p + 2)) (M'.2.1 (p + 4))) := by
  have gp := isP_ge h
  have sq := isP_sep hq h nq
  have sr := isP_sep hr h nr
  show ab_W (pg_G L xs) (ab_X (pg_G L xs) (d + 5)) 22 _ 0 [some (.ref p), some (.ref 2)] [] (hp M ++ es)
  refine x_ld 0 1 2 1 rfl rfl rfl rfl rfl ?_
  refine x_cst (zi 0) 1 2 rfl rfl rfl ?_
  refine s_P_7 h 31 5 rfl rfl rfl rfl rfl rfl ?_
  refine x_ld 0 1 2 6 rfl rfl rfl rfl rfl ?_
  refine x_cst (zi (-1)) 1 7 rfl rfl rfl ?_
  refine s_P_8 h 34 10 rfl rfl rfl rfl rfl rfl ?_
  refine x_ld 0 1 2 11 rfl rfl rfl rfl rfl ?_
  refine g_P_0 h 9 14 rfl rfl ((rd_nk (Ne.symm (by decide))).trans ((rd_nk (Ne.symm (by decide))).trans hk)) rfl ?_
  refine x_tin 98 rfl (by decide) (by decide) rfl rfl ?_
  refine x_ld 0 1 2 99 rfl rfl rfl rfl rfl ?_
  refine x_ld 1 1 2 100 rfl rfl rfl rfl rfl ?_
  refine x_ce 71 42 103 [.ref p, .ref 2] rfl rfl rfl (Nat.le_of_ble_eq_true rfl) rfl rfl (Nat.le_of_ble_eq_true rfl) ⟨_, _, _, rfl, oP h⟩ (Nat.le_of_ble_eq_true rfl) (c42_8 (M := (sI (sI M p 7 0) p 8 (-1))) d h hq hr eq er nq nr ((rd_nk (M := (sI M p 7 0)) (a := p) (b := p) (k := 8) (j := 7) (x := -1) (by decide)).trans rd_eq) rd_eq T ((rd_nk (M := (sI M p 7 0)) (a := p) (b := p) (k := 8) (j := 0) (x := -1) (by decide)).trans ((rd_nk (by decide)).trans hk)) zs) rfl ?_
  rintro v M' ⟨ev, hF, hO⟩
  subst ev
  have hrg := stO_rg hO
  refine x_go 110 rfl rfl ?_
  refine x_ld 0 1 2 111 rfl rfl rfl rfl rfl ?_
  refine g_P_7 h 31 114 rfl rfl rfl rfl ?_
  refine z_ifne 121 117 rfl rfl rfl ⟨by omega, by omega⟩ (fun c114 => ?_) (fun c114 => ?_)
  · refine x_cst (zi 0) 1 122 rfl rfl rfl ?_
    refine x_ret rfl rfl rfl rfl ?_
    exact ⟨_, M', rfl, rfl, by rw [decide_eq_false c114]; rfl, Fp_trans (Fp_trans (Fp_I7 ..) (Fp_I8 ..)) hF, hO⟩
  · refine x_cst (zi 1) 1 118 rfl rfl rfl ?_
    refine x_go 122 rfl rfl ?_
    refine x_ret rfl rfl rfl rfl ?_
    exact ⟨_, M', rfl, rfl, by rw [decide_eq_true c114]; rfl, Fp_trans (Fp_trans (Fp_I7 ..) (Fp_I8 ..)) hF, hO⟩
/-- settle, whatever the kind -/
theorem c22 (d : Nat) {p q r : Nat} (h : isP p) {K : Nat} (hk : M.1 p 0 = (K : Int)) (hk8 : K ≤ 8) {T : Nat} (hT : K < 3 → M.1 p 2 = (T : Int)) (hT3 : T ≤ 3) (hc : 3 ≤ K → isP q ∧ isP r ∧ M.2.2 p 3 = q ∧ M.2.2 p 4 = r ∧ q ≠ p ∧ r ≠ p ∧ (∀ a, (a = q + 2 ∨ a = q + 4 ∨ a = r + 2 ∨ a = r + 4) → ∀ t : Nat, 1093 ≤ t → t < 1152 → M.2.1 a (t : Int) = false)) : ab_Z (pg_G L xs) (d + 6) 22 [.ref p, .ref 2] M es (fun v M' => v = some (zi (bz (decide (M'.1 p 7 = 0)))) ∧ Fp p M M' ∧ stO K T (sN (M.2.1 (q + 2))) (sN (M.2.1 (r + 2))) (sN (M.2.1 (q + 4))) (sN (M.2.1 (r + 4))) (M'.1 p 7) (M'.1 p 8) (M'.2.1 (p + 2)) (M'.2.1 (p + 4))) := by
  match K, hk, hk8, hc, hT with
  | 0, hk, _, _, hT => exact c22_0 d h (hT (by decide)) hT3 hk
  | 1, hk, _, _, hT => exact c22_1 d h (hT (by decide)) hT3 hk
  | 2, hk, _, _, hT => exact c22_2 d h (hT (by decide)) hT3 hk
  | 3, hk, _, hc, _ =>
    obtain ⟨hq, hr, eq, er, nq, nr, zs⟩ := hc (by decide)
    exact c22_3 d h hq hr eq er nq nr T hk zs
  | 4, hk, _, hc, _ =>
    obtain ⟨hq, hr, eq, er, nq, nr, zs⟩ := hc (by decide)
    exact c22_4 d h hq hr eq er nq nr T hk zs
  | 5, hk, _, hc, _ =>
    obtain ⟨hq, hr, eq, er, nq, nr, zs⟩ := hc (by decide)
    exact c22_5 d h hq hr eq er nq nr T hk zs
  | 6, hk, _, hc, _ =>
    obtain ⟨hq, hr, eq, er, nq, nr, zs⟩ := hc (by decide)
    exact c22_6 d h hq hr eq er nq nr T hk zs
  | 7, hk, _, hc, _ =>
    obtain ⟨hq, hr, eq, er, nq, nr, zs⟩ := hc (by decide)
    exact c22_7 d h hq hr eq er nq nr T hk zs
  | 8, hk, _, hc, _ =>
    obtain ⟨hq, hr, eq, er, nq, nr, zs⟩ := hc (by decide)
    exact c22_8 d h hq hr eq er nq nr T hk zs
  | n + 9, _, h8, _, _ => exact absurd h8 (by omega)
end C9
