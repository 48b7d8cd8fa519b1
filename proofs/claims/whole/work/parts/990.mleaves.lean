/-! OURS, printed by wip/tools/gen990.py: the reference's parser: its leaves. -/
/-- a row used as a stack, its top first in the list -/
def stk (f : Int → Int) : List Nat → Prop
  | [] => True
  | p :: ls => f ((ls.length : Nat) : Int) = ((p : Nat) : Int) ∧ stk f ls
theorem stk_congr {f g : Int → Int} : ∀ {ls : List Nat}, (∀ i : Nat, i < ls.length → g (i : Int) = f (i : Int)) → stk f ls → stk g ls
  | [], _, _ => trivial
  | p :: ls, h, ⟨h1, h2⟩ => ⟨(h ls.length (by rw [List.length_cons]; omega)).trans h1, stk_congr (fun i hi => h i (by rw [List.length_cons]; omega)) h2⟩
def osk (f g h : Int → Int) : List opn → Prop
  | [] => True
  | o :: os => f ((os.length : Nat) : Int) = ((o.1 : Nat) : Int) ∧ g ((os.length : Nat) : Int) = ((o.2.1 : Nat) : Int) ∧ h ((os.length : Nat) : Int) = ((o.2.2 : Nat) : Int) ∧ osk f g h os
theorem osk_congr {f g h f' g' h' : Int → Int} : ∀ {os : List opn}, (∀ i : Nat, i < os.length → f' (i : Int) = f (i : Int) ∧ g' (i : Int) = g (i : Int) ∧ h' (i : Int) = h (i : Int)) → osk f g h os → osk f' g' h' os
  | [], _, _ => trivial
  | o :: os, H, ⟨h1, h2, h3, h4⟩ => ⟨(H os.length (by rw [List.length_cons]; omega)).1.trans h1, (H os.length (by rw [List.length_cons]; omega)).2.1.trans h2, (H os.length (by rw [List.length_cons]; omega)).2.2.trans h3, osk_congr (fun i hi => H i (by rw [List.length_cons]; omega)) h4⟩
def rLn (M : mm) (x : lne) : Prop := x.1 ≤ 16 ∧ M.1 572 4 = (x.1 : Int) ∧ ∀ i : Nat, i < x.1 → M.1 575 (i : Int) = ((x.2 i : Nat) : Int) ∧ x.2 i < 127
/-- a part's row -/
def pRw (M : mm) (k : Nat) (y : prt × Nat) : Prop := M.1 582 (k : Int) = mKd y.1.1 y.1.2.2.2 ∧ M.1 583 (k : Int) = mLf y.1.1 y.1.2.1 ∧ M.1 584 (k : Int) = mRt y.1.1 y.1.2.2.1 ∧ (y.1.1 < 3 → M.1 585 (k : Int) = mLt y.1.2.2.2) ∧ M.1 586 (k : Int) = ((y.2 : Nat) : Int)
def rR (M : mm) (x : lne) (a dp : Nat) (ps : List (prt × Nat)) (ls : List Nat) (os : List opn) : Prop := rLn M x ∧ M.1 572 29 = (a : Int) ∧ M.1 572 28 = (dp : Int) ∧ M.1 572 13 = (ps.length : Int) ∧ (∀ k, k < ps.length → pRw M k ps[k]!) ∧ M.1 572 23 = (ls.length : Int) ∧ stk (M.1 590) ls ∧ M.1 572 27 = (os.length : Int) ∧ osk (M.1 591) (M.1 592) (M.1 593) os
/-- what reading may change -/
def Fpr (M M' : mm) : Prop := (∀ a, a ≠ 572 → ¬ (582 ≤ a ∧ a ≤ 586) → ¬ (590 ≤ a ∧ a ≤ 593) → M'.1 a = M.1 a) ∧ (∀ j, j ≠ 13 → j ≠ 23 → j ≠ 27 → j ≠ 28 → j ≠ 29 → M'.1 572 j = M.1 572 j) ∧ M'.2 = M.2
theorem Fpr_refl (M : mm) : Fpr M M := ⟨fun _ _ _ _ => rfl, fun _ _ _ _ _ _ => rfl, rfl⟩
theorem Fpr_trans {M M' M'' : mm} (h : Fpr M M') (g : Fpr M' M'') : Fpr M M'' := ⟨fun a h1 h2 h3 => (g.1 a h1 h2 h3).trans (h.1 a h1 h2 h3), fun j h1 h2 h3 h4 h5 => (g.2.1 j h1 h2 h3 h4 h5).trans (h.2.1 j h1 h2 h3 h4 h5), g.2.2.trans h.2.2⟩
theorem Fpr_f {M : mm} {j y : Int} (h : j = 13 ∨ j = 23 ∨ j = 27 ∨ j = 28 ∨ j = 29) : Fpr M (sI M 572 j y) := ⟨fun a h1 _ _ => sI_ne h1, fun i h1 h2 h3 h4 h5 => rd_nk (by omega), rfl⟩
theorem rLn_F {M M' : mm} {x : lne} (h : rLn M x) (hF : Fpr M M') : rLn M' x := ⟨h.1, (hF.2.1 4 (by decide) (by decide) (by decide) (by decide) (by decide)).trans h.2.1, fun i hi => by rw [hF.1 575 (by decide) (by decide) (by decide)]; exact h.2.2 i hi⟩
theorem rR_at {M : mm} {x : lne} {a dp a' : Nat} {ps : List (prt × Nat)} {ls : List Nat} {os : List opn} (h : rR M x a dp ps ls os) {y : Int} (hy : y = (a' : Int)) : rR (sI M 572 29 y) x a' dp ps ls os := by
  refine ⟨rLn_F h.1 (Fpr_f (by omega)), rd_eq.trans hy, (rd_nk (by decide)).trans h.2.2.1, (rd_nk (by decide)).trans h.2.2.2.1, fun k hk => ?_, (rd_nk (by decide)).trans h.2.2.2.2.2.1, ?_, (rd_nk (by decide)).trans h.2.2.2.2.2.2.2.1, ?_⟩
  · have t := h.2.2.2.2.1 k hk
    unfold pRw at t ⊢
    rw [sI_ne (by decide), sI_ne (by decide), sI_ne (by decide), sI_ne (by decide), sI_ne (by decide)]; exact t
  · rw [sI_ne (by decide)]; exact h.2.2.2.2.2.2.1
  · rw [sI_ne (by decide), sI_ne (by decide), sI_ne (by decide)]; exact h.2.2.2.2.2.2.2.2
theorem rR_dp {M : mm} {x : lne} {a dp dp' : Nat} {ps : List (prt × Nat)} {ls : List Nat} {os : List opn} (h : rR M x a dp ps ls os) {y : Int} (hy : y = (dp' : Int)) : rR (sI M 572 28 y) x a dp' ps ls os := by
  refine ⟨rLn_F h.1 (Fpr_f (by omega)), (rd_nk (by decide)).trans h.2.1, rd_eq.trans hy, (rd_nk (by decide)).trans h.2.2.2.1, fun k hk => ?_, (rd_nk (by decide)).trans h.2.2.2.2.2.1, ?_, (rd_nk (by decide)).trans h.2.2.2.2.2.2.2.1, ?_⟩
  · have t := h.2.2.2.2.1 k hk
    unfold pRw at t ⊢
    rw [sI_ne (by decide), sI_ne (by decide), sI_ne (by decide), sI_ne (by decide), sI_ne (by decide)]; exact t
  · rw [sI_ne (by decide)]; exact h.2.2.2.2.2.2.1
  · rw [sI_ne (by decide), sI_ne (by decide), sI_ne (by decide)]; exact h.2.2.2.2.2.2.2.2
/-- the top is taken off -/
theorem rR_ls {M : mm} {x : lne} {a dp p : Nat} {ps : List (prt × Nat)} {ls : List Nat} {os : List opn} (h : rR M x a dp ps (p :: ls) os) {y : Int} (hy : y = (ls.length : Int)) : rR (sI M 572 23 y) x a dp ps ls os := by
  refine ⟨rLn_F h.1 (Fpr_f (by omega)), (rd_nk (by decide)).trans h.2.1, (rd_nk (by decide)).trans h.2.2.1, (rd_nk (by decide)).trans h.2.2.2.1, fun k hk => ?_, rd_eq.trans hy, ?_, (rd_nk (by decide)).trans h.2.2.2.2.2.2.2.1, ?_⟩
  · have t := h.2.2.2.2.1 k hk
    unfold pRw at t ⊢
    rw [sI_ne (by decide), sI_ne (by decide), sI_ne (by decide), sI_ne (by decide), sI_ne (by decide)]; exact t
  · rw [sI_ne (by decide)]; exact h.2.2.2.2.2.2.1.2
  · rw [sI_ne (by decide), sI_ne (by decide), sI_ne (by decide)]; exact h.2.2.2.2.2.2.2.2
theorem rR_os {M : mm} {x : lne} {a dp : Nat} {o : opn} {ps : List (prt × Nat)} {ls : List Nat} {os : List opn} (h : rR M x a dp ps ls (o :: os)) {y : Int} (hy : y = (os.length : Int)) : rR (sI M 572 27 y) x a dp ps ls os := by
  refine ⟨rLn_F h.1 (Fpr_f (by omega)), (rd_nk (by decide)).trans h.2.1, (rd_nk (by decide)).trans h.2.2.1, (rd_nk (by decide)).trans h.2.2.2.1, fun k hk => ?_, (rd_nk (by decide)).trans h.2.2.2.2.2.1, ?_, rd_eq.trans hy, ?_⟩
  · have t := h.2.2.2.2.1 k hk
    unfold pRw at t ⊢
    rw [sI_ne (by decide), sI_ne (by decide), sI_ne (by decide), sI_ne (by decide), sI_ne (by decide)]; exact t
  · rw [sI_ne (by decide)]; exact h.2.2.2.2.2.2.1
  · rw [sI_ne (by decide), sI_ne (by decide), sI_ne (by decide)]; exact h.2.2.2.2.2.2.2.2.2.2.2
section C40
variable {L : Nat} {xs : Nat → Int32} {M : mm} {es : ab_H}
theorem c108 (d : Nat) {x : lne} {a dp : Nat} {ps : List (prt × Nat)} {ls : List Nat} {os : List opn} (h : rR M x a dp ps ls os) (ha : a ≤ 20) {k : Nat} (hk : k ≤ 1) : ab_S (pg_G L xs) (d + 1) 108 [.ref 572, zi (k : Nat)] (hp M ++ es) (some (zi (lk x (a + k) : Nat))) (hp M ++ es) := by
  have h16 := h.1.1
  show ab_W (pg_G L xs) (ab_X (pg_G L xs) d) 108 _ 0 [some (.ref 572), some (zi ((k : Nat) : Int))] [] (hp M ++ es)
  refine x_ld 0 1 2 1 rfl rfl rfl rfl rfl ?_
  refine g_572_29 165 4 rfl rfl h.2.1 rfl ?_
  refine x_ld 1 1 0 5 rfl rfl rfl rfl rfl ?_
  refine z_add 6 rfl rfl ?_
  rw [show ((a : Nat) : Int) + ((k : Nat) : Int) = ((a + k : Nat) : Int) from (by omega)]
  refine x_ld 0 1 2 7 rfl rfl rfl rfl rfl ?_
  refine g_572_4 162 10 rfl rfl h.1.2.1 rfl ?_
  refine z_icge 27 13 rfl rfl rfl ⟨by omega, by omega⟩ ⟨by omega, by omega⟩ (fun c10 => ?_) (fun c10 => ?_)
  · refine x_cst (zi 0) 1 28 rfl rfl rfl ?_
    refine x_ret rfl rfl rfl rfl ?_
    unfold lk; rw [if_neg (by omega)]; exact ⟨rfl, rfl⟩
  · refine x_ld 0 1 2 14 rfl rfl rfl rfl rfl ?_
    refine g_572_3 16 17 rfl rfl rfl ?_
    refine x_ld 0 1 2 18 rfl rfl rfl rfl rfl ?_
    refine g_572_29 165 21 rfl rfl h.2.1 rfl ?_
    refine x_ld 1 1 0 22 rfl rfl rfl rfl rfl ?_
    refine z_add 23 rfl rfl ?_
    rw [show ((a : Nat) : Int) + ((k : Nat) : Int) = ((a + k : Nat) : Int) from (by omega)]
    refine z_ild ((x.2 (a + k) : Nat) : Int) 24 rfl i_575 rfl ⟨by omega, by omega⟩ (h.1.2.2 (a + k) (by omega)).1 rfl ?_
    refine x_go 28 rfl rfl ?_
    refine x_ret rfl rfl rfl rfl ?_
    unfold lk; rw [if_pos (by omega)]; exact ⟨rfl, rfl⟩
theorem c109 (d : Nat) {c : Nat} (hc : c < 65536) {h : ab_H} : ab_S (pg_G L xs) (d + 1) 109 [zi (c : Nat)] h (some (zi (bz (ltc c)))) h := by
  show ab_W (pg_G L xs) (ab_X (pg_G L xs) d) 109 _ 0 [some (zi ((c : Nat) : Int))] [] h
  refine x_ld 0 1 0 1 rfl rfl rfl rfl rfl ?_
  refine x_cst (zi 97) 2 3 rfl rfl rfl ?_
  refine z_iclt 16 6 rfl rfl rfl ⟨by omega, by omega⟩ (rg_lit 97 rfl) (fun c3 => ?_) (fun c3 => ?_)
  · refine x_cst (zi 0) 1 17 rfl rfl rfl ?_
    refine x_ret rfl rfl rfl rfl ?_
    rw [show ltc c = false by unfold ltc; simp; omega]; exact ⟨rfl, rfl⟩
  · refine x_ld 0 1 0 7 rfl rfl rfl rfl rfl ?_
    refine x_cst (zi 99) 2 9 rfl rfl rfl ?_
    refine z_icgt 16 12 rfl rfl rfl ⟨by omega, by omega⟩ (rg_lit 99 rfl) (fun c9 => ?_) (fun c9 => ?_)
    · refine x_cst (zi 0) 1 17 rfl rfl rfl ?_
      refine x_ret rfl rfl rfl rfl ?_
      rw [show ltc c = false by unfold ltc; simp; omega]; exact ⟨rfl, rfl⟩
    · refine x_cst (zi 1) 1 13 rfl rfl rfl ?_
      refine x_go 17 rfl rfl ?_
      refine x_ret rfl rfl rfl rfl ?_
      rw [show ltc c = true by unfold ltc; simp; omega]; exact ⟨rfl, rfl⟩
theorem c117 (d : Nat) {c : Nat} (hc : c < 65536) {h : ab_H} : ab_S (pg_G L xs) (d + 2) 117 [zi (c : Nat)] h (some (zi (bz (sat c)))) h := by
  show ab_W (pg_G L xs) (ab_X (pg_G L xs) (d + 1)) 117 _ 0 [some (zi ((c : Nat) : Int))] [] h
  refine x_ld 0 1 0 1 rfl rfl rfl rfl rfl ?_
  refine x_cv 189 109 4 [zi ((c : Nat) : Int)] rfl rfl rfl (Nat.le_of_ble_eq_true rfl) rfl rfl (Nat.le_of_ble_eq_true rfl) trivial (Nat.le_of_ble_eq_true rfl) (c109 d hc) rfl ?_
  rcases Bool.eq_false_or_eq_true (ltc c) with hl | hl
  · rw [hl]
    refine z_ifne 43 7 rfl rfl rfl (rg_lit 1 rfl) (fun _ => ?_) (fun c => absurd c (by decide))
    refine x_cst (zi 1) 1 44 rfl rfl rfl ?_
    refine x_go 48 rfl rfl ?_
    refine x_ret rfl rfl rfl rfl ?_
    rw [show sat c = true by unfold sat; rw [hl]; simp; try omega]; exact ⟨rfl, rfl⟩
  · rw [hl]
    refine z_ifne 43 7 rfl rfl rfl (rg_lit 0 rfl) (fun c => absurd c (by decide)) (fun _ => ?_)
    refine x_ld 0 1 0 8 rfl rfl rfl rfl rfl ?_
    refine x_cst (zi 46) 2 10 rfl rfl rfl ?_
    refine z_iceq 43 13 rfl rfl rfl ⟨by omega, by omega⟩ (rg_lit 46 rfl) (fun c10 => ?_) (fun c10 => ?_)
    · refine x_cst (zi 1) 1 44 rfl rfl rfl ?_
      refine x_go 48 rfl rfl ?_
      refine x_ret rfl rfl rfl rfl ?_
      rw [show sat c = true by unfold sat; rw [hl]; simp; try omega]; exact ⟨rfl, rfl⟩
    · refine x_ld 0 1 0 14 rfl rfl rfl rfl rfl ?_
      refine x_cst (zi 45) 2 16 rfl rfl rfl ?_
      refine z_iceq 43 19 rfl rfl rfl ⟨by omega, by omega⟩ (rg_lit 45 rfl) (fun c16 => ?_) (fun c16 => ?_)
      · refine x_cst (zi 1) 1 44 rfl rfl rfl ?_
        refine x_go 48 rfl rfl ?_
        refine x_ret rfl rfl rfl rfl ?_
        rw [show sat c = true by unfold sat; rw [hl]; simp; try omega]; exact ⟨rfl, rfl⟩
      · refine x_ld 0 1 0 20 rfl rfl rfl rfl rfl ?_
        refine x_cst (zi 43) 2 22 rfl rfl rfl ?_
        refine z_iceq 43 25 rfl rfl rfl ⟨by omega, by omega⟩ (rg_lit 43 rfl) (fun c22 => ?_) (fun c22 => ?_)
        · refine x_cst (zi 1) 1 44 rfl rfl rfl ?_
          refine x_go 48 rfl rfl ?_
          refine x_ret rfl rfl rfl rfl ?_
          rw [show sat c = true by unfold sat; rw [hl]; simp; try omega]; exact ⟨rfl, rfl⟩
        · refine x_ld 0 1 0 26 rfl rfl rfl rfl rfl ?_
          refine x_cst (zi 94) 2 28 rfl rfl rfl ?_
          refine z_iceq 43 31 rfl rfl rfl ⟨by omega, by omega⟩ (rg_lit 94 rfl) (fun c28 => ?_) (fun c28 => ?_)
          · refine x_cst (zi 1) 1 44 rfl rfl rfl ?_
            refine x_go 48 rfl rfl ?_
            refine x_ret rfl rfl rfl rfl ?_
            rw [show sat c = true by unfold sat; rw [hl]; simp; try omega]; exact ⟨rfl, rfl⟩
          · refine x_ld 0 1 0 32 rfl rfl rfl rfl rfl ?_
            refine x_cst (zi 61) 2 34 rfl rfl rfl ?_
            refine z_iceq 43 37 rfl rfl rfl ⟨by omega, by omega⟩ (rg_lit 61 rfl) (fun c34 => ?_) (fun c34 => ?_)
            · refine x_cst (zi 1) 1 44 rfl rfl rfl ?_
              refine x_go 48 rfl rfl ?_
              refine x_ret rfl rfl rfl rfl ?_
              rw [show sat c = true by unfold sat; rw [hl]; simp; try omega]; exact ⟨rfl, rfl⟩
            · refine x_ld 0 1 0 38 rfl rfl rfl rfl rfl ?_
              refine x_cst (zi 40) 2 40 rfl rfl rfl ?_
              refine z_icne 47 43 rfl rfl rfl ⟨by omega, by omega⟩ (rg_lit 40 rfl) (fun c40 => ?_) (fun c40 => ?_)
              · refine x_cst (zi 0) 1 48 rfl rfl rfl ?_
                refine x_ret rfl rfl rfl rfl ?_
                rw [show sat c = false by unfold sat; rw [hl]; simp; omega]; exact ⟨rfl, rfl⟩
              · refine x_cst (zi 1) 1 44 rfl rfl rfl ?_
                refine x_go 48 rfl rfl ?_
                refine x_ret rfl rfl rfl rfl ?_
                rw [show sat c = true by unfold sat; rw [hl]; simp; try omega]; exact ⟨rfl, rfl⟩
theorem c110 (d : Nat) {x : lne} {a dp : Nat} {ps : List (prt × Nat)} {ls : List Nat} {os : List opn} (h : rR M x a dp ps ls os) (h1 : ps.length < 32) (h2 : ls.length < 32) {y : prt × Nat} {kd lf rt lt pl : Int} (e1 : kd = mKd y.1.1 y.1.2.2.2) (e2 : lf = mLf y.1.1 y.1.2.1) (e3 : rt = mRt y.1.1 y.1.2.2.1) (e4 : y.1.1 < 3 → lt = mLt y.1.2.2.2) (e5 : pl = ((y.2 : Nat) : Int)) : ab_Z (pg_G L xs) (d + 1) 110 [.ref 572, zi kd, zi lf, zi rt, zi lt, zi pl] M es (fun v M' => v = none ∧ Fpr M M' ∧ rR M' x a dp (ps ++ [y]) (ps.length :: ls) os) := by
  show ab_W (pg_G L xs) (ab_X (pg_G L xs) d) 110 _ 0 [some (.ref 572), some (zi kd), some (zi lf), some (zi rt), some (zi lt), some (zi pl)] [] (hp M ++ es)
  refine x_ld 0 1 2 1 rfl rfl rfl rfl rfl ?_
  refine g_572_14 38 4 rfl rfl rfl ?_
  refine x_ld 0 1 2 5 rfl rfl rfl rfl rfl ?_
  refine g_572_13 168 8 rfl rfl h.2.2.2.1 rfl ?_
  refine x_ld 1 1 0 9 rfl rfl rfl rfl rfl ?_
  refine z_ist 10 rfl i_582 rfl ⟨by omega, by omega⟩ rfl ?_
  refine x_ld 0 1 2 11 rfl rfl rfl rfl rfl ?_
  refine g_572_15 41 14 rfl rfl rfl ?_
  refine x_ld 0 1 2 15 rfl rfl rfl rfl rfl ?_
  refine g_572_13 168 18 rfl rfl ((rd_na (Ne.symm (by decide))).trans h.2.2.2.1) rfl ?_
  refine x_ld 2 1 0 19 rfl rfl rfl rfl rfl ?_
  refine z_ist 20 rfl i_583 rfl ⟨by omega, by omega⟩ rfl ?_
  refine x_ld 0 1 2 21 rfl rfl rfl rfl rfl ?_
  refine g_572_16 44 24 rfl rfl rfl ?_
  refine x_ld 0 1 2 25 rfl rfl rfl rfl rfl ?_
  refine g_572_13 168 28 rfl rfl ((rd_na (Ne.symm (by decide))).trans ((rd_na (Ne.symm (by decide))).trans h.2.2.2.1)) rfl ?_
  refine x_ld 3 1 0 29 rfl rfl rfl rfl rfl ?_
  refine z_ist 30 rfl i_584 rfl ⟨by omega, by omega⟩ rfl ?_
  refine x_ld 0 1 2 31 rfl rfl rfl rfl rfl ?_
  refine g_572_17 47 34 rfl rfl rfl ?_
  refine x_ld 0 1 2 35 rfl rfl rfl rfl rfl ?_
  refine g_572_13 168 38 rfl rfl ((rd_na (Ne.symm (by decide))).trans ((rd_na (Ne.symm (by decide))).trans ((rd_na (Ne.symm (by decide))).trans h.2.2.2.1))) rfl ?_
  refine x_ld 4 2 0 40 rfl rfl rfl rfl rfl ?_
  refine z_ist 41 rfl i_585 rfl ⟨by omega, by omega⟩ rfl ?_
  refine x_ld 0 1 2 42 rfl rfl rfl rfl rfl ?_
  refine g_572_18 50 45 rfl rfl rfl ?_
  refine x_ld 0 1 2 46 rfl rfl rfl rfl rfl ?_
  refine g_572_13 168 49 rfl rfl ((rd_na (Ne.symm (by decide))).trans ((rd_na (Ne.symm (by decide))).trans ((rd_na (Ne.symm (by decide))).trans ((rd_na (Ne.symm (by decide))).trans h.2.2.2.1)))) rfl ?_
  refine x_ld 5 2 0 51 rfl rfl rfl rfl rfl ?_
  refine z_ist 52 rfl i_586 rfl ⟨by omega, by omega⟩ rfl ?_
  refine x_ld 0 1 2 53 rfl rfl rfl rfl rfl ?_
  refine g_572_22 62 56 rfl rfl rfl ?_
  refine x_ld 0 1 2 57 rfl rfl rfl rfl rfl ?_
  refine g_572_23 171 60 rfl rfl ((rd_na (Ne.symm (by decide))).trans ((rd_na (Ne.symm (by decide))).trans ((rd_na (Ne.symm (by decide))).trans ((rd_na (Ne.symm (by decide))).trans ((rd_na (Ne.symm (by decide))).trans h.2.2.2.2.2.1))))) rfl ?_
  refine x_ld 0 1 2 61 rfl rfl rfl rfl rfl ?_
  refine g_572_13 168 64 rfl rfl ((rd_na (Ne.symm (by decide))).trans ((rd_na (Ne.symm (by decide))).trans ((rd_na (Ne.symm (by decide))).trans ((rd_na (Ne.symm (by decide))).trans ((rd_na (Ne.symm (by decide))).trans h.2.2.2.1))))) rfl ?_
  refine z_ist 65 rfl i_590 rfl ⟨by omega, by omega⟩ rfl ?_
  refine x_ld 0 1 2 66 rfl rfl rfl rfl rfl ?_
  refine x_dup 67 rfl rfl rfl ?_
  refine g_572_23 171 70 rfl rfl ((rd_na (Ne.symm (by decide))).trans ((rd_na (Ne.symm (by decide))).trans ((rd_na (Ne.symm (by decide))).trans ((rd_na (Ne.symm (by decide))).trans ((rd_na (Ne.symm (by decide))).trans ((rd_na (Ne.symm (by decide))).trans h.2.2.2.2.2.1)))))) rfl ?_
  refine x_cst (zi 1) 1 71 rfl rfl rfl ?_
  refine z_add 72 rfl rfl ?_
  rw [show ((ls.length : Nat) : Int) + 1 = ((ls.length + 1 : Nat) : Int) from (by omega)]
  refine s_572_23 171 75 rfl rfl rfl rfl rfl rfl ?_
  refine x_ld 0 1 2 76 rfl rfl rfl rfl rfl ?_
  refine x_dup 77 rfl rfl rfl ?_
  refine g_572_13 168 80 rfl rfl ((rd_nk (Ne.symm (by decide))).trans ((rd_na (Ne.symm (by decide))).trans ((rd_na (Ne.symm (by decide))).trans ((rd_na (Ne.symm (by decide))).trans ((rd_na (Ne.symm (by decide))).trans ((rd_na (Ne.symm (by decide))).trans ((rd_na (Ne.symm (by decide))).trans h.2.2.2.1))))))) rfl ?_
  refine x_cst (zi 1) 1 81 rfl rfl rfl ?_
  refine z_add 82 rfl rfl ?_
  refine s_572_13 168 85 rfl rfl rfl rfl rfl rfl ?_
  refine x_rtv rfl rfl ?_
  have hF : Fpr M (sI (sI (sI (sI (sI (sI (sI (sI M 582 ((ps.length : Nat) : Int) kd) 583 ((ps.length : Nat) : Int) lf) 584 ((ps.length : Nat) : Int) rt) 585 ((ps.length : Nat) : Int) lt) 586 ((ps.length : Nat) : Int) pl) 590 ((ls.length : Nat) : Int) ((ps.length : Nat) : Int)) 572 23 ((ls.length + 1 : Nat) : Int)) 572 13 (((ps.length : Nat) : Int) + 1)) := ⟨fun q g1 g2 g3 => by rw [sI_ne g1, sI_ne g1, sI_ne (by omega), sI_ne (by omega), sI_ne (by omega), sI_ne (by omega), sI_ne (by omega), sI_ne (by omega)], fun j g1 g2 g3 g4 g5 => (rd_nk g1).trans ((rd_nk g2).trans ((rd_na (by decide)).trans ((rd_na (by decide)).trans ((rd_na (by decide)).trans ((rd_na (by decide)).trans ((rd_na (by decide)).trans (rd_na (by decide)))))))), rfl⟩
  refine ⟨none, _, rfl, rfl, rfl, hF, rLn_F h.1 hF, ?_, ?_, ?_, fun k hk => ?_, ?_, ⟨?_, ?_⟩, ?_, ?_⟩
  · exact (rd_nk (by decide)).trans ((rd_nk (by decide)).trans ((rd_na (by decide)).trans ((rd_na (by decide)).trans ((rd_na (by decide)).trans ((rd_na (by decide)).trans ((rd_na (by decide)).trans ((rd_na (by decide)).trans h.2.1)))))))
  · exact (rd_nk (by decide)).trans ((rd_nk (by decide)).trans ((rd_na (by decide)).trans ((rd_na (by decide)).trans ((rd_na (by decide)).trans ((rd_na (by decide)).trans ((rd_na (by decide)).trans ((rd_na (by decide)).trans h.2.2.1)))))))
  · rw [rd_eq, List.length_append]; rfl
  · rw [List.length_append, List.length_singleton] at hk
    rcases Nat.eq_or_lt_of_le (Nat.le_of_lt_succ hk) with e | e
    · subst e
      rw [snoc_at]
      exact ⟨(rd_na (by decide)).trans ((rd_na (by decide)).trans ((rd_na (by decide)).trans ((rd_na (by decide)).trans ((rd_na (by decide)).trans ((rd_na (by decide)).trans ((rd_na (by decide)).trans (rd_eq.trans e1))))))), (rd_na (by decide)).trans ((rd_na (by decide)).trans ((rd_na (by decide)).trans ((rd_na (by decide)).trans ((rd_na (by decide)).trans ((rd_na (by decide)).trans (rd_eq.trans e2)))))), (rd_na (by decide)).trans ((rd_na (by decide)).trans ((rd_na (by decide)).trans ((rd_na (by decide)).trans ((rd_na (by decide)).trans (rd_eq.trans e3))))), fun q => (rd_na (by decide)).trans ((rd_na (by decide)).trans ((rd_na (by decide)).trans ((rd_na (by decide)).trans (rd_eq.trans (e4 q))))), (rd_na (by decide)).trans ((rd_na (by decide)).trans ((rd_na (by decide)).trans (rd_eq.trans e5)))⟩
    · rw [snoc_lt e]
      have t := h.2.2.2.2.1 k e
      exact ⟨(rd_na (by decide)).trans ((rd_na (by decide)).trans ((rd_na (by decide)).trans ((rd_na (by decide)).trans ((rd_na (by decide)).trans ((rd_na (by decide)).trans ((rd_na (by decide)).trans ((rd_nk (by omega)).trans (t.1)))))))), (rd_na (by decide)).trans ((rd_na (by decide)).trans ((rd_na (by decide)).trans ((rd_na (by decide)).trans ((rd_na (by decide)).trans ((rd_na (by decide)).trans ((rd_nk (by omega)).trans ((rd_na (by decide)).trans (t.2.1)))))))), (rd_na (by decide)).trans ((rd_na (by decide)).trans ((rd_na (by decide)).trans ((rd_na (by decide)).trans ((rd_na (by decide)).trans ((rd_nk (by omega)).trans ((rd_na (by decide)).trans ((rd_na (by decide)).trans (t.2.2.1)))))))), fun q => (rd_na (by decide)).trans ((rd_na (by decide)).trans ((rd_na (by decide)).trans ((rd_na (by decide)).trans ((rd_nk (by omega)).trans ((rd_na (by decide)).trans ((rd_na (by decide)).trans ((rd_na (by decide)).trans (t.2.2.2.1 q)))))))), (rd_na (by decide)).trans ((rd_na (by decide)).trans ((rd_na (by decide)).trans ((rd_nk (by omega)).trans ((rd_na (by decide)).trans ((rd_na (by decide)).trans ((rd_na (by decide)).trans ((rd_na (by decide)).trans (t.2.2.2.2))))))))⟩
  · rw [List.length_cons]; exact (rd_nk (by decide)).trans (rd_eq.trans (by omega))
  · exact (rd_na (by decide)).trans ((rd_na (by decide)).trans rd_eq)
  · refine stk_congr (fun i hi => ?_) h.2.2.2.2.2.2.1
    exact (rd_na (by decide)).trans ((rd_na (by decide)).trans ((rd_nk (by omega)).trans ((rd_na (by decide)).trans ((rd_na (by decide)).trans ((rd_na (by decide)).trans ((rd_na (by decide)).trans (rd_na (by decide))))))))
  · exact (rd_nk (by decide)).trans ((rd_nk (by decide)).trans ((rd_na (by decide)).trans ((rd_na (by decide)).trans ((rd_na (by decide)).trans ((rd_na (by decide)).trans ((rd_na (by decide)).trans ((rd_na (by decide)).trans h.2.2.2.2.2.2.2.1)))))))
  · rw [sI_ne (by decide), sI_ne (by decide), sI_ne (by decide), sI_ne (by decide), sI_ne (by decide), sI_ne (by decide), sI_ne (by decide), sI_ne (by decide)]
    rw [sI_ne (by decide), sI_ne (by decide), sI_ne (by decide), sI_ne (by decide), sI_ne (by decide), sI_ne (by decide), sI_ne (by decide), sI_ne (by decide)]
    rw [sI_ne (by decide), sI_ne (by decide), sI_ne (by decide), sI_ne (by decide), sI_ne (by decide), sI_ne (by decide), sI_ne (by decide), sI_ne (by decide)]
    exact h.2.2.2.2.2.2.2.2
theorem c113 (d : Nat) {x : lne} {a dp p : Nat} {ps : List (prt × Nat)} {ls : List Nat} {os : List opn} (h : rR M x a dp ps (p :: ls) os) (h2 : ls.length < 32) : ab_S (pg_G L xs) (d + 1) 113 [.ref 572] (hp M ++ es) (some (zi (p : Nat))) (hp (sI M 572 23 ((ls.length : Nat) : Int)) ++ es) := by
  have h23 : M.1 572 23 = ((ls.length + 1 : Nat) : Int) := h.2.2.2.2.2.1
  show ab_W (pg_G L xs) (ab_X (pg_G L xs) d) 113 _ 0 [some (.ref 572)] [] (hp M ++ es)
  refine x_ld 0 1 2 1 rfl rfl rfl rfl rfl ?_
  refine x_dup 2 rfl rfl rfl ?_
  refine g_572_23 171 5 rfl rfl h23 rfl ?_
  refine x_cst (zi 1) 1 6 rfl rfl rfl ?_
  refine z_sub 7 rfl rfl ?_
  rw [show ((ls.length + 1 : Nat) : Int) - 1 = ((ls.length : Nat) : Int) from (by omega)]
  refine s_572_23 171 10 rfl rfl rfl rfl rfl rfl ?_
  refine x_ld 0 1 2 11 rfl rfl rfl rfl rfl ?_
  refine g_572_22 62 14 rfl rfl rfl ?_
  refine x_ld 0 1 2 15 rfl rfl rfl rfl rfl ?_
  refine g_572_23 171 18 rfl rfl rd_eq rfl ?_
  refine z_ild ((p : Nat) : Int) 19 rfl i_590 rfl ⟨by omega, by omega⟩ ((rd_na (by decide)).trans h.2.2.2.2.2.2.1.1) rfl ?_
  refine x_ret rfl rfl rfl rfl ?_
  exact ⟨rfl, rfl⟩
theorem c115 (d : Nat) {x : lne} {a dp : Nat} {ps : List (prt × Nat)} {ls : List Nat} {os : List opn} (h : rR M x a dp ps ls os) (h2 : os.length < 32) {kd pl : Nat} : ab_Z (pg_G L xs) (d + 1) 115 [.ref 572, zi (kd : Nat), zi (pl : Nat)] M es (fun v M' => v = none ∧ Fpr M M' ∧ rR M' x a dp ps ls ((kd, pl, 2) :: os)) := by
  show ab_W (pg_G L xs) (ab_X (pg_G L xs) d) 115 _ 0 [some (.ref 572), some (zi ((kd : Nat) : Int)), some (zi ((pl : Nat) : Int))] [] (hp M ++ es)
  refine x_ld 0 1 2 1 rfl rfl rfl rfl rfl ?_
  refine g_572_24 65 4 rfl rfl rfl ?_
  refine x_ld 0 1 2 5 rfl rfl rfl rfl rfl ?_
  refine g_572_27 174 8 rfl rfl h.2.2.2.2.2.2.2.1 rfl ?_
  refine x_ld 1 1 0 9 rfl rfl rfl rfl rfl ?_
  refine z_ist 10 rfl i_591 rfl ⟨by omega, by omega⟩ rfl ?_
  refine x_ld 0 1 2 11 rfl rfl rfl rfl rfl ?_
  refine g_572_25 68 14 rfl rfl rfl ?_
  refine x_ld 0 1 2 15 rfl rfl rfl rfl rfl ?_
  refine g_572_27 174 18 rfl rfl ((rd_na (Ne.symm (by decide))).trans h.2.2.2.2.2.2.2.1) rfl ?_
  refine x_ld 2 1 0 19 rfl rfl rfl rfl rfl ?_
  refine z_ist 20 rfl i_592 rfl ⟨by omega, by omega⟩ rfl ?_
  refine x_ld 0 1 2 21 rfl rfl rfl rfl rfl ?_
  refine g_572_26 71 24 rfl rfl rfl ?_
  refine x_ld 0 1 2 25 rfl rfl rfl rfl rfl ?_
  refine g_572_27 174 28 rfl rfl ((rd_na (Ne.symm (by decide))).trans ((rd_na (Ne.symm (by decide))).trans h.2.2.2.2.2.2.2.1)) rfl ?_
  refine x_cst (zi 2) 1 29 rfl rfl rfl ?_
  refine z_ist 30 rfl i_593 rfl ⟨by omega, by omega⟩ rfl ?_
  refine x_ld 0 1 2 31 rfl rfl rfl rfl rfl ?_
  refine x_dup 32 rfl rfl rfl ?_
  refine g_572_27 174 35 rfl rfl ((rd_na (Ne.symm (by decide))).trans ((rd_na (Ne.symm (by decide))).trans ((rd_na (Ne.symm (by decide))).trans h.2.2.2.2.2.2.2.1))) rfl ?_
  refine x_cst (zi 1) 1 36 rfl rfl rfl ?_
  refine z_add 37 rfl rfl ?_
  refine s_572_27 174 40 rfl rfl rfl rfl rfl rfl ?_
  refine x_rtv rfl rfl ?_
  have hF : Fpr M (sI (sI (sI (sI M 591 ((os.length : Nat) : Int) ((kd : Nat) : Int)) 592 ((os.length : Nat) : Int) ((pl : Nat) : Int)) 593 ((os.length : Nat) : Int) 2) 572 27 (((os.length : Nat) : Int) + 1)) := ⟨fun q g1 g2 g3 => by rw [sI_ne g1, sI_ne (by omega), sI_ne (by omega), sI_ne (by omega)], fun j g1 g2 g3 g4 g5 => (rd_nk g3).trans ((rd_na (by decide)).trans ((rd_na (by decide)).trans (rd_na (by decide)))), rfl⟩
  refine ⟨none, _, rfl, rfl, rfl, hF, rLn_F h.1 hF, ?_, ?_, ?_, fun k hk => ?_, ?_, ?_, ?_, ⟨?_, ?_, ?_, ?_⟩⟩
  · exact (rd_nk (by decide)).trans ((rd_na (by decide)).trans ((rd_na (by decide)).trans ((rd_na (by decide)).trans h.2.1)))
  · exact (rd_nk (by decide)).trans ((rd_na (by decide)).trans ((rd_na (by decide)).trans ((rd_na (by decide)).trans h.2.2.1)))
  · exact (rd_nk (by decide)).trans ((rd_na (by decide)).trans ((rd_na (by decide)).trans ((rd_na (by decide)).trans h.2.2.2.1)))
  · have t := h.2.2.2.2.1 k hk
    unfold pRw at t ⊢
    rw [sI_ne (by decide), sI_ne (by decide), sI_ne (by decide), sI_ne (by decide)]
    rw [sI_ne (by decide), sI_ne (by decide), sI_ne (by decide), sI_ne (by decide)]
    rw [sI_ne (by decide), sI_ne (by decide), sI_ne (by decide), sI_ne (by decide)]
    rw [sI_ne (by decide), sI_ne (by decide), sI_ne (by decide), sI_ne (by decide)]
    rw [sI_ne (by decide), sI_ne (by decide), sI_ne (by decide), sI_ne (by decide)]
    exact t
  · exact (rd_nk (by decide)).trans ((rd_na (by decide)).trans ((rd_na (by decide)).trans ((rd_na (by decide)).trans h.2.2.2.2.2.1)))
  · rw [sI_ne (by decide), sI_ne (by decide), sI_ne (by decide), sI_ne (by decide)]; exact h.2.2.2.2.2.2.1
  · rw [List.length_cons]; exact rd_eq.trans (by omega)
  · exact (rd_na (by decide)).trans ((rd_na (by decide)).trans ((rd_na (by decide)).trans rd_eq))
  · exact (rd_na (by decide)).trans ((rd_na (by decide)).trans rd_eq)
  · exact (rd_na (by decide)).trans rd_eq
  · refine osk_congr (fun i hi => ⟨?_, ?_, ?_⟩) h.2.2.2.2.2.2.2.2
    · exact (rd_na (by decide)).trans ((rd_na (by decide)).trans ((rd_na (by decide)).trans (rd_nk (by omega))))
    · exact (rd_na (by decide)).trans ((rd_na (by decide)).trans ((rd_nk (by omega)).trans (rd_na (by decide))))
    · exact (rd_na (by decide)).trans ((rd_nk (by omega)).trans ((rd_na (by decide)).trans (rd_na (by decide))))
theorem c112 (d : Nat) {x : lne} {a dp : Nat} {ps : List (prt × Nat)} {ls : List Nat} {os : List opn} (h : rR M x a dp ps ls os) (h2 : os.length ≤ 32) (hb : ∀ o ∈ os, o.1 < 100) {kd : Nat} (hk : kd < 100) : ab_S (pg_G L xs) (d + 1) 112 [.ref 572, zi (kd : Nat)] (hp M ++ es) (some (zi (bz (isO os kd)))) (hp M ++ es) := by
  cases os with
  | nil =>
    have h27 : M.1 572 27 = 0 := h.2.2.2.2.2.2.2.1
    show ab_W (pg_G L xs) (ab_X (pg_G L xs) d) 112 _ 0 [some (.ref 572), some (zi ((kd : Nat) : Int))] [] (hp M ++ es)
    refine x_ld 0 1 2 1 rfl rfl rfl rfl rfl ?_
    refine g_572_27 174 4 rfl rfl h27 rfl ?_
    refine z_ifle 26 7 rfl rfl rfl (rg_lit 0 rfl) (fun _ => ?_) (fun c => absurd c (by decide))
    refine x_cst (zi 0) 1 27 rfl rfl rfl ?_
    refine x_ret rfl rfl rfl rfl ?_
    exact ⟨rfl, rfl⟩
  | cons o os =>
    have h27 : M.1 572 27 = ((os.length + 1 : Nat) : Int) := h.2.2.2.2.2.2.2.1
    have hob := hb o (List.mem_cons_self ..)
    rw [List.length_cons] at h2
    show ab_W (pg_G L xs) (ab_X (pg_G L xs) d) 112 _ 0 [some (.ref 572), some (zi ((kd : Nat) : Int))] [] (hp M ++ es)
    refine x_ld 0 1 2 1 rfl rfl rfl rfl rfl ?_
    refine g_572_27 174 4 rfl rfl h27 rfl ?_
    refine z_ifle 26 7 rfl rfl rfl ⟨by omega, by omega⟩ (fun c => absurd c (by omega)) (fun _ => ?_)
    refine x_ld 0 1 2 8 rfl rfl rfl rfl rfl ?_
    refine g_572_24 65 11 rfl rfl rfl ?_
    refine x_ld 0 1 2 12 rfl rfl rfl rfl rfl ?_
    refine g_572_27 174 15 rfl rfl h27 rfl ?_
    refine x_cst (zi 1) 1 16 rfl rfl rfl ?_
    refine z_sub 17 rfl rfl ?_
    rw [show ((os.length + 1 : Nat) : Int) - 1 = ((os.length : Nat) : Int) from (by omega)]
    refine z_ild ((o.1 : Nat) : Int) 18 rfl i_591 rfl ⟨by omega, by omega⟩ h.2.2.2.2.2.2.2.2.1 rfl ?_
    refine x_ld 1 1 0 19 rfl rfl rfl rfl rfl ?_
    refine z_icne 26 22 rfl rfl rfl ⟨by omega, by omega⟩ ⟨by omega, by omega⟩ (fun c19 => ?_) (fun c19 => ?_)
    · refine x_cst (zi 0) 1 27 rfl rfl rfl ?_
      refine x_ret rfl rfl rfl rfl ?_
      rw [show isO (o :: os) kd = false by show (o.1 == kd) = _; simp; omega]; exact ⟨rfl, rfl⟩
    · refine x_cst (zi 1) 1 23 rfl rfl rfl ?_
      refine x_go 27 rfl rfl ?_
      refine x_ret rfl rfl rfl rfl ?_
      rw [show isO (o :: os) kd = true by show (o.1 == kd) = _; simp; omega]; exact ⟨rfl, rfl⟩
theorem c114t (d : Nat) {x : lne} {a dp p q kd pl w : Nat} {ps : List (prt × Nat)} {ls : List Nat} {os : List opn} (h : rR M x a dp ps (q :: p :: ls) ((kd, pl, w) :: os)) (h1 : ps.length < 32) (h3 : ls.length < 31) (h2 : os.length < 32) (hb : ∀ o ∈ ((kd, pl, w) :: os : List opn), o.1 < 100) {K : Nat} (eK : ((kd : Nat) : Int) = mKd K 0) (hK : K = 4 ∨ K = 5 ∨ K = 6) : ab_Z (pg_G L xs) (d + 2) 114 [.ref 572, zi (kd : Nat)] M es (fun v M' => v = none ∧ Fpr M M' ∧ rR M' x a dp (ps ++ [((K, p, q, 0), pl)]) (ps.length :: ls) os) := by
  have hkd : kd < 100 := hb _ (List.mem_cons_self ..)
  have h27 : M.1 572 27 = ((os.length + 1 : Nat) : Int) := h.2.2.2.2.2.2.2.1
  have r1 := rR_os h (y := ((os.length : Nat) : Int)) rfl
  have r2 := rR_ls r1 (y := (((p :: ls).length : Nat) : Int)) rfl
  have r3 := rR_ls r2 (y := ((ls.length : Nat) : Int)) rfl
  show ab_W (pg_G L xs) (ab_X (pg_G L xs) (d + 1)) 114 _ 0 [some (.ref 572), some (zi ((kd : Nat) : Int)), none, none] [] (hp M ++ es)
  refine x_ld 0 1 2 1 rfl rfl rfl rfl rfl ?_
  refine x_ld 1 1 0 2 rfl rfl rfl rfl rfl ?_
  refine x_cv 177 112 5 [.ref 572, zi ((kd : Nat) : Int)] rfl rfl rfl (Nat.le_of_ble_eq_true rfl) rfl rfl (Nat.le_of_ble_eq_true rfl) ⟨_, _, _, rfl, o_572⟩ (Nat.le_of_ble_eq_true rfl) (by have t := c112 (L := L) (xs := xs) (es := es) d h (by rw [List.length_cons]; omega) hb hkd; rw [show isO ((kd, pl, w) :: os) kd = true by show (kd == kd) = true; simp] at t; exact t) rfl ?_
  refine z_ifeq 45 8 rfl rfl rfl (rg_lit 1 rfl) (fun c => absurd c (by decide)) (fun _ => ?_)
  refine x_ld 0 1 2 9 rfl rfl rfl rfl rfl ?_
  refine x_dup 10 rfl rfl rfl ?_
  refine g_572_27 174 13 rfl rfl h27 rfl ?_
  refine x_cst (zi 1) 1 14 rfl rfl rfl ?_
  refine z_sub 15 rfl rfl ?_
  rw [show ((os.length + 1 : Nat) : Int) - 1 = ((os.length : Nat) : Int) from (by omega)]
  refine s_572_27 174 18 rfl rfl rfl rfl rfl rfl ?_
  refine x_ld 0 1 2 19 rfl rfl rfl rfl rfl ?_
  refine x_cv 181 113 22 [.ref 572] rfl rfl rfl (Nat.le_of_ble_eq_true rfl) rfl rfl (Nat.le_of_ble_eq_true rfl) ⟨_, _, _, rfl, o_572⟩ (Nat.le_of_ble_eq_true rfl) (c113 d r1 (by rw [List.length_cons]; omega)) rfl ?_
  refine x_st 2 1 0 23 [some (.ref 572), some (zi ((kd : Nat) : Int)), some (zi ((q : Nat) : Int)), none] rfl rfl rfl (Nat.le_of_ble_eq_true rfl) rfl rfl ?_
  refine x_ld 0 1 2 24 rfl rfl rfl rfl rfl ?_
  refine x_cv 181 113 27 [.ref 572] rfl rfl rfl (Nat.le_of_ble_eq_true rfl) rfl rfl (Nat.le_of_ble_eq_true rfl) ⟨_, _, _, rfl, o_572⟩ (Nat.le_of_ble_eq_true rfl) (c113 d r2 (by omega)) rfl ?_
  refine x_st 3 1 0 28 [some (.ref 572), some (zi ((kd : Nat) : Int)), some (zi ((q : Nat) : Int)), some (zi ((p : Nat) : Int))] rfl rfl rfl (Nat.le_of_ble_eq_true rfl) rfl rfl ?_
  refine x_ld 0 1 2 29 rfl rfl rfl rfl rfl ?_
  refine x_ld 1 1 0 30 rfl rfl rfl rfl rfl ?_
  refine x_ld 3 1 0 31 rfl rfl rfl rfl rfl ?_
  refine x_ld 2 1 0 32 rfl rfl rfl rfl rfl ?_
  refine x_cst (zi 0) 1 33 rfl rfl rfl ?_
  refine x_ld 0 1 2 34 rfl rfl rfl rfl rfl ?_
  refine g_572_25 68 37 rfl rfl rfl ?_
  refine x_ld 0 1 2 38 rfl rfl rfl rfl rfl ?_
  refine g_572_27 174 41 rfl rfl ((rd_nk (Ne.symm (by decide))).trans ((rd_nk (Ne.symm (by decide))).trans rd_eq)) rfl ?_
  refine z_ild ((pl : Nat) : Int) 42 rfl i_592 rfl ⟨by omega, by omega⟩ ((rd_na (by decide)).trans ((rd_na (by decide)).trans ((rd_na (by decide)).trans h.2.2.2.2.2.2.2.2.2.1))) rfl ?_
  refine x_ce 185 110 45 [.ref 572, zi ((kd : Nat) : Int), zi ((p : Nat) : Int), zi ((q : Nat) : Int), zi 0, zi ((pl : Nat) : Int)] rfl rfl rfl (Nat.le_of_ble_eq_true rfl) rfl rfl (Nat.le_of_ble_eq_true rfl) ⟨_, _, _, rfl, o_572⟩ (Nat.le_of_ble_eq_true rfl) (c110 (lt := 0) d r3 h1 (by omega) (y := ((K, p, q, 0), pl)) eK (by show _ = mLf K p; unfold mLf; rw [if_pos (by omega)]) (by show _ = mRt K q; unfold mRt; rw [if_pos hK]) (fun e => absurd e (by show ¬ K < 3; omega)) rfl) rfl ?_
  rintro v M2 ⟨rfl, hF2, hR2⟩
  refine x_rtv rfl rfl ?_
  exact ⟨none, _, rfl, rfl, rfl, Fpr_trans (Fpr_trans (Fpr_trans (Fpr_f (by omega)) (Fpr_f (by omega))) (Fpr_f (by omega))) hF2, hR2⟩
theorem c114f (d : Nat) {x : lne} {a dp : Nat} {ps : List (prt × Nat)} {ls : List Nat} {os : List opn} (h : rR M x a dp ps ls os) (h2 : os.length ≤ 32) (hb : ∀ o ∈ os, o.1 < 100) {kd : Nat} (hkd : kd < 100) (ho : isO os kd = false) : ab_S (pg_G L xs) (d + 2) 114 [.ref 572, zi (kd : Nat)] (hp M ++ es) none (hp M ++ es) := by
  show ab_W (pg_G L xs) (ab_X (pg_G L xs) (d + 1)) 114 _ 0 [some (.ref 572), some (zi ((kd : Nat) : Int)), none, none] [] (hp M ++ es)
  refine x_ld 0 1 2 1 rfl rfl rfl rfl rfl ?_
  refine x_ld 1 1 0 2 rfl rfl rfl rfl rfl ?_
  refine x_cv 177 112 5 [.ref 572, zi ((kd : Nat) : Int)] rfl rfl rfl (Nat.le_of_ble_eq_true rfl) rfl rfl (Nat.le_of_ble_eq_true rfl) ⟨_, _, _, rfl, o_572⟩ (Nat.le_of_ble_eq_true rfl) (by have t := c112 (L := L) (xs := xs) (es := es) d h h2 hb hkd; rw [ho] at t; exact t) rfl ?_
  refine z_ifeq 45 8 rfl rfl rfl (rg_lit 0 rfl) (fun _ => ?_) (fun c => absurd c (by decide))
  refine x_rtv rfl rfl ?_
  exact ⟨rfl, rfl⟩
end C40
