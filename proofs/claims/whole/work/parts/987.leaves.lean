/-! OURS, printed by wip/tools/gen987.py: the class's parser: its leaves. -/
theorem inv_Rch {x : lne} {s t : pst} (h : Rch x s t) (hi : inv x s) : inv x t := by
  obtain ⟨k, e⟩ := h
  induction k generalizing s with
  | zero => have : s = t := e
            subst this; exact hi
  | succ k ih => exact ih (inv_step hi) e
def s0 : pst := (0, 0, [], [], [])
theorem inv_s0 (x : lne) : inv x s0 := ⟨Nat.zero_le _, Nat.le_refl _, fun _ => ⟨rfl, Nat.le_refl _⟩, fun e => absurd e (by decide), fun e => absurd e (by decide), fun p hp => (List.not_mem_nil hp).elim, fun k hk => absurd hk (Nat.not_lt_zero k), Nat.le_refl _, fun e => absurd e (by decide)⟩
theorem dpt_le (os : List opn) : dpt os ≤ os.length := by
  induction os with
  | nil => exact Nat.le_refl _
  | cons o os ih => show dpt os + (if o.1 = 10 then 1 else 0) ≤ os.length + 1; split <;> omega
/-- a line and parts as the class holds them -/
def cR (b : Nat) (M : mm) (x : lne) (a : Nat) (ps : List (prt × Nat)) : Prop := isG b ∧ x.1 ≤ 16 ∧ M.1 b 1 = (x.1 : Int) ∧ (∀ i : Nat, i < x.1 → M.1 (b + 1) (i : Int) = ((x.2 i : Nat) : Int) ∧ x.2 i < 127) ∧ M.1 b 2 = (a : Int) ∧ M.1 b 4 = (ps.length : Int) ∧ mPs b M (psf ps) ps.length ∧ ∀ k, k < ps.length → 4 ≤ (psf ps k).1 → M.1 (b + 3 + 9 * k) 1 = (((ps[k]!).2 : Nat) : Int)
/-- what reading may change -/
def Frd (b : Nat) (M M' : mm) : Prop := (∀ q, q ≠ b → (∀ k, k < 31 → q ≠ b + 3 + 9 * k) → M'.1 q = M.1 q ∧ M'.2.2 q = M.2.2 q) ∧ (∀ j, j ≠ 2 → j ≠ 4 → M'.1 b j = M.1 b j) ∧ M'.2.2 b = M.2.2 b ∧ M'.2.1 = M.2.1
theorem Frd_refl (b : Nat) (M : mm) : Frd b M M := ⟨fun _ _ _ => ⟨rfl, rfl⟩, fun _ _ _ => rfl, rfl, rfl⟩
theorem Frd_trans {b : Nat} {M M' M'' : mm} (h : Frd b M M') (g : Frd b M' M'') : Frd b M M'' := ⟨fun q h1 h2 => ⟨(g.1 q h1 h2).1.trans (h.1 q h1 h2).1, (g.1 q h1 h2).2.trans (h.1 q h1 h2).2⟩, fun j h1 h2 => (g.2.1 j h1 h2).trans (h.2.1 j h1 h2), g.2.2.1.trans h.2.2.1, g.2.2.2.trans h.2.2.2⟩
theorem Frd_at {b : Nat} (hG : isG b) {M : mm} {j x : Int} (hj : j = 2 ∨ j = 4) : Frd b M (sI M b j x) := ⟨fun q h1 _ => ⟨sI_ne h1, rfl⟩, fun i h1 h2 => rd_nk (by omega), rfl, rfl⟩
theorem cR_at {b : Nat} {M : mm} {x : lne} {a a' : Nat} {ps : List (prt × Nat)} (h : cR b M x a ps) {y : Int} (hy : y = (a' : Int)) : cR b (sI M b 2 y) x a' ps := by
  have hg := isG_lt h.1
  refine ⟨h.1, h.2.1, (rd_nk (by decide)).trans h.2.2.1, fun i hi => ?_, rd_eq.trans hy, (rd_nk (by decide)).trans h.2.2.2.2.2.1, fun k hk => ?_, fun k hk h4 => ?_⟩
  · rw [sI_ne (by omega)]; exact h.2.2.2.1 i hi
  · rw [sI_ne (by omega)]; exact h.2.2.2.2.2.2.1 k hk
  · rw [sI_ne (by omega)]; exact h.2.2.2.2.2.2.2 k hk h4
theorem cR_new {b : Nat} {M M' : mm} {x : lne} {a a' : Nat} {ps : List (prt × Nat)} (h : cR b M x a ps) (hn : ps.length < 31) (hF : Frd b M M') (h2 : M'.1 b 2 = (a' : Int)) (h4 : M'.1 b 4 = ((ps.length + 1 : Nat) : Int)) (hp : ∀ k, k < ps.length → M'.1 (b + 3 + 9 * k) = M.1 (b + 3 + 9 * k) ∧ M'.2.2 (b + 3 + 9 * k) = M.2.2 (b + 3 + 9 * k)) {y : prt × Nat} (hy : M'.1 (b + 3 + 9 * ps.length) 0 = ((y.1.1 : Nat) : Int) ∧ (y.1.1 < 3 → M'.1 (b + 3 + 9 * ps.length) 2 = ((y.1.2.2.2 : Nat) : Int)) ∧ (3 ≤ y.1.1 → M'.2.2 (b + 3 + 9 * ps.length) 3 = b + 3 + 9 * y.1.2.1 ∧ M'.2.2 (b + 3 + 9 * ps.length) 4 = b + 3 + 9 * y.1.2.2.1) ∧ (4 ≤ y.1.1 → M'.1 (b + 3 + 9 * ps.length) 1 = ((y.2 : Nat) : Int))) : cR b M' x a' (ps ++ [y]) := by
  have hg := isG_lt h.1
  refine ⟨h.1, h.2.1, (hF.2.1 1 (by decide) (by decide)).trans h.2.2.1, fun i hi => ?_, h2, by rw [h4, List.length_append]; rfl, fun k hk => ?_, fun k hk hk4 => ?_⟩
  · rw [(hF.1 (b + 1) (by omega) (fun k hk => by omega)).1]; exact h.2.2.2.1 i hi
  · rw [List.length_append, List.length_singleton] at hk
    rcases Nat.eq_or_lt_of_le (Nat.le_of_lt_succ hk) with e | e
    · subst e; rw [psf_at]; exact ⟨hy.1, hy.2.1, hy.2.2.1⟩
    · rw [psf_lt e, (hp k e).1, (hp k e).2]; exact h.2.2.2.2.2.2.1 k e
  · rw [List.length_append, List.length_singleton] at hk
    rcases Nat.eq_or_lt_of_le (Nat.le_of_lt_succ hk) with e | e
    · subst e; rw [snoc_at]; rw [psf_at] at hk4; exact hy.2.2.2 hk4
    · rw [snoc_lt e, (hp k e).1]; rw [psf_lt e] at hk4; exact h.2.2.2.2.2.2.2 k e hk4
theorem lk_lt {b : Nat} {M : mm} {x : lne} {a : Nat} {ps : List (prt × Nat)} (h : cR b M x a ps) (i : Nat) : lk x i < 127 := by
  unfold lk
  split
  · exact (h.2.2.2.1 i (by assumption)).2
  · decide
theorem zi_toInt {z : Int} (h : rg z) : (Int32.ofInt z).toInt = z := i32_toInt h.1 h.2
theorem nar_t : ∀ n : Fin 127, narrow .char (zi ((n.1 : Nat) : Int)) = zi ((n.1 : Nat) : Int) := by decide
theorem nar_c {c : Nat} (h : c < 127) : narrow .char (zi ((c : Nat) : Int)) = zi ((c : Nat) : Int) := nar_t ⟨c, h⟩
section C30
variable {L : Nat} {xs : Nat → Int32} {M : mm} {es : ab_H}
theorem c13 (d : Nat) {b : Nat} {x : lne} {a : Nat} {ps : List (prt × Nat)} (h : cR b M x a ps) (ha : a ≤ 20) : ab_S (pg_G L xs) (d + 1) 13 [.ref b] (hp M ++ es) (some (zi (lk x a : Nat))) (hp M ++ es) := by
  have h16 := h.2.1
  show ab_W (pg_G L xs) (ab_X (pg_G L xs) d) 13 _ 0 [some (.ref b)] [] (hp M ++ es)
  refine x_ld 0 1 2 1 rfl rfl rfl rfl rfl ?_
  refine g_G_2 h.1 19 4 rfl rfl h.2.2.2.2.1 rfl ?_
  refine x_ld 0 1 2 5 rfl rfl rfl rfl rfl ?_
  refine g_G_1 h.1 15 8 rfl rfl h.2.2.1 rfl ?_
  refine z_icge 23 11 rfl rfl rfl ⟨by omega, by omega⟩ ⟨by omega, by omega⟩ (fun c8 => ?_) (fun c8 => ?_)
  · refine x_cst (zi 0) 1 24 rfl rfl rfl ?_
    refine x_ret rfl rfl rfl rfl ?_
    unfold lk; rw [if_neg (by omega)]; exact ⟨rfl, rfl⟩
  · refine x_ld 0 1 2 12 rfl rfl rfl rfl rfl ?_
    refine g_G_0 h.1 9 15 rfl rfl rfl ?_
    refine x_ld 0 1 2 16 rfl rfl rfl rfl rfl ?_
    refine g_G_2 h.1 19 19 rfl rfl h.2.2.2.2.1 rfl ?_
    refine z_cld ((x.2 a : Nat) : Int) 20 rfl (iG1 h.1) rfl ⟨by omega, by omega⟩ (h.2.2.2.1 a (by omega)).1 rfl ?_
    refine x_go 24 rfl rfl ?_
    refine x_ret rfl rfl rfl (nar_c (c := x.2 a) (h.2.2.2.1 a (by omega)).2) ?_
    unfold lk; rw [if_pos (by omega)]; exact ⟨rfl, rfl⟩
theorem c18 (d : Nat) {c : Nat} (hc : c < 65536) {h : ab_H} : ab_S (pg_G L xs) (d + 1) 18 [zi (c : Nat)] h (some (zi (bz (ltc c)))) h := by
  show ab_W (pg_G L xs) (ab_X (pg_G L xs) d) 18 _ 0 [some (zi ((c : Nat) : Int))] [] h
  refine x_ld 0 1 0 1 rfl rfl rfl rfl rfl ?_
  refine x_cst (zi 97) 2 3 rfl rfl rfl ?_
  refine z_iclt 16 6 rfl rfl rfl ⟨by omega, by omega⟩ (rg_lit 97 rfl) (fun c3 => ?_) (fun c3 => ?_)
  · refine x_cst (zi 0) 1 17 rfl rfl rfl ?_
    refine x_ret rfl rfl rfl rfl ?_
    rw [show ltc c = false by unfold ltc; simp; omega]; exact ⟨rfl, rfl⟩
  · refine x_ld 0 1 0 7 rfl rfl rfl rfl rfl ?_
    refine x_cst (zi 99) 2 9 rfl rfl rfl ?_
    refine z_icgt 16 12 rfl rfl rfl ⟨by omega, by omega⟩ (rg_lit 99 rfl) (fun c9 => ?_) (fun c9 => ?_)
    · refine x_cst (zi 0) 1 17 rfl rfl rfl ?_
      refine x_ret rfl rfl rfl rfl ?_
      rw [show ltc c = false by unfold ltc; simp; omega]; exact ⟨rfl, rfl⟩
    · refine x_cst (zi 1) 1 13 rfl rfl rfl ?_
      refine x_go 17 rfl rfl ?_
      refine x_ret rfl rfl rfl rfl ?_
      rw [show ltc c = true by unfold ltc; simp; omega]; exact ⟨rfl, rfl⟩
theorem c20 (d : Nat) {c : Nat} (hc : c < 65536) {h : ab_H} : ab_S (pg_G L xs) (d + 2) 20 [zi (c : Nat)] h (some (zi (bz (sat c)))) h := by
  show ab_W (pg_G L xs) (ab_X (pg_G L xs) (d + 1)) 20 _ 0 [some (zi ((c : Nat) : Int))] [] h
  refine x_ld 0 1 0 1 rfl rfl rfl rfl rfl ?_
  refine x_cv 84 18 4 [zi ((c : Nat) : Int)] rfl rfl rfl (Nat.le_of_ble_eq_true rfl) rfl rfl (Nat.le_of_ble_eq_true rfl) trivial (Nat.le_of_ble_eq_true rfl) (c18 d hc) rfl ?_
  rcases Bool.eq_false_or_eq_true (ltc c) with hl | hl
  · rw [hl]
    refine z_ifne 43 7 rfl rfl rfl (rg_lit 1 rfl) (fun _ => ?_) (fun c => absurd c (by decide))
    refine x_cst (zi 1) 1 44 rfl rfl rfl ?_
    refine x_go 48 rfl rfl ?_
    refine x_ret rfl rfl rfl rfl ?_
    rw [show sat c = true by unfold sat; rw [hl]; simp; try omega]; exact ⟨rfl, rfl⟩
  · rw [hl]
    refine z_ifne 43 7 rfl rfl rfl (rg_lit 0 rfl) (fun c => absurd c (by decide)) (fun _ => ?_)
    refine x_ld 0 1 0 8 rfl rfl rfl rfl rfl ?_
    refine x_cst (zi 46) 2 10 rfl rfl rfl ?_
    refine z_iceq 43 13 rfl rfl rfl ⟨by omega, by omega⟩ (rg_lit 46 rfl) (fun c10 => ?_) (fun c10 => ?_)
    · refine x_cst (zi 1) 1 44 rfl rfl rfl ?_
      refine x_go 48 rfl rfl ?_
      refine x_ret rfl rfl rfl rfl ?_
      rw [show sat c = true by unfold sat; rw [hl]; simp; try omega]; exact ⟨rfl, rfl⟩
    · refine x_ld 0 1 0 14 rfl rfl rfl rfl rfl ?_
      refine x_cst (zi 45) 2 16 rfl rfl rfl ?_
      refine z_iceq 43 19 rfl rfl rfl ⟨by omega, by omega⟩ (rg_lit 45 rfl) (fun c16 => ?_) (fun c16 => ?_)
      · refine x_cst (zi 1) 1 44 rfl rfl rfl ?_
        refine x_go 48 rfl rfl ?_
        refine x_ret rfl rfl rfl rfl ?_
        rw [show sat c = true by unfold sat; rw [hl]; simp; try omega]; exact ⟨rfl, rfl⟩
      · refine x_ld 0 1 0 20 rfl rfl rfl rfl rfl ?_
        refine x_cst (zi 43) 2 22 rfl rfl rfl ?_
        refine z_iceq 43 25 rfl rfl rfl ⟨by omega, by omega⟩ (rg_lit 43 rfl) (fun c22 => ?_) (fun c22 => ?_)
        · refine x_cst (zi 1) 1 44 rfl rfl rfl ?_
          refine x_go 48 rfl rfl ?_
          refine x_ret rfl rfl rfl rfl ?_
          rw [show sat c = true by unfold sat; rw [hl]; simp; try omega]; exact ⟨rfl, rfl⟩
        · refine x_ld 0 1 0 26 rfl rfl rfl rfl rfl ?_
          refine x_cst (zi 94) 2 28 rfl rfl rfl ?_
          refine z_iceq 43 31 rfl rfl rfl ⟨by omega, by omega⟩ (rg_lit 94 rfl) (fun c28 => ?_) (fun c28 => ?_)
          · refine x_cst (zi 1) 1 44 rfl rfl rfl ?_
            refine x_go 48 rfl rfl ?_
            refine x_ret rfl rfl rfl rfl ?_
            rw [show sat c = true by unfold sat; rw [hl]; simp; try omega]; exact ⟨rfl, rfl⟩
          · refine x_ld 0 1 0 32 rfl rfl rfl rfl rfl ?_
            refine x_cst (zi 61) 2 34 rfl rfl rfl ?_
            refine z_iceq 43 37 rfl rfl rfl ⟨by omega, by omega⟩ (rg_lit 61 rfl) (fun c34 => ?_) (fun c34 => ?_)
            · refine x_cst (zi 1) 1 44 rfl rfl rfl ?_
              refine x_go 48 rfl rfl ?_
              refine x_ret rfl rfl rfl rfl ?_
              rw [show sat c = true by unfold sat; rw [hl]; simp; try omega]; exact ⟨rfl, rfl⟩
            · refine x_ld 0 1 0 38 rfl rfl rfl rfl rfl ?_
              refine x_cst (zi 40) 2 40 rfl rfl rfl ?_
              refine z_icne 47 43 rfl rfl rfl ⟨by omega, by omega⟩ (rg_lit 40 rfl) (fun c40 => ?_) (fun c40 => ?_)
              · refine x_cst (zi 0) 1 48 rfl rfl rfl ?_
                refine x_ret rfl rfl rfl rfl ?_
                rw [show sat c = false by unfold sat; rw [hl]; simp; omega]; exact ⟨rfl, rfl⟩
              · refine x_cst (zi 1) 1 44 rfl rfl rfl ?_
                refine x_go 48 rfl rfl ?_
                refine x_ret rfl rfl rfl rfl ?_
                rw [show sat c = true by unfold sat; rw [hl]; simp; try omega]; exact ⟨rfl, rfl⟩
theorem c16 (d : Nat) {b n : Nat} (hG : isG b) (hn : n < 31) (h4 : M.1 b 4 = (n : Int)) : ab_S (pg_G L xs) (d + 1) 16 [.ref b] (hp M ++ es) (some (.ref (b + 3 + 9 * n))) (hp (sI M b 4 ((n + 1 : Nat) : Int)) ++ es) := by
  show ab_W (pg_G L xs) (ab_X (pg_G L xs) d) 16 _ 0 [some (.ref b)] [] (hp M ++ es)
  refine x_ld 0 1 2 1 rfl rfl rfl rfl rfl ?_
  refine g_G_4 hG 28 4 rfl rfl h4 rfl ?_
  refine x_cst (zi 31) 2 6 rfl rfl rfl ?_
  refine z_iclt 11 9 rfl rfl rfl ⟨by omega, by omega⟩ (rg_lit 31 rfl) (fun _ => ?_) (fun c => absurd c (by omega))
  refine x_ld 0 1 2 12 rfl rfl rfl rfl rfl ?_
  refine x_dup 13 rfl rfl rfl ?_
  refine g_G_4 hG 28 16 rfl rfl h4 rfl ?_
  refine x_cst (zi 1) 1 17 rfl rfl rfl ?_
  refine z_add 18 rfl rfl ?_
  rw [show ((n : Nat) : Int) + 1 = ((n + 1 : Nat) : Int) from (by omega)]
  refine s_G_4 hG 28 21 rfl rfl rfl rfl rfl rfl ?_
  refine x_ld 0 1 2 22 rfl rfl rfl rfl rfl ?_
  refine g_G_3 hG 24 25 rfl rfl rfl ?_
  refine x_ld 0 1 2 26 rfl rfl rfl rfl rfl ?_
  refine g_G_4 hG 28 29 rfl rfl rd_eq rfl ?_
  refine x_cst (zi 1) 1 30 rfl rfl rfl ?_
  refine z_sub 31 rfl rfl ?_
  refine z_ald hG n 32 rfl (by omega) hn rfl ?_
  refine x_ret rfl rfl rfl rfl ?_
  exact ⟨rfl, rfl⟩
theorem cA6 (d : Nat) {p : Nat} (h : isP p) {K T : Int} : ab_S (pg_G L xs) (d + 1) 6 [.ref p, zi K, zi T] (hp M ++ es) none (hp (sR (sR (sI (sI M p 0 K) p 2 T) p 3 p) p 4 p) ++ es) := by
  show ab_W (pg_G L xs) (ab_X (pg_G L xs) d) 6 _ 0 [some (.ref p), some (zi K), some (zi T)] [] (hp M ++ es)
  refine x_ld 0 1 2 1 rfl rfl rfl rfl rfl ?_
  refine x_ld 1 1 0 2 rfl rfl rfl rfl rfl ?_
  refine s_P_0 h 9 5 rfl rfl rfl rfl rfl rfl ?_
  refine x_ld 0 1 2 6 rfl rfl rfl rfl rfl ?_
  refine x_ld 2 1 0 7 rfl rfl rfl rfl rfl ?_
  refine s_P_2 h 18 10 rfl rfl rfl rfl rfl rfl ?_
  refine x_ld 0 1 2 11 rfl rfl rfl rfl rfl ?_
  refine x_ld 0 1 2 12 rfl rfl rfl rfl rfl ?_
  refine s_P_3 h 53 15 rfl rfl rfl rfl rfl rfl ?_
  refine x_ld 0 1 2 16 rfl rfl rfl rfl rfl ?_
  refine x_ld 0 1 2 17 rfl rfl rfl rfl rfl ?_
  refine s_P_4 h 57 20 rfl rfl rfl rfl rfl rfl ?_
  refine x_rtv rfl rfl ?_
  exact ⟨rfl, rfl⟩
theorem c17 (d : Nat) {p f s : Nat} (h : isP p) {K T : Int} : ab_S (pg_G L xs) (d + 1) 17 [.ref p, zi K, .ref f, .ref s, zi T] (hp M ++ es) none (hp (sI (sR (sR (sI M p 0 K) p 3 f) p 4 s) p 1 T) ++ es) := by
  show ab_W (pg_G L xs) (ab_X (pg_G L xs) d) 17 _ 0 [some (.ref p), some (zi K), some (.ref f), some (.ref s), some (zi T)] [] (hp M ++ es)
  refine x_ld 0 1 2 1 rfl rfl rfl rfl rfl ?_
  refine x_ld 1 1 0 2 rfl rfl rfl rfl rfl ?_
  refine s_P_0 h 9 5 rfl rfl rfl rfl rfl rfl ?_
  refine x_ld 0 1 2 6 rfl rfl rfl rfl rfl ?_
  refine x_ld 2 1 2 7 rfl rfl rfl rfl rfl ?_
  refine s_P_3 h 53 10 rfl rfl rfl rfl rfl rfl ?_
  refine x_ld 0 1 2 11 rfl rfl rfl rfl rfl ?_
  refine x_ld 3 1 2 12 rfl rfl rfl rfl rfl ?_
  refine s_P_4 h 57 15 rfl rfl rfl rfl rfl rfl ?_
  refine x_ld 0 1 2 16 rfl rfl rfl rfl rfl ?_
  refine x_ld 4 2 0 18 rfl rfl rfl rfl rfl ?_
  refine s_P_1 h 15 21 rfl rfl rfl rfl rfl rfl ?_
  refine x_rtv rfl rfl ?_
  exact ⟨rfl, rfl⟩
theorem c19 (d : Nat) {b : Nat} {x : lne} {a : Nat} {ps : List (prt × Nat)} (h : cR b M x a ps) (ha : a < x.1) (hn : ps.length < 31) {K pl : Nat} (hK : K < 3) (hc : (ltc (lk x a) || lk x a == 46) = true) : ab_Z (pg_G L xs) (d + 2) 19 [.ref b, zi (K : Nat)] M es (fun v M' => v = some (.ref (b + 3 + 9 * ps.length)) ∧ Frd b M M' ∧ cR b M' x (a + 1) (ps ++ [((K, 0, 0, tOf (lk x a)), pl)])) := by
  have h16 := h.2.1
  have hg := isG_lt h.1
  have hlk := lk_lt h a
  have hP := isP_A h.1 hn
  have hne : b + 3 + 9 * ps.length ≠ b := by omega
  show ab_W (pg_G L xs) (ab_X (pg_G L xs) (d + 1)) 19 _ 0 [some (.ref b), some (zi ((K : Nat) : Int)), none, none] [] (hp M ++ es)
  refine x_ld 0 1 2 1 rfl rfl rfl rfl rfl ?_
  refine x_cv 63 13 4 [.ref b] rfl rfl rfl (Nat.le_of_ble_eq_true rfl) rfl rfl (Nat.le_of_ble_eq_true rfl) ⟨_, _, _, rfl, oG h.1⟩ (Nat.le_of_ble_eq_true rfl) (c13 d h (by omega)) rfl ?_
  refine x_cst (zi 46) 2 6 rfl rfl rfl ?_
  refine z_icne 13 9 rfl rfl rfl ⟨by omega, by omega⟩ (rg_lit 46 rfl) (fun c6 => ?_) (fun c6 => ?_)
  · refine x_ld 0 1 2 14 rfl rfl rfl rfl rfl ?_
    refine x_cv 63 13 17 [.ref b] rfl rfl rfl (Nat.le_of_ble_eq_true rfl) rfl rfl (Nat.le_of_ble_eq_true rfl) ⟨_, _, _, rfl, oG h.1⟩ (Nat.le_of_ble_eq_true rfl) (c13 d h (by omega)) rfl ?_
    refine x_cst (zi 97) 2 19 rfl rfl rfl ?_
    refine z_sub 20 rfl rfl ?_
    refine x_cst (zi 1) 1 21 rfl rfl rfl ?_
    refine z_add 22 rfl rfl ?_
    refine x_st 2 1 0 23 [some (.ref b), some (zi ((K : Nat) : Int)), some (zi ((((lk x a : Nat) : Int) - 97) + 1)), none] rfl rfl rfl (Nat.le_of_ble_eq_true rfl) rfl rfl ?_
    refine x_ld 0 1 2 24 rfl rfl rfl rfl rfl ?_
    refine x_dup 25 rfl rfl rfl ?_
    refine g_G_2 h.1 19 28 rfl rfl h.2.2.2.2.1 rfl ?_
    refine x_cst (zi 1) 1 29 rfl rfl rfl ?_
    refine z_add 30 rfl rfl ?_
    refine s_G_2 h.1 19 33 rfl rfl rfl rfl rfl rfl ?_
    refine x_ld 0 1 2 34 rfl rfl rfl rfl rfl ?_
    refine x_cv 90 16 37 [.ref b] rfl rfl rfl (Nat.le_of_ble_eq_true rfl) rfl rfl (Nat.le_of_ble_eq_true rfl) ⟨_, _, _, rfl, oG h.1⟩ (Nat.le_of_ble_eq_true rfl) (c16 d (M := (sI M b 2 (((a : Nat) : Int) + 1))) h.1 hn ((rd_nk (by decide)).trans h.2.2.2.2.2.1)) rfl ?_
    refine x_st 3 1 2 38 [some (.ref b), some (zi ((K : Nat) : Int)), some (zi ((((lk x a : Nat) : Int) - 97) + 1)), some (.ref (b + 3 + 9 * ps.length))] rfl rfl rfl (Nat.le_of_ble_eq_true rfl) rfl rfl ?_
    refine x_ld 3 1 2 39 rfl rfl rfl rfl rfl ?_
    refine x_nuF 48 42 rfl rfl rfl ?_
    refine x_ld 3 1 2 43 rfl rfl rfl rfl rfl ?_
    refine x_ld 1 1 0 44 rfl rfl rfl rfl rfl ?_
    refine x_ld 2 1 0 45 rfl rfl rfl rfl rfl ?_
    refine x_cv 32 6 48 [.ref (b + 3 + 9 * ps.length), zi ((K : Nat) : Int), zi ((((lk x a : Nat) : Int) - 97) + 1)] rfl rfl rfl (Nat.le_of_ble_eq_true rfl) rfl rfl (Nat.le_of_ble_eq_true rfl) ⟨_, _, _, rfl, oP hP⟩ (Nat.le_of_ble_eq_true rfl) (cA6 d hP) rfl ?_
    refine x_ld 3 1 2 49 rfl rfl rfl rfl rfl ?_
    refine x_ret rfl rfl rfl rfl ?_
    refine ⟨_, _, rfl, rfl, rfl, ?_, ?_⟩
    · refine ⟨fun q h1 h2 => ⟨?_, ?_⟩, fun j h1 h2 => ?_, ?_, rfl⟩
      · have := h2 ps.length hn; show (sI (sI (sI (sI M _ _ _) _ _ _) _ _ _) _ _ _).1 q = M.1 q; rw [sI_ne this, sI_ne this, sI_ne h1, sI_ne h1]
      · have := h2 ps.length hn; rw [sR_ne this, sR_ne this]; rfl
      · show (sI (sI (sI (sI M _ _ _) _ _ _) _ _ _) _ _ _).1 b j = M.1 b j; exact (rd_na (Ne.symm hne)).trans ((rd_na (Ne.symm hne)).trans ((rd_nk h2).trans (rd_nk h1)))
      · rw [sR_ne (Ne.symm hne), sR_ne (Ne.symm hne)]; rfl
    · refine cR_new h hn ?_ ?_ ?_ (fun k hk => ⟨?_, ?_⟩) ⟨?_, fun _ => ?_, fun e => absurd e (by show ¬ 3 ≤ K; omega), fun e => absurd e (by show ¬ 4 ≤ K; omega)⟩
      · refine ⟨fun q h1 h2 => ⟨?_, ?_⟩, fun j h1 h2 => ?_, ?_, rfl⟩
        · have := h2 ps.length hn; show (sI (sI (sI (sI M _ _ _) _ _ _) _ _ _) _ _ _).1 q = M.1 q; rw [sI_ne this, sI_ne this, sI_ne h1, sI_ne h1]
        · have := h2 ps.length hn; rw [sR_ne this, sR_ne this]; rfl
        · show (sI (sI (sI (sI M _ _ _) _ _ _) _ _ _) _ _ _).1 b j = M.1 b j; exact (rd_na (Ne.symm hne)).trans ((rd_na (Ne.symm hne)).trans ((rd_nk h2).trans (rd_nk h1)))
        · rw [sR_ne (Ne.symm hne), sR_ne (Ne.symm hne)]; rfl
      · show (sI (sI (sI (sI M _ _ _) _ _ _) _ _ _) _ _ _).1 b 2 = _; exact (rd_na (Ne.symm hne)).trans ((rd_na (Ne.symm hne)).trans ((rd_nk (by decide)).trans (rd_eq.trans (by omega))))
      · show (sI (sI (sI (sI M _ _ _) _ _ _) _ _ _) _ _ _).1 b 4 = _; exact (rd_na (Ne.symm hne)).trans ((rd_na (Ne.symm hne)).trans rd_eq)
      · show (sI (sI (sI (sI M _ _ _) _ _ _) _ _ _) _ _ _).1 _ = _; rw [sI_ne (by omega), sI_ne (by omega), sI_ne (by omega), sI_ne (by omega)]
      · rw [sR_ne (by omega), sR_ne (by omega)]; rfl
      · show (sI (sI (sI (sI M _ _ _) _ _ _) _ _ _) _ _ _).1 _ 0 = _; exact (rd_nk (by decide)).trans rd_eq
      · show (sI (sI (sI (sI M _ _ _) _ _ _) _ _ _) _ _ _).1 _ 2 = _; refine rd_eq.trans ?_
        show _ = ((tOf (lk x a) : Nat) : Int)
        have hl2 : ltc (lk x a) = true := by revert hc; cases ltc (lk x a) <;> simp; omega
        unfold ltc at hl2; simp at hl2; unfold tOf; rw [if_neg (by omega)]; omega
  · refine x_cst (zi 0) 1 10 rfl rfl rfl ?_
    refine x_go 22 rfl rfl ?_
    refine x_st 2 1 0 23 [some (.ref b), some (zi ((K : Nat) : Int)), some (zi 0), none] rfl rfl rfl (Nat.le_of_ble_eq_true rfl) rfl rfl ?_
    refine x_ld 0 1 2 24 rfl rfl rfl rfl rfl ?_
    refine x_dup 25 rfl rfl rfl ?_
    refine g_G_2 h.1 19 28 rfl rfl h.2.2.2.2.1 rfl ?_
    refine x_cst (zi 1) 1 29 rfl rfl rfl ?_
    refine z_add 30 rfl rfl ?_
    refine s_G_2 h.1 19 33 rfl rfl rfl rfl rfl rfl ?_
    refine x_ld 0 1 2 34 rfl rfl rfl rfl rfl ?_
    refine x_cv 90 16 37 [.ref b] rfl rfl rfl (Nat.le_of_ble_eq_true rfl) rfl rfl (Nat.le_of_ble_eq_true rfl) ⟨_, _, _, rfl, oG h.1⟩ (Nat.le_of_ble_eq_true rfl) (c16 d (M := (sI M b 2 (((a : Nat) : Int) + 1))) h.1 hn ((rd_nk (by decide)).trans h.2.2.2.2.2.1)) rfl ?_
    refine x_st 3 1 2 38 [some (.ref b), some (zi ((K : Nat) : Int)), some (zi 0), some (.ref (b + 3 + 9 * ps.length))] rfl rfl rfl (Nat.le_of_ble_eq_true rfl) rfl rfl ?_
    refine x_ld 3 1 2 39 rfl rfl rfl rfl rfl ?_
    refine x_nuF 48 42 rfl rfl rfl ?_
    refine x_ld 3 1 2 43 rfl rfl rfl rfl rfl ?_
    refine x_ld 1 1 0 44 rfl rfl rfl rfl rfl ?_
    refine x_ld 2 1 0 45 rfl rfl rfl rfl rfl ?_
    refine x_cv 32 6 48 [.ref (b + 3 + 9 * ps.length), zi ((K : Nat) : Int), zi 0] rfl rfl rfl (Nat.le_of_ble_eq_true rfl) rfl rfl (Nat.le_of_ble_eq_true rfl) ⟨_, _, _, rfl, oP hP⟩ (Nat.le_of_ble_eq_true rfl) (cA6 d hP) rfl ?_
    refine x_ld 3 1 2 49 rfl rfl rfl rfl rfl ?_
    refine x_ret rfl rfl rfl rfl ?_
    refine ⟨_, _, rfl, rfl, rfl, ?_, ?_⟩
    · refine ⟨fun q h1 h2 => ⟨?_, ?_⟩, fun j h1 h2 => ?_, ?_, rfl⟩
      · have := h2 ps.length hn; show (sI (sI (sI (sI M _ _ _) _ _ _) _ _ _) _ _ _).1 q = M.1 q; rw [sI_ne this, sI_ne this, sI_ne h1, sI_ne h1]
      · have := h2 ps.length hn; rw [sR_ne this, sR_ne this]; rfl
      · show (sI (sI (sI (sI M _ _ _) _ _ _) _ _ _) _ _ _).1 b j = M.1 b j; exact (rd_na (Ne.symm hne)).trans ((rd_na (Ne.symm hne)).trans ((rd_nk h2).trans (rd_nk h1)))
      · rw [sR_ne (Ne.symm hne), sR_ne (Ne.symm hne)]; rfl
    · refine cR_new h hn ?_ ?_ ?_ (fun k hk => ⟨?_, ?_⟩) ⟨?_, fun _ => ?_, fun e => absurd e (by show ¬ 3 ≤ K; omega), fun e => absurd e (by show ¬ 4 ≤ K; omega)⟩
      · refine ⟨fun q h1 h2 => ⟨?_, ?_⟩, fun j h1 h2 => ?_, ?_, rfl⟩
        · have := h2 ps.length hn; show (sI (sI (sI (sI M _ _ _) _ _ _) _ _ _) _ _ _).1 q = M.1 q; rw [sI_ne this, sI_ne this, sI_ne h1, sI_ne h1]
        · have := h2 ps.length hn; rw [sR_ne this, sR_ne this]; rfl
        · show (sI (sI (sI (sI M _ _ _) _ _ _) _ _ _) _ _ _).1 b j = M.1 b j; exact (rd_na (Ne.symm hne)).trans ((rd_na (Ne.symm hne)).trans ((rd_nk h2).trans (rd_nk h1)))
        · rw [sR_ne (Ne.symm hne), sR_ne (Ne.symm hne)]; rfl
      · show (sI (sI (sI (sI M _ _ _) _ _ _) _ _ _) _ _ _).1 b 2 = _; exact (rd_na (Ne.symm hne)).trans ((rd_na (Ne.symm hne)).trans ((rd_nk (by decide)).trans (rd_eq.trans (by omega))))
      · show (sI (sI (sI (sI M _ _ _) _ _ _) _ _ _) _ _ _).1 b 4 = _; exact (rd_na (Ne.symm hne)).trans ((rd_na (Ne.symm hne)).trans rd_eq)
      · show (sI (sI (sI (sI M _ _ _) _ _ _) _ _ _) _ _ _).1 _ = _; rw [sI_ne (by omega), sI_ne (by omega), sI_ne (by omega), sI_ne (by omega)]
      · rw [sR_ne (by omega), sR_ne (by omega)]; rfl
      · show (sI (sI (sI (sI M _ _ _) _ _ _) _ _ _) _ _ _).1 _ 0 = _; exact (rd_nk (by decide)).trans rd_eq
      · show (sI (sI (sI (sI M _ _ _) _ _ _) _ _ _) _ _ _).1 _ 2 = _; refine rd_eq.trans ?_
        show _ = ((tOf (lk x a) : Nat) : Int); unfold tOf; rw [if_pos (by omega)]; rfl
theorem c15 (d : Nat) {b : Nat} {x : lne} {a : Nat} {ps : List (prt × Nat)} (h : cR b M x a ps) (hn : ps.length < 31) {K p q pl pl' : Nat} (hK : 3 ≤ K) (hpl : 4 ≤ K → pl = pl') : ab_Z (pg_G L xs) (d + 2) 15 [.ref b, zi (K : Nat), .ref (b + 3 + 9 * p), .ref (b + 3 + 9 * q), zi (pl : Nat)] M es (fun v M' => v = some (.ref (b + 3 + 9 * ps.length)) ∧ Frd b M M' ∧ cR b M' x a (ps ++ [((K, p, q, 0), pl')])) := by
  have hg := isG_lt h.1
  have hP := isP_A h.1 hn
  have hne : b + 3 + 9 * ps.length ≠ b := by omega
  show ab_W (pg_G L xs) (ab_X (pg_G L xs) (d + 1)) 15 _ 0 [some (.ref b), some (zi ((K : Nat) : Int)), some (.ref (b + 3 + 9 * p)), some (.ref (b + 3 + 9 * q)), some (zi ((pl : Nat) : Int)), none] [] (hp M ++ es)
  refine x_ld 2 1 2 1 rfl rfl rfl rfl rfl ?_
  refine x_nuF 8 4 rfl rfl rfl ?_
  refine x_ld 3 1 2 5 rfl rfl rfl rfl rfl ?_
  refine x_nnT 10 rfl rfl ?_
  refine x_ld 0 1 2 11 rfl rfl rfl rfl rfl ?_
  refine x_cv 90 16 14 [.ref b] rfl rfl rfl (Nat.le_of_ble_eq_true rfl) rfl rfl (Nat.le_of_ble_eq_true rfl) ⟨_, _, _, rfl, oG h.1⟩ (Nat.le_of_ble_eq_true rfl) (c16 d (M := M) h.1 hn h.2.2.2.2.2.1) rfl ?_
  refine x_st 5 2 2 16 [some (.ref b), some (zi ((K : Nat) : Int)), some (.ref (b + 3 + 9 * p)), some (.ref (b + 3 + 9 * q)), some (zi ((pl : Nat) : Int)), some (.ref (b + 3 + 9 * ps.length))] rfl rfl rfl (Nat.le_of_ble_eq_true rfl) rfl rfl ?_
  refine x_ld 5 2 2 18 rfl rfl rfl rfl rfl ?_
  refine x_nuF 31 21 rfl rfl rfl ?_
  refine x_ld 5 2 2 23 rfl rfl rfl rfl rfl ?_
  refine x_ld 1 1 0 24 rfl rfl rfl rfl rfl ?_
  refine x_ld 2 1 2 25 rfl rfl rfl rfl rfl ?_
  refine x_ld 3 1 2 26 rfl rfl rfl rfl rfl ?_
  refine x_ld 4 2 0 28 rfl rfl rfl rfl rfl ?_
  refine x_cv 94 17 31 [.ref (b + 3 + 9 * ps.length), zi ((K : Nat) : Int), .ref (b + 3 + 9 * p), .ref (b + 3 + 9 * q), zi ((pl : Nat) : Int)] rfl rfl rfl (Nat.le_of_ble_eq_true rfl) rfl rfl (Nat.le_of_ble_eq_true rfl) ⟨_, _, _, rfl, oP hP⟩ (Nat.le_of_ble_eq_true rfl) (c17 d hP) rfl ?_
  refine x_ld 5 2 2 33 rfl rfl rfl rfl rfl ?_
  refine x_ret rfl rfl rfl rfl ?_
  refine ⟨_, _, rfl, rfl, rfl, ?_, ?_⟩
  · refine ⟨fun q h1 h2 => ⟨?_, ?_⟩, fun j h1 h2 => ?_, ?_, rfl⟩
    · have := h2 ps.length hn; show (sI (sI (sI M _ _ _) _ _ _) _ _ _).1 q = M.1 q; rw [sI_ne this, sI_ne this, sI_ne h1]
    · have := h2 ps.length hn; show (sR (sR _ _ _ _) _ _ _).2.2 q = _; rw [sR_ne this, sR_ne this]; rfl
    · show (sI (sI (sI M _ _ _) _ _ _) _ _ _).1 b j = M.1 b j; exact (rd_na (Ne.symm hne)).trans ((rd_na (Ne.symm hne)).trans (rd_nk h2))
    · show (sR (sR _ _ _ _) _ _ _).2.2 b = _; rw [sR_ne (Ne.symm hne), sR_ne (Ne.symm hne)]; rfl
  · refine cR_new h hn ?_ ?_ ?_ (fun k hk => ⟨?_, ?_⟩) ⟨?_, fun e => absurd e (by show ¬ K < 3; omega), fun _ => ⟨?_, ?_⟩, fun e => ?_⟩
    · refine ⟨fun q h1 h2 => ⟨?_, ?_⟩, fun j h1 h2 => ?_, ?_, rfl⟩
      · have := h2 ps.length hn; show (sI (sI (sI M _ _ _) _ _ _) _ _ _).1 q = M.1 q; rw [sI_ne this, sI_ne this, sI_ne h1]
      · have := h2 ps.length hn; show (sR (sR _ _ _ _) _ _ _).2.2 q = _; rw [sR_ne this, sR_ne this]; rfl
      · show (sI (sI (sI M _ _ _) _ _ _) _ _ _).1 b j = M.1 b j; exact (rd_na (Ne.symm hne)).trans ((rd_na (Ne.symm hne)).trans (rd_nk h2))
      · show (sR (sR _ _ _ _) _ _ _).2.2 b = _; rw [sR_ne (Ne.symm hne), sR_ne (Ne.symm hne)]; rfl
    · show (sI (sI (sI M _ _ _) _ _ _) _ _ _).1 b 2 = _; exact (rd_na (Ne.symm hne)).trans ((rd_na (Ne.symm hne)).trans ((rd_nk (by decide)).trans h.2.2.2.2.1))
    · show (sI (sI (sI M _ _ _) _ _ _) _ _ _).1 b 4 = _; exact (rd_na (Ne.symm hne)).trans ((rd_na (Ne.symm hne)).trans rd_eq)
    · show (sI (sI (sI M _ _ _) _ _ _) _ _ _).1 _ = _; rw [sI_ne (by omega), sI_ne (by omega), sI_ne (by omega)]
    · show (sR (sR _ _ _ _) _ _ _).2.2 _ = _; rw [sR_ne (by omega), sR_ne (by omega)]; rfl
    · show (sI (sI (sI M _ _ _) _ _ _) _ _ _).1 _ 0 = _; exact (rd_nk (by decide)).trans rd_eq
    · show (sR (sR _ _ _ _) _ _ _).2.2 _ 3 = _; exact (rdR_nk (by decide)).trans rdR_eq
    · show (sR (sR _ _ _ _) _ _ _).2.2 _ 4 = _; exact rdR_eq
    · show (sI (sI (sI M _ _ _) _ _ _) _ _ _).1 _ 1 = _; rw [← hpl e]; exact rd_eq
theorem c15n (d : Nat) {b f : Nat} (hG : isG b) {K pl : Int} : ab_S (pg_G L xs) (d + 1) 15 [.ref b, zi K, .ref f, .null, zi pl] (hp M ++ es) (some .null) (hp M ++ es) := by
  show ab_W (pg_G L xs) (ab_X (pg_G L xs) d) 15 _ 0 [some (.ref b), some (zi K), some (.ref f), some (.null), some (zi pl), none] [] (hp M ++ es)
  refine x_ld 2 1 2 1 rfl rfl rfl rfl rfl ?_
  refine x_nuF 8 4 rfl rfl rfl ?_
  refine x_ld 3 1 2 5 rfl rfl rfl rfl rfl ?_
  refine x_nnF 10 8 rfl rfl rfl ?_
  refine x_cst .null 1 9 rfl rfl rfl ?_
  refine x_ret rfl rfl rfl rfl ?_
  exact ⟨rfl, rfl⟩
theorem c15m (d : Nat) {b : Nat} (hG : isG b) {K pl : Int} : ab_S (pg_G L xs) (d + 1) 15 [.ref b, zi K, .null, .null, zi pl] (hp M ++ es) (some .null) (hp M ++ es) := by
  show ab_W (pg_G L xs) (ab_X (pg_G L xs) d) 15 _ 0 [some (.ref b), some (zi K), some (.null), some (.null), some (zi pl), none] [] (hp M ++ es)
  refine x_ld 2 1 2 1 rfl rfl rfl rfl rfl ?_
  refine x_nuT 8 rfl rfl ?_
  refine x_cst .null 1 9 rfl rfl rfl ?_
  refine x_ret rfl rfl rfl rfl ?_
  exact ⟨rfl, rfl⟩
end C30
