/-! OURS, printed by wip/tools/gen988.py: the class's parser goes where the machine goes. -/
section Mw
variable {x : lne} {a : Nat} {ps : List (prt × Nat)} {ls : List Nat} {os : List opn}
theorem lk_in {i : Nat} (h : lk x i ≠ 0) : i < x.1 ∧ lk x i = x.2 i := by
  unfold lk at h ⊢
  split at h
  · rename_i e; exact ⟨e, if_pos e⟩
  · exact absurd rfl h
theorem mw_let (h : (ltc (lk x a) || lk x a == 46) = true) : mstep x (0, a, ps, ls, os) = (1, a + 1, ps ++ [((0, 0, 0, tOf (lk x a)), a)], ps.length :: ls, os) := by
  obtain ⟨h1, h2⟩ := lk_in (x := x) (i := a) (fun e => by rw [e] at h; revert h; simp [ltc])
  rw [h2] at h ⊢
  unfold mstep; dsimp only
  rw [if_pos rfl, if_pos h1, if_pos h]
theorem nlet {c : Nat} (h : c = 45 ∨ c = 43 ∨ c = 94 ∨ c = 61 ∨ c = 40) : ¬ (ltc c || c == 46) = true := by rcases h with rfl | rfl | rfl | rfl | rfl <;> decide
theorem mw_sgn (hc : lk x a = 45 ∨ lk x a = 43) (h : (ltc (lk x (a + 1)) || (lk x (a + 1) == 46 && lk x a == 45)) = true) : mstep x (0, a, ps, ls, os) = (1, a + 2, ps ++ [((if lk x a = 45 then 1 else 2, 0, 0, tOf (lk x (a + 1))), a)], ps.length :: ls, os) := by
  obtain ⟨h1, h2⟩ := lk_in (x := x) (i := a) (by omega)
  rw [h2] at h hc ⊢
  unfold mstep; dsimp only
  rw [if_pos rfl, if_pos h1, if_neg (nlet (by omega)), if_pos hc, if_pos h]
theorem mw_sgnF (hc : lk x a = 45 ∨ lk x a = 43) (h : ¬ (ltc (lk x (a + 1)) || (lk x (a + 1) == 46 && lk x a == 45)) = true) : mstep x (0, a, ps, ls, os) = (6, a + 1, ps, ls, os) := by
  obtain ⟨h1, h2⟩ := lk_in (x := x) (i := a) (by omega)
  rw [h2] at h hc
  unfold mstep; dsimp only
  rw [if_pos rfl, if_pos h1, if_neg (nlet (by omega)), if_pos hc, if_neg h]
theorem mw_sw (hc : lk x a = 94) : mstep x (0, a, ps, ls, os) = (0, a + 1, ps, ls, (5, a, 2) :: os) := by
  obtain ⟨h1, h2⟩ := lk_in (x := x) (i := a) (by omega)
  rw [h2] at hc
  unfold mstep; dsimp only
  rw [if_pos rfl, if_pos h1, if_neg (nlet (by omega)), if_neg (by omega), if_pos hc]
theorem mw_eq (hc : lk x a = 61) : mstep x (0, a, ps, ls, os) = (0, a + 1, ps, ls, (6, a, 2) :: os) := by
  obtain ⟨h1, h2⟩ := lk_in (x := x) (i := a) (by omega)
  rw [h2] at hc
  unfold mstep; dsimp only
  rw [if_pos rfl, if_pos h1, if_neg (nlet (by omega)), if_neg (by omega), if_neg (by omega), if_pos hc]
theorem mw_br (hc : lk x a = 40) (hd : dpt os < 4) : mstep x (0, a, ps, ls, os) = (0, a + 1, ps, ls, (10, a, 2) :: os) := by
  obtain ⟨h1, h2⟩ := lk_in (x := x) (i := a) (by omega)
  rw [h2] at hc
  unfold mstep; dsimp only
  rw [if_pos rfl, if_pos h1, if_neg (nlet (by omega)), if_neg (by omega), if_neg (by omega), if_neg (by omega), if_pos ⟨hc, hd⟩]
theorem mw_brF (hc : lk x a = 40) (hd : ¬ dpt os < 4) : mstep x (0, a, ps, ls, os) = (6, a, ps, ls, os) := by
  obtain ⟨h1, h2⟩ := lk_in (x := x) (i := a) (by omega)
  rw [h2] at hc
  unfold mstep; dsimp only
  rw [if_pos rfl, if_pos h1, if_neg (nlet (by omega)), if_neg (by omega), if_neg (by omega), if_neg (by omega), if_neg (fun e => hd e.2)]
theorem mw_F (h : ¬ (ltc (lk x a) || lk x a == 46) = true) (h1 : lk x a ≠ 45) (h2 : lk x a ≠ 43) (h3 : lk x a ≠ 94) (h4 : lk x a ≠ 61) (h5 : lk x a ≠ 40) : mstep x (0, a, ps, ls, os) = (6, a, ps, ls, os) := by
  unfold mstep; dsimp only
  rw [if_pos rfl]
  by_cases e : a < x.1
  · have e2 : lk x a = x.2 a := if_pos e
    rw [e2] at h h1 h2 h3 h4 h5
    rw [if_pos e, if_neg h, if_neg (by omega), if_neg h3, if_neg h4, if_neg (fun q => h5 q.1)]
  · rw [if_neg e]
theorem me_eq {p pl w : Nat} : mstep x (1, a, ps, p :: ls, (6, pl, w) :: os) = (1, a, ps ++ [((3, p, p, 0), pl)], ps.length :: ls, os) := rfl
theorem me_sw2 {pl : Nat} : mstep x (1, a, ps, ls, (5, pl, 2) :: os) = (0, a, ps, ls, (5, pl, 1) :: os) := rfl
theorem me_sw1 {p q pl : Nat} : mstep x (1, a, ps, q :: p :: ls, (5, pl, 1) :: os) = (1, a, ps ++ [((6, p, q, 0), pl)], ps.length :: ls, os) := rfl
theorem me_b (h1 : isO os 6 = false) (h2 : isO os 5 = false) : mstep x (1, a, ps, ls, os) = (2, a, ps, ls, os) := by
  unfold mstep; dsimp only
  rw [if_neg (by decide), if_pos rfl, if_neg (by rw [h1]; decide), if_neg (by rw [h2]; decide)]
theorem mb_star {p : Nat} (hc : lk x a = 42 ∨ lk x a = 37) : mstep x (2, a, ps, p :: ls, os) = (3, a + 1, ps ++ [((if lk x a = 42 then 7 else 8, p, p, 0), a)], ps.length :: ls, os) := by
  obtain ⟨h1, h2⟩ := lk_in (x := x) (i := a) (by omega)
  rw [h2] at hc ⊢
  unfold mstep; dsimp only
  rw [if_neg (by decide), if_neg (by decide), if_pos (by decide), if_pos ⟨rfl, h1, hc⟩]; rfl
theorem mb_no {m : Nat} (h : m = 2 → ¬ (lk x a = 42 ∨ lk x a = 37)) : ¬ (m = 2 ∧ a < x.1 ∧ (x.2 a = 42 ∨ x.2 a = 37)) := by
  rintro ⟨e1, e2, e3⟩
  have : lk x a = x.2 a := if_pos e2
  rw [← this] at e3
  exact h e1 e3
theorem mb_c {m : Nat} (hm : m = 2 ∨ m = 3) (h : m = 2 → ¬ (lk x a = 42 ∨ lk x a = 37)) (h4 : isO os 4 = false) : mstep x (m, a, ps, ls, os) = (4, a, ps, ls, os) := by
  unfold mstep; dsimp only
  rw [if_neg (by omega), if_neg (by omega), if_pos hm, if_neg (mb_no h), if_neg (by rw [h4]; decide)]
theorem mb_j {m p q pl w : Nat} (hm : m = 2 ∨ m = 3) (h : m = 2 → ¬ (lk x a = 42 ∨ lk x a = 37)) : mstep x (m, a, ps, q :: p :: ls, (4, pl, w) :: os) = (4, a, ps ++ [((5, p, q, 0), pl)], ps.length :: ls, os) := by
  unfold mstep; dsimp only
  rw [if_neg (by omega), if_neg (by omega), if_pos hm, if_neg (mb_no h), if_pos (show isO ((4, pl, w) :: os) 4 = true from rfl)]; rfl
theorem mc_at (h : sat (lk x a) = true) : mstep x (4, a, ps, ls, os) = (0, a, ps, ls, (4, a, 2) :: os) := by
  unfold mstep; dsimp only
  rw [if_neg (by decide), if_neg (by decide), if_neg (by decide), if_pos rfl, if_pos h]
theorem mc_d (h : sat (lk x a) = false) (h7 : isO os 7 = false) : mstep x (4, a, ps, ls, os) = (5, a, ps, ls, os) := by
  unfold mstep; dsimp only
  rw [if_neg (by decide), if_neg (by decide), if_neg (by decide), if_pos rfl, if_neg (by rw [h]; decide), if_neg (by rw [h7]; decide)]
theorem mc_or {p q pl w : Nat} (h : sat (lk x a) = false) : mstep x (4, a, ps, q :: p :: ls, (7, pl, w) :: os) = (5, a, ps ++ [((4, p, q, 0), pl)], ps.length :: ls, os) := by
  unfold mstep; dsimp only
  rw [if_neg (by decide), if_neg (by decide), if_neg (by decide), if_pos rfl, if_neg (by rw [h]; decide), if_pos (show isO ((7, pl, w) :: os) 7 = true from rfl)]; rfl
theorem md_or (hc : lk x a = 124) : mstep x (5, a, ps, ls, os) = (0, a + 1, ps, ls, (7, a, 2) :: os) := by
  obtain ⟨h1, h2⟩ := lk_in (x := x) (i := a) (by omega)
  rw [h2] at hc
  unfold mstep; dsimp only
  rw [if_neg (by decide), if_neg (by decide), if_neg (by decide), if_neg (by decide), if_pos rfl, if_pos h1, if_pos hc]
theorem md_br {pl w : Nat} (hc : lk x a = 41) : mstep x (5, a, ps, ls, (10, pl, w) :: os) = (1, a + 1, ps, ls, os) := by
  obtain ⟨h1, h2⟩ := lk_in (x := x) (i := a) (by omega)
  rw [h2] at hc
  unfold mstep; dsimp only
  rw [if_neg (by decide), if_neg (by decide), if_neg (by decide), if_neg (by decide), if_pos rfl, if_pos h1, if_neg (by omega), if_pos ⟨hc, rfl⟩]; rfl
theorem md_F (h1 : lk x a ≠ 124) (h2 : ¬ (lk x a = 41 ∧ isO os 10 = true)) (h3 : a < x.1 ∨ os ≠ []) : mstep x (5, a, ps, ls, os) = (6, a, ps, ls, os) := by
  unfold mstep; dsimp only
  rw [if_neg (by decide), if_neg (by decide), if_neg (by decide), if_neg (by decide), if_pos rfl]
  by_cases e : a < x.1
  · have e2 : lk x a = x.2 a := if_pos e
    rw [e2] at h1 h2
    rw [if_pos e, if_neg h1, if_neg h2]
  · rw [if_neg e, if_neg (by rcases h3 with q | q; exact absurd q e; exact q)]
theorem md_A (h : ¬ a < x.1) : mstep x (5, a, ps, ls, []) = (7, a, ps, ls, []) := by
  unfold mstep; dsimp only
  rw [if_neg (by decide), if_neg (by decide), if_neg (by decide), if_neg (by decide), if_pos rfl, if_neg h, if_pos rfl]
end Mw
theorem lku_d {c : Nat} (hc : c < 127) (h1 : c ≠ 40) (h2 : c ≠ 43) (h3 : c ≠ 45) (h4 : c ≠ 61) (h5 : c ≠ 94) : Op.lookupswitch.offset [(40, 52), (43, 171), (45, 132), (61, 101), (94, 58)] 201 (Int32.ofInt ((c : Nat) : Int)).toInt = 201 := by
  rw [zi_toInt ⟨by omega, by omega⟩, Op.lookupswitch.offset_cons, if_neg (by omega), Op.lookupswitch.offset_cons, if_neg (by omega), Op.lookupswitch.offset_cons, if_neg (by omega), Op.lookupswitch.offset_cons, if_neg (by omega), Op.lookupswitch.offset_cons, if_neg (by omega)]
  rfl
/-- a line that failed -/
def rN (b : Nat) (x : lne) (M' : mm) : Prop := ∃ a' ps' ls' os', Rch x s0 (6, a', ps', ls', os') ∧ M'.1 b 2 = ((a' : Nat) : Int)
/-- a function that reads: where it leaves the machine -/
def cP (L : Nat) (xs : Nat → Int32) (es : ab_H) (b : Nat) (x : lne) (j : Nat) (ok : Nat → List opn → Prop) (res : Nat → List (prt × Nat) → Nat → List Nat → List opn → Prop) (D m : Nat) : Prop := ∀ (M : mm) (a : Nat) (ps : List (prt × Nat)) (ls : List Nat) (os : List opn), x.1 - a = m → ok a os → cR b M x a ps → Rch x s0 (0, a, ps, ls, os) → ab_Z (pg_G L xs) D j [.ref b, zi (dpt os : Nat)] M es (fun v M' => Frd b M M' ∧ ((v = some .null ∧ rN b x M') ∨ ∃ a' ps' p, v = some (.ref (b + 3 + 9 * p)) ∧ a < a' ∧ res a' ps' p ls os ∧ cR b M' x a' ps'))
abbrev okA : Nat → List opn → Prop := fun _ _ => True
abbrev okP : Nat → List opn → Prop := fun _ os => isO os 6 = false ∧ isO os 5 = false
abbrev okC : Nat → List opn → Prop := fun _ os => isO os 6 = false ∧ isO os 5 = false ∧ isO os 4 = false
abbrev okU : Nat → List opn → Prop := fun _ os => isO os 6 = false ∧ isO os 5 = false ∧ isO os 4 = false ∧ isO os 7 = false
abbrev rsA (x : lne) : Nat → List (prt × Nat) → Nat → List Nat → List opn → Prop := fun a' ps' p ls os => Rch x s0 (1, a', ps', p :: ls, os)
abbrev rsP (x : lne) : Nat → List (prt × Nat) → Nat → List Nat → List opn → Prop := fun a' ps' p ls os => ∃ m, (m = 2 ∨ m = 3) ∧ (m = 2 → ¬ (lk x a' = 42 ∨ lk x a' = 37)) ∧ Rch x s0 (m, a', ps', p :: ls, os)
abbrev rsC (x : lne) : Nat → List (prt × Nat) → Nat → List Nat → List opn → Prop := fun a' ps' p ls os => sat (lk x a') = false ∧ Rch x s0 (4, a', ps', p :: ls, os)
abbrev rsU (x : lne) : Nat → List (prt × Nat) → Nat → List Nat → List opn → Prop := fun a' ps' p ls os => lk x a' ≠ 124 ∧ Rch x s0 (5, a', ps', p :: ls, os)
section C31
variable {L : Nat} {xs : Nat → Int32} {es : ab_H} {b : Nat} {x : lne}
theorem c14 {m : Nat} (hS : ∀ m', m' < m → ∀ D, 6 * m' + 7 ≤ D → cP L xs es b x 9 okU (rsU x) D m') : ∀ D, 6 * m + 3 ≤ D → cP L xs es b x 14 (fun a _ => lk x a = 40) (rsA x) D m := by
  intro D hD M a ps ls os hm hc hC hR
  have hi := inv_Rch hR (inv_s0 x)
  have h1 : a ≤ x.1 := hi.1
  have h2 : ps.length + ls.length + eqc os ≤ 2 * a := hi.2.1
  have h16 := hC.2.1
  have hg := isG_lt hC.1
  have hdl := dpt_le os
  have hol : os.length ≤ 2 * a := (hi.2.2.1 rfl).2
  have hlk := lk_lt hC a
  obtain ⟨d, rfl⟩ : ∃ d, D = d + 2 := ⟨D - 2, by omega⟩
  have hlin := lk_in (x := x) (i := a) (by omega)
  show ab_W (pg_G L xs) (ab_X (pg_G L xs) (d + 1)) 14 _ 0 [some (.ref b), some (zi ((dpt os : Nat) : Int)), none] [] (hp M ++ es)
  refine x_ld 1 1 0 1 rfl rfl rfl rfl rfl ?_
  refine x_cst (zi 4) 1 2 rfl rfl rfl ?_
  refine z_iclt 7 5 rfl rfl rfl ⟨by omega, by omega⟩ (rg_lit 4 rfl) (fun c2 => ?_) (fun c2 => ?_)
  · refine x_ld 0 1 2 8 rfl rfl rfl rfl rfl ?_
    refine x_dup 9 rfl rfl rfl ?_
    refine g_G_2 hC.1 19 12 rfl rfl hC.2.2.2.2.1 rfl ?_
    refine x_cst (zi 1) 1 13 rfl rfl rfl ?_
    refine z_add 14 rfl rfl ?_
    rw [show ((a : Nat) : Int) + 1 = ((a + 1 : Nat) : Int) from (by omega)]
    refine s_G_2 hC.1 19 17 rfl rfl rfl rfl rfl rfl ?_
    refine x_ld 0 1 2 18 rfl rfl rfl rfl rfl ?_
    refine x_ld 1 1 0 19 rfl rfl rfl rfl rfl ?_
    refine x_cst (zi 1) 1 20 rfl rfl rfl ?_
    refine z_add 21 rfl rfl ?_
    rw [show ((dpt os : Nat) : Int) + 1 = ((dpt ((10, a, 2) :: os) : Nat) : Int) from (by show _ = ((dpt os + 1 : Nat) : Int); omega)]
    refine x_ce 52 9 24 [.ref b, zi ((dpt ((10, a, 2) :: os) : Nat) : Int)] rfl rfl rfl (Nat.le_of_ble_eq_true rfl) rfl rfl (Nat.le_of_ble_eq_true rfl) ⟨_, _, _, rfl, oG hC.1⟩ (Nat.le_of_ble_eq_true rfl) (by have q := hS (x.1 - (a + 1)) (by omega) (d + 1) (by omega) (sI M b 2 ((a + 1 : Nat) : Int)) (a + 1) ps ls ((10, a, 2) :: os) rfl ⟨rfl, rfl, rfl, rfl⟩ (cR_at hC rfl) (Rch_step hR (mw_br hc (by omega))); exact q) rfl ?_
    rintro v M2 ⟨hF2, hv⟩
    rcases hv with ⟨rfl, hN⟩ | ⟨a2, ps2, p2, rfl, hlt, ⟨hn2, hR2⟩, hC2⟩
    · refine x_st 2 1 2 25 [some (.ref b), some (zi ((dpt os : Nat) : Int)), some (.null)] rfl rfl rfl (Nat.le_of_ble_eq_true rfl) rfl rfl ?_
      refine x_ld 2 1 2 26 rfl rfl rfl rfl rfl ?_
      refine x_nuT 38 rfl rfl ?_
      refine x_cst .null 1 39 rfl rfl rfl ?_
      refine x_ret rfl rfl rfl rfl ?_
      exact ⟨_, _, rfl, rfl, Frd_trans (Frd_at hC.1 (.inl rfl)) hF2, .inl ⟨rfl, hN⟩⟩
    · have ha2 : a2 ≤ x.1 := (inv_Rch hR2 (inv_s0 x)).1
      have hlk2 := lk_lt hC2 a2
      refine x_st 2 1 2 25 [some (.ref b), some (zi ((dpt os : Nat) : Int)), some (.ref (b + 3 + 9 * p2))] rfl rfl rfl (Nat.le_of_ble_eq_true rfl) rfl rfl ?_
      refine x_ld 2 1 2 26 rfl rfl rfl rfl rfl ?_
      refine x_nuF 38 29 rfl rfl rfl ?_
      refine x_ld 0 1 2 30 rfl rfl rfl rfl rfl ?_
      refine x_cv 63 13 33 [.ref b] rfl rfl rfl (Nat.le_of_ble_eq_true rfl) rfl rfl (Nat.le_of_ble_eq_true rfl) ⟨_, _, _, rfl, oG hC.1⟩ (Nat.le_of_ble_eq_true rfl) (c13 d hC2 (by omega)) rfl ?_
      refine x_cst (zi 41) 2 35 rfl rfl rfl ?_
      refine z_iceq 40 38 rfl rfl rfl ⟨by omega, by omega⟩ (rg_lit 41 rfl) (fun c35 => ?_) (fun c35 => ?_)
      · refine x_ld 0 1 2 41 rfl rfl rfl rfl rfl ?_
        refine x_dup 42 rfl rfl rfl ?_
        refine g_G_2 hC.1 19 45 rfl rfl hC2.2.2.2.2.1 rfl ?_
        refine x_cst (zi 1) 1 46 rfl rfl rfl ?_
        refine z_add 47 rfl rfl ?_
        rw [show ((a2 : Nat) : Int) + 1 = ((a2 + 1 : Nat) : Int) from (by omega)]
        refine s_G_2 hC.1 19 50 rfl rfl rfl rfl rfl rfl ?_
        refine x_ld 2 1 2 51 rfl rfl rfl rfl rfl ?_
        refine x_ret rfl rfl rfl rfl ?_
        exact ⟨_, _, rfl, rfl, Frd_trans (Frd_trans (Frd_at hC.1 (.inl rfl)) hF2) (Frd_at hC.1 (.inl rfl)), .inr ⟨a2 + 1, ps2, p2, rfl, by omega, Rch_step hR2 (md_br (by omega)), cR_at hC2 rfl⟩⟩
      · refine x_cst .null 1 39 rfl rfl rfl ?_
        refine x_ret rfl rfl rfl rfl ?_
        exact ⟨_, _, rfl, rfl, Frd_trans (Frd_at hC.1 (.inl rfl)) hF2, .inl ⟨rfl, a2, ps2, _, _, Rch_step hR2 (md_F hn2 (fun e => c35 (by omega)) (.inr (List.cons_ne_nil _ _))), hC2.2.2.2.2.1⟩⟩
  · refine x_cst .null 1 6 rfl rfl rfl ?_
    refine x_ret rfl rfl rfl rfl ?_
    exact ⟨_, _, rfl, rfl, Frd_refl b M, .inl ⟨rfl, a, ps, ls, os, Rch_step hR (mw_brF hc (by omega)), hC.2.2.2.2.1⟩⟩
theorem c12 {m : Nat} (hA : ∀ m', m' < m → ∀ D, 6 * m' + 4 ≤ D → cP L xs es b x 12 okA (rsA x) D m') (hS : ∀ m', m' < m → ∀ D, 6 * m' + 7 ≤ D → cP L xs es b x 9 okU (rsU x) D m') : ∀ D, 6 * m + 4 ≤ D → cP L xs es b x 12 okA (rsA x) D m := by
  intro D hD M a ps ls os hm _ hC hR
  have hi := inv_Rch hR (inv_s0 x)
  have h1 : a ≤ x.1 := hi.1
  have h2 : ps.length + ls.length + eqc os ≤ 2 * a := hi.2.1
  have h16 := hC.2.1
  have hg := isG_lt hC.1
  have hdl := dpt_le os
  have hol : os.length ≤ 2 * a := (hi.2.2.1 rfl).2
  have hlk := lk_lt hC a
  obtain ⟨d, rfl⟩ : ∃ d, D = d + 4 := ⟨D - 4, by omega⟩
  have hC1 := cR_at hC (a' := a + 1) (y := ((a + 1 : Nat) : Int)) rfl
  have hlk1 := lk_lt hC (a + 1)
  show ab_W (pg_G L xs) (ab_X (pg_G L xs) (d + 3)) 12 _ 0 [some (.ref b), some (zi ((dpt os : Nat) : Int)), none, none, none] [] (hp M ++ es)
  refine x_ld 0 1 2 1 rfl rfl rfl rfl rfl ?_
  refine x_cv 63 13 4 [.ref b] rfl rfl rfl (Nat.le_of_ble_eq_true rfl) rfl rfl (Nat.le_of_ble_eq_true rfl) ⟨_, _, _, rfl, oG hC.1⟩ (Nat.le_of_ble_eq_true rfl) (c13 (d + 2) hC (by omega)) rfl ?_
  by_cases hc : lk x a = 40
  · rw [hc]
    have hin := (lk_in (x := x) (i := a) (by omega)).1
    refine x_lku (off := 52) 56 rfl (by decide) (by decide) rfl ?_
    refine x_ld 0 1 2 57 rfl rfl rfl rfl rfl ?_
    refine x_ld 1 1 0 58 rfl rfl rfl rfl rfl ?_
    refine x_ce 81 14 61 [.ref b, zi ((dpt os : Nat) : Int)] rfl rfl rfl (Nat.le_of_ble_eq_true rfl) rfl rfl (Nat.le_of_ble_eq_true rfl) ⟨_, _, _, rfl, oG hC.1⟩ (Nat.le_of_ble_eq_true rfl) (c14 hS (d + 3) (by omega) M a ps ls os hm hc hC hR) rfl ?_
    rintro v M2 ⟨hF2, hv⟩
    rcases hv with ⟨rfl, hN⟩ | ⟨a2, ps2, p2, rfl, hlt, hR2, hC2⟩
    · refine x_ret rfl rfl rfl rfl ?_
      exact ⟨_, _, rfl, rfl, hF2, .inl ⟨rfl, hN⟩⟩
    · refine x_ret rfl rfl rfl rfl ?_
      exact ⟨_, _, rfl, rfl, hF2, .inr ⟨a2, ps2, p2, rfl, hlt, hR2, hC2⟩⟩
  have hn40 := hc
  clear hc
  by_cases hc : lk x a = 94
  · rw [hc]
    have hin := (lk_in (x := x) (i := a) (by omega)).1
    refine x_lku (off := 58) 62 rfl (by decide) (by decide) rfl ?_
    refine x_ld 0 1 2 63 rfl rfl rfl rfl rfl ?_
    refine g_G_2 hC.1 19 66 rfl rfl hC.2.2.2.2.1 rfl ?_
    refine x_st 2 1 0 67 [some (.ref b), some (zi ((dpt os : Nat) : Int)), some (zi ((a : Nat) : Int)), none, none] rfl rfl rfl (Nat.le_of_ble_eq_true rfl) rfl rfl ?_
    refine x_ld 0 1 2 68 rfl rfl rfl rfl rfl ?_
    refine x_dup 69 rfl rfl rfl ?_
    refine g_G_2 hC.1 19 72 rfl rfl hC.2.2.2.2.1 rfl ?_
    refine x_cst (zi 1) 1 73 rfl rfl rfl ?_
    refine z_add 74 rfl rfl ?_
    rw [show ((a : Nat) : Int) + 1 = ((a + 1 : Nat) : Int) from (by omega)]
    refine s_G_2 hC.1 19 77 rfl rfl rfl rfl rfl rfl ?_
    refine x_ld 0 1 2 78 rfl rfl rfl rfl rfl ?_
    refine x_ld 1 1 0 79 rfl rfl rfl rfl rfl ?_
    refine x_ce 78 12 82 [.ref b, zi ((dpt os : Nat) : Int)] rfl rfl rfl (Nat.le_of_ble_eq_true rfl) rfl rfl (Nat.le_of_ble_eq_true rfl) ⟨_, _, _, rfl, oG hC.1⟩ (Nat.le_of_ble_eq_true rfl) (by have q := hA (x.1 - (a + 1)) (by omega) (d + 3) (by omega) (sI M b 2 ((a + 1 : Nat) : Int)) (a + 1) ps ls ((5, a, 2) :: os) rfl trivial hC1 (Rch_step hR (mw_sw hc)); exact q) rfl ?_
    rintro v M2 ⟨hF2, hv⟩
    rcases hv with ⟨rfl, hN⟩ | ⟨a2, ps2, p2, rfl, hlt, hR2, hC2⟩
    · refine x_st 3 1 2 83 [some (.ref b), some (zi ((dpt os : Nat) : Int)), some (zi ((a : Nat) : Int)), some (.null), none] rfl rfl rfl (Nat.le_of_ble_eq_true rfl) rfl rfl ?_
      refine x_ld 3 1 2 84 rfl rfl rfl rfl rfl ?_
      refine x_nnF 91 87 rfl rfl rfl ?_
      refine x_cst .null 1 88 rfl rfl rfl ?_
      refine x_go 104 rfl rfl ?_
      refine x_ret rfl rfl rfl rfl ?_
      exact ⟨_, _, rfl, rfl, Frd_trans (Frd_at hC.1 (.inl rfl)) hF2, .inl ⟨rfl, hN⟩⟩
    · have hi2 := inv_Rch hR2 (inv_s0 x)
      have ha2 : a2 ≤ x.1 := hi2.1
      have hb2 : ps2.length + (p2 :: ls).length + eqc ((5, a, 2) :: os) ≤ 2 * a2 := hi2.2.1
      rw [List.length_cons] at hb2
      refine x_st 3 1 2 83 [some (.ref b), some (zi ((dpt os : Nat) : Int)), some (zi ((a : Nat) : Int)), some (.ref (b + 3 + 9 * p2)), none] rfl rfl rfl (Nat.le_of_ble_eq_true rfl) rfl rfl ?_
      refine x_ld 3 1 2 84 rfl rfl rfl rfl rfl ?_
      refine x_nnT 91 rfl rfl ?_
      refine x_ld 0 1 2 92 rfl rfl rfl rfl rfl ?_
      refine x_cst (zi 6) 2 94 rfl rfl rfl ?_
      refine x_ld 3 1 2 95 rfl rfl rfl rfl rfl ?_
      refine x_ld 0 1 2 96 rfl rfl rfl rfl rfl ?_
      refine x_ld 1 1 0 97 rfl rfl rfl rfl rfl ?_
      refine x_ce 78 12 100 [.ref b, zi ((dpt os : Nat) : Int)] rfl rfl rfl (Nat.le_of_ble_eq_true rfl) rfl rfl (Nat.le_of_ble_eq_true rfl) ⟨_, _, _, rfl, oG hC.1⟩ (Nat.le_of_ble_eq_true rfl) (by have q := hA (x.1 - a2) (by omega) (d + 3) (by omega) M2 a2 ps2 (p2 :: ls) ((5, a, 1) :: os) rfl trivial hC2 (Rch_step hR2 me_sw2); exact q) rfl ?_
      rintro v3 M3 ⟨hF3, hv3⟩
      rcases hv3 with ⟨rfl, hN3⟩ | ⟨a3, ps3, p3, rfl, hlt3, hR3, hC3⟩
      · refine x_ld 2 1 0 101 rfl rfl rfl rfl rfl ?_
        refine x_cv 67 15 104 [.ref b, zi 6, .ref (b + 3 + 9 * p2), .null, zi ((a : Nat) : Int)] rfl rfl rfl (Nat.le_of_ble_eq_true rfl) rfl rfl (Nat.le_of_ble_eq_true rfl) ⟨_, _, _, rfl, oG hC.1⟩ (Nat.le_of_ble_eq_true rfl) (c15n (d + 2) hC.1) rfl ?_
        refine x_ret rfl rfl rfl rfl ?_
        exact ⟨_, _, rfl, rfl, Frd_trans (Frd_trans (Frd_at hC.1 (.inl rfl)) hF2) hF3, .inl ⟨rfl, hN3⟩⟩
      · have hi3 := inv_Rch hR3 (inv_s0 x)
        have ha3 : a3 ≤ x.1 := hi3.1
        have hb3 : ps3.length + (p3 :: p2 :: ls).length + eqc ((5, a, 1) :: os) ≤ 2 * a3 := hi3.2.1
        rw [List.length_cons, List.length_cons] at hb3
        refine x_ld 2 1 0 101 rfl rfl rfl rfl rfl ?_
        refine x_ce 67 15 104 [.ref b, zi 6, .ref (b + 3 + 9 * p2), .ref (b + 3 + 9 * p3), zi ((a : Nat) : Int)] rfl rfl rfl (Nat.le_of_ble_eq_true rfl) rfl rfl (Nat.le_of_ble_eq_true rfl) ⟨_, _, _, rfl, oG hC.1⟩ (Nat.le_of_ble_eq_true rfl) (c15 (K := 6) (d + 1) hC3 (by omega) (pl' := a) (by decide) (fun _ => rfl)) rfl ?_
        rintro v4 M4 ⟨rfl, hF4, hC4⟩
        refine x_ret rfl rfl rfl rfl ?_
        exact ⟨_, _, rfl, rfl, Frd_trans (Frd_trans (Frd_trans (Frd_at hC.1 (.inl rfl)) hF2) hF3) hF4, .inr ⟨a3, _, ps3.length, rfl, by omega, Rch_step hR3 me_sw1, hC4⟩⟩
  have hn94 := hc
  clear hc
  by_cases hc : lk x a = 61
  · rw [hc]
    have hin := (lk_in (x := x) (i := a) (by omega)).1
    refine x_lku (off := 101) 105 rfl (by decide) (by decide) rfl ?_
    refine x_ld 0 1 2 106 rfl rfl rfl rfl rfl ?_
    refine x_dup 107 rfl rfl rfl ?_
    refine g_G_2 hC.1 19 110 rfl rfl hC.2.2.2.2.1 rfl ?_
    refine x_cst (zi 1) 1 111 rfl rfl rfl ?_
    refine z_add 112 rfl rfl ?_
    rw [show ((a : Nat) : Int) + 1 = ((a + 1 : Nat) : Int) from (by omega)]
    refine s_G_2 hC.1 19 115 rfl rfl rfl rfl rfl rfl ?_
    refine x_ld 0 1 2 116 rfl rfl rfl rfl rfl ?_
    refine x_ld 1 1 0 117 rfl rfl rfl rfl rfl ?_
    refine x_ce 78 12 120 [.ref b, zi ((dpt os : Nat) : Int)] rfl rfl rfl (Nat.le_of_ble_eq_true rfl) rfl rfl (Nat.le_of_ble_eq_true rfl) ⟨_, _, _, rfl, oG hC.1⟩ (Nat.le_of_ble_eq_true rfl) (by have q := hA (x.1 - (a + 1)) (by omega) (d + 3) (by omega) (sI M b 2 ((a + 1 : Nat) : Int)) (a + 1) ps ls ((6, a, 2) :: os) rfl trivial hC1 (Rch_step hR (mw_eq hc)); exact q) rfl ?_
    rintro v M2 ⟨hF2, hv⟩
    rcases hv with ⟨rfl, hN⟩ | ⟨a2, ps2, p2, rfl, hlt, hR2, hC2⟩
    · refine x_st 4 2 2 122 [some (.ref b), some (zi ((dpt os : Nat) : Int)), none, none, some (.null)] rfl rfl rfl (Nat.le_of_ble_eq_true rfl) rfl rfl ?_
      refine x_ld 0 1 2 123 rfl rfl rfl rfl rfl ?_
      refine x_cst (zi 3) 1 124 rfl rfl rfl ?_
      refine x_ld 4 2 2 126 rfl rfl rfl rfl rfl ?_
      refine x_ld 4 2 2 128 rfl rfl rfl rfl rfl ?_
      refine x_ld 0 1 2 129 rfl rfl rfl rfl rfl ?_
      refine g_G_2 hC.1 19 132 rfl rfl rfl rfl ?_
      refine x_cv 67 15 135 [.ref b, zi 3, .null, .null, zi (M2.1 b 2)] rfl rfl rfl (Nat.le_of_ble_eq_true rfl) rfl rfl (Nat.le_of_ble_eq_true rfl) ⟨_, _, _, rfl, oG hC.1⟩ (Nat.le_of_ble_eq_true rfl) (c15m (d + 2) hC.1) rfl ?_
      refine x_ret rfl rfl rfl rfl ?_
      exact ⟨_, _, rfl, rfl, Frd_trans (Frd_at hC.1 (.inl rfl)) hF2, .inl ⟨rfl, hN⟩⟩
    · have hi2 := inv_Rch hR2 (inv_s0 x)
      have ha2 : a2 ≤ x.1 := hi2.1
      have hb2 : ps2.length + (p2 :: ls).length + eqc ((6, a, 2) :: os) ≤ 2 * a2 := hi2.2.1
      rw [List.length_cons, show eqc ((6, a, 2) :: os) = eqc os + 1 from rfl] at hb2
      refine x_st 4 2 2 122 [some (.ref b), some (zi ((dpt os : Nat) : Int)), none, none, some (.ref (b + 3 + 9 * p2))] rfl rfl rfl (Nat.le_of_ble_eq_true rfl) rfl rfl ?_
      refine x_ld 0 1 2 123 rfl rfl rfl rfl rfl ?_
      refine x_cst (zi 3) 1 124 rfl rfl rfl ?_
      refine x_ld 4 2 2 126 rfl rfl rfl rfl rfl ?_
      refine x_ld 4 2 2 128 rfl rfl rfl rfl rfl ?_
      refine x_ld 0 1 2 129 rfl rfl rfl rfl rfl ?_
      refine g_G_2 hC.1 19 132 rfl rfl hC2.2.2.2.2.1 rfl ?_
      refine x_ce 67 15 135 [.ref b, zi 3, .ref (b + 3 + 9 * p2), .ref (b + 3 + 9 * p2), zi ((a2 : Nat) : Int)] rfl rfl rfl (Nat.le_of_ble_eq_true rfl) rfl rfl (Nat.le_of_ble_eq_true rfl) ⟨_, _, _, rfl, oG hC.1⟩ (Nat.le_of_ble_eq_true rfl) (c15 (K := 3) (d + 1) hC2 (by omega) (pl' := a) (by decide) (fun e => absurd e (by decide))) rfl ?_
      rintro v4 M4 ⟨rfl, hF4, hC4⟩
      refine x_ret rfl rfl rfl rfl ?_
      exact ⟨_, _, rfl, rfl, Frd_trans (Frd_trans (Frd_at hC.1 (.inl rfl)) hF2) hF4, .inr ⟨a2, _, ps2.length, rfl, by omega, Rch_step hR2 me_eq, hC4⟩⟩
  have hn61 := hc
  clear hc
  by_cases hc : lk x a = 45
  · rw [hc]
    have hin := (lk_in (x := x) (i := a) (by omega)).1
    refine x_lku (off := 132) 136 rfl (by decide) (by decide) rfl ?_
    refine x_ld 0 1 2 137 rfl rfl rfl rfl rfl ?_
    refine x_dup 138 rfl rfl rfl ?_
    refine g_G_2 hC.1 19 141 rfl rfl hC.2.2.2.2.1 rfl ?_
    refine x_cst (zi 1) 1 142 rfl rfl rfl ?_
    refine z_add 143 rfl rfl ?_
    rw [show ((a : Nat) : Int) + 1 = ((a + 1 : Nat) : Int) from (by omega)]
    refine s_G_2 hC.1 19 146 rfl rfl rfl rfl rfl rfl ?_
    refine x_ld 0 1 2 147 rfl rfl rfl rfl rfl ?_
    refine x_cv 63 13 150 [.ref b] rfl rfl rfl (Nat.le_of_ble_eq_true rfl) rfl rfl (Nat.le_of_ble_eq_true rfl) ⟨_, _, _, rfl, oG hC.1⟩ (Nat.le_of_ble_eq_true rfl) (c13 (d + 2) hC1 (by omega)) rfl ?_
    refine x_cv 84 18 153 [zi ((lk x (a + 1) : Nat) : Int)] rfl rfl rfl (Nat.le_of_ble_eq_true rfl) rfl rfl (Nat.le_of_ble_eq_true rfl) trivial (Nat.le_of_ble_eq_true rfl) (c18 (d + 2) (c := lk x (a + 1)) (by omega)) rfl ?_
    rcases Bool.eq_false_or_eq_true (ltc (lk x (a + 1))) with hl | hl
    · rw [hl]
      refine z_ifne 165 156 rfl rfl rfl (rg_lit 1 rfl) (fun _ => ?_) (fun c => absurd c (by decide))
      refine x_ld 0 1 2 166 rfl rfl rfl rfl rfl ?_
      refine x_cst (zi 1) 1 167 rfl rfl rfl ?_
      refine x_ce 87 19 170 [.ref b, zi 1] rfl rfl rfl (Nat.le_of_ble_eq_true rfl) rfl rfl (Nat.le_of_ble_eq_true rfl) ⟨_, _, _, rfl, oG hC.1⟩ (Nat.le_of_ble_eq_true rfl) (by have hcc : (ltc (lk x (a + 1)) || lk x (a + 1) == 46) = true := (by first | (rw [hl]; rfl) | (rw [hl]; simp; omega)); have hnz : lk x (a + 1) ≠ 0 := (fun e => (by rw [e] at hcc; revert hcc; simp [ltc])); have hlt := (lk_in (x := x) (i := (a + 1)) hnz).1; exact c19 (K := 1) (pl := a) (d + 1) hC1 hlt (by omega) (by decide) hcc) rfl ?_
      rintro v4 M4 ⟨rfl, hF4, hC4⟩
      refine x_go 174 rfl rfl ?_
      refine x_ret rfl rfl rfl rfl ?_
      refine ⟨_, _, rfl, rfl, Frd_trans (Frd_at hC.1 (.inl rfl)) hF4, .inr ⟨a + 2, _, ps.length, rfl, by omega, Rch_step hR ((mw_sgn (by omega) ?_).trans ?_), hC4⟩⟩
      · rw [hc]; first | (rw [hl]; rfl) | (rw [hl]; simp; omega)
      · rw [hc]; rfl
    · rw [hl]
      refine z_ifne 165 156 rfl rfl rfl (rg_lit 0 rfl) (fun c => absurd c (by decide)) (fun _ => ?_)
      refine x_ld 0 1 2 157 rfl rfl rfl rfl rfl ?_
      refine x_cv 63 13 160 [.ref b] rfl rfl rfl (Nat.le_of_ble_eq_true rfl) rfl rfl (Nat.le_of_ble_eq_true rfl) ⟨_, _, _, rfl, oG hC.1⟩ (Nat.le_of_ble_eq_true rfl) (c13 (d + 2) hC1 (by omega)) rfl ?_
      refine x_cst (zi 46) 2 162 rfl rfl rfl ?_
      refine z_icne 173 165 rfl rfl rfl ⟨by omega, by omega⟩ (rg_lit 46 rfl) (fun c162 => ?_) (fun c162 => ?_)
      · refine x_cst .null 1 174 rfl rfl rfl ?_
        refine x_ret rfl rfl rfl rfl ?_
        refine ⟨_, _, rfl, rfl, (Frd_at hC.1 (.inl rfl)), .inl ⟨rfl, a + 1, ps, ls, os, Rch_step hR (mw_sgnF (by omega) ?_), rd_eq⟩⟩
        rw [hl, hc]; simp; omega
      · refine x_ld 0 1 2 166 rfl rfl rfl rfl rfl ?_
        refine x_cst (zi 1) 1 167 rfl rfl rfl ?_
        refine x_ce 87 19 170 [.ref b, zi 1] rfl rfl rfl (Nat.le_of_ble_eq_true rfl) rfl rfl (Nat.le_of_ble_eq_true rfl) ⟨_, _, _, rfl, oG hC.1⟩ (Nat.le_of_ble_eq_true rfl) (by have hcc : (ltc (lk x (a + 1)) || lk x (a + 1) == 46) = true := (by first | (rw [hl]; rfl) | (rw [hl]; simp; omega)); have hnz : lk x (a + 1) ≠ 0 := (fun e => (by rw [e] at hcc; revert hcc; simp [ltc])); have hlt := (lk_in (x := x) (i := (a + 1)) hnz).1; exact c19 (K := 1) (pl := a) (d + 1) hC1 hlt (by omega) (by decide) hcc) rfl ?_
        rintro v4 M4 ⟨rfl, hF4, hC4⟩
        refine x_go 174 rfl rfl ?_
        refine x_ret rfl rfl rfl rfl ?_
        refine ⟨_, _, rfl, rfl, Frd_trans (Frd_at hC.1 (.inl rfl)) hF4, .inr ⟨a + 2, _, ps.length, rfl, by omega, Rch_step hR ((mw_sgn (by omega) ?_).trans ?_), hC4⟩⟩
        · rw [hc]; first | (rw [hl]; rfl) | (rw [hl]; simp; omega)
        · rw [hc]; rfl
  have hn45 := hc
  clear hc
  by_cases hc : lk x a = 43
  · rw [hc]
    have hin := (lk_in (x := x) (i := a) (by omega)).1
    refine x_lku (off := 171) 175 rfl (by decide) (by decide) rfl ?_
    refine x_ld 0 1 2 176 rfl rfl rfl rfl rfl ?_
    refine x_dup 177 rfl rfl rfl ?_
    refine g_G_2 hC.1 19 180 rfl rfl hC.2.2.2.2.1 rfl ?_
    refine x_cst (zi 1) 1 181 rfl rfl rfl ?_
    refine z_add 182 rfl rfl ?_
    rw [show ((a : Nat) : Int) + 1 = ((a + 1 : Nat) : Int) from (by omega)]
    refine s_G_2 hC.1 19 185 rfl rfl rfl rfl rfl rfl ?_
    refine x_ld 0 1 2 186 rfl rfl rfl rfl rfl ?_
    refine x_cv 63 13 189 [.ref b] rfl rfl rfl (Nat.le_of_ble_eq_true rfl) rfl rfl (Nat.le_of_ble_eq_true rfl) ⟨_, _, _, rfl, oG hC.1⟩ (Nat.le_of_ble_eq_true rfl) (c13 (d + 2) hC1 (by omega)) rfl ?_
    refine x_cv 84 18 192 [zi ((lk x (a + 1) : Nat) : Int)] rfl rfl rfl (Nat.le_of_ble_eq_true rfl) rfl rfl (Nat.le_of_ble_eq_true rfl) trivial (Nat.le_of_ble_eq_true rfl) (c18 (d + 2) (c := lk x (a + 1)) (by omega)) rfl ?_
    rcases Bool.eq_false_or_eq_true (ltc (lk x (a + 1))) with hl | hl
    · rw [hl]
      refine z_ifeq 203 195 rfl rfl rfl (rg_lit 1 rfl) (fun c => absurd c (by decide)) (fun _ => ?_)
      refine x_ld 0 1 2 196 rfl rfl rfl rfl rfl ?_
      refine x_cst (zi 2) 1 197 rfl rfl rfl ?_
      refine x_ce 87 19 200 [.ref b, zi 2] rfl rfl rfl (Nat.le_of_ble_eq_true rfl) rfl rfl (Nat.le_of_ble_eq_true rfl) ⟨_, _, _, rfl, oG hC.1⟩ (Nat.le_of_ble_eq_true rfl) (by have hcc : (ltc (lk x (a + 1)) || lk x (a + 1) == 46) = true := (by first | (rw [hl]; rfl) | (rw [hl]; simp; omega)); have hnz : lk x (a + 1) ≠ 0 := (fun e => (by rw [e] at hcc; revert hcc; simp [ltc])); have hlt := (lk_in (x := x) (i := (a + 1)) hnz).1; exact c19 (K := 2) (pl := a) (d + 1) hC1 hlt (by omega) (by decide) hcc) rfl ?_
      rintro v4 M4 ⟨rfl, hF4, hC4⟩
      refine x_go 204 rfl rfl ?_
      refine x_ret rfl rfl rfl rfl ?_
      refine ⟨_, _, rfl, rfl, Frd_trans (Frd_at hC.1 (.inl rfl)) hF4, .inr ⟨a + 2, _, ps.length, rfl, by omega, Rch_step hR ((mw_sgn (by omega) ?_).trans ?_), hC4⟩⟩
      · rw [hc]; first | (rw [hl]; rfl) | (rw [hl]; simp; omega)
      · rw [hc]; rfl
    · rw [hl]
      refine z_ifeq 203 195 rfl rfl rfl (rg_lit 0 rfl) (fun _ => ?_) (fun c => absurd c (by decide))
      refine x_cst .null 1 204 rfl rfl rfl ?_
      refine x_ret rfl rfl rfl rfl ?_
      refine ⟨_, _, rfl, rfl, (Frd_at hC.1 (.inl rfl)), .inl ⟨rfl, a + 1, ps, ls, os, Rch_step hR (mw_sgnF (by omega) ?_), rd_eq⟩⟩
      rw [hl, hc]; simp
  have hn43 := hc
  clear hc
  refine x_lku (off := 201) 205 rfl (by decide) (lku_d hlk hn40 hn43 hn45 hn61 hn94) rfl ?_
  refine x_ld 0 1 2 206 rfl rfl rfl rfl rfl ?_
  refine x_cv 63 13 209 [.ref b] rfl rfl rfl (Nat.le_of_ble_eq_true rfl) rfl rfl (Nat.le_of_ble_eq_true rfl) ⟨_, _, _, rfl, oG hC.1⟩ (Nat.le_of_ble_eq_true rfl) (c13 (d + 2) hC (by omega)) rfl ?_
  refine x_cv 84 18 212 [zi ((lk x a : Nat) : Int)] rfl rfl rfl (Nat.le_of_ble_eq_true rfl) rfl rfl (Nat.le_of_ble_eq_true rfl) trivial (Nat.le_of_ble_eq_true rfl) (c18 (d + 2) (c := lk x a) (by omega)) rfl ?_
  rcases Bool.eq_false_or_eq_true (ltc (lk x a)) with hl | hl
  · rw [hl]
    refine z_ifne 224 215 rfl rfl rfl (rg_lit 1 rfl) (fun _ => ?_) (fun c => absurd c (by decide))
    refine x_ld 0 1 2 225 rfl rfl rfl rfl rfl ?_
    refine x_cst (zi 0) 1 226 rfl rfl rfl ?_
    refine x_ce 87 19 229 [.ref b, zi 0] rfl rfl rfl (Nat.le_of_ble_eq_true rfl) rfl rfl (Nat.le_of_ble_eq_true rfl) ⟨_, _, _, rfl, oG hC.1⟩ (Nat.le_of_ble_eq_true rfl) (by have hcc : (ltc (lk x a) || lk x a == 46) = true := (by first | (rw [hl]; rfl) | (rw [hl]; simp; omega)); have hnz : lk x a ≠ 0 := (fun e => (by rw [e] at hcc; revert hcc; simp [ltc])); have hlt := (lk_in (x := x) (i := a) hnz).1; exact c19 (K := 0) (pl := a) (d + 1) hC hlt (by omega) (by decide) hcc) rfl ?_
    rintro v4 M4 ⟨rfl, hF4, hC4⟩
    refine x_go 233 rfl rfl ?_
    refine x_ret rfl rfl rfl rfl ?_
    exact ⟨_, _, rfl, rfl, hF4, .inr ⟨a + 1, _, ps.length, rfl, by omega, Rch_step hR (mw_let (by first | (rw [hl]; rfl) | (rw [hl]; simp; omega))), hC4⟩⟩
  · rw [hl]
    refine z_ifne 224 215 rfl rfl rfl (rg_lit 0 rfl) (fun c => absurd c (by decide)) (fun _ => ?_)
    refine x_ld 0 1 2 216 rfl rfl rfl rfl rfl ?_
    refine x_cv 63 13 219 [.ref b] rfl rfl rfl (Nat.le_of_ble_eq_true rfl) rfl rfl (Nat.le_of_ble_eq_true rfl) ⟨_, _, _, rfl, oG hC.1⟩ (Nat.le_of_ble_eq_true rfl) (c13 (d + 2) hC (by omega)) rfl ?_
    refine x_cst (zi 46) 2 221 rfl rfl rfl ?_
    refine z_icne 232 224 rfl rfl rfl ⟨by omega, by omega⟩ (rg_lit 46 rfl) (fun c221 => ?_) (fun c221 => ?_)
    · refine x_cst .null 1 233 rfl rfl rfl ?_
      refine x_ret rfl rfl rfl rfl ?_
      exact ⟨_, _, rfl, rfl, Frd_refl b M, .inl ⟨rfl, a, ps, ls, os, Rch_step hR (mw_F (by rw [hl]; simp; omega) hn45 hn43 hn94 hn61 hn40), hC.2.2.2.2.1⟩⟩
    · refine x_ld 0 1 2 225 rfl rfl rfl rfl rfl ?_
      refine x_cst (zi 0) 1 226 rfl rfl rfl ?_
      refine x_ce 87 19 229 [.ref b, zi 0] rfl rfl rfl (Nat.le_of_ble_eq_true rfl) rfl rfl (Nat.le_of_ble_eq_true rfl) ⟨_, _, _, rfl, oG hC.1⟩ (Nat.le_of_ble_eq_true rfl) (by have hcc : (ltc (lk x a) || lk x a == 46) = true := (by first | (rw [hl]; rfl) | (rw [hl]; simp; omega)); have hnz : lk x a ≠ 0 := (fun e => (by rw [e] at hcc; revert hcc; simp [ltc])); have hlt := (lk_in (x := x) (i := a) hnz).1; exact c19 (K := 0) (pl := a) (d + 1) hC hlt (by omega) (by decide) hcc) rfl ?_
      rintro v4 M4 ⟨rfl, hF4, hC4⟩
      refine x_go 233 rfl rfl ?_
      refine x_ret rfl rfl rfl rfl ?_
      exact ⟨_, _, rfl, rfl, hF4, .inr ⟨a + 1, _, ps.length, rfl, by omega, Rch_step hR (mw_let (by first | (rw [hl]; rfl) | (rw [hl]; simp; omega))), hC4⟩⟩
theorem c13n (d : Nat) {M M2 : mm} {a a9 : Nat} {ps : List (prt × Nat)} (h : cR b M x a ps) (hF : Frd b M M2) (h2 : M2.1 b 2 = ((a9 : Nat) : Int)) (ha : a9 ≤ x.1) : ab_S (pg_G L xs) (d + 1) 13 [.ref b] (hp M2 ++ es) (some (zi (lk x a9 : Nat))) (hp M2 ++ es) := by
  have hg := isG_lt h.1
  have hC : cR b (sI M2 b 4 0) x a9 [] := ⟨h.1, h.2.1, (rd_nk (by decide)).trans ((hF.2.1 1 (by decide) (by decide)).trans h.2.2.1), fun i hi => by rw [sI_ne (by omega), (hF.1 (b + 1) (by omega) (fun k hk => by omega)).1]; exact h.2.2.2.1 i hi, (rd_nk (by decide)).trans h2, rd_eq, fun k hk => absurd hk (Nat.not_lt_zero k), fun k hk => absurd hk (Nat.not_lt_zero k)⟩
  have h16 := h.2.1
  show ab_W (pg_G L xs) (ab_X (pg_G L xs) d) 13 _ 0 [some (.ref b)] [] (hp M2 ++ es)
  refine x_ld 0 1 2 1 rfl rfl rfl rfl rfl ?_
  refine g_G_2 h.1 19 4 rfl rfl h2 rfl ?_
  refine x_ld 0 1 2 5 rfl rfl rfl rfl rfl ?_
  refine g_G_1 h.1 15 8 rfl rfl ((hF.2.1 1 (by decide) (by decide)).trans h.2.2.1) rfl ?_
  refine z_icge 23 11 rfl rfl rfl ⟨by omega, by omega⟩ ⟨by omega, by omega⟩ (fun c8 => ?_) (fun c8 => ?_)
  · refine x_cst (zi 0) 1 24 rfl rfl rfl ?_
    refine x_ret rfl rfl rfl rfl ?_
    unfold lk; rw [if_neg (by omega)]; exact ⟨rfl, rfl⟩
  · refine x_ld 0 1 2 12 rfl rfl rfl rfl rfl ?_
    refine g_G_0 h.1 9 15 rfl rfl rfl ?_
    refine x_ld 0 1 2 16 rfl rfl rfl rfl rfl ?_
    refine g_G_2 h.1 19 19 rfl rfl h2 rfl ?_
    refine z_cld ((x.2 a9 : Nat) : Int) 20 rfl (iG1 h.1) rfl ⟨by omega, by omega⟩ (by rw [(hF.1 (b + 1) (by omega) (fun k hk => by omega)).1]; exact (h.2.2.2.1 a9 (by omega)).1) rfl ?_
    refine x_go 24 rfl rfl ?_
    refine x_ret rfl rfl rfl (nar_c (c := x.2 a9) (h.2.2.2.1 a9 (by omega)).2) ?_
    unfold lk; rw [if_pos (by omega)]; exact ⟨rfl, rfl⟩
theorem c11 {m : Nat} (hA : ∀ D, 6 * m + 4 ≤ D → cP L xs es b x 12 okA (rsA x) D m) : ∀ D, 6 * m + 5 ≤ D → cP L xs es b x 11 okP (rsP x) D m := by
  intro D hD M a ps ls os hm hok hC hR
  have hi := inv_Rch hR (inv_s0 x)
  have h1 : a ≤ x.1 := hi.1
  have h2 : ps.length + ls.length + eqc os ≤ 2 * a := hi.2.1
  have h16 := hC.2.1
  have hg := isG_lt hC.1
  have hdl := dpt_le os
  have hol : os.length ≤ 2 * a := (hi.2.2.1 rfl).2
  have hlk := lk_lt hC a
  obtain ⟨d, rfl⟩ : ∃ d, D = d + 4 := ⟨D - 4, by omega⟩
  show ab_W (pg_G L xs) (ab_X (pg_G L xs) (d + 3)) 11 _ 0 [some (.ref b), some (zi ((dpt os : Nat) : Int)), none, none] [] (hp M ++ es)
  refine x_ld 0 1 2 1 rfl rfl rfl rfl rfl ?_
  refine x_ld 1 1 0 2 rfl rfl rfl rfl rfl ?_
  refine x_ce 78 12 5 [.ref b, zi ((dpt os : Nat) : Int)] rfl rfl rfl (Nat.le_of_ble_eq_true rfl) rfl rfl (Nat.le_of_ble_eq_true rfl) ⟨_, _, _, rfl, oG hC.1⟩ (Nat.le_of_ble_eq_true rfl) (hA (d + 3) (by omega) M a ps ls os hm trivial hC hR) rfl ?_
  rintro v M2 ⟨hF2, hv⟩
  rcases hv with ⟨rfl, hN⟩ | ⟨a2, ps2, p2, rfl, hlt, hR2, hC2⟩
  · obtain ⟨a9, ps9, ls9, os9, hR9, hN9⟩ := hN
    have ha9 : a9 ≤ x.1 := (inv_Rch hR9 (inv_s0 x)).1
    have h129 : M2.1 b 1 = (x.1 : Int) := (hF2.2.1 1 (by decide) (by decide)).trans hC.2.2.1
    refine x_st 2 1 2 6 [some (.ref b), some (zi ((dpt os : Nat) : Int)), some (.null), none] rfl rfl rfl (Nat.le_of_ble_eq_true rfl) rfl rfl ?_
    refine x_ld 0 1 2 7 rfl rfl rfl rfl rfl ?_
    refine x_cv 63 13 10 [.ref b] rfl rfl rfl (Nat.le_of_ble_eq_true rfl) rfl rfl (Nat.le_of_ble_eq_true rfl) ⟨_, _, _, rfl, oG hC.1⟩ (Nat.le_of_ble_eq_true rfl) (c13n (d + 2) hC hF2 hN9 ha9) rfl ?_
    refine x_st 3 1 0 11 [some (.ref b), some (zi ((dpt os : Nat) : Int)), some (.null), some (zi ((lk x a9 : Nat) : Int))] rfl rfl rfl (Nat.le_of_ble_eq_true rfl) rfl rfl ?_
    refine x_ld 2 1 2 12 rfl rfl rfl rfl rfl ?_
    refine x_nuT 27 rfl rfl ?_
    refine x_ld 2 1 2 28 rfl rfl rfl rfl rfl ?_
    refine x_ret rfl rfl rfl rfl ?_
    exact ⟨_, _, rfl, rfl, hF2, .inl ⟨rfl, a9, ps9, ls9, os9, hR9, hN9⟩⟩
  · have hR2b := Rch_step hR2 (me_b hok.1 hok.2)
    have hi2 := inv_Rch hR2b (inv_s0 x)
    have ha2 : a2 ≤ x.1 := hi2.1
    have hb2 : ps2.length + (p2 :: ls).length + eqc os ≤ 2 * a2 := hi2.2.1
    rw [List.length_cons] at hb2
    have hlk2 := lk_lt hC2 a2
    refine x_st 2 1 2 6 [some (.ref b), some (zi ((dpt os : Nat) : Int)), some (.ref (b + 3 + 9 * p2)), none] rfl rfl rfl (Nat.le_of_ble_eq_true rfl) rfl rfl ?_
    refine x_ld 0 1 2 7 rfl rfl rfl rfl rfl ?_
    refine x_cv 63 13 10 [.ref b] rfl rfl rfl (Nat.le_of_ble_eq_true rfl) rfl rfl (Nat.le_of_ble_eq_true rfl) ⟨_, _, _, rfl, oG hC.1⟩ (Nat.le_of_ble_eq_true rfl) (c13 (d + 2) hC2 (by omega)) rfl ?_
    refine x_st 3 1 0 11 [some (.ref b), some (zi ((dpt os : Nat) : Int)), some (.ref (b + 3 + 9 * p2)), some (zi ((lk x a2 : Nat) : Int))] rfl rfl rfl (Nat.le_of_ble_eq_true rfl) rfl rfl ?_
    refine x_ld 2 1 2 12 rfl rfl rfl rfl rfl ?_
    refine x_nuF 27 15 rfl rfl rfl ?_
    refine x_ld 3 1 0 16 rfl rfl rfl rfl rfl ?_
    refine x_cst (zi 42) 2 18 rfl rfl rfl ?_
    refine z_iceq 29 21 rfl rfl rfl ⟨by omega, by omega⟩ (rg_lit 42 rfl) (fun c18 => ?_) (fun c18 => ?_)
    · refine x_ld 0 1 2 30 rfl rfl rfl rfl rfl ?_
      refine x_dup 31 rfl rfl rfl ?_
      refine g_G_2 hC.1 19 34 rfl rfl hC2.2.2.2.2.1 rfl ?_
      refine x_cst (zi 1) 1 35 rfl rfl rfl ?_
      refine z_add 36 rfl rfl ?_
      rw [show ((a2 : Nat) : Int) + 1 = ((a2 + 1 : Nat) : Int) from (by omega)]
      refine s_G_2 hC.1 19 39 rfl rfl rfl rfl rfl rfl ?_
      refine x_ld 0 1 2 40 rfl rfl rfl rfl rfl ?_
      refine x_ld 3 1 0 41 rfl rfl rfl rfl rfl ?_
      refine x_cst (zi 42) 2 43 rfl rfl rfl ?_
      refine z_icne 51 46 rfl rfl rfl ⟨by omega, by omega⟩ (rg_lit 42 rfl) (fun c43 => ?_) (fun c43 => ?_)
      · refine x_cst (zi 8) 2 53 rfl rfl rfl ?_
        refine x_ld 2 1 2 54 rfl rfl rfl rfl rfl ?_
        refine x_ld 2 1 2 55 rfl rfl rfl rfl rfl ?_
        refine x_ld 0 1 2 56 rfl rfl rfl rfl rfl ?_
        refine g_G_2 hC.1 19 59 rfl rfl rd_eq rfl ?_
        refine x_cst (zi 1) 1 60 rfl rfl rfl ?_
        refine z_sub 61 rfl rfl ?_
        rw [show ((a2 + 1 : Nat) : Int) - 1 = ((a2 : Nat) : Int) from (by omega)]
        refine x_ce 67 15 64 [.ref b, zi 8, .ref (b + 3 + 9 * p2), .ref (b + 3 + 9 * p2), zi ((a2 : Nat) : Int)] rfl rfl rfl (Nat.le_of_ble_eq_true rfl) rfl rfl (Nat.le_of_ble_eq_true rfl) ⟨_, _, _, rfl, oG hC.1⟩ (Nat.le_of_ble_eq_true rfl) (c15 (M := (sI M2 b 2 ((a2 + 1 : Nat) : Int))) (K := 8) (pl := a2) (d + 1) (cR_at hC2 (a' := a2 + 1) rfl) (by have := (lk_in (x := x) (i := a2) (by omega)).1; omega) (pl' := a2) (by decide) (fun _ => rfl)) rfl ?_
        rintro v4 M4 ⟨rfl, hF4, hC4⟩
        refine x_ret rfl rfl rfl rfl ?_
        refine ⟨_, _, rfl, rfl, Frd_trans (Frd_trans hF2 (Frd_at hC.1 (.inl rfl))) hF4, .inr ⟨a2 + 1, _, ps2.length, rfl, by omega, ⟨3, .inr rfl, fun e => absurd e (by decide), Rch_step hR2b ((mb_star (by omega)).trans ?_)⟩, hC4⟩⟩
        rw [if_neg (by omega)]
      · refine x_cst (zi 7) 2 48 rfl rfl rfl ?_
        refine x_go 53 rfl rfl ?_
        refine x_ld 2 1 2 54 rfl rfl rfl rfl rfl ?_
        refine x_ld 2 1 2 55 rfl rfl rfl rfl rfl ?_
        refine x_ld 0 1 2 56 rfl rfl rfl rfl rfl ?_
        refine g_G_2 hC.1 19 59 rfl rfl rd_eq rfl ?_
        refine x_cst (zi 1) 1 60 rfl rfl rfl ?_
        refine z_sub 61 rfl rfl ?_
        rw [show ((a2 + 1 : Nat) : Int) - 1 = ((a2 : Nat) : Int) from (by omega)]
        refine x_ce 67 15 64 [.ref b, zi 7, .ref (b + 3 + 9 * p2), .ref (b + 3 + 9 * p2), zi ((a2 : Nat) : Int)] rfl rfl rfl (Nat.le_of_ble_eq_true rfl) rfl rfl (Nat.le_of_ble_eq_true rfl) ⟨_, _, _, rfl, oG hC.1⟩ (Nat.le_of_ble_eq_true rfl) (c15 (M := (sI M2 b 2 ((a2 + 1 : Nat) : Int))) (K := 7) (pl := a2) (d + 1) (cR_at hC2 (a' := a2 + 1) rfl) (by have := (lk_in (x := x) (i := a2) (by omega)).1; omega) (pl' := a2) (by decide) (fun _ => rfl)) rfl ?_
        rintro v4 M4 ⟨rfl, hF4, hC4⟩
        refine x_ret rfl rfl rfl rfl ?_
        refine ⟨_, _, rfl, rfl, Frd_trans (Frd_trans hF2 (Frd_at hC.1 (.inl rfl))) hF4, .inr ⟨a2 + 1, _, ps2.length, rfl, by omega, ⟨3, .inr rfl, fun e => absurd e (by decide), Rch_step hR2b ((mb_star (by omega)).trans ?_)⟩, hC4⟩⟩
        rw [if_pos (by omega)]
    · refine x_ld 3 1 0 22 rfl rfl rfl rfl rfl ?_
      refine x_cst (zi 37) 2 24 rfl rfl rfl ?_
      refine z_iceq 29 27 rfl rfl rfl ⟨by omega, by omega⟩ (rg_lit 37 rfl) (fun c24 => ?_) (fun c24 => ?_)
      · refine x_ld 0 1 2 30 rfl rfl rfl rfl rfl ?_
        refine x_dup 31 rfl rfl rfl ?_
        refine g_G_2 hC.1 19 34 rfl rfl hC2.2.2.2.2.1 rfl ?_
        refine x_cst (zi 1) 1 35 rfl rfl rfl ?_
        refine z_add 36 rfl rfl ?_
        rw [show ((a2 : Nat) : Int) + 1 = ((a2 + 1 : Nat) : Int) from (by omega)]
        refine s_G_2 hC.1 19 39 rfl rfl rfl rfl rfl rfl ?_
        refine x_ld 0 1 2 40 rfl rfl rfl rfl rfl ?_
        refine x_ld 3 1 0 41 rfl rfl rfl rfl rfl ?_
        refine x_cst (zi 42) 2 43 rfl rfl rfl ?_
        refine z_icne 51 46 rfl rfl rfl ⟨by omega, by omega⟩ (rg_lit 42 rfl) (fun c43 => ?_) (fun c43 => ?_)
        · refine x_cst (zi 8) 2 53 rfl rfl rfl ?_
          refine x_ld 2 1 2 54 rfl rfl rfl rfl rfl ?_
          refine x_ld 2 1 2 55 rfl rfl rfl rfl rfl ?_
          refine x_ld 0 1 2 56 rfl rfl rfl rfl rfl ?_
          refine g_G_2 hC.1 19 59 rfl rfl rd_eq rfl ?_
          refine x_cst (zi 1) 1 60 rfl rfl rfl ?_
          refine z_sub 61 rfl rfl ?_
          rw [show ((a2 + 1 : Nat) : Int) - 1 = ((a2 : Nat) : Int) from (by omega)]
          refine x_ce 67 15 64 [.ref b, zi 8, .ref (b + 3 + 9 * p2), .ref (b + 3 + 9 * p2), zi ((a2 : Nat) : Int)] rfl rfl rfl (Nat.le_of_ble_eq_true rfl) rfl rfl (Nat.le_of_ble_eq_true rfl) ⟨_, _, _, rfl, oG hC.1⟩ (Nat.le_of_ble_eq_true rfl) (c15 (M := (sI M2 b 2 ((a2 + 1 : Nat) : Int))) (K := 8) (pl := a2) (d + 1) (cR_at hC2 (a' := a2 + 1) rfl) (by have := (lk_in (x := x) (i := a2) (by omega)).1; omega) (pl' := a2) (by decide) (fun _ => rfl)) rfl ?_
          rintro v4 M4 ⟨rfl, hF4, hC4⟩
          refine x_ret rfl rfl rfl rfl ?_
          refine ⟨_, _, rfl, rfl, Frd_trans (Frd_trans hF2 (Frd_at hC.1 (.inl rfl))) hF4, .inr ⟨a2 + 1, _, ps2.length, rfl, by omega, ⟨3, .inr rfl, fun e => absurd e (by decide), Rch_step hR2b ((mb_star (by omega)).trans ?_)⟩, hC4⟩⟩
          rw [if_neg (by omega)]
        · refine x_cst (zi 7) 2 48 rfl rfl rfl ?_
          refine x_go 53 rfl rfl ?_
          refine x_ld 2 1 2 54 rfl rfl rfl rfl rfl ?_
          refine x_ld 2 1 2 55 rfl rfl rfl rfl rfl ?_
          refine x_ld 0 1 2 56 rfl rfl rfl rfl rfl ?_
          refine g_G_2 hC.1 19 59 rfl rfl rd_eq rfl ?_
          refine x_cst (zi 1) 1 60 rfl rfl rfl ?_
          refine z_sub 61 rfl rfl ?_
          rw [show ((a2 + 1 : Nat) : Int) - 1 = ((a2 : Nat) : Int) from (by omega)]
          refine x_ce 67 15 64 [.ref b, zi 7, .ref (b + 3 + 9 * p2), .ref (b + 3 + 9 * p2), zi ((a2 : Nat) : Int)] rfl rfl rfl (Nat.le_of_ble_eq_true rfl) rfl rfl (Nat.le_of_ble_eq_true rfl) ⟨_, _, _, rfl, oG hC.1⟩ (Nat.le_of_ble_eq_true rfl) (c15 (M := (sI M2 b 2 ((a2 + 1 : Nat) : Int))) (K := 7) (pl := a2) (d + 1) (cR_at hC2 (a' := a2 + 1) rfl) (by have := (lk_in (x := x) (i := a2) (by omega)).1; omega) (pl' := a2) (by decide) (fun _ => rfl)) rfl ?_
          rintro v4 M4 ⟨rfl, hF4, hC4⟩
          refine x_ret rfl rfl rfl rfl ?_
          refine ⟨_, _, rfl, rfl, Frd_trans (Frd_trans hF2 (Frd_at hC.1 (.inl rfl))) hF4, .inr ⟨a2 + 1, _, ps2.length, rfl, by omega, ⟨3, .inr rfl, fun e => absurd e (by decide), Rch_step hR2b ((mb_star (by omega)).trans ?_)⟩, hC4⟩⟩
          rw [if_pos (by omega)]
      · refine x_ld 2 1 2 28 rfl rfl rfl rfl rfl ?_
        refine x_ret rfl rfl rfl rfl ?_
        exact ⟨_, _, rfl, rfl, hF2, .inr ⟨a2, ps2, p2, rfl, hlt, ⟨2, .inl rfl, fun _ => by omega, hR2b⟩, hC2⟩⟩
theorem c10_loop {a0 ls0 : Nat} (hI : ∀ m', m' < x.1 - a0 → ∀ D, 6 * m' + 5 ≤ D → cP L xs es b x 11 okP (rsP x) D m') {d : Nat} (hd : 6 * (x.1 - a0) + 5 ≤ d + 9) {M : mm} {ls : List Nat} {os : List opn} (hok : okC a0 os) {o4 : Option Value} {Q : ab_Q} (kk : ∀ v M', Frd b M M' → ((v = some .null ∧ rN b x M') ∨ ∃ a' ps' p, v = some (.ref (b + 3 + 9 * p)) ∧ a0 < a' ∧ rsC x a' ps' p ls os ∧ cR b M' x a' ps') → Q (.inl v) (hp M' ++ es)) : ∀ m a i : Nat, x.1 - a = m → a0 < a → i < a → ∀ (ps : List (prt × Nat)) (p : Nat) (M' : mm) (o4 : Option Value), Frd b M M' → cR b M' x a ps → Rch x s0 (4, a, ps, p :: ls, os) → ab_W (pg_G L xs) (ab_X (pg_G L xs) (d + 3)) 10 Q 8 [some (.ref b), some (zi (dpt os : Nat)), some (.ref (b + 3 + 9 * p)), some (zi (i : Nat)), o4] [] (hp M' ++ es) := by
  intro m
  induction m using Nat.strongRecOn with
  | _ m ih =>
    intro a i hm ha0 hia ps p M' o4 hF hC hR
    have hi := inv_Rch hR (inv_s0 x)
    have h1 : a ≤ x.1 := hi.1
    have h16 := hC.2.1
    have hg := isG_lt hC.1
    have hlk := lk_lt hC a
    have hol : os.length + 1 ≤ 2 * a := (hi.2.2.2.1 (show 1 ≤ 4 by decide) (show 4 ≤ 5 by decide)).2
    have hdl := dpt_le os
    refine x_ld 3 1 0 9 rfl rfl rfl rfl rfl ?_
    refine x_cst (zi 16) 2 11 rfl rfl rfl ?_
    refine z_icge 54 14 rfl rfl rfl ⟨by omega, by omega⟩ (rg_lit 16 rfl) (fun c => absurd c (by omega)) (fun _ => ?_)
    refine x_ld 2 1 2 15 rfl rfl rfl rfl rfl ?_
    refine x_nuF 54 18 rfl rfl rfl ?_
    refine x_ld 0 1 2 19 rfl rfl rfl rfl rfl ?_
    refine x_cv 63 13 22 [.ref b] rfl rfl rfl (Nat.le_of_ble_eq_true rfl) rfl rfl (Nat.le_of_ble_eq_true rfl) ⟨_, _, _, rfl, oG hC.1⟩ (Nat.le_of_ble_eq_true rfl) (c13 (d + 2) hC (by omega)) rfl ?_
    refine x_cv 74 20 25 [zi ((lk x a : Nat) : Int)] rfl rfl rfl (Nat.le_of_ble_eq_true rfl) rfl rfl (Nat.le_of_ble_eq_true rfl) trivial (Nat.le_of_ble_eq_true rfl) (c20 (d + 1) (c := lk x a) (by omega)) rfl ?_
    rcases Bool.eq_false_or_eq_true (sat (lk x a)) with hs | hs
    · rw [hs]
      have hin := lk_in (x := x) (i := a) (fun e => by rw [e] at hs; revert hs; decide)
      refine z_ifeq 54 28 rfl rfl rfl (rg_lit 1 rfl) (fun c => absurd c (by decide)) (fun _ => ?_)
      refine x_ld 0 1 2 29 rfl rfl rfl rfl rfl ?_
      refine g_G_2 hC.1 19 32 rfl rfl hC.2.2.2.2.1 rfl ?_
      refine x_st 4 2 0 34 [some (.ref b), some (zi ((dpt os : Nat) : Int)), some (.ref (b + 3 + 9 * p)), some (zi ((i : Nat) : Int)), some (zi ((a : Nat) : Int))] rfl rfl rfl (Nat.le_of_ble_eq_true rfl) rfl rfl ?_
      refine x_ld 0 1 2 35 rfl rfl rfl rfl rfl ?_
      refine x_cst (zi 5) 1 36 rfl rfl rfl ?_
      refine x_ld 2 1 2 37 rfl rfl rfl rfl rfl ?_
      refine x_ld 0 1 2 38 rfl rfl rfl rfl rfl ?_
      refine x_ld 1 1 0 39 rfl rfl rfl rfl rfl ?_
      refine x_ce 71 11 42 [.ref b, zi ((dpt os : Nat) : Int)] rfl rfl rfl (Nat.le_of_ble_eq_true rfl) rfl rfl (Nat.le_of_ble_eq_true rfl) ⟨_, _, _, rfl, oG hC.1⟩ (Nat.le_of_ble_eq_true rfl) (hI (x.1 - a) (by omega) (d + 3) (by omega) M' a ps (p :: ls) ((4, a, 2) :: os) rfl ⟨rfl, rfl⟩ hC (Rch_step hR (mc_at hs))) rfl ?_
      rintro v M2 ⟨hF2, hv⟩
      rcases hv with ⟨rfl, hN⟩ | ⟨a2, ps2, p2, rfl, hlt, ⟨m2, hm2, hst2, hR2⟩, hC2⟩
      · refine x_ld 4 2 0 44 rfl rfl rfl rfl rfl ?_
        refine x_cv 67 15 47 [.ref b, zi 5, .ref (b + 3 + 9 * p), .null, zi ((a : Nat) : Int)] rfl rfl rfl (Nat.le_of_ble_eq_true rfl) rfl rfl (Nat.le_of_ble_eq_true rfl) ⟨_, _, _, rfl, oG hC.1⟩ (Nat.le_of_ble_eq_true rfl) (c15n (d + 2) hC.1) rfl ?_
        refine x_st 2 1 2 48 [some (.ref b), some (zi ((dpt os : Nat) : Int)), some (.null), some (zi ((i : Nat) : Int)), some (zi ((a : Nat) : Int))] rfl rfl rfl (Nat.le_of_ble_eq_true rfl) rfl rfl ?_
        refine z_inc 3 51 [some (.ref b), some (zi ((dpt os : Nat) : Int)), some (.null), some (zi (((i : Nat) : Int) + 1)), some (zi ((a : Nat) : Int))] rfl rfl (Nat.le_of_ble_eq_true rfl) rfl rfl ?_
        refine x_go 8 rfl rfl ?_
        refine x_ld 3 1 0 9 rfl rfl rfl rfl rfl ?_
        refine x_cst (zi 16) 2 11 rfl rfl rfl ?_
        refine z_icge 54 14 rfl rfl rfl ⟨by omega, by omega⟩ (rg_lit 16 rfl) (fun c11n => ?_) (fun c11n => ?_)
        · refine x_ld 2 1 2 55 rfl rfl rfl rfl rfl ?_
          refine x_ret rfl rfl rfl rfl ?_
          exact kk _ _ (Frd_trans hF hF2) (.inl ⟨rfl, hN⟩)
        · refine x_ld 2 1 2 15 rfl rfl rfl rfl rfl ?_
          refine x_nuT 54 rfl rfl ?_
          refine x_ld 2 1 2 55 rfl rfl rfl rfl rfl ?_
          refine x_ret rfl rfl rfl rfl ?_
          exact kk _ _ (Frd_trans hF hF2) (.inl ⟨rfl, hN⟩)
      · have hi2 := inv_Rch hR2 (inv_s0 x)
        have ha2 : a2 ≤ x.1 := hi2.1
        have hb2 : ps2.length + (p2 :: p :: ls).length + eqc ((4, a, 2) :: os) ≤ 2 * a2 := hi2.2.1
        rw [List.length_cons, List.length_cons] at hb2
        refine x_ld 4 2 0 44 rfl rfl rfl rfl rfl ?_
        refine x_ce 67 15 47 [.ref b, zi 5, .ref (b + 3 + 9 * p), .ref (b + 3 + 9 * p2), zi ((a : Nat) : Int)] rfl rfl rfl (Nat.le_of_ble_eq_true rfl) rfl rfl (Nat.le_of_ble_eq_true rfl) ⟨_, _, _, rfl, oG hC.1⟩ (Nat.le_of_ble_eq_true rfl) (c15 (K := 5) (pl := a) (d + 1) hC2 (by omega) (pl' := a) (by decide) (fun _ => rfl)) rfl ?_
        rintro v4 M4 ⟨rfl, hF4, hC4⟩
        refine x_st 2 1 2 48 [some (.ref b), some (zi ((dpt os : Nat) : Int)), some (.ref (b + 3 + 9 * ps2.length)), some (zi ((i : Nat) : Int)), some (zi ((a : Nat) : Int))] rfl rfl rfl (Nat.le_of_ble_eq_true rfl) rfl rfl ?_
        refine z_inc 3 51 [some (.ref b), some (zi ((dpt os : Nat) : Int)), some (.ref (b + 3 + 9 * ps2.length)), some (zi (((i : Nat) : Int) + 1)), some (zi ((a : Nat) : Int))] rfl rfl (Nat.le_of_ble_eq_true rfl) rfl rfl ?_
        refine x_go 8 rfl rfl ?_
        exact ih (x.1 - a2) (by omega) a2 (i + 1) rfl (by omega) (by omega) _ ps2.length M4 _ (Frd_trans (Frd_trans hF hF2) hF4) hC4 (Rch_step hR2 (mb_j hm2 hst2))
    · rw [hs]
      refine z_ifeq 54 28 rfl rfl rfl (rg_lit 0 rfl) (fun _ => ?_) (fun c => absurd c (by decide))
      refine x_ld 2 1 2 55 rfl rfl rfl rfl rfl ?_
      refine x_ret rfl rfl rfl rfl ?_
      exact kk _ _ hF (.inr ⟨a, ps, p, rfl, ha0, ⟨hs, hR⟩, hC⟩)
theorem c10 {m : Nat} (hI0 : ∀ D, 6 * m + 5 ≤ D → cP L xs es b x 11 okP (rsP x) D m) (hI : ∀ m', m' < m → ∀ D, 6 * m' + 5 ≤ D → cP L xs es b x 11 okP (rsP x) D m') : ∀ D, 6 * m + 6 ≤ D → cP L xs es b x 10 okC (rsC x) D m := by
  intro D hD M a ps ls os hm hok hC hR
  have hi := inv_Rch hR (inv_s0 x)
  have h1 : a ≤ x.1 := hi.1
  have h2 : ps.length + ls.length + eqc os ≤ 2 * a := hi.2.1
  have h16 := hC.2.1
  have hg := isG_lt hC.1
  have hdl := dpt_le os
  have hol : os.length ≤ 2 * a := (hi.2.2.1 rfl).2
  have hlk := lk_lt hC a
  obtain ⟨d, rfl⟩ : ∃ d, D = d + 4 := ⟨D - 4, by omega⟩
  show ab_W (pg_G L xs) (ab_X (pg_G L xs) (d + 3)) 10 _ 0 [some (.ref b), some (zi ((dpt os : Nat) : Int)), none, none, none] [] (hp M ++ es)
  refine x_ld 0 1 2 1 rfl rfl rfl rfl rfl ?_
  refine x_ld 1 1 0 2 rfl rfl rfl rfl rfl ?_
  refine x_ce 71 11 5 [.ref b, zi ((dpt os : Nat) : Int)] rfl rfl rfl (Nat.le_of_ble_eq_true rfl) rfl rfl (Nat.le_of_ble_eq_true rfl) ⟨_, _, _, rfl, oG hC.1⟩ (Nat.le_of_ble_eq_true rfl) (hI0 (d + 3) (by omega) M a ps ls os hm ⟨hok.1, hok.2.1⟩ hC hR) rfl ?_
  rintro v M2 ⟨hF2, hv⟩
  rcases hv with ⟨rfl, hN⟩ | ⟨a2, ps2, p2, rfl, hlt, ⟨m2, hm2, hst2, hR2⟩, hC2⟩
  · refine x_st 2 1 2 6 [some (.ref b), some (zi ((dpt os : Nat) : Int)), some (.null), none, none] rfl rfl rfl (Nat.le_of_ble_eq_true rfl) rfl rfl ?_
    refine x_cst (zi 0) 1 7 rfl rfl rfl ?_
    refine x_st 3 1 0 8 [some (.ref b), some (zi ((dpt os : Nat) : Int)), some (.null), some (zi 0), none] rfl rfl rfl (Nat.le_of_ble_eq_true rfl) rfl rfl ?_
    refine x_ld 3 1 0 9 rfl rfl rfl rfl rfl ?_
    refine x_cst (zi 16) 2 11 rfl rfl rfl ?_
    refine z_icge 54 14 rfl rfl rfl (rg_lit 0 rfl) (rg_lit 16 rfl) (fun c => absurd c (by decide)) (fun _ => ?_)
    refine x_ld 2 1 2 15 rfl rfl rfl rfl rfl ?_
    refine x_nuT 54 rfl rfl ?_
    refine x_ld 2 1 2 55 rfl rfl rfl rfl rfl ?_
    refine x_ret rfl rfl rfl rfl ?_
    exact ⟨_, _, rfl, rfl, hF2, .inl ⟨rfl, hN⟩⟩
  · refine x_st 2 1 2 6 [some (.ref b), some (zi ((dpt os : Nat) : Int)), some (.ref (b + 3 + 9 * p2)), none, none] rfl rfl rfl (Nat.le_of_ble_eq_true rfl) rfl rfl ?_
    refine x_cst (zi 0) 1 7 rfl rfl rfl ?_
    refine x_st 3 1 0 8 [some (.ref b), some (zi ((dpt os : Nat) : Int)), some (.ref (b + 3 + 9 * p2)), some (zi 0), none] rfl rfl rfl (Nat.le_of_ble_eq_true rfl) rfl rfl ?_
    exact c10_loop (a0 := a) (ls0 := 0) (fun m' hm' => hI m' (by omega)) (by omega) (M := M) hok (o4 := none) (fun v M' hF h => ⟨v, M', rfl, rfl, hF, h⟩) _ a2 0 rfl hlt (by omega) ps2 p2 M2 none hF2 hC2 (Rch_step hR2 (mb_c hm2 hst2 hok.2.2))
theorem c9_loop {a0 ls0 : Nat} (hI : ∀ m', m' < x.1 - a0 → ∀ D, 6 * m' + 6 ≤ D → cP L xs es b x 10 okC (rsC x) D m') {d : Nat} (hd : 6 * (x.1 - a0) + 6 ≤ d + 9) {M : mm} {ls : List Nat} {os : List opn} (hok : okU a0 os) {o4 : Option Value} {Q : ab_Q} (kk : ∀ v M', Frd b M M' → ((v = some .null ∧ rN b x M') ∨ ∃ a' ps' p, v = some (.ref (b + 3 + 9 * p)) ∧ a0 < a' ∧ rsU x a' ps' p ls os ∧ cR b M' x a' ps') → Q (.inl v) (hp M' ++ es)) : ∀ m a i : Nat, x.1 - a = m → a0 < a → i < a → ∀ (ps : List (prt × Nat)) (p : Nat) (M' : mm) (o4 : Option Value), Frd b M M' → cR b M' x a ps → Rch x s0 (5, a, ps, p :: ls, os) → sat (lk x a) = false → ab_W (pg_G L xs) (ab_X (pg_G L xs) (d + 3)) 9 Q 8 [some (.ref b), some (zi (dpt os : Nat)), some (.ref (b + 3 + 9 * p)), some (zi (i : Nat)), o4] [] (hp M' ++ es) := by
  intro m
  induction m using Nat.strongRecOn with
  | _ m ih =>
    intro a i hm ha0 hia ps p M' o4 hF hC hR hsat
    have hi := inv_Rch hR (inv_s0 x)
    have h1 : a ≤ x.1 := hi.1
    have h16 := hC.2.1
    have hg := isG_lt hC.1
    have hlk := lk_lt hC a
    have hol : os.length + 1 ≤ 2 * a := (hi.2.2.2.1 (show 1 ≤ 5 by decide) (show 5 ≤ 5 by decide)).2
    have hdl := dpt_le os
    refine x_ld 3 1 0 9 rfl rfl rfl rfl rfl ?_
    refine x_cst (zi 16) 2 11 rfl rfl rfl ?_
    refine z_icge 63 14 rfl rfl rfl ⟨by omega, by omega⟩ (rg_lit 16 rfl) (fun c => absurd c (by omega)) (fun _ => ?_)
    refine x_ld 2 1 2 15 rfl rfl rfl rfl rfl ?_
    refine x_nuF 63 18 rfl rfl rfl ?_
    refine x_ld 0 1 2 19 rfl rfl rfl rfl rfl ?_
    refine x_cv 63 13 22 [.ref b] rfl rfl rfl (Nat.le_of_ble_eq_true rfl) rfl rfl (Nat.le_of_ble_eq_true rfl) ⟨_, _, _, rfl, oG hC.1⟩ (Nat.le_of_ble_eq_true rfl) (c13 (d + 2) hC (by omega)) rfl ?_
    refine x_cst (zi 124) 2 24 rfl rfl rfl ?_
    refine z_icne 63 27 rfl rfl rfl ⟨by omega, by omega⟩ (rg_lit 124 rfl) (fun c24 => ?_) (fun c24 => ?_)
    · refine x_ld 2 1 2 64 rfl rfl rfl rfl rfl ?_
      refine x_ret rfl rfl rfl rfl ?_
      exact kk _ _ hF (.inr ⟨a, ps, p, rfl, ha0, ⟨by omega, hR⟩, hC⟩)
    · refine x_ld 0 1 2 28 rfl rfl rfl rfl rfl ?_
      refine g_G_2 hC.1 19 31 rfl rfl hC.2.2.2.2.1 rfl ?_
      refine x_st 4 2 0 33 [some (.ref b), some (zi ((dpt os : Nat) : Int)), some (.ref (b + 3 + 9 * p)), some (zi ((i : Nat) : Int)), some (zi ((a : Nat) : Int))] rfl rfl rfl (Nat.le_of_ble_eq_true rfl) rfl rfl ?_
      refine x_ld 0 1 2 34 rfl rfl rfl rfl rfl ?_
      refine x_dup 35 rfl rfl rfl ?_
      refine g_G_2 hC.1 19 38 rfl rfl hC.2.2.2.2.1 rfl ?_
      refine x_cst (zi 1) 1 39 rfl rfl rfl ?_
      refine z_add 40 rfl rfl ?_
      rw [show ((a : Nat) : Int) + 1 = ((a + 1 : Nat) : Int) from (by omega)]
      refine s_G_2 hC.1 19 43 rfl rfl rfl rfl rfl rfl ?_
      refine x_ld 0 1 2 44 rfl rfl rfl rfl rfl ?_
      refine x_cst (zi 4) 1 45 rfl rfl rfl ?_
      refine x_ld 2 1 2 46 rfl rfl rfl rfl rfl ?_
      refine x_ld 0 1 2 47 rfl rfl rfl rfl rfl ?_
      refine x_ld 1 1 0 48 rfl rfl rfl rfl rfl ?_
      refine x_ce 60 10 51 [.ref b, zi ((dpt os : Nat) : Int)] rfl rfl rfl (Nat.le_of_ble_eq_true rfl) rfl rfl (Nat.le_of_ble_eq_true rfl) ⟨_, _, _, rfl, oG hC.1⟩ (Nat.le_of_ble_eq_true rfl) (hI (x.1 - (a + 1)) (by omega) (d + 3) (by omega) (sI M' b 2 ((a + 1 : Nat) : Int)) (a + 1) ps (p :: ls) ((7, a, 2) :: os) rfl ⟨rfl, rfl, rfl⟩ (cR_at hC rfl) (Rch_step hR (md_or (by omega)))) rfl ?_
      rintro v M2 ⟨hF2, hv⟩
      rcases hv with ⟨rfl, hN⟩ | ⟨a2, ps2, p2, rfl, hlt, ⟨hsat2, hR2⟩, hC2⟩
      · refine x_ld 4 2 0 53 rfl rfl rfl rfl rfl ?_
        refine x_cv 67 15 56 [.ref b, zi 4, .ref (b + 3 + 9 * p), .null, zi ((a : Nat) : Int)] rfl rfl rfl (Nat.le_of_ble_eq_true rfl) rfl rfl (Nat.le_of_ble_eq_true rfl) ⟨_, _, _, rfl, oG hC.1⟩ (Nat.le_of_ble_eq_true rfl) (c15n (d + 2) hC.1) rfl ?_
        refine x_st 2 1 2 57 [some (.ref b), some (zi ((dpt os : Nat) : Int)), some (.null), some (zi ((i : Nat) : Int)), some (zi ((a : Nat) : Int))] rfl rfl rfl (Nat.le_of_ble_eq_true rfl) rfl rfl ?_
        refine z_inc 3 60 [some (.ref b), some (zi ((dpt os : Nat) : Int)), some (.null), some (zi (((i : Nat) : Int) + 1)), some (zi ((a : Nat) : Int))] rfl rfl (Nat.le_of_ble_eq_true rfl) rfl rfl ?_
        refine x_go 8 rfl rfl ?_
        refine x_ld 3 1 0 9 rfl rfl rfl rfl rfl ?_
        refine x_cst (zi 16) 2 11 rfl rfl rfl ?_
        refine z_icge 63 14 rfl rfl rfl ⟨by omega, by omega⟩ (rg_lit 16 rfl) (fun c11n => ?_) (fun c11n => ?_)
        · refine x_ld 2 1 2 64 rfl rfl rfl rfl rfl ?_
          refine x_ret rfl rfl rfl rfl ?_
          exact kk _ _ (Frd_trans (Frd_trans hF (Frd_at hC.1 (.inl rfl))) hF2) (.inl ⟨rfl, hN⟩)
        · refine x_ld 2 1 2 15 rfl rfl rfl rfl rfl ?_
          refine x_nuT 63 rfl rfl ?_
          refine x_ld 2 1 2 64 rfl rfl rfl rfl rfl ?_
          refine x_ret rfl rfl rfl rfl ?_
          exact kk _ _ (Frd_trans (Frd_trans hF (Frd_at hC.1 (.inl rfl))) hF2) (.inl ⟨rfl, hN⟩)
      · have hi2 := inv_Rch hR2 (inv_s0 x)
        have ha2 : a2 ≤ x.1 := hi2.1
        have hb2 : ps2.length + (p2 :: p :: ls).length + eqc ((7, a, 2) :: os) ≤ 2 * a2 := hi2.2.1
        rw [List.length_cons, List.length_cons] at hb2
        refine x_ld 4 2 0 53 rfl rfl rfl rfl rfl ?_
        refine x_ce 67 15 56 [.ref b, zi 4, .ref (b + 3 + 9 * p), .ref (b + 3 + 9 * p2), zi ((a : Nat) : Int)] rfl rfl rfl (Nat.le_of_ble_eq_true rfl) rfl rfl (Nat.le_of_ble_eq_true rfl) ⟨_, _, _, rfl, oG hC.1⟩ (Nat.le_of_ble_eq_true rfl) (c15 (K := 4) (pl := a) (d + 1) hC2 (by omega) (pl' := a) (by decide) (fun _ => rfl)) rfl ?_
        rintro v4 M4 ⟨rfl, hF4, hC4⟩
        refine x_st 2 1 2 57 [some (.ref b), some (zi ((dpt os : Nat) : Int)), some (.ref (b + 3 + 9 * ps2.length)), some (zi ((i : Nat) : Int)), some (zi ((a : Nat) : Int))] rfl rfl rfl (Nat.le_of_ble_eq_true rfl) rfl rfl ?_
        refine z_inc 3 60 [some (.ref b), some (zi ((dpt os : Nat) : Int)), some (.ref (b + 3 + 9 * ps2.length)), some (zi (((i : Nat) : Int) + 1)), some (zi ((a : Nat) : Int))] rfl rfl (Nat.le_of_ble_eq_true rfl) rfl rfl ?_
        refine x_go 8 rfl rfl ?_
        exact ih (x.1 - a2) (by omega) a2 (i + 1) rfl (by omega) (by omega) _ ps2.length M4 _ (Frd_trans (Frd_trans (Frd_trans hF (Frd_at hC.1 (.inl rfl))) hF2) hF4) hC4 (Rch_step hR2 (mc_or hsat2)) hsat2
theorem c9 {m : Nat} (hI0 : ∀ D, 6 * m + 6 ≤ D → cP L xs es b x 10 okC (rsC x) D m) (hI : ∀ m', m' < m → ∀ D, 6 * m' + 6 ≤ D → cP L xs es b x 10 okC (rsC x) D m') : ∀ D, 6 * m + 7 ≤ D → cP L xs es b x 9 okU (rsU x) D m := by
  intro D hD M a ps ls os hm hok hC hR
  have hi := inv_Rch hR (inv_s0 x)
  have h1 : a ≤ x.1 := hi.1
  have h2 : ps.length + ls.length + eqc os ≤ 2 * a := hi.2.1
  have h16 := hC.2.1
  have hg := isG_lt hC.1
  have hdl := dpt_le os
  have hol : os.length ≤ 2 * a := (hi.2.2.1 rfl).2
  have hlk := lk_lt hC a
  obtain ⟨d, rfl⟩ : ∃ d, D = d + 4 := ⟨D - 4, by omega⟩
  show ab_W (pg_G L xs) (ab_X (pg_G L xs) (d + 3)) 9 _ 0 [some (.ref b), some (zi ((dpt os : Nat) : Int)), none, none, none] [] (hp M ++ es)
  refine x_ld 0 1 2 1 rfl rfl rfl rfl rfl ?_
  refine x_ld 1 1 0 2 rfl rfl rfl rfl rfl ?_
  refine x_ce 60 10 5 [.ref b, zi ((dpt os : Nat) : Int)] rfl rfl rfl (Nat.le_of_ble_eq_true rfl) rfl rfl (Nat.le_of_ble_eq_true rfl) ⟨_, _, _, rfl, oG hC.1⟩ (Nat.le_of_ble_eq_true rfl) (hI0 (d + 3) (by omega) M a ps ls os hm ⟨hok.1, hok.2.1, hok.2.2.1⟩ hC hR) rfl ?_
  rintro v M2 ⟨hF2, hv⟩
  rcases hv with ⟨rfl, hN⟩ | ⟨a2, ps2, p2, rfl, hlt, ⟨hsat2, hR2⟩, hC2⟩
  · refine x_st 2 1 2 6 [some (.ref b), some (zi ((dpt os : Nat) : Int)), some (.null), none, none] rfl rfl rfl (Nat.le_of_ble_eq_true rfl) rfl rfl ?_
    refine x_cst (zi 0) 1 7 rfl rfl rfl ?_
    refine x_st 3 1 0 8 [some (.ref b), some (zi ((dpt os : Nat) : Int)), some (.null), some (zi 0), none] rfl rfl rfl (Nat.le_of_ble_eq_true rfl) rfl rfl ?_
    refine x_ld 3 1 0 9 rfl rfl rfl rfl rfl ?_
    refine x_cst (zi 16) 2 11 rfl rfl rfl ?_
    refine z_icge 63 14 rfl rfl rfl (rg_lit 0 rfl) (rg_lit 16 rfl) (fun c => absurd c (by decide)) (fun _ => ?_)
    refine x_ld 2 1 2 15 rfl rfl rfl rfl rfl ?_
    refine x_nuT 63 rfl rfl ?_
    refine x_ld 2 1 2 64 rfl rfl rfl rfl rfl ?_
    refine x_ret rfl rfl rfl rfl ?_
    exact ⟨_, _, rfl, rfl, hF2, .inl ⟨rfl, hN⟩⟩
  · refine x_st 2 1 2 6 [some (.ref b), some (zi ((dpt os : Nat) : Int)), some (.ref (b + 3 + 9 * p2)), none, none] rfl rfl rfl (Nat.le_of_ble_eq_true rfl) rfl rfl ?_
    refine x_cst (zi 0) 1 7 rfl rfl rfl ?_
    refine x_st 3 1 0 8 [some (.ref b), some (zi ((dpt os : Nat) : Int)), some (.ref (b + 3 + 9 * p2)), some (zi 0), none] rfl rfl rfl (Nat.le_of_ble_eq_true rfl) rfl rfl ?_
    exact c9_loop (a0 := a) (ls0 := 0) (fun m' hm' => hI m' (by omega)) (by omega) (M := M) hok (o4 := none) (fun v M' hF h => ⟨v, M', rfl, rfl, hF, h⟩) _ a2 0 rfl hlt (by omega) ps2 p2 M2 none hF2 hC2 (Rch_step hR2 (mc_d hsat2 hok.2.2.2)) hsat2
theorem parse_all : ∀ m, (∀ D, 6 * m + 4 ≤ D → cP L xs es b x 12 okA (rsA x) D m) ∧ (∀ D, 6 * m + 5 ≤ D → cP L xs es b x 11 okP (rsP x) D m) ∧ (∀ D, 6 * m + 6 ≤ D → cP L xs es b x 10 okC (rsC x) D m) ∧ (∀ D, 6 * m + 7 ≤ D → cP L xs es b x 9 okU (rsU x) D m) := by
  intro m
  induction m using Nat.strongRecOn with
  | _ m ih =>
    have a1 := c12 (fun m' h => (ih m' h).1) (fun m' h => (ih m' h).2.2.2)
    have a2 := c11 a1
    have a3 := c10 a2 (fun m' h => (ih m' h).2.1)
    exact ⟨a1, a2, a3, c9 a3 (fun m' h => (ih m' h).2.2.1)⟩
end C31
