/-! OURS, printed by wip/tools/gen991.py: the reference's parser runs the machine. -/
/-- kinds and wants of what is open -/
def opI (os : List opn) : Prop := ∀ o ∈ os, o.1 < 100 ∧ (o.2.2 = 1 ∨ o.2.2 = 2)
theorem opI_cons {o : opn} {os : List opn} (h : opI os) (ho : o.1 < 100 ∧ (o.2.2 = 1 ∨ o.2.2 = 2)) : opI (o :: os) := fun o' h' => by
  rcases List.mem_cons.mp h' with e | e
  · subst e; exact ho
  · exact h o' e
theorem opI_tail {os : List opn} (h : opI os) : opI os.tail := fun o ho => h o (List.mem_of_mem_tail ho)
theorem opI_step {x : lne} {s : pst} (h : opI s.2.2.2.2) : opI (mstep x s).2.2.2.2 := by
  obtain ⟨m, a, ps, ls, os⟩ := s
  have h : opI os := h
  have ht := opI_tail h
  unfold mstep
  dsimp only
  split
  · split
    · split
      · exact h
      · split
        · split
          · exact h
          · exact h
        · split
          · exact opI_cons h ⟨Nat.le_of_ble_eq_true rfl, .inr rfl⟩
          · split
            · exact opI_cons h ⟨Nat.le_of_ble_eq_true rfl, .inr rfl⟩
            · split
              · exact opI_cons h ⟨Nat.le_of_ble_eq_true rfl, .inr rfl⟩
              · exact h
    · exact h
  · split
    · split
      · exact ht
      · split
        · split
          · exact opI_cons ht ⟨Nat.le_of_ble_eq_true rfl, .inl rfl⟩
          · exact ht
        · exact h
    · split
      · split
        · exact h
        · split
          · exact ht
          · exact h
      · split
        · split
          · exact opI_cons h ⟨Nat.le_of_ble_eq_true rfl, .inr rfl⟩
          · split
            · exact ht
            · exact h
        · split
          · split
            · split
              · exact opI_cons h ⟨Nat.le_of_ble_eq_true rfl, .inr rfl⟩
              · split
                · exact ht
                · exact h
            · split
              · exact h
              · exact h
          · exact h
theorem opI_Rch {x : lne} {s t : pst} (h : Rch x s t) (hi : opI s.2.2.2.2) : opI t.2.2.2.2 := by
  obtain ⟨k, e⟩ := h
  induction k generalizing s with
  | zero => have : s = t := e
            subst this; exact hi
  | succ k ih => exact ih (opI_step hi) e
theorem opI_0 {x : lne} {m a : Nat} {ps : List (prt × Nat)} {ls : List Nat} {os : List opn} (h : Rch x s0 (m, a, ps, ls, os)) : opI os := opI_Rch h (fun o ho => (List.not_mem_nil ho).elim)
theorem isO_cons {os : List opn} {k : Nat} (h : isO os k = true) : ∃ pl w os', os = (k, pl, w) :: os' := by
  cases os with
  | nil => cases h
  | cons o os =>
    obtain ⟨k', pl, w⟩ := o
    have : k' = k := by simpa [isO] using h
    subst this
    exact ⟨pl, w, os, rfl⟩
theorem two_of {ls : List Nat} (h : 2 ≤ ls.length) : ∃ q p ls', ls = q :: p :: ls' := by
  match ls, h with
  | q :: p :: ls', _ => exact ⟨q, p, ls', rfl⟩
theorem one_of {ls : List Nat} (h : 1 ≤ ls.length) : ∃ p ls', ls = p :: ls' := by
  match ls, h with
  | p :: ls', _ => exact ⟨p, ls', rfl⟩
theorem tOf_46 {c : Nat} (h : c = 46) : tOf c = 0 := if_pos h
theorem tOf_o {c : Nat} (h : 97 ≤ c ∧ c ≤ 99) : tOf c = c - 96 := if_neg (by omega)
def rgW (x : lne) (M' : mm) (m a' : Nat) : Prop := ∃ ps' ls' os', Rch x s0 (m, a', ps', ls', os') ∧ rR M' x a' (dpt os') ps' ls' os'
def rgF (x : lne) (M' : mm) : Prop := ∃ a' ps' ls' os', Rch x s0 (6, a', ps', ls', os') ∧ M'.1 572 29 = ((a' : Nat) : Int)
theorem rR_w {M : mm} {x : lne} {a dp k pl w w' : Nat} {ps : List (prt × Nat)} {ls : List Nat} {os : List opn} (h : rR M x a dp ps ls ((k, pl, w) :: os)) {y : Int} (hy : y = (w' : Int)) : rR (sI M 593 ((os.length : Nat) : Int) y) x a dp ps ls ((k, pl, w') :: os) := by
  have hF : Fpr M (sI M 593 ((os.length : Nat) : Int) y) := ⟨fun q g1 g2 g3 => sI_ne (by omega), fun j _ _ _ _ _ => rd_na (by decide), rfl⟩
  refine ⟨rLn_F h.1 hF, (rd_na (by decide)).trans h.2.1, (rd_na (by decide)).trans h.2.2.1, (rd_na (by decide)).trans h.2.2.2.1, fun k hk => ?_, (rd_na (by decide)).trans h.2.2.2.2.2.1, ?_, (rd_na (by decide)).trans h.2.2.2.2.2.2.2.1, ⟨?_, ?_, rd_eq.trans hy, ?_⟩⟩
  · have t := h.2.2.2.2.1 k hk
    unfold pRw at t ⊢
    rw [sI_ne (by decide), sI_ne (by decide), sI_ne (by decide), sI_ne (by decide), sI_ne (by decide)]; exact t
  · rw [sI_ne (by decide)]; exact h.2.2.2.2.2.2.1
  · exact (rd_na (by decide)).trans h.2.2.2.2.2.2.2.2.1
  · exact (rd_na (by decide)).trans h.2.2.2.2.2.2.2.2.2.1
  · exact osk_congr (fun i hi => ⟨rd_na (by decide), rd_na (by decide), rd_nk (by omega)⟩) h.2.2.2.2.2.2.2.2.2.2.2
theorem Fpr_w {M : mm} {i y : Int} : Fpr M (sI M 593 i y) := ⟨fun q g1 g2 g3 => sI_ne (by omega), fun j _ _ _ _ _ => rd_na (by decide), rfl⟩
section C41
variable {L : Nat} {xs : Nat → Int32} {M : mm} {es : ab_H} {x : lne}
theorem cl4 (d : Nat) {a : Nat} {ps : List (prt × Nat)} {ls : List Nat} {os : List opn} {m : Nat} (hm : m = 2 ∨ m = 3) (hst : m = 2 → ¬ (lk x a = 42 ∨ lk x a = 37)) (h : rR M x a (dpt os) ps ls os) (hR : Rch x s0 (m, a, ps, ls, os)) : ab_Z (pg_G L xs) (d + 2) 114 [.ref 572, zi 4] M es (fun v M' => v = none ∧ Fpr M M' ∧ rgW x M' 4 a) := by
  have hi := inv_Rch hR (inv_s0 x)
  have h1 : a ≤ x.1 := hi.1
  have h2 : ps.length + ls.length + eqc os ≤ 2 * a := hi.2.1
  have h16 := h.1.1
  have hop := opI_0 hR
  have hob : ∀ o ∈ os, o.1 < 100 := fun o ho => (hop o ho).1
  have hln := hi.2.2.2.1 (show 1 ≤ m by omega) (show m ≤ 5 by omega)
  have hl3 : ls.length = nd os + 1 := hln.1
  have hl4 : os.length + 1 ≤ 2 * a := hln.2
  cases ho : isO os 4 with
  | true =>
    obtain ⟨pl, w, os', rfl⟩ := isO_cons ho
    obtain ⟨q, p, ls', rfl⟩ := two_of (ls := ls) (by rw [hl3]; show 2 ≤ nd os' + 1 + 1; omega)
    rw [List.length_cons, List.length_cons] at h2
    rw [List.length_cons] at hl4
    refine ab_X_mono (d + 2) _ _ _ _ _ ?_ (c114t d h (by omega) (by omega) (by omega) hob (K := 5) rfl (by decide))
    rintro r' h' ⟨v, M2, e1, e2, e3, e4, e5⟩
    exact ⟨v, M2, e1, e2, e3, e4, _, _, _, Rch_step hR (mb_j hm hst), e5⟩
  | false =>
    refine ab_X_mono (d + 2) _ _ _ _ _ ?_ (c114f d h (by omega) hob (kd := 4) (by decide) ho)
    rintro r' h' ⟨e1, e2⟩
    exact ⟨none, M, e1, e2, rfl, Fpr_refl M, _, _, _, Rch_step hR (mb_c hm hst ho), h⟩
theorem cl7 (d : Nat) {a : Nat} {ps : List (prt × Nat)} {ls : List Nat} {os : List opn} (hs : sat (lk x a) = false) (h : rR M x a (dpt os) ps ls os) (hR : Rch x s0 (4, a, ps, ls, os)) : ab_Z (pg_G L xs) (d + 2) 114 [.ref 572, zi 7] M es (fun v M' => v = none ∧ Fpr M M' ∧ rgW x M' 5 a) := by
  have hi := inv_Rch hR (inv_s0 x)
  have h1 : a ≤ x.1 := hi.1
  have h2 : ps.length + ls.length + eqc os ≤ 2 * a := hi.2.1
  have h16 := h.1.1
  have hop := opI_0 hR
  have hob : ∀ o ∈ os, o.1 < 100 := fun o ho => (hop o ho).1
  have hln := hi.2.2.2.1 (show 1 ≤ 4 by omega) (show 4 ≤ 5 by omega)
  have hl3 : ls.length = nd os + 1 := hln.1
  have hl4 : os.length + 1 ≤ 2 * a := hln.2
  cases ho : isO os 7 with
  | true =>
    obtain ⟨pl, w, os', rfl⟩ := isO_cons ho
    obtain ⟨q, p, ls', rfl⟩ := two_of (ls := ls) (by rw [hl3]; show 2 ≤ nd os' + 1 + 1; omega)
    rw [List.length_cons, List.length_cons] at h2
    rw [List.length_cons] at hl4
    refine ab_X_mono (d + 2) _ _ _ _ _ ?_ (c114t d h (by omega) (by omega) (by omega) hob (K := 4) rfl (by decide))
    rintro r' h' ⟨v, M2, e1, e2, e3, e4, e5⟩
    exact ⟨v, M2, e1, e2, e3, e4, _, _, _, Rch_step hR (mc_or hs), e5⟩
  | false =>
    refine ab_X_mono (d + 2) _ _ _ _ _ ?_ (c114f d h (by omega) hob (kd := 7) (by decide) ho)
    rintro r' h' ⟨e1, e2⟩
    exact ⟨none, M, e1, e2, rfl, Fpr_refl M, _, _, _, Rch_step hR (mc_d hs ho), h⟩
theorem c111_loop (d : Nat) {a : Nat} {Q : ab_Q} (kk : ∀ v M', Fpr M M' → ((v = some (zi 0) ∧ rgW x M' 0 a) ∨ (v = some (zi 1) ∧ rgW x M' 2 a)) → Q (.inl v) (hp M' ++ es)) : ∀ n, ∀ (M' : mm) (ps : List (prt × Nat)) (ls : List Nat) (os : List opn), os.length = n → Fpr M M' → rR M' x a (dpt os) ps ls os → Rch x s0 (1, a, ps, ls, os) → ab_W (pg_G L xs) (ab_X (pg_G L xs) (d + 2)) 111 Q 2 [some (.ref 572), some (zi 1)] [] (hp M' ++ es) := by
  intro n
  induction n using Nat.strongRecOn with
  | _ n ih =>
    intro M' ps ls os hn hF h hR
    have hi := inv_Rch hR (inv_s0 x)
    have h1 : a ≤ x.1 := hi.1
    have h2 : ps.length + ls.length + eqc os ≤ 2 * a := hi.2.1
    have h16 := h.1.1
    have hop := opI_0 hR
    have hob : ∀ o ∈ os, o.1 < 100 := fun o ho => (hop o ho).1
    have hln := hi.2.2.2.1 (show 1 ≤ 1 by omega) (show 1 ≤ 5 by omega)
    have hl3 : ls.length = nd os + 1 := hln.1
    have hl4 : os.length + 1 ≤ 2 * a := hln.2
    refine x_ld 1 1 0 3 rfl rfl rfl rfl rfl ?_
    refine z_ifeq 102 6 rfl rfl rfl (rg_lit 1 rfl) (fun c => absurd c (by decide)) (fun _ => ?_)
    refine x_cst (zi 0) 1 7 rfl rfl rfl ?_
    refine x_st 1 1 0 8 [some (.ref 572), some (zi 0)] rfl rfl rfl (Nat.le_of_ble_eq_true rfl) rfl rfl ?_
    refine x_ld 0 1 2 9 rfl rfl rfl rfl rfl ?_
    refine x_cst (zi 6) 2 11 rfl rfl rfl ?_
    refine x_cv 177 112 14 [.ref 572, zi 6] rfl rfl rfl (Nat.le_of_ble_eq_true rfl) rfl rfl (Nat.le_of_ble_eq_true rfl) ⟨_, _, _, rfl, o_572⟩ (Nat.le_of_ble_eq_true rfl) (c112 (M := M') (d + 1) h (by omega) hob (kd := 6) (by decide)) rfl ?_
    rcases Bool.eq_false_or_eq_true (isO os 6) with ho6 | ho6
    · rw [ho6]
      obtain ⟨pl, w, os', rfl⟩ := isO_cons ho6
      obtain ⟨p, ls', rfl⟩ := one_of (ls := ls) (by omega)
      rw [List.length_cons] at h2 hl4
      have h27 : M'.1 572 27 = ((os'.length + 1 : Nat) : Int) := h.2.2.2.2.2.2.2.1
      have r1 := rR_os h (y := ((os'.length : Nat) : Int)) rfl
      have r2 := rR_ls r1 (y := ((ls'.length : Nat) : Int)) rfl
      have hpq : M'.1 592 ((os'.length : Nat) : Int) = ((pl : Nat) : Int) := h.2.2.2.2.2.2.2.2.2.1
      refine z_ifeq 53 17 rfl rfl rfl (rg_lit 1 rfl) (fun c => absurd c (by decide)) (fun _ => ?_)
      refine x_ld 0 1 2 18 rfl rfl rfl rfl rfl ?_
      refine x_dup 19 rfl rfl rfl ?_
      refine g_572_27 174 22 rfl rfl h27 rfl ?_
      refine x_cst (zi 1) 1 23 rfl rfl rfl ?_
      refine z_sub 24 rfl rfl ?_
      rw [show ((os'.length + 1 : Nat) : Int) - 1 = ((os'.length : Nat) : Int) from (by omega)]
      refine s_572_27 174 27 rfl rfl rfl rfl rfl rfl ?_
      refine x_ld 0 1 2 28 rfl rfl rfl rfl rfl ?_
      refine x_cst (zi 6) 2 30 rfl rfl rfl ?_
      refine x_ld 0 1 2 31 rfl rfl rfl rfl rfl ?_
      refine x_cv 181 113 34 [.ref 572] rfl rfl rfl (Nat.le_of_ble_eq_true rfl) rfl rfl (Nat.le_of_ble_eq_true rfl) ⟨_, _, _, rfl, o_572⟩ (Nat.le_of_ble_eq_true rfl) (c113 (d + 1) r1 (by omega)) rfl ?_
      refine x_cst (zi (-1)) 1 35 rfl rfl rfl ?_
      refine x_cst (zi 0) 1 36 rfl rfl rfl ?_
      refine x_ld 0 1 2 37 rfl rfl rfl rfl rfl ?_
      refine g_572_25 68 40 rfl rfl rfl ?_
      refine x_ld 0 1 2 41 rfl rfl rfl rfl rfl ?_
      refine g_572_27 174 44 rfl rfl ((rd_nk (Ne.symm (by decide))).trans rd_eq) rfl ?_
      refine z_ild ((pl : Nat) : Int) 45 rfl i_592 rfl ⟨by omega, by omega⟩ ((rd_na (Ne.symm (by decide))).trans ((rd_na (Ne.symm (by decide))).trans hpq)) rfl ?_
      refine x_ce 185 110 48 [.ref 572, zi 6, zi ((p : Nat) : Int), zi (-1), zi 0, zi ((pl : Nat) : Int)] rfl rfl rfl (Nat.le_of_ble_eq_true rfl) rfl rfl (Nat.le_of_ble_eq_true rfl) ⟨_, _, _, rfl, o_572⟩ (Nat.le_of_ble_eq_true rfl) (c110 (d + 1) r2 (by omega) (by omega) (y := ((3, p, p, 0), pl)) rfl rfl rfl (fun e => absurd e (by show ¬ 3 < 3; omega)) rfl) rfl ?_
      rintro v M2 ⟨rfl, hF2, hR2⟩
      refine x_cst (zi 1) 1 49 rfl rfl rfl ?_
      refine x_st 1 1 0 50 [some (.ref 572), some (zi 1)] rfl rfl rfl (Nat.le_of_ble_eq_true rfl) rfl rfl ?_
      refine x_go 2 rfl rfl ?_
      exact ih os'.length (by rw [List.length_cons] at hn; omega) M2 _ _ os' rfl (Fpr_trans (Fpr_trans (Fpr_trans hF (Fpr_f (by omega))) (Fpr_f (by omega))) hF2) hR2 (Rch_step hR me_eq)
    · rw [ho6]
      refine z_ifeq 53 17 rfl rfl rfl (rg_lit 0 rfl) (fun _ => ?_) (fun c => absurd c (by decide))
      refine x_ld 0 1 2 54 rfl rfl rfl rfl rfl ?_
      refine x_cst (zi 5) 1 55 rfl rfl rfl ?_
      refine x_cv 177 112 58 [.ref 572, zi 5] rfl rfl rfl (Nat.le_of_ble_eq_true rfl) rfl rfl (Nat.le_of_ble_eq_true rfl) ⟨_, _, _, rfl, o_572⟩ (Nat.le_of_ble_eq_true rfl) (c112 (M := M') (d + 1) h (by omega) hob (kd := 5) (by decide)) rfl ?_
      rcases Bool.eq_false_or_eq_true (isO os 5) with ho5 | ho5
      · rw [ho5]
        obtain ⟨pl, w, os', rfl⟩ := isO_cons ho5
        rw [List.length_cons] at hl4
        have h27 : M'.1 572 27 = ((os'.length + 1 : Nat) : Int) := h.2.2.2.2.2.2.2.1
        have h593 : M'.1 593 ((os'.length : Nat) : Int) = ((w : Nat) : Int) := h.2.2.2.2.2.2.2.2.2.2.1
        have hw : w = 1 ∨ w = 2 := (hop _ (List.mem_cons_self ..)).2
        refine z_ifeq 2 61 rfl rfl rfl (rg_lit 1 rfl) (fun c => absurd c (by decide)) (fun _ => ?_)
        refine x_ld 0 1 2 62 rfl rfl rfl rfl rfl ?_
        refine g_572_26 71 65 rfl rfl rfl ?_
        refine x_ld 0 1 2 66 rfl rfl rfl rfl rfl ?_
        refine g_572_27 174 69 rfl rfl h27 rfl ?_
        refine x_cst (zi 1) 1 70 rfl rfl rfl ?_
        refine z_sub 71 rfl rfl ?_
        rw [show ((os'.length + 1 : Nat) : Int) - 1 = ((os'.length : Nat) : Int) from (by omega)]
        refine x_dp2 72 rfl rfl rfl rfl ?_
        refine z_ild ((w : Nat) : Int) 73 rfl i_593 rfl ⟨by omega, by omega⟩ h593 rfl ?_
        refine x_cst (zi 1) 1 74 rfl rfl rfl ?_
        refine z_sub 75 rfl rfl ?_
        refine z_ist 76 rfl i_593 rfl ⟨by omega, by omega⟩ rfl ?_
        refine x_ld 0 1 2 77 rfl rfl rfl rfl rfl ?_
        refine g_572_26 71 80 rfl rfl rfl ?_
        refine x_ld 0 1 2 81 rfl rfl rfl rfl rfl ?_
        refine g_572_27 174 84 rfl rfl ((rd_na (Ne.symm (by decide))).trans h27) rfl ?_
        refine x_cst (zi 1) 1 85 rfl rfl rfl ?_
        refine z_sub 86 rfl rfl ?_
        rw [show ((os'.length + 1 : Nat) : Int) - 1 = ((os'.length : Nat) : Int) from (by omega)]
        refine z_ild (((w : Nat) : Int) - 1) 87 rfl i_593 rfl ⟨by omega, by omega⟩ rd_eq rfl ?_
        refine z_ifle 92 90 rfl rfl rfl ⟨by omega, by omega⟩ (fun c87 => ?_) (fun c87 => ?_)
        · refine x_ld 0 1 2 93 rfl rfl rfl rfl rfl ?_
          refine x_cst (zi 5) 1 94 rfl rfl rfl ?_
          refine x_ce 192 114 97 [.ref 572, zi 5] rfl rfl rfl (Nat.le_of_ble_eq_true rfl) rfl rfl (Nat.le_of_ble_eq_true rfl) ⟨_, _, _, rfl, o_572⟩ (Nat.le_of_ble_eq_true rfl) (show ab_Z (pg_G L xs) (d + 2) 114 [.ref 572, zi 5] (sI M' 593 ((os'.length : Nat) : Int) (((w : Nat) : Int) - 1)) es (fun v M2 => v = none ∧ Fpr (sI M' 593 ((os'.length : Nat) : Int) (((w : Nat) : Int) - 1)) M2 ∧ ∃ q p ls', ls = q :: p :: ls' ∧ rR M2 x a (dpt os') (ps ++ [((6, p, q, 0), pl)]) (ps.length :: ls') os') from by obtain ⟨q, p, ls', rfl⟩ := two_of (ls := ls) (by rw [hl3]; show 2 ≤ nd os' + (if (5 : Nat) = 4 ∨ (5 : Nat) = 7 ∨ (5 : Nat) = 5 ∧ w ≠ 2 then 1 else 0) + 1; rw [if_pos (by omega)]; omega); rw [List.length_cons, List.length_cons] at h2; exact ab_X_mono (d + 2) _ _ _ _ _ (by rintro r' h' ⟨v, M2, e1, e2, e3, e4, e5⟩; exact ⟨v, M2, e1, e2, e3, e4, q, p, ls', rfl, e5⟩) (c114t d (rR_w (w' := 0) h (y := ((w : Nat) : Int) - 1) (by omega)) (by omega) (by omega) (by omega) (fun o ho => by rcases List.mem_cons.mp ho with e | e; (rw [e]; exact Nat.le_of_ble_eq_true rfl); exact hob o (List.mem_cons_of_mem _ e)) (K := 6) rfl (by decide))) rfl ?_
          rintro v M2 ⟨rfl, hF2, q, p, ls', els, hR2⟩
          refine x_cst (zi 1) 1 98 rfl rfl rfl ?_
          refine x_st 1 1 0 99 [some (.ref 572), some (zi 1)] rfl rfl rfl (Nat.le_of_ble_eq_true rfl) rfl rfl ?_
          refine x_go 2 rfl rfl ?_
          have hw1 : w = 1 := by omega
          subst hw1
          subst els
          exact ih os'.length (by rw [List.length_cons] at hn; omega) M2 _ _ os' rfl (Fpr_trans (Fpr_trans hF Fpr_w) hF2) hR2 (Rch_step hR me_sw1)
        · refine x_cst (zi 0) 1 91 rfl rfl rfl ?_
          refine x_ret rfl rfl rfl rfl ?_
          have hw2 : w = 2 := by omega
          subst hw2
          exact kk _ _ (Fpr_trans hF Fpr_w) (.inl ⟨rfl, _, _, _, Rch_step hR me_sw2, rR_w h (by omega)⟩)
      · rw [ho5]
        refine z_ifeq 2 61 rfl rfl rfl (rg_lit 0 rfl) (fun _ => ?_) (fun c => absurd c (by decide))
        refine x_ld 1 1 0 3 rfl rfl rfl rfl rfl ?_
        refine z_ifeq 102 6 rfl rfl rfl (rg_lit 0 rfl) (fun _ => ?_) (fun c => absurd c (by decide))
        refine x_cst (zi 1) 1 103 rfl rfl rfl ?_
        refine x_ret rfl rfl rfl rfl ?_
        exact kk _ _ hF (.inr ⟨rfl, _, _, _, Rch_step hR (me_b ho6 ho5), h⟩)
theorem c111 (d : Nat) {a : Nat} {ps : List (prt × Nat)} {ls : List Nat} {os : List opn} (h : rR M x a (dpt os) ps ls os) (hR : Rch x s0 (1, a, ps, ls, os)) : ab_Z (pg_G L xs) (d + 3) 111 [.ref 572] M es (fun v M' => Fpr M M' ∧ ((v = some (zi 0) ∧ rgW x M' 0 a) ∨ (v = some (zi 1) ∧ rgW x M' 2 a))) := by
  show ab_W (pg_G L xs) (ab_X (pg_G L xs) (d + 2)) 111 _ 0 [some (.ref 572), none] [] (hp M ++ es)
  refine x_cst (zi 1) 1 1 rfl rfl rfl ?_
  refine x_st 1 1 0 2 [some (.ref 572), some (zi 1)] rfl rfl rfl (Nat.le_of_ble_eq_true rfl) rfl rfl ?_
  exact c111_loop (M := M) d (fun v M' hF hv => ⟨v, M', rfl, rfl, hF, hv⟩) _ M ps ls os rfl (Fpr_refl M) h hR
theorem c107 (d : Nat) {a : Nat} {ps : List (prt × Nat)} {ls : List Nat} {os : List opn} (h : rR M x a (dpt os) ps ls os) (hR : Rch x s0 (0, a, ps, ls, os)) (ha : a < x.1) : ab_Z (pg_G L xs) (d + 4) 107 [.ref 572] M es (fun v M' => Fpr M M' ∧ ((v = some (zi 0) ∧ rgF x M') ∨ (v = some (zi 1) ∧ ∃ a', a < a' ∧ rgW x M' 0 a') ∨ (v = some (zi 2) ∧ ∃ a', a < a' ∧ rgW x M' 2 a'))) := by
  have hi := inv_Rch hR (inv_s0 x)
  have h1 : a ≤ x.1 := hi.1
  have h2 : ps.length + ls.length + eqc os ≤ 2 * a := hi.2.1
  have h16 := h.1.1
  have hop := opI_0 hR
  have hob : ∀ o ∈ os, o.1 < 100 := fun o ho => (hop o ho).1
  have hln := hi.2.2.1 rfl
  have hl3 : ls.length = nd os := hln.1
  have hl4 : os.length ≤ 2 * a := hln.2
  have hlk : lk x a < 127 := by unfold lk; rw [if_pos ha]; exact (h.1.2.2 a ha).2
  have hlk1 : lk x (a + 1) < 127 := by unfold lk; split; exact (h.1.2.2 (a + 1) (by assumption)).2; decide
  have hdl := dpt_le os
  have r1 := rR_at h (a' := a + 1) (y := ((a + 1 : Nat) : Int)) rfl
  have r2 := rR_at r1 (a' := a + 2) (y := ((a + 2 : Nat) : Int)) rfl
  show ab_W (pg_G L xs) (ab_X (pg_G L xs) (d + 3)) 107 _ 0 [some (.ref 572), none, none, none] [] (hp M ++ es)
  refine x_ld 0 1 2 1 rfl rfl rfl rfl rfl ?_
  refine x_cst (zi 0) 1 2 rfl rfl rfl ?_
  refine x_cv 196 108 5 [.ref 572, zi 0] rfl rfl rfl (Nat.le_of_ble_eq_true rfl) rfl rfl (Nat.le_of_ble_eq_true rfl) ⟨_, _, _, rfl, o_572⟩ (Nat.le_of_ble_eq_true rfl) (c108 (d + 2) h (k := 0) (by omega) (by decide)) rfl ?_
  refine x_st 1 1 0 6 [some (.ref 572), some (zi ((lk x a : Nat) : Int)), none, none] rfl rfl rfl (Nat.le_of_ble_eq_true rfl) rfl rfl ?_
  refine x_ld 1 1 0 7 rfl rfl rfl rfl rfl ?_
  refine x_cv 189 109 10 [zi ((lk x a : Nat) : Int)] rfl rfl rfl (Nat.le_of_ble_eq_true rfl) rfl rfl (Nat.le_of_ble_eq_true rfl) trivial (Nat.le_of_ble_eq_true rfl) (c109 (d + 2) (c := lk x a) (by omega)) rfl ?_
  rcases Bool.eq_false_or_eq_true (ltc (lk x a)) with hl | hl
  · rw [hl]
    have hz : 97 ≤ lk x a ∧ lk x a ≤ 99 := by have t := hl; unfold ltc at t; simpa using t
    refine z_ifne 19 13 rfl rfl rfl (rg_lit 1 rfl) (fun _ => ?_) (fun c => absurd c (by decide))
    refine x_ld 0 1 2 20 rfl rfl rfl rfl rfl ?_
    refine x_dup 21 rfl rfl rfl ?_
    refine g_572_29 165 24 rfl rfl h.2.1 rfl ?_
    refine x_cst (zi 1) 1 25 rfl rfl rfl ?_
    refine z_add 26 rfl rfl ?_
    rw [show ((a : Nat) : Int) + 1 = ((a + 1 : Nat) : Int) from (by omega)]
    refine s_572_29 165 29 rfl rfl rfl rfl rfl rfl ?_
    refine x_ld 0 1 2 30 rfl rfl rfl rfl rfl ?_
    refine x_ld 1 1 0 31 rfl rfl rfl rfl rfl ?_
    refine x_cst (zi 46) 2 33 rfl rfl rfl ?_
    refine z_icne 40 36 rfl rfl rfl ⟨by omega, by omega⟩ (rg_lit 46 rfl) (fun c33 => ?_) (fun c33 => ?_)
    · refine x_cst (zi 0) 1 41 rfl rfl rfl ?_
      refine x_cst (zi (-1)) 1 42 rfl rfl rfl ?_
      refine x_cst (zi (-1)) 1 43 rfl rfl rfl ?_
      refine x_ld 1 1 0 44 rfl rfl rfl rfl rfl ?_
      refine x_cst (zi 46) 2 46 rfl rfl rfl ?_
      refine z_icne 53 49 rfl rfl rfl ⟨by omega, by omega⟩ (rg_lit 46 rfl) (fun c46 => ?_) (fun c46 => ?_)
      · refine x_ld 1 1 0 54 rfl rfl rfl rfl rfl ?_
        refine x_cst (zi 97) 2 56 rfl rfl rfl ?_
        refine z_sub 57 rfl rfl ?_
        refine x_ld 0 1 2 58 rfl rfl rfl rfl rfl ?_
        refine g_572_29 165 61 rfl rfl rd_eq rfl ?_
        refine x_cst (zi 1) 1 62 rfl rfl rfl ?_
        refine z_sub 63 rfl rfl ?_
        rw [show ((a + 1 : Nat) : Int) - 1 = ((a : Nat) : Int) from (by omega)]
        refine x_ce 185 110 66 [.ref 572, zi 0, zi (-1), zi (-1), zi (((lk x a : Nat) : Int) - 97), zi ((a : Nat) : Int)] rfl rfl rfl (Nat.le_of_ble_eq_true rfl) rfl rfl (Nat.le_of_ble_eq_true rfl) ⟨_, _, _, rfl, o_572⟩ (Nat.le_of_ble_eq_true rfl) (c110 (d + 2) r1 (by omega) (by omega) (y := ((0, 0, 0, tOf (lk x a)), a)) (by show (0 : Int) = (if tOf (lk x a) = 0 then 1 else 0); rw [tOf_o (by omega), if_neg (by omega)]) rfl rfl (fun _ => by show _ = mLt (tOf (lk x a)); rw [tOf_o (by omega)]; unfold mLt; rw [if_neg (by omega)]; omega) rfl) rfl ?_
        rintro v M2 ⟨rfl, hF2, hR2⟩
        refine x_ld 0 1 2 67 rfl rfl rfl rfl rfl ?_
        refine x_ce 200 111 70 [.ref 572] rfl rfl rfl (Nat.le_of_ble_eq_true rfl) rfl rfl (Nat.le_of_ble_eq_true rfl) ⟨_, _, _, rfl, o_572⟩ (Nat.le_of_ble_eq_true rfl) (c111 d hR2 (Rch_step hR (mw_let (by first | (rw [hl]; rfl) | (rw [hl]; simp; omega))))) rfl ?_
        rintro v M3 ⟨hF3, hv3⟩
        rcases hv3 with ⟨rfl, hg⟩ | ⟨rfl, hg⟩
        · refine z_ifeq 77 73 rfl rfl rfl (rg_lit 0 rfl) (fun _ => ?_) (fun c => absurd c (by decide))
          refine x_cst (zi 1) 1 78 rfl rfl rfl ?_
          refine x_ret rfl rfl rfl rfl ?_
          exact ⟨_, _, rfl, rfl, Fpr_trans (Fpr_trans (Fpr_f (by omega)) hF2) hF3, .inr (.inl ⟨rfl, a + 1, by omega, hg⟩)⟩
        · refine z_ifeq 77 73 rfl rfl rfl (rg_lit 1 rfl) (fun c => absurd c (by decide)) (fun _ => ?_)
          refine x_cst (zi 2) 1 74 rfl rfl rfl ?_
          refine x_go 78 rfl rfl ?_
          refine x_ret rfl rfl rfl rfl ?_
          exact ⟨_, _, rfl, rfl, Fpr_trans (Fpr_trans (Fpr_f (by omega)) hF2) hF3, .inr (.inr ⟨rfl, a + 1, by omega, hg⟩)⟩
      · refine x_cst (zi 4) 1 50 rfl rfl rfl ?_
        refine x_go 57 rfl rfl ?_
        refine x_ld 0 1 2 58 rfl rfl rfl rfl rfl ?_
        refine g_572_29 165 61 rfl rfl rd_eq rfl ?_
        refine x_cst (zi 1) 1 62 rfl rfl rfl ?_
        refine z_sub 63 rfl rfl ?_
        rw [show ((a + 1 : Nat) : Int) - 1 = ((a : Nat) : Int) from (by omega)]
        refine x_ce 185 110 66 [.ref 572, zi 0, zi (-1), zi (-1), zi 4, zi ((a : Nat) : Int)] rfl rfl rfl (Nat.le_of_ble_eq_true rfl) rfl rfl (Nat.le_of_ble_eq_true rfl) ⟨_, _, _, rfl, o_572⟩ (Nat.le_of_ble_eq_true rfl) (c110 (d + 2) r1 (by omega) (by omega) (y := ((0, 0, 0, tOf (lk x a)), a)) (by show (0 : Int) = (if tOf (lk x a) = 0 then 1 else 0); rw [tOf_o (by omega), if_neg (by omega)]) rfl rfl (fun _ => by show _ = mLt (tOf (lk x a)); rw [tOf_46 (by omega)]; rfl) rfl) rfl ?_
        rintro v M2 ⟨rfl, hF2, hR2⟩
        refine x_ld 0 1 2 67 rfl rfl rfl rfl rfl ?_
        refine x_ce 200 111 70 [.ref 572] rfl rfl rfl (Nat.le_of_ble_eq_true rfl) rfl rfl (Nat.le_of_ble_eq_true rfl) ⟨_, _, _, rfl, o_572⟩ (Nat.le_of_ble_eq_true rfl) (c111 d hR2 (Rch_step hR (mw_let (by first | (rw [hl]; rfl) | (rw [hl]; simp; omega))))) rfl ?_
        rintro v M3 ⟨hF3, hv3⟩
        rcases hv3 with ⟨rfl, hg⟩ | ⟨rfl, hg⟩
        · refine z_ifeq 77 73 rfl rfl rfl (rg_lit 0 rfl) (fun _ => ?_) (fun c => absurd c (by decide))
          refine x_cst (zi 1) 1 78 rfl rfl rfl ?_
          refine x_ret rfl rfl rfl rfl ?_
          exact ⟨_, _, rfl, rfl, Fpr_trans (Fpr_trans (Fpr_f (by omega)) hF2) hF3, .inr (.inl ⟨rfl, a + 1, by omega, hg⟩)⟩
        · refine z_ifeq 77 73 rfl rfl rfl (rg_lit 1 rfl) (fun c => absurd c (by decide)) (fun _ => ?_)
          refine x_cst (zi 2) 1 74 rfl rfl rfl ?_
          refine x_go 78 rfl rfl ?_
          refine x_ret rfl rfl rfl rfl ?_
          exact ⟨_, _, rfl, rfl, Fpr_trans (Fpr_trans (Fpr_f (by omega)) hF2) hF3, .inr (.inr ⟨rfl, a + 1, by omega, hg⟩)⟩
    · refine x_cst (zi 1) 1 37 rfl rfl rfl ?_
      refine x_go 41 rfl rfl ?_
      refine x_cst (zi (-1)) 1 42 rfl rfl rfl ?_
      refine x_cst (zi (-1)) 1 43 rfl rfl rfl ?_
      refine x_ld 1 1 0 44 rfl rfl rfl rfl rfl ?_
      refine x_cst (zi 46) 2 46 rfl rfl rfl ?_
      refine z_icne 53 49 rfl rfl rfl ⟨by omega, by omega⟩ (rg_lit 46 rfl) (fun c46 => ?_) (fun c46 => ?_)
      · refine x_ld 1 1 0 54 rfl rfl rfl rfl rfl ?_
        refine x_cst (zi 97) 2 56 rfl rfl rfl ?_
        refine z_sub 57 rfl rfl ?_
        refine x_ld 0 1 2 58 rfl rfl rfl rfl rfl ?_
        refine g_572_29 165 61 rfl rfl rd_eq rfl ?_
        refine x_cst (zi 1) 1 62 rfl rfl rfl ?_
        refine z_sub 63 rfl rfl ?_
        rw [show ((a + 1 : Nat) : Int) - 1 = ((a : Nat) : Int) from (by omega)]
        refine x_ce 185 110 66 [.ref 572, zi 1, zi (-1), zi (-1), zi (((lk x a : Nat) : Int) - 97), zi ((a : Nat) : Int)] rfl rfl rfl (Nat.le_of_ble_eq_true rfl) rfl rfl (Nat.le_of_ble_eq_true rfl) ⟨_, _, _, rfl, o_572⟩ (Nat.le_of_ble_eq_true rfl) (c110 (d + 2) r1 (by omega) (by omega) (y := ((0, 0, 0, tOf (lk x a)), a)) (by show (1 : Int) = (if tOf (lk x a) = 0 then 1 else 0); rw [tOf_46 (by omega)]; rfl) rfl rfl (fun _ => by show _ = mLt (tOf (lk x a)); rw [tOf_o (by omega)]; unfold mLt; rw [if_neg (by omega)]; omega) rfl) rfl ?_
        rintro v M2 ⟨rfl, hF2, hR2⟩
        refine x_ld 0 1 2 67 rfl rfl rfl rfl rfl ?_
        refine x_ce 200 111 70 [.ref 572] rfl rfl rfl (Nat.le_of_ble_eq_true rfl) rfl rfl (Nat.le_of_ble_eq_true rfl) ⟨_, _, _, rfl, o_572⟩ (Nat.le_of_ble_eq_true rfl) (c111 d hR2 (Rch_step hR (mw_let (by first | (rw [hl]; rfl) | (rw [hl]; simp; omega))))) rfl ?_
        rintro v M3 ⟨hF3, hv3⟩
        rcases hv3 with ⟨rfl, hg⟩ | ⟨rfl, hg⟩
        · refine z_ifeq 77 73 rfl rfl rfl (rg_lit 0 rfl) (fun _ => ?_) (fun c => absurd c (by decide))
          refine x_cst (zi 1) 1 78 rfl rfl rfl ?_
          refine x_ret rfl rfl rfl rfl ?_
          exact ⟨_, _, rfl, rfl, Fpr_trans (Fpr_trans (Fpr_f (by omega)) hF2) hF3, .inr (.inl ⟨rfl, a + 1, by omega, hg⟩)⟩
        · refine z_ifeq 77 73 rfl rfl rfl (rg_lit 1 rfl) (fun c => absurd c (by decide)) (fun _ => ?_)
          refine x_cst (zi 2) 1 74 rfl rfl rfl ?_
          refine x_go 78 rfl rfl ?_
          refine x_ret rfl rfl rfl rfl ?_
          exact ⟨_, _, rfl, rfl, Fpr_trans (Fpr_trans (Fpr_f (by omega)) hF2) hF3, .inr (.inr ⟨rfl, a + 1, by omega, hg⟩)⟩
      · refine x_cst (zi 4) 1 50 rfl rfl rfl ?_
        refine x_go 57 rfl rfl ?_
        refine x_ld 0 1 2 58 rfl rfl rfl rfl rfl ?_
        refine g_572_29 165 61 rfl rfl rd_eq rfl ?_
        refine x_cst (zi 1) 1 62 rfl rfl rfl ?_
        refine z_sub 63 rfl rfl ?_
        rw [show ((a + 1 : Nat) : Int) - 1 = ((a : Nat) : Int) from (by omega)]
        refine x_ce 185 110 66 [.ref 572, zi 1, zi (-1), zi (-1), zi 4, zi ((a : Nat) : Int)] rfl rfl rfl (Nat.le_of_ble_eq_true rfl) rfl rfl (Nat.le_of_ble_eq_true rfl) ⟨_, _, _, rfl, o_572⟩ (Nat.le_of_ble_eq_true rfl) (c110 (d + 2) r1 (by omega) (by omega) (y := ((0, 0, 0, tOf (lk x a)), a)) (by show (1 : Int) = (if tOf (lk x a) = 0 then 1 else 0); rw [tOf_46 (by omega)]; rfl) rfl rfl (fun _ => by show _ = mLt (tOf (lk x a)); rw [tOf_46 (by omega)]; rfl) rfl) rfl ?_
        rintro v M2 ⟨rfl, hF2, hR2⟩
        refine x_ld 0 1 2 67 rfl rfl rfl rfl rfl ?_
        refine x_ce 200 111 70 [.ref 572] rfl rfl rfl (Nat.le_of_ble_eq_true rfl) rfl rfl (Nat.le_of_ble_eq_true rfl) ⟨_, _, _, rfl, o_572⟩ (Nat.le_of_ble_eq_true rfl) (c111 d hR2 (Rch_step hR (mw_let (by first | (rw [hl]; rfl) | (rw [hl]; simp; omega))))) rfl ?_
        rintro v M3 ⟨hF3, hv3⟩
        rcases hv3 with ⟨rfl, hg⟩ | ⟨rfl, hg⟩
        · refine z_ifeq 77 73 rfl rfl rfl (rg_lit 0 rfl) (fun _ => ?_) (fun c => absurd c (by decide))
          refine x_cst (zi 1) 1 78 rfl rfl rfl ?_
          refine x_ret rfl rfl rfl rfl ?_
          exact ⟨_, _, rfl, rfl, Fpr_trans (Fpr_trans (Fpr_f (by omega)) hF2) hF3, .inr (.inl ⟨rfl, a + 1, by omega, hg⟩)⟩
        · refine z_ifeq 77 73 rfl rfl rfl (rg_lit 1 rfl) (fun c => absurd c (by decide)) (fun _ => ?_)
          refine x_cst (zi 2) 1 74 rfl rfl rfl ?_
          refine x_go 78 rfl rfl ?_
          refine x_ret rfl rfl rfl rfl ?_
          exact ⟨_, _, rfl, rfl, Fpr_trans (Fpr_trans (Fpr_f (by omega)) hF2) hF3, .inr (.inr ⟨rfl, a + 1, by omega, hg⟩)⟩
  · rw [hl]
    refine z_ifne 19 13 rfl rfl rfl (rg_lit 0 rfl) (fun c => absurd c (by decide)) (fun _ => ?_)
    refine x_ld 1 1 0 14 rfl rfl rfl rfl rfl ?_
    refine x_cst (zi 46) 2 16 rfl rfl rfl ?_
    refine z_icne 79 19 rfl rfl rfl ⟨by omega, by omega⟩ (rg_lit 46 rfl) (fun c16 => ?_) (fun c16 => ?_)
    · refine x_ld 1 1 0 80 rfl rfl rfl rfl rfl ?_
      refine x_cst (zi 45) 2 82 rfl rfl rfl ?_
      refine z_iceq 91 85 rfl rfl rfl ⟨by omega, by omega⟩ (rg_lit 45 rfl) (fun c82 => ?_) (fun c82 => ?_)
      · refine x_ld 0 1 2 92 rfl rfl rfl rfl rfl ?_
        refine x_cst (zi 1) 1 93 rfl rfl rfl ?_
        refine x_cv 196 108 96 [.ref 572, zi 1] rfl rfl rfl (Nat.le_of_ble_eq_true rfl) rfl rfl (Nat.le_of_ble_eq_true rfl) ⟨_, _, _, rfl, o_572⟩ (Nat.le_of_ble_eq_true rfl) (c108 (d + 2) h (k := 1) (by omega) (by decide)) rfl ?_
        refine x_st 2 1 0 97 [some (.ref 572), some (zi ((lk x a : Nat) : Int)), some (zi ((lk x (a + 1) : Nat) : Int)), none] rfl rfl rfl (Nat.le_of_ble_eq_true rfl) rfl rfl ?_
        refine x_ld 2 1 0 98 rfl rfl rfl rfl rfl ?_
        refine x_cv 189 109 101 [zi ((lk x (a + 1) : Nat) : Int)] rfl rfl rfl (Nat.le_of_ble_eq_true rfl) rfl rfl (Nat.le_of_ble_eq_true rfl) trivial (Nat.le_of_ble_eq_true rfl) (c109 (d + 2) (c := lk x (a + 1)) (by omega)) rfl ?_
        rcases Bool.eq_false_or_eq_true (ltc (lk x (a + 1))) with hl2 | hl2
        · rw [hl2]
          have hz2 : 97 ≤ lk x (a + 1) ∧ lk x (a + 1) ≤ 99 := by have t := hl2; unfold ltc at t; simpa using t
          refine z_ifne 116 104 rfl rfl rfl (rg_lit 1 rfl) (fun _ => ?_) (fun c => absurd c (by decide))
          refine x_cst (zi 1) 1 117 rfl rfl rfl ?_
          refine x_go 121 rfl rfl ?_
          refine x_st 3 1 0 122 [some (.ref 572), some (zi ((lk x a : Nat) : Int)), some (zi ((lk x (a + 1) : Nat) : Int)), some (zi 1)] rfl rfl rfl (Nat.le_of_ble_eq_true rfl) rfl rfl ?_
          refine x_ld 0 1 2 123 rfl rfl rfl rfl rfl ?_
          refine x_dup 124 rfl rfl rfl ?_
          refine g_572_29 165 127 rfl rfl h.2.1 rfl ?_
          refine x_cst (zi 1) 1 128 rfl rfl rfl ?_
          refine z_add 129 rfl rfl ?_
          rw [show ((a : Nat) : Int) + 1 = ((a + 1 : Nat) : Int) from (by omega)]
          refine s_572_29 165 132 rfl rfl rfl rfl rfl rfl ?_
          refine x_ld 3 1 0 133 rfl rfl rfl rfl rfl ?_
          refine z_ifne 138 136 rfl rfl rfl (rg_lit 1 rfl) (fun _ => ?_) (fun c => absurd c (by decide))
          refine x_ld 0 1 2 139 rfl rfl rfl rfl rfl ?_
          refine x_dup 140 rfl rfl rfl ?_
          refine g_572_29 165 143 rfl rfl rd_eq rfl ?_
          refine x_cst (zi 1) 1 144 rfl rfl rfl ?_
          refine z_add 145 rfl rfl ?_
          rw [show ((a + 1 : Nat) : Int) + 1 = ((a + 2 : Nat) : Int) from (by omega)]
          refine s_572_29 165 148 rfl rfl rfl rfl rfl rfl ?_
          refine x_ld 0 1 2 149 rfl rfl rfl rfl rfl ?_
          refine x_ld 1 1 0 150 rfl rfl rfl rfl rfl ?_
          refine x_cst (zi 45) 2 152 rfl rfl rfl ?_
          refine z_icne 159 155 rfl rfl rfl ⟨by omega, by omega⟩ (rg_lit 45 rfl) (fun c152 => ?_) (fun c152 => ?_)
          · refine x_cst (zi 3) 1 160 rfl rfl rfl ?_
            refine x_cst (zi (-1)) 1 161 rfl rfl rfl ?_
            refine x_cst (zi (-1)) 1 162 rfl rfl rfl ?_
            refine x_ld 2 1 0 163 rfl rfl rfl rfl rfl ?_
            refine x_cst (zi 46) 2 165 rfl rfl rfl ?_
            refine z_icne 172 168 rfl rfl rfl ⟨by omega, by omega⟩ (rg_lit 46 rfl) (fun c165 => ?_) (fun c165 => ?_)
            · refine x_ld 2 1 0 173 rfl rfl rfl rfl rfl ?_
              refine x_cst (zi 97) 2 175 rfl rfl rfl ?_
              refine z_sub 176 rfl rfl ?_
              refine x_ld 0 1 2 177 rfl rfl rfl rfl rfl ?_
              refine g_572_29 165 180 rfl rfl rd_eq rfl ?_
              refine x_cst (zi 2) 1 181 rfl rfl rfl ?_
              refine z_sub 182 rfl rfl ?_
              rw [show ((a + 2 : Nat) : Int) - 2 = ((a : Nat) : Int) from (by omega)]
              refine x_ce 185 110 185 [.ref 572, zi 3, zi (-1), zi (-1), zi (((lk x (a + 1) : Nat) : Int) - 97), zi ((a : Nat) : Int)] rfl rfl rfl (Nat.le_of_ble_eq_true rfl) rfl rfl (Nat.le_of_ble_eq_true rfl) ⟨_, _, _, rfl, o_572⟩ (Nat.le_of_ble_eq_true rfl) (c110 (d + 2) r2 (by omega) (by omega) (y := ((2, 0, 0, tOf (lk x (a + 1))), a)) rfl rfl rfl (fun _ => by show _ = mLt (tOf (lk x (a + 1))); rw [tOf_o (by omega)]; unfold mLt; rw [if_neg (by omega)]; omega) rfl) rfl ?_
              rintro v M2 ⟨rfl, hF2, hR2⟩
              refine x_ld 0 1 2 186 rfl rfl rfl rfl rfl ?_
              refine x_ce 200 111 189 [.ref 572] rfl rfl rfl (Nat.le_of_ble_eq_true rfl) rfl rfl (Nat.le_of_ble_eq_true rfl) ⟨_, _, _, rfl, o_572⟩ (Nat.le_of_ble_eq_true rfl) (c111 d hR2 (Rch_step hR ((mw_sgn (by omega) (by first | (rw [hl2]; rfl) | (rw [hl2]; simp; omega))).trans (by rw [if_neg (by omega)])))) rfl ?_
              rintro v M3 ⟨hF3, hv3⟩
              rcases hv3 with ⟨rfl, hg⟩ | ⟨rfl, hg⟩
              · refine z_ifeq 196 192 rfl rfl rfl (rg_lit 0 rfl) (fun _ => ?_) (fun c => absurd c (by decide))
                refine x_cst (zi 1) 1 197 rfl rfl rfl ?_
                refine x_ret rfl rfl rfl rfl ?_
                exact ⟨_, _, rfl, rfl, Fpr_trans (Fpr_trans (Fpr_trans (Fpr_f (by omega)) (Fpr_f (by omega))) hF2) hF3, .inr (.inl ⟨rfl, a + 2, by omega, hg⟩)⟩
              · refine z_ifeq 196 192 rfl rfl rfl (rg_lit 1 rfl) (fun c => absurd c (by decide)) (fun _ => ?_)
                refine x_cst (zi 2) 1 193 rfl rfl rfl ?_
                refine x_go 197 rfl rfl ?_
                refine x_ret rfl rfl rfl rfl ?_
                exact ⟨_, _, rfl, rfl, Fpr_trans (Fpr_trans (Fpr_trans (Fpr_f (by omega)) (Fpr_f (by omega))) hF2) hF3, .inr (.inr ⟨rfl, a + 2, by omega, hg⟩)⟩
            · refine x_cst (zi 4) 1 169 rfl rfl rfl ?_
              refine x_go 176 rfl rfl ?_
              refine x_ld 0 1 2 177 rfl rfl rfl rfl rfl ?_
              refine g_572_29 165 180 rfl rfl rd_eq rfl ?_
              refine x_cst (zi 2) 1 181 rfl rfl rfl ?_
              refine z_sub 182 rfl rfl ?_
              rw [show ((a + 2 : Nat) : Int) - 2 = ((a : Nat) : Int) from (by omega)]
              refine x_ce 185 110 185 [.ref 572, zi 3, zi (-1), zi (-1), zi 4, zi ((a : Nat) : Int)] rfl rfl rfl (Nat.le_of_ble_eq_true rfl) rfl rfl (Nat.le_of_ble_eq_true rfl) ⟨_, _, _, rfl, o_572⟩ (Nat.le_of_ble_eq_true rfl) (c110 (d + 2) r2 (by omega) (by omega) (y := ((2, 0, 0, tOf (lk x (a + 1))), a)) rfl rfl rfl (fun _ => by show _ = mLt (tOf (lk x (a + 1))); rw [tOf_46 (by omega)]; rfl) rfl) rfl ?_
              rintro v M2 ⟨rfl, hF2, hR2⟩
              refine x_ld 0 1 2 186 rfl rfl rfl rfl rfl ?_
              refine x_ce 200 111 189 [.ref 572] rfl rfl rfl (Nat.le_of_ble_eq_true rfl) rfl rfl (Nat.le_of_ble_eq_true rfl) ⟨_, _, _, rfl, o_572⟩ (Nat.le_of_ble_eq_true rfl) (c111 d hR2 (Rch_step hR ((mw_sgn (by omega) (by first | (rw [hl2]; rfl) | (rw [hl2]; simp; omega))).trans (by rw [if_neg (by omega)])))) rfl ?_
              rintro v M3 ⟨hF3, hv3⟩
              rcases hv3 with ⟨rfl, hg⟩ | ⟨rfl, hg⟩
              · refine z_ifeq 196 192 rfl rfl rfl (rg_lit 0 rfl) (fun _ => ?_) (fun c => absurd c (by decide))
                refine x_cst (zi 1) 1 197 rfl rfl rfl ?_
                refine x_ret rfl rfl rfl rfl ?_
                exact ⟨_, _, rfl, rfl, Fpr_trans (Fpr_trans (Fpr_trans (Fpr_f (by omega)) (Fpr_f (by omega))) hF2) hF3, .inr (.inl ⟨rfl, a + 2, by omega, hg⟩)⟩
              · refine z_ifeq 196 192 rfl rfl rfl (rg_lit 1 rfl) (fun c => absurd c (by decide)) (fun _ => ?_)
                refine x_cst (zi 2) 1 193 rfl rfl rfl ?_
                refine x_go 197 rfl rfl ?_
                refine x_ret rfl rfl rfl rfl ?_
                exact ⟨_, _, rfl, rfl, Fpr_trans (Fpr_trans (Fpr_trans (Fpr_f (by omega)) (Fpr_f (by omega))) hF2) hF3, .inr (.inr ⟨rfl, a + 2, by omega, hg⟩)⟩
          · refine x_cst (zi 2) 1 156 rfl rfl rfl ?_
            refine x_go 160 rfl rfl ?_
            refine x_cst (zi (-1)) 1 161 rfl rfl rfl ?_
            refine x_cst (zi (-1)) 1 162 rfl rfl rfl ?_
            refine x_ld 2 1 0 163 rfl rfl rfl rfl rfl ?_
            refine x_cst (zi 46) 2 165 rfl rfl rfl ?_
            refine z_icne 172 168 rfl rfl rfl ⟨by omega, by omega⟩ (rg_lit 46 rfl) (fun c165 => ?_) (fun c165 => ?_)
            · refine x_ld 2 1 0 173 rfl rfl rfl rfl rfl ?_
              refine x_cst (zi 97) 2 175 rfl rfl rfl ?_
              refine z_sub 176 rfl rfl ?_
              refine x_ld 0 1 2 177 rfl rfl rfl rfl rfl ?_
              refine g_572_29 165 180 rfl rfl rd_eq rfl ?_
              refine x_cst (zi 2) 1 181 rfl rfl rfl ?_
              refine z_sub 182 rfl rfl ?_
              rw [show ((a + 2 : Nat) : Int) - 2 = ((a : Nat) : Int) from (by omega)]
              refine x_ce 185 110 185 [.ref 572, zi 2, zi (-1), zi (-1), zi (((lk x (a + 1) : Nat) : Int) - 97), zi ((a : Nat) : Int)] rfl rfl rfl (Nat.le_of_ble_eq_true rfl) rfl rfl (Nat.le_of_ble_eq_true rfl) ⟨_, _, _, rfl, o_572⟩ (Nat.le_of_ble_eq_true rfl) (c110 (d + 2) r2 (by omega) (by omega) (y := ((1, 0, 0, tOf (lk x (a + 1))), a)) rfl rfl rfl (fun _ => by show _ = mLt (tOf (lk x (a + 1))); rw [tOf_o (by omega)]; unfold mLt; rw [if_neg (by omega)]; omega) rfl) rfl ?_
              rintro v M2 ⟨rfl, hF2, hR2⟩
              refine x_ld 0 1 2 186 rfl rfl rfl rfl rfl ?_
              refine x_ce 200 111 189 [.ref 572] rfl rfl rfl (Nat.le_of_ble_eq_true rfl) rfl rfl (Nat.le_of_ble_eq_true rfl) ⟨_, _, _, rfl, o_572⟩ (Nat.le_of_ble_eq_true rfl) (c111 d hR2 (Rch_step hR ((mw_sgn (by omega) (by first | (rw [hl2]; rfl) | (rw [hl2]; simp; omega))).trans (by rw [if_pos (by omega)])))) rfl ?_
              rintro v M3 ⟨hF3, hv3⟩
              rcases hv3 with ⟨rfl, hg⟩ | ⟨rfl, hg⟩
              · refine z_ifeq 196 192 rfl rfl rfl (rg_lit 0 rfl) (fun _ => ?_) (fun c => absurd c (by decide))
                refine x_cst (zi 1) 1 197 rfl rfl rfl ?_
                refine x_ret rfl rfl rfl rfl ?_
                exact ⟨_, _, rfl, rfl, Fpr_trans (Fpr_trans (Fpr_trans (Fpr_f (by omega)) (Fpr_f (by omega))) hF2) hF3, .inr (.inl ⟨rfl, a + 2, by omega, hg⟩)⟩
              · refine z_ifeq 196 192 rfl rfl rfl (rg_lit 1 rfl) (fun c => absurd c (by decide)) (fun _ => ?_)
                refine x_cst (zi 2) 1 193 rfl rfl rfl ?_
                refine x_go 197 rfl rfl ?_
                refine x_ret rfl rfl rfl rfl ?_
                exact ⟨_, _, rfl, rfl, Fpr_trans (Fpr_trans (Fpr_trans (Fpr_f (by omega)) (Fpr_f (by omega))) hF2) hF3, .inr (.inr ⟨rfl, a + 2, by omega, hg⟩)⟩
            · refine x_cst (zi 4) 1 169 rfl rfl rfl ?_
              refine x_go 176 rfl rfl ?_
              refine x_ld 0 1 2 177 rfl rfl rfl rfl rfl ?_
              refine g_572_29 165 180 rfl rfl rd_eq rfl ?_
              refine x_cst (zi 2) 1 181 rfl rfl rfl ?_
              refine z_sub 182 rfl rfl ?_
              rw [show ((a + 2 : Nat) : Int) - 2 = ((a : Nat) : Int) from (by omega)]
              refine x_ce 185 110 185 [.ref 572, zi 2, zi (-1), zi (-1), zi 4, zi ((a : Nat) : Int)] rfl rfl rfl (Nat.le_of_ble_eq_true rfl) rfl rfl (Nat.le_of_ble_eq_true rfl) ⟨_, _, _, rfl, o_572⟩ (Nat.le_of_ble_eq_true rfl) (c110 (d + 2) r2 (by omega) (by omega) (y := ((1, 0, 0, tOf (lk x (a + 1))), a)) rfl rfl rfl (fun _ => by show _ = mLt (tOf (lk x (a + 1))); rw [tOf_46 (by omega)]; rfl) rfl) rfl ?_
              rintro v M2 ⟨rfl, hF2, hR2⟩
              refine x_ld 0 1 2 186 rfl rfl rfl rfl rfl ?_
              refine x_ce 200 111 189 [.ref 572] rfl rfl rfl (Nat.le_of_ble_eq_true rfl) rfl rfl (Nat.le_of_ble_eq_true rfl) ⟨_, _, _, rfl, o_572⟩ (Nat.le_of_ble_eq_true rfl) (c111 d hR2 (Rch_step hR ((mw_sgn (by omega) (by first | (rw [hl2]; rfl) | (rw [hl2]; simp; omega))).trans (by rw [if_pos (by omega)])))) rfl ?_
              rintro v M3 ⟨hF3, hv3⟩
              rcases hv3 with ⟨rfl, hg⟩ | ⟨rfl, hg⟩
              · refine z_ifeq 196 192 rfl rfl rfl (rg_lit 0 rfl) (fun _ => ?_) (fun c => absurd c (by decide))
                refine x_cst (zi 1) 1 197 rfl rfl rfl ?_
                refine x_ret rfl rfl rfl rfl ?_
                exact ⟨_, _, rfl, rfl, Fpr_trans (Fpr_trans (Fpr_trans (Fpr_f (by omega)) (Fpr_f (by omega))) hF2) hF3, .inr (.inl ⟨rfl, a + 2, by omega, hg⟩)⟩
              · refine z_ifeq 196 192 rfl rfl rfl (rg_lit 1 rfl) (fun c => absurd c (by decide)) (fun _ => ?_)
                refine x_cst (zi 2) 1 193 rfl rfl rfl ?_
                refine x_go 197 rfl rfl ?_
                refine x_ret rfl rfl rfl rfl ?_
                exact ⟨_, _, rfl, rfl, Fpr_trans (Fpr_trans (Fpr_trans (Fpr_f (by omega)) (Fpr_f (by omega))) hF2) hF3, .inr (.inr ⟨rfl, a + 2, by omega, hg⟩)⟩
        · rw [hl2]
          refine z_ifne 116 104 rfl rfl rfl (rg_lit 0 rfl) (fun c => absurd c (by decide)) (fun _ => ?_)
          refine x_ld 2 1 0 105 rfl rfl rfl rfl rfl ?_
          refine x_cst (zi 46) 2 107 rfl rfl rfl ?_
          refine z_icne 120 110 rfl rfl rfl ⟨by omega, by omega⟩ (rg_lit 46 rfl) (fun c107 => ?_) (fun c107 => ?_)
          · refine x_cst (zi 0) 1 121 rfl rfl rfl ?_
            refine x_st 3 1 0 122 [some (.ref 572), some (zi ((lk x a : Nat) : Int)), some (zi ((lk x (a + 1) : Nat) : Int)), some (zi 0)] rfl rfl rfl (Nat.le_of_ble_eq_true rfl) rfl rfl ?_
            refine x_ld 0 1 2 123 rfl rfl rfl rfl rfl ?_
            refine x_dup 124 rfl rfl rfl ?_
            refine g_572_29 165 127 rfl rfl h.2.1 rfl ?_
            refine x_cst (zi 1) 1 128 rfl rfl rfl ?_
            refine z_add 129 rfl rfl ?_
            rw [show ((a : Nat) : Int) + 1 = ((a + 1 : Nat) : Int) from (by omega)]
            refine s_572_29 165 132 rfl rfl rfl rfl rfl rfl ?_
            refine x_ld 3 1 0 133 rfl rfl rfl rfl rfl ?_
            refine z_ifne 138 136 rfl rfl rfl (rg_lit 0 rfl) (fun c => absurd c (by decide)) (fun _ => ?_)
            refine x_cst (zi 0) 1 137 rfl rfl rfl ?_
            refine x_ret rfl rfl rfl rfl ?_
            exact ⟨_, _, rfl, rfl, Fpr_f (by omega), .inl ⟨rfl, a + 1, ps, ls, os, Rch_step hR (mw_sgnF (by omega) (by rw [hl2]; simp; omega)), rd_eq⟩⟩
          · refine x_ld 1 1 0 111 rfl rfl rfl rfl rfl ?_
            refine x_cst (zi 45) 2 113 rfl rfl rfl ?_
            refine z_icne 120 116 rfl rfl rfl ⟨by omega, by omega⟩ (rg_lit 45 rfl) (fun c113 => ?_) (fun c113 => ?_)
            · refine x_cst (zi 0) 1 121 rfl rfl rfl ?_
              refine x_st 3 1 0 122 [some (.ref 572), some (zi ((lk x a : Nat) : Int)), some (zi ((lk x (a + 1) : Nat) : Int)), some (zi 0)] rfl rfl rfl (Nat.le_of_ble_eq_true rfl) rfl rfl ?_
              refine x_ld 0 1 2 123 rfl rfl rfl rfl rfl ?_
              refine x_dup 124 rfl rfl rfl ?_
              refine g_572_29 165 127 rfl rfl h.2.1 rfl ?_
              refine x_cst (zi 1) 1 128 rfl rfl rfl ?_
              refine z_add 129 rfl rfl ?_
              rw [show ((a : Nat) : Int) + 1 = ((a + 1 : Nat) : Int) from (by omega)]
              refine s_572_29 165 132 rfl rfl rfl rfl rfl rfl ?_
              refine x_ld 3 1 0 133 rfl rfl rfl rfl rfl ?_
              refine z_ifne 138 136 rfl rfl rfl (rg_lit 0 rfl) (fun c => absurd c (by decide)) (fun _ => ?_)
              refine x_cst (zi 0) 1 137 rfl rfl rfl ?_
              refine x_ret rfl rfl rfl rfl ?_
              exact ⟨_, _, rfl, rfl, Fpr_f (by omega), .inl ⟨rfl, a + 1, ps, ls, os, Rch_step hR (mw_sgnF (by omega) (by rw [hl2]; simp; omega)), rd_eq⟩⟩
            · refine x_cst (zi 1) 1 117 rfl rfl rfl ?_
              refine x_go 121 rfl rfl ?_
              refine x_st 3 1 0 122 [some (.ref 572), some (zi ((lk x a : Nat) : Int)), some (zi ((lk x (a + 1) : Nat) : Int)), some (zi 1)] rfl rfl rfl (Nat.le_of_ble_eq_true rfl) rfl rfl ?_
              refine x_ld 0 1 2 123 rfl rfl rfl rfl rfl ?_
              refine x_dup 124 rfl rfl rfl ?_
              refine g_572_29 165 127 rfl rfl h.2.1 rfl ?_
              refine x_cst (zi 1) 1 128 rfl rfl rfl ?_
              refine z_add 129 rfl rfl ?_
              rw [show ((a : Nat) : Int) + 1 = ((a + 1 : Nat) : Int) from (by omega)]
              refine s_572_29 165 132 rfl rfl rfl rfl rfl rfl ?_
              refine x_ld 3 1 0 133 rfl rfl rfl rfl rfl ?_
              refine z_ifne 138 136 rfl rfl rfl (rg_lit 1 rfl) (fun _ => ?_) (fun c => absurd c (by decide))
              refine x_ld 0 1 2 139 rfl rfl rfl rfl rfl ?_
              refine x_dup 140 rfl rfl rfl ?_
              refine g_572_29 165 143 rfl rfl rd_eq rfl ?_
              refine x_cst (zi 1) 1 144 rfl rfl rfl ?_
              refine z_add 145 rfl rfl ?_
              rw [show ((a + 1 : Nat) : Int) + 1 = ((a + 2 : Nat) : Int) from (by omega)]
              refine s_572_29 165 148 rfl rfl rfl rfl rfl rfl ?_
              refine x_ld 0 1 2 149 rfl rfl rfl rfl rfl ?_
              refine x_ld 1 1 0 150 rfl rfl rfl rfl rfl ?_
              refine x_cst (zi 45) 2 152 rfl rfl rfl ?_
              refine z_icne 159 155 rfl rfl rfl ⟨by omega, by omega⟩ (rg_lit 45 rfl) (fun c152 => ?_) (fun c152 => ?_)
              · refine x_cst (zi 3) 1 160 rfl rfl rfl ?_
                refine x_cst (zi (-1)) 1 161 rfl rfl rfl ?_
                refine x_cst (zi (-1)) 1 162 rfl rfl rfl ?_
                refine x_ld 2 1 0 163 rfl rfl rfl rfl rfl ?_
                refine x_cst (zi 46) 2 165 rfl rfl rfl ?_
                refine z_icne 172 168 rfl rfl rfl ⟨by omega, by omega⟩ (rg_lit 46 rfl) (fun c165 => ?_) (fun c165 => ?_)
                · refine x_ld 2 1 0 173 rfl rfl rfl rfl rfl ?_
                  refine x_cst (zi 97) 2 175 rfl rfl rfl ?_
                  refine z_sub 176 rfl rfl ?_
                  refine x_ld 0 1 2 177 rfl rfl rfl rfl rfl ?_
                  refine g_572_29 165 180 rfl rfl rd_eq rfl ?_
                  refine x_cst (zi 2) 1 181 rfl rfl rfl ?_
                  refine z_sub 182 rfl rfl ?_
                  rw [show ((a + 2 : Nat) : Int) - 2 = ((a : Nat) : Int) from (by omega)]
                  refine x_ce 185 110 185 [.ref 572, zi 3, zi (-1), zi (-1), zi (((lk x (a + 1) : Nat) : Int) - 97), zi ((a : Nat) : Int)] rfl rfl rfl (Nat.le_of_ble_eq_true rfl) rfl rfl (Nat.le_of_ble_eq_true rfl) ⟨_, _, _, rfl, o_572⟩ (Nat.le_of_ble_eq_true rfl) (c110 (d + 2) r2 (by omega) (by omega) (y := ((2, 0, 0, tOf (lk x (a + 1))), a)) rfl rfl rfl (fun _ => by show _ = mLt (tOf (lk x (a + 1))); rw [tOf_o (by omega)]; unfold mLt; rw [if_neg (by omega)]; omega) rfl) rfl ?_
                  rintro v M2 ⟨rfl, hF2, hR2⟩
                  refine x_ld 0 1 2 186 rfl rfl rfl rfl rfl ?_
                  refine x_ce 200 111 189 [.ref 572] rfl rfl rfl (Nat.le_of_ble_eq_true rfl) rfl rfl (Nat.le_of_ble_eq_true rfl) ⟨_, _, _, rfl, o_572⟩ (Nat.le_of_ble_eq_true rfl) (c111 d hR2 (Rch_step hR ((mw_sgn (by omega) (by first | (rw [hl2]; rfl) | (rw [hl2]; simp; omega))).trans (by rw [if_neg (by omega)])))) rfl ?_
                  rintro v M3 ⟨hF3, hv3⟩
                  rcases hv3 with ⟨rfl, hg⟩ | ⟨rfl, hg⟩
                  · refine z_ifeq 196 192 rfl rfl rfl (rg_lit 0 rfl) (fun _ => ?_) (fun c => absurd c (by decide))
                    refine x_cst (zi 1) 1 197 rfl rfl rfl ?_
                    refine x_ret rfl rfl rfl rfl ?_
                    exact ⟨_, _, rfl, rfl, Fpr_trans (Fpr_trans (Fpr_trans (Fpr_f (by omega)) (Fpr_f (by omega))) hF2) hF3, .inr (.inl ⟨rfl, a + 2, by omega, hg⟩)⟩
                  · refine z_ifeq 196 192 rfl rfl rfl (rg_lit 1 rfl) (fun c => absurd c (by decide)) (fun _ => ?_)
                    refine x_cst (zi 2) 1 193 rfl rfl rfl ?_
                    refine x_go 197 rfl rfl ?_
                    refine x_ret rfl rfl rfl rfl ?_
                    exact ⟨_, _, rfl, rfl, Fpr_trans (Fpr_trans (Fpr_trans (Fpr_f (by omega)) (Fpr_f (by omega))) hF2) hF3, .inr (.inr ⟨rfl, a + 2, by omega, hg⟩)⟩
                · refine x_cst (zi 4) 1 169 rfl rfl rfl ?_
                  refine x_go 176 rfl rfl ?_
                  refine x_ld 0 1 2 177 rfl rfl rfl rfl rfl ?_
                  refine g_572_29 165 180 rfl rfl rd_eq rfl ?_
                  refine x_cst (zi 2) 1 181 rfl rfl rfl ?_
                  refine z_sub 182 rfl rfl ?_
                  rw [show ((a + 2 : Nat) : Int) - 2 = ((a : Nat) : Int) from (by omega)]
                  refine x_ce 185 110 185 [.ref 572, zi 3, zi (-1), zi (-1), zi 4, zi ((a : Nat) : Int)] rfl rfl rfl (Nat.le_of_ble_eq_true rfl) rfl rfl (Nat.le_of_ble_eq_true rfl) ⟨_, _, _, rfl, o_572⟩ (Nat.le_of_ble_eq_true rfl) (c110 (d + 2) r2 (by omega) (by omega) (y := ((2, 0, 0, tOf (lk x (a + 1))), a)) rfl rfl rfl (fun _ => by show _ = mLt (tOf (lk x (a + 1))); rw [tOf_46 (by omega)]; rfl) rfl) rfl ?_
                  rintro v M2 ⟨rfl, hF2, hR2⟩
                  refine x_ld 0 1 2 186 rfl rfl rfl rfl rfl ?_
                  refine x_ce 200 111 189 [.ref 572] rfl rfl rfl (Nat.le_of_ble_eq_true rfl) rfl rfl (Nat.le_of_ble_eq_true rfl) ⟨_, _, _, rfl, o_572⟩ (Nat.le_of_ble_eq_true rfl) (c111 d hR2 (Rch_step hR ((mw_sgn (by omega) (by first | (rw [hl2]; rfl) | (rw [hl2]; simp; omega))).trans (by rw [if_neg (by omega)])))) rfl ?_
                  rintro v M3 ⟨hF3, hv3⟩
                  rcases hv3 with ⟨rfl, hg⟩ | ⟨rfl, hg⟩
                  · refine z_ifeq 196 192 rfl rfl rfl (rg_lit 0 rfl) (fun _ => ?_) (fun c => absurd c (by decide))
                    refine x_cst (zi 1) 1 197 rfl rfl rfl ?_
                    refine x_ret rfl rfl rfl rfl ?_
                    exact ⟨_, _, rfl, rfl, Fpr_trans (Fpr_trans (Fpr_trans (Fpr_f (by omega)) (Fpr_f (by omega))) hF2) hF3, .inr (.inl ⟨rfl, a + 2, by omega, hg⟩)⟩
                  · refine z_ifeq 196 192 rfl rfl rfl (rg_lit 1 rfl) (fun c => absurd c (by decide)) (fun _ => ?_)
                    refine x_cst (zi 2) 1 193 rfl rfl rfl ?_
                    refine x_go 197 rfl rfl ?_
                    refine x_ret rfl rfl rfl rfl ?_
                    exact ⟨_, _, rfl, rfl, Fpr_trans (Fpr_trans (Fpr_trans (Fpr_f (by omega)) (Fpr_f (by omega))) hF2) hF3, .inr (.inr ⟨rfl, a + 2, by omega, hg⟩)⟩
              · refine x_cst (zi 2) 1 156 rfl rfl rfl ?_
                refine x_go 160 rfl rfl ?_
                refine x_cst (zi (-1)) 1 161 rfl rfl rfl ?_
                refine x_cst (zi (-1)) 1 162 rfl rfl rfl ?_
                refine x_ld 2 1 0 163 rfl rfl rfl rfl rfl ?_
                refine x_cst (zi 46) 2 165 rfl rfl rfl ?_
                refine z_icne 172 168 rfl rfl rfl ⟨by omega, by omega⟩ (rg_lit 46 rfl) (fun c165 => ?_) (fun c165 => ?_)
                · refine x_ld 2 1 0 173 rfl rfl rfl rfl rfl ?_
                  refine x_cst (zi 97) 2 175 rfl rfl rfl ?_
                  refine z_sub 176 rfl rfl ?_
                  refine x_ld 0 1 2 177 rfl rfl rfl rfl rfl ?_
                  refine g_572_29 165 180 rfl rfl rd_eq rfl ?_
                  refine x_cst (zi 2) 1 181 rfl rfl rfl ?_
                  refine z_sub 182 rfl rfl ?_
                  rw [show ((a + 2 : Nat) : Int) - 2 = ((a : Nat) : Int) from (by omega)]
                  refine x_ce 185 110 185 [.ref 572, zi 2, zi (-1), zi (-1), zi (((lk x (a + 1) : Nat) : Int) - 97), zi ((a : Nat) : Int)] rfl rfl rfl (Nat.le_of_ble_eq_true rfl) rfl rfl (Nat.le_of_ble_eq_true rfl) ⟨_, _, _, rfl, o_572⟩ (Nat.le_of_ble_eq_true rfl) (c110 (d + 2) r2 (by omega) (by omega) (y := ((1, 0, 0, tOf (lk x (a + 1))), a)) rfl rfl rfl (fun _ => by show _ = mLt (tOf (lk x (a + 1))); rw [tOf_o (by omega)]; unfold mLt; rw [if_neg (by omega)]; omega) rfl) rfl ?_
                  rintro v M2 ⟨rfl, hF2, hR2⟩
                  refine x_ld 0 1 2 186 rfl rfl rfl rfl rfl ?_
                  refine x_ce 200 111 189 [.ref 572] rfl rfl rfl (Nat.le_of_ble_eq_true rfl) rfl rfl (Nat.le_of_ble_eq_true rfl) ⟨_, _, _, rfl, o_572⟩ (Nat.le_of_ble_eq_true rfl) (c111 d hR2 (Rch_step hR ((mw_sgn (by omega) (by first | (rw [hl2]; rfl) | (rw [hl2]; simp; omega))).trans (by rw [if_pos (by omega)])))) rfl ?_
                  rintro v M3 ⟨hF3, hv3⟩
                  rcases hv3 with ⟨rfl, hg⟩ | ⟨rfl, hg⟩
                  · refine z_ifeq 196 192 rfl rfl rfl (rg_lit 0 rfl) (fun _ => ?_) (fun c => absurd c (by decide))
                    refine x_cst (zi 1) 1 197 rfl rfl rfl ?_
                    refine x_ret rfl rfl rfl rfl ?_
                    exact ⟨_, _, rfl, rfl, Fpr_trans (Fpr_trans (Fpr_trans (Fpr_f (by omega)) (Fpr_f (by omega))) hF2) hF3, .inr (.inl ⟨rfl, a + 2, by omega, hg⟩)⟩
                  · refine z_ifeq 196 192 rfl rfl rfl (rg_lit 1 rfl) (fun c => absurd c (by decide)) (fun _ => ?_)
                    refine x_cst (zi 2) 1 193 rfl rfl rfl ?_
                    refine x_go 197 rfl rfl ?_
                    refine x_ret rfl rfl rfl rfl ?_
                    exact ⟨_, _, rfl, rfl, Fpr_trans (Fpr_trans (Fpr_trans (Fpr_f (by omega)) (Fpr_f (by omega))) hF2) hF3, .inr (.inr ⟨rfl, a + 2, by omega, hg⟩)⟩
                · refine x_cst (zi 4) 1 169 rfl rfl rfl ?_
                  refine x_go 176 rfl rfl ?_
                  refine x_ld 0 1 2 177 rfl rfl rfl rfl rfl ?_
                  refine g_572_29 165 180 rfl rfl rd_eq rfl ?_
                  refine x_cst (zi 2) 1 181 rfl rfl rfl ?_
                  refine z_sub 182 rfl rfl ?_
                  rw [show ((a + 2 : Nat) : Int) - 2 = ((a : Nat) : Int) from (by omega)]
                  refine x_ce 185 110 185 [.ref 572, zi 2, zi (-1), zi (-1), zi 4, zi ((a : Nat) : Int)] rfl rfl rfl (Nat.le_of_ble_eq_true rfl) rfl rfl (Nat.le_of_ble_eq_true rfl) ⟨_, _, _, rfl, o_572⟩ (Nat.le_of_ble_eq_true rfl) (c110 (d + 2) r2 (by omega) (by omega) (y := ((1, 0, 0, tOf (lk x (a + 1))), a)) rfl rfl rfl (fun _ => by show _ = mLt (tOf (lk x (a + 1))); rw [tOf_46 (by omega)]; rfl) rfl) rfl ?_
                  rintro v M2 ⟨rfl, hF2, hR2⟩
                  refine x_ld 0 1 2 186 rfl rfl rfl rfl rfl ?_
                  refine x_ce 200 111 189 [.ref 572] rfl rfl rfl (Nat.le_of_ble_eq_true rfl) rfl rfl (Nat.le_of_ble_eq_true rfl) ⟨_, _, _, rfl, o_572⟩ (Nat.le_of_ble_eq_true rfl) (c111 d hR2 (Rch_step hR ((mw_sgn (by omega) (by first | (rw [hl2]; rfl) | (rw [hl2]; simp; omega))).trans (by rw [if_pos (by omega)])))) rfl ?_
                  rintro v M3 ⟨hF3, hv3⟩
                  rcases hv3 with ⟨rfl, hg⟩ | ⟨rfl, hg⟩
                  · refine z_ifeq 196 192 rfl rfl rfl (rg_lit 0 rfl) (fun _ => ?_) (fun c => absurd c (by decide))
                    refine x_cst (zi 1) 1 197 rfl rfl rfl ?_
                    refine x_ret rfl rfl rfl rfl ?_
                    exact ⟨_, _, rfl, rfl, Fpr_trans (Fpr_trans (Fpr_trans (Fpr_f (by omega)) (Fpr_f (by omega))) hF2) hF3, .inr (.inl ⟨rfl, a + 2, by omega, hg⟩)⟩
                  · refine z_ifeq 196 192 rfl rfl rfl (rg_lit 1 rfl) (fun c => absurd c (by decide)) (fun _ => ?_)
                    refine x_cst (zi 2) 1 193 rfl rfl rfl ?_
                    refine x_go 197 rfl rfl ?_
                    refine x_ret rfl rfl rfl rfl ?_
                    exact ⟨_, _, rfl, rfl, Fpr_trans (Fpr_trans (Fpr_trans (Fpr_f (by omega)) (Fpr_f (by omega))) hF2) hF3, .inr (.inr ⟨rfl, a + 2, by omega, hg⟩)⟩
      · refine x_ld 1 1 0 86 rfl rfl rfl rfl rfl ?_
        refine x_cst (zi 43) 2 88 rfl rfl rfl ?_
        refine z_icne 198 91 rfl rfl rfl ⟨by omega, by omega⟩ (rg_lit 43 rfl) (fun c88 => ?_) (fun c88 => ?_)
        · refine x_ld 1 1 0 199 rfl rfl rfl rfl rfl ?_
          refine x_cst (zi 40) 2 201 rfl rfl rfl ?_
          refine z_icne 216 204 rfl rfl rfl ⟨by omega, by omega⟩ (rg_lit 40 rfl) (fun c201 => ?_) (fun c201 => ?_)
          · refine x_cst (zi 0) 1 217 rfl rfl rfl ?_
            refine x_st 2 1 0 218 [some (.ref 572), some (zi ((lk x a : Nat) : Int)), some (zi 0), none] rfl rfl rfl (Nat.le_of_ble_eq_true rfl) rfl rfl ?_
            refine x_ld 1 1 0 219 rfl rfl rfl rfl rfl ?_
            refine x_cst (zi 94) 2 221 rfl rfl rfl ?_
            refine z_iceq 236 224 rfl rfl rfl ⟨by omega, by omega⟩ (rg_lit 94 rfl) (fun c221 => ?_) (fun c221 => ?_)
            · refine x_ld 0 1 2 237 rfl rfl rfl rfl rfl ?_
              refine x_ld 1 1 0 238 rfl rfl rfl rfl rfl ?_
              refine x_cst (zi 94) 2 240 rfl rfl rfl ?_
              refine z_icne 247 243 rfl rfl rfl ⟨by omega, by omega⟩ (rg_lit 94 rfl) (fun c240 => ?_) (fun c240 => ?_)
              · refine x_ld 1 1 0 248 rfl rfl rfl rfl rfl ?_
                refine x_cst (zi 61) 2 250 rfl rfl rfl ?_
                refine z_icne 258 253 rfl rfl rfl ⟨by omega, by omega⟩ (rg_lit 61 rfl) (fun c250 => ?_) (fun c250 => ?_)
                · refine x_cst (zi 10) 2 260 rfl rfl rfl ?_
                  refine x_ld 0 1 2 261 rfl rfl rfl rfl rfl ?_
                  refine g_572_29 165 264 rfl rfl h.2.1 rfl ?_
                  refine x_ce 207 115 267 [.ref 572, zi 10, zi ((a : Nat) : Int)] rfl rfl rfl (Nat.le_of_ble_eq_true rfl) rfl rfl (Nat.le_of_ble_eq_true rfl) ⟨_, _, _, rfl, o_572⟩ (Nat.le_of_ble_eq_true rfl) (c115 (kd := 10) (pl := a) (d + 2) h (by omega)) rfl ?_
                  rintro v M2 ⟨rfl, hF2, hR2⟩
                  refine x_ld 0 1 2 268 rfl rfl rfl rfl rfl ?_
                  refine x_ld 2 1 0 269 rfl rfl rfl rfl rfl ?_
                  refine z_ifeq 281 272 rfl rfl rfl (rg_lit 0 rfl) (fun _ => ?_) (fun c => absurd c (by decide))
                  refine x_ld 0 1 2 282 rfl rfl rfl rfl rfl ?_
                  refine g_572_28 204 285 rfl rfl hR2.2.2.1 rfl ?_
                  refine s_572_28 204 288 rfl rfl rfl rfl rfl rfl ?_
                  refine x_ld 0 1 2 289 rfl rfl rfl rfl rfl ?_
                  refine x_dup 290 rfl rfl rfl ?_
                  refine g_572_29 165 293 rfl rfl ((rd_nk (Ne.symm (by decide))).trans hR2.2.1) rfl ?_
                  refine x_cst (zi 1) 1 294 rfl rfl rfl ?_
                  refine z_add 295 rfl rfl ?_
                  refine s_572_29 165 298 rfl rfl rfl rfl rfl rfl ?_
                  refine x_cst (zi 1) 1 299 rfl rfl rfl ?_
                  refine x_ret rfl rfl rfl rfl ?_
                  exact ⟨_, _, rfl, rfl, Fpr_trans (Fpr_trans hF2 (Fpr_f (by omega))) (Fpr_f (by omega)), .inr (.inl ⟨rfl, a + 1, by omega, _, _, _, Rch_step hR (mw_br (by omega) (by omega)), rR_at (rR_dp hR2 (dp' := dpt os + 1) (by omega)) (by omega)⟩)⟩
                · refine x_cst (zi 6) 2 255 rfl rfl rfl ?_
                  refine x_go 260 rfl rfl ?_
                  refine x_ld 0 1 2 261 rfl rfl rfl rfl rfl ?_
                  refine g_572_29 165 264 rfl rfl h.2.1 rfl ?_
                  refine x_ce 207 115 267 [.ref 572, zi 6, zi ((a : Nat) : Int)] rfl rfl rfl (Nat.le_of_ble_eq_true rfl) rfl rfl (Nat.le_of_ble_eq_true rfl) ⟨_, _, _, rfl, o_572⟩ (Nat.le_of_ble_eq_true rfl) (c115 (kd := 6) (pl := a) (d + 2) h (by omega)) rfl ?_
                  rintro v M2 ⟨rfl, hF2, hR2⟩
                  refine x_ld 0 1 2 268 rfl rfl rfl rfl rfl ?_
                  refine x_ld 2 1 0 269 rfl rfl rfl rfl rfl ?_
                  refine z_ifeq 281 272 rfl rfl rfl (rg_lit 0 rfl) (fun _ => ?_) (fun c => absurd c (by decide))
                  refine x_ld 0 1 2 282 rfl rfl rfl rfl rfl ?_
                  refine g_572_28 204 285 rfl rfl hR2.2.2.1 rfl ?_
                  refine s_572_28 204 288 rfl rfl rfl rfl rfl rfl ?_
                  refine x_ld 0 1 2 289 rfl rfl rfl rfl rfl ?_
                  refine x_dup 290 rfl rfl rfl ?_
                  refine g_572_29 165 293 rfl rfl ((rd_nk (Ne.symm (by decide))).trans hR2.2.1) rfl ?_
                  refine x_cst (zi 1) 1 294 rfl rfl rfl ?_
                  refine z_add 295 rfl rfl ?_
                  refine s_572_29 165 298 rfl rfl rfl rfl rfl rfl ?_
                  refine x_cst (zi 1) 1 299 rfl rfl rfl ?_
                  refine x_ret rfl rfl rfl rfl ?_
                  exact ⟨_, _, rfl, rfl, Fpr_trans (Fpr_trans hF2 (Fpr_f (by omega))) (Fpr_f (by omega)), .inr (.inl ⟨rfl, a + 1, by omega, _, _, _, Rch_step hR (mw_eq (by omega)), rR_at (rR_dp hR2 (dp' := dpt os) (by omega)) (by omega)⟩)⟩
              · refine x_cst (zi 5) 1 244 rfl rfl rfl ?_
                refine x_go 260 rfl rfl ?_
                refine x_ld 0 1 2 261 rfl rfl rfl rfl rfl ?_
                refine g_572_29 165 264 rfl rfl h.2.1 rfl ?_
                refine x_ce 207 115 267 [.ref 572, zi 5, zi ((a : Nat) : Int)] rfl rfl rfl (Nat.le_of_ble_eq_true rfl) rfl rfl (Nat.le_of_ble_eq_true rfl) ⟨_, _, _, rfl, o_572⟩ (Nat.le_of_ble_eq_true rfl) (c115 (kd := 5) (pl := a) (d + 2) h (by omega)) rfl ?_
                rintro v M2 ⟨rfl, hF2, hR2⟩
                refine x_ld 0 1 2 268 rfl rfl rfl rfl rfl ?_
                refine x_ld 2 1 0 269 rfl rfl rfl rfl rfl ?_
                refine z_ifeq 281 272 rfl rfl rfl (rg_lit 0 rfl) (fun _ => ?_) (fun c => absurd c (by decide))
                refine x_ld 0 1 2 282 rfl rfl rfl rfl rfl ?_
                refine g_572_28 204 285 rfl rfl hR2.2.2.1 rfl ?_
                refine s_572_28 204 288 rfl rfl rfl rfl rfl rfl ?_
                refine x_ld 0 1 2 289 rfl rfl rfl rfl rfl ?_
                refine x_dup 290 rfl rfl rfl ?_
                refine g_572_29 165 293 rfl rfl ((rd_nk (Ne.symm (by decide))).trans hR2.2.1) rfl ?_
                refine x_cst (zi 1) 1 294 rfl rfl rfl ?_
                refine z_add 295 rfl rfl ?_
                refine s_572_29 165 298 rfl rfl rfl rfl rfl rfl ?_
                refine x_cst (zi 1) 1 299 rfl rfl rfl ?_
                refine x_ret rfl rfl rfl rfl ?_
                exact ⟨_, _, rfl, rfl, Fpr_trans (Fpr_trans hF2 (Fpr_f (by omega))) (Fpr_f (by omega)), .inr (.inl ⟨rfl, a + 1, by omega, _, _, _, Rch_step hR (mw_sw (by omega)), rR_at (rR_dp hR2 (dp' := dpt os) (by omega)) (by omega)⟩)⟩
            · refine x_ld 1 1 0 225 rfl rfl rfl rfl rfl ?_
              refine x_cst (zi 61) 2 227 rfl rfl rfl ?_
              refine z_iceq 236 230 rfl rfl rfl ⟨by omega, by omega⟩ (rg_lit 61 rfl) (fun c227 => ?_) (fun c227 => ?_)
              · refine x_ld 0 1 2 237 rfl rfl rfl rfl rfl ?_
                refine x_ld 1 1 0 238 rfl rfl rfl rfl rfl ?_
                refine x_cst (zi 94) 2 240 rfl rfl rfl ?_
                refine z_icne 247 243 rfl rfl rfl ⟨by omega, by omega⟩ (rg_lit 94 rfl) (fun c240 => ?_) (fun c240 => ?_)
                · refine x_ld 1 1 0 248 rfl rfl rfl rfl rfl ?_
                  refine x_cst (zi 61) 2 250 rfl rfl rfl ?_
                  refine z_icne 258 253 rfl rfl rfl ⟨by omega, by omega⟩ (rg_lit 61 rfl) (fun c250 => ?_) (fun c250 => ?_)
                  · refine x_cst (zi 10) 2 260 rfl rfl rfl ?_
                    refine x_ld 0 1 2 261 rfl rfl rfl rfl rfl ?_
                    refine g_572_29 165 264 rfl rfl h.2.1 rfl ?_
                    refine x_ce 207 115 267 [.ref 572, zi 10, zi ((a : Nat) : Int)] rfl rfl rfl (Nat.le_of_ble_eq_true rfl) rfl rfl (Nat.le_of_ble_eq_true rfl) ⟨_, _, _, rfl, o_572⟩ (Nat.le_of_ble_eq_true rfl) (c115 (kd := 10) (pl := a) (d + 2) h (by omega)) rfl ?_
                    rintro v M2 ⟨rfl, hF2, hR2⟩
                    refine x_ld 0 1 2 268 rfl rfl rfl rfl rfl ?_
                    refine x_ld 2 1 0 269 rfl rfl rfl rfl rfl ?_
                    refine z_ifeq 281 272 rfl rfl rfl (rg_lit 0 rfl) (fun _ => ?_) (fun c => absurd c (by decide))
                    refine x_ld 0 1 2 282 rfl rfl rfl rfl rfl ?_
                    refine g_572_28 204 285 rfl rfl hR2.2.2.1 rfl ?_
                    refine s_572_28 204 288 rfl rfl rfl rfl rfl rfl ?_
                    refine x_ld 0 1 2 289 rfl rfl rfl rfl rfl ?_
                    refine x_dup 290 rfl rfl rfl ?_
                    refine g_572_29 165 293 rfl rfl ((rd_nk (Ne.symm (by decide))).trans hR2.2.1) rfl ?_
                    refine x_cst (zi 1) 1 294 rfl rfl rfl ?_
                    refine z_add 295 rfl rfl ?_
                    refine s_572_29 165 298 rfl rfl rfl rfl rfl rfl ?_
                    refine x_cst (zi 1) 1 299 rfl rfl rfl ?_
                    refine x_ret rfl rfl rfl rfl ?_
                    exact ⟨_, _, rfl, rfl, Fpr_trans (Fpr_trans hF2 (Fpr_f (by omega))) (Fpr_f (by omega)), .inr (.inl ⟨rfl, a + 1, by omega, _, _, _, Rch_step hR (mw_br (by omega) (by omega)), rR_at (rR_dp hR2 (dp' := dpt os + 1) (by omega)) (by omega)⟩)⟩
                  · refine x_cst (zi 6) 2 255 rfl rfl rfl ?_
                    refine x_go 260 rfl rfl ?_
                    refine x_ld 0 1 2 261 rfl rfl rfl rfl rfl ?_
                    refine g_572_29 165 264 rfl rfl h.2.1 rfl ?_
                    refine x_ce 207 115 267 [.ref 572, zi 6, zi ((a : Nat) : Int)] rfl rfl rfl (Nat.le_of_ble_eq_true rfl) rfl rfl (Nat.le_of_ble_eq_true rfl) ⟨_, _, _, rfl, o_572⟩ (Nat.le_of_ble_eq_true rfl) (c115 (kd := 6) (pl := a) (d + 2) h (by omega)) rfl ?_
                    rintro v M2 ⟨rfl, hF2, hR2⟩
                    refine x_ld 0 1 2 268 rfl rfl rfl rfl rfl ?_
                    refine x_ld 2 1 0 269 rfl rfl rfl rfl rfl ?_
                    refine z_ifeq 281 272 rfl rfl rfl (rg_lit 0 rfl) (fun _ => ?_) (fun c => absurd c (by decide))
                    refine x_ld 0 1 2 282 rfl rfl rfl rfl rfl ?_
                    refine g_572_28 204 285 rfl rfl hR2.2.2.1 rfl ?_
                    refine s_572_28 204 288 rfl rfl rfl rfl rfl rfl ?_
                    refine x_ld 0 1 2 289 rfl rfl rfl rfl rfl ?_
                    refine x_dup 290 rfl rfl rfl ?_
                    refine g_572_29 165 293 rfl rfl ((rd_nk (Ne.symm (by decide))).trans hR2.2.1) rfl ?_
                    refine x_cst (zi 1) 1 294 rfl rfl rfl ?_
                    refine z_add 295 rfl rfl ?_
                    refine s_572_29 165 298 rfl rfl rfl rfl rfl rfl ?_
                    refine x_cst (zi 1) 1 299 rfl rfl rfl ?_
                    refine x_ret rfl rfl rfl rfl ?_
                    exact ⟨_, _, rfl, rfl, Fpr_trans (Fpr_trans hF2 (Fpr_f (by omega))) (Fpr_f (by omega)), .inr (.inl ⟨rfl, a + 1, by omega, _, _, _, Rch_step hR (mw_eq (by omega)), rR_at (rR_dp hR2 (dp' := dpt os) (by omega)) (by omega)⟩)⟩
                · refine x_cst (zi 5) 1 244 rfl rfl rfl ?_
                  refine x_go 260 rfl rfl ?_
                  refine x_ld 0 1 2 261 rfl rfl rfl rfl rfl ?_
                  refine g_572_29 165 264 rfl rfl h.2.1 rfl ?_
                  refine x_ce 207 115 267 [.ref 572, zi 5, zi ((a : Nat) : Int)] rfl rfl rfl (Nat.le_of_ble_eq_true rfl) rfl rfl (Nat.le_of_ble_eq_true rfl) ⟨_, _, _, rfl, o_572⟩ (Nat.le_of_ble_eq_true rfl) (c115 (kd := 5) (pl := a) (d + 2) h (by omega)) rfl ?_
                  rintro v M2 ⟨rfl, hF2, hR2⟩
                  refine x_ld 0 1 2 268 rfl rfl rfl rfl rfl ?_
                  refine x_ld 2 1 0 269 rfl rfl rfl rfl rfl ?_
                  refine z_ifeq 281 272 rfl rfl rfl (rg_lit 0 rfl) (fun _ => ?_) (fun c => absurd c (by decide))
                  refine x_ld 0 1 2 282 rfl rfl rfl rfl rfl ?_
                  refine g_572_28 204 285 rfl rfl hR2.2.2.1 rfl ?_
                  refine s_572_28 204 288 rfl rfl rfl rfl rfl rfl ?_
                  refine x_ld 0 1 2 289 rfl rfl rfl rfl rfl ?_
                  refine x_dup 290 rfl rfl rfl ?_
                  refine g_572_29 165 293 rfl rfl ((rd_nk (Ne.symm (by decide))).trans hR2.2.1) rfl ?_
                  refine x_cst (zi 1) 1 294 rfl rfl rfl ?_
                  refine z_add 295 rfl rfl ?_
                  refine s_572_29 165 298 rfl rfl rfl rfl rfl rfl ?_
                  refine x_cst (zi 1) 1 299 rfl rfl rfl ?_
                  refine x_ret rfl rfl rfl rfl ?_
                  exact ⟨_, _, rfl, rfl, Fpr_trans (Fpr_trans hF2 (Fpr_f (by omega))) (Fpr_f (by omega)), .inr (.inl ⟨rfl, a + 1, by omega, _, _, _, Rch_step hR (mw_sw (by omega)), rR_at (rR_dp hR2 (dp' := dpt os) (by omega)) (by omega)⟩)⟩
              · refine x_ld 2 1 0 231 rfl rfl rfl rfl rfl ?_
                refine z_ifne 236 234 rfl rfl rfl (rg_lit 0 rfl) (fun c => absurd c (by decide)) (fun _ => ?_)
                refine x_cst (zi 0) 1 235 rfl rfl rfl ?_
                refine x_ret rfl rfl rfl rfl ?_
                exact ⟨_, _, rfl, rfl, Fpr_refl M, .inl ⟨rfl, a, ps, ls, os, Rch_step hR (mw_F (by rw [hl]; simp; omega) (by omega) (by omega) (by omega) (by omega) (by omega)), h.2.1⟩⟩
          · refine x_ld 0 1 2 205 rfl rfl rfl rfl rfl ?_
            refine g_572_28 204 208 rfl rfl h.2.2.1 rfl ?_
            refine x_cst (zi 4) 1 209 rfl rfl rfl ?_
            refine z_icge 216 212 rfl rfl rfl ⟨by omega, by omega⟩ (rg_lit 4 rfl) (fun c209 => ?_) (fun c209 => ?_)
            · refine x_cst (zi 0) 1 217 rfl rfl rfl ?_
              refine x_st 2 1 0 218 [some (.ref 572), some (zi ((lk x a : Nat) : Int)), some (zi 0), none] rfl rfl rfl (Nat.le_of_ble_eq_true rfl) rfl rfl ?_
              refine x_ld 1 1 0 219 rfl rfl rfl rfl rfl ?_
              refine x_cst (zi 94) 2 221 rfl rfl rfl ?_
              refine z_iceq 236 224 rfl rfl rfl ⟨by omega, by omega⟩ (rg_lit 94 rfl) (fun c221 => ?_) (fun c221 => ?_)
              · refine x_ld 0 1 2 237 rfl rfl rfl rfl rfl ?_
                refine x_ld 1 1 0 238 rfl rfl rfl rfl rfl ?_
                refine x_cst (zi 94) 2 240 rfl rfl rfl ?_
                refine z_icne 247 243 rfl rfl rfl ⟨by omega, by omega⟩ (rg_lit 94 rfl) (fun c240 => ?_) (fun c240 => ?_)
                · refine x_ld 1 1 0 248 rfl rfl rfl rfl rfl ?_
                  refine x_cst (zi 61) 2 250 rfl rfl rfl ?_
                  refine z_icne 258 253 rfl rfl rfl ⟨by omega, by omega⟩ (rg_lit 61 rfl) (fun c250 => ?_) (fun c250 => ?_)
                  · refine x_cst (zi 10) 2 260 rfl rfl rfl ?_
                    refine x_ld 0 1 2 261 rfl rfl rfl rfl rfl ?_
                    refine g_572_29 165 264 rfl rfl h.2.1 rfl ?_
                    refine x_ce 207 115 267 [.ref 572, zi 10, zi ((a : Nat) : Int)] rfl rfl rfl (Nat.le_of_ble_eq_true rfl) rfl rfl (Nat.le_of_ble_eq_true rfl) ⟨_, _, _, rfl, o_572⟩ (Nat.le_of_ble_eq_true rfl) (c115 (kd := 10) (pl := a) (d + 2) h (by omega)) rfl ?_
                    rintro v M2 ⟨rfl, hF2, hR2⟩
                    refine x_ld 0 1 2 268 rfl rfl rfl rfl rfl ?_
                    refine x_ld 2 1 0 269 rfl rfl rfl rfl rfl ?_
                    refine z_ifeq 281 272 rfl rfl rfl (rg_lit 0 rfl) (fun _ => ?_) (fun c => absurd c (by decide))
                    refine x_ld 0 1 2 282 rfl rfl rfl rfl rfl ?_
                    refine g_572_28 204 285 rfl rfl hR2.2.2.1 rfl ?_
                    refine s_572_28 204 288 rfl rfl rfl rfl rfl rfl ?_
                    refine x_ld 0 1 2 289 rfl rfl rfl rfl rfl ?_
                    refine x_dup 290 rfl rfl rfl ?_
                    refine g_572_29 165 293 rfl rfl ((rd_nk (Ne.symm (by decide))).trans hR2.2.1) rfl ?_
                    refine x_cst (zi 1) 1 294 rfl rfl rfl ?_
                    refine z_add 295 rfl rfl ?_
                    refine s_572_29 165 298 rfl rfl rfl rfl rfl rfl ?_
                    refine x_cst (zi 1) 1 299 rfl rfl rfl ?_
                    refine x_ret rfl rfl rfl rfl ?_
                    exact ⟨_, _, rfl, rfl, Fpr_trans (Fpr_trans hF2 (Fpr_f (by omega))) (Fpr_f (by omega)), .inr (.inl ⟨rfl, a + 1, by omega, _, _, _, Rch_step hR (mw_br (by omega) (by omega)), rR_at (rR_dp hR2 (dp' := dpt os + 1) (by omega)) (by omega)⟩)⟩
                  · refine x_cst (zi 6) 2 255 rfl rfl rfl ?_
                    refine x_go 260 rfl rfl ?_
                    refine x_ld 0 1 2 261 rfl rfl rfl rfl rfl ?_
                    refine g_572_29 165 264 rfl rfl h.2.1 rfl ?_
                    refine x_ce 207 115 267 [.ref 572, zi 6, zi ((a : Nat) : Int)] rfl rfl rfl (Nat.le_of_ble_eq_true rfl) rfl rfl (Nat.le_of_ble_eq_true rfl) ⟨_, _, _, rfl, o_572⟩ (Nat.le_of_ble_eq_true rfl) (c115 (kd := 6) (pl := a) (d + 2) h (by omega)) rfl ?_
                    rintro v M2 ⟨rfl, hF2, hR2⟩
                    refine x_ld 0 1 2 268 rfl rfl rfl rfl rfl ?_
                    refine x_ld 2 1 0 269 rfl rfl rfl rfl rfl ?_
                    refine z_ifeq 281 272 rfl rfl rfl (rg_lit 0 rfl) (fun _ => ?_) (fun c => absurd c (by decide))
                    refine x_ld 0 1 2 282 rfl rfl rfl rfl rfl ?_
                    refine g_572_28 204 285 rfl rfl hR2.2.2.1 rfl ?_
                    refine s_572_28 204 288 rfl rfl rfl rfl rfl rfl ?_
                    refine x_ld 0 1 2 289 rfl rfl rfl rfl rfl ?_
                    refine x_dup 290 rfl rfl rfl ?_
                    refine g_572_29 165 293 rfl rfl ((rd_nk (Ne.symm (by decide))).trans hR2.2.1) rfl ?_
                    refine x_cst (zi 1) 1 294 rfl rfl rfl ?_
                    refine z_add 295 rfl rfl ?_
                    refine s_572_29 165 298 rfl rfl rfl rfl rfl rfl ?_
                    refine x_cst (zi 1) 1 299 rfl rfl rfl ?_
                    refine x_ret rfl rfl rfl rfl ?_
                    exact ⟨_, _, rfl, rfl, Fpr_trans (Fpr_trans hF2 (Fpr_f (by omega))) (Fpr_f (by omega)), .inr (.inl ⟨rfl, a + 1, by omega, _, _, _, Rch_step hR (mw_eq (by omega)), rR_at (rR_dp hR2 (dp' := dpt os) (by omega)) (by omega)⟩)⟩
                · refine x_cst (zi 5) 1 244 rfl rfl rfl ?_
                  refine x_go 260 rfl rfl ?_
                  refine x_ld 0 1 2 261 rfl rfl rfl rfl rfl ?_
                  refine g_572_29 165 264 rfl rfl h.2.1 rfl ?_
                  refine x_ce 207 115 267 [.ref 572, zi 5, zi ((a : Nat) : Int)] rfl rfl rfl (Nat.le_of_ble_eq_true rfl) rfl rfl (Nat.le_of_ble_eq_true rfl) ⟨_, _, _, rfl, o_572⟩ (Nat.le_of_ble_eq_true rfl) (c115 (kd := 5) (pl := a) (d + 2) h (by omega)) rfl ?_
                  rintro v M2 ⟨rfl, hF2, hR2⟩
                  refine x_ld 0 1 2 268 rfl rfl rfl rfl rfl ?_
                  refine x_ld 2 1 0 269 rfl rfl rfl rfl rfl ?_
                  refine z_ifeq 281 272 rfl rfl rfl (rg_lit 0 rfl) (fun _ => ?_) (fun c => absurd c (by decide))
                  refine x_ld 0 1 2 282 rfl rfl rfl rfl rfl ?_
                  refine g_572_28 204 285 rfl rfl hR2.2.2.1 rfl ?_
                  refine s_572_28 204 288 rfl rfl rfl rfl rfl rfl ?_
                  refine x_ld 0 1 2 289 rfl rfl rfl rfl rfl ?_
                  refine x_dup 290 rfl rfl rfl ?_
                  refine g_572_29 165 293 rfl rfl ((rd_nk (Ne.symm (by decide))).trans hR2.2.1) rfl ?_
                  refine x_cst (zi 1) 1 294 rfl rfl rfl ?_
                  refine z_add 295 rfl rfl ?_
                  refine s_572_29 165 298 rfl rfl rfl rfl rfl rfl ?_
                  refine x_cst (zi 1) 1 299 rfl rfl rfl ?_
                  refine x_ret rfl rfl rfl rfl ?_
                  exact ⟨_, _, rfl, rfl, Fpr_trans (Fpr_trans hF2 (Fpr_f (by omega))) (Fpr_f (by omega)), .inr (.inl ⟨rfl, a + 1, by omega, _, _, _, Rch_step hR (mw_sw (by omega)), rR_at (rR_dp hR2 (dp' := dpt os) (by omega)) (by omega)⟩)⟩
              · refine x_ld 1 1 0 225 rfl rfl rfl rfl rfl ?_
                refine x_cst (zi 61) 2 227 rfl rfl rfl ?_
                refine z_iceq 236 230 rfl rfl rfl ⟨by omega, by omega⟩ (rg_lit 61 rfl) (fun c227 => ?_) (fun c227 => ?_)
                · refine x_ld 0 1 2 237 rfl rfl rfl rfl rfl ?_
                  refine x_ld 1 1 0 238 rfl rfl rfl rfl rfl ?_
                  refine x_cst (zi 94) 2 240 rfl rfl rfl ?_
                  refine z_icne 247 243 rfl rfl rfl ⟨by omega, by omega⟩ (rg_lit 94 rfl) (fun c240 => ?_) (fun c240 => ?_)
                  · refine x_ld 1 1 0 248 rfl rfl rfl rfl rfl ?_
                    refine x_cst (zi 61) 2 250 rfl rfl rfl ?_
                    refine z_icne 258 253 rfl rfl rfl ⟨by omega, by omega⟩ (rg_lit 61 rfl) (fun c250 => ?_) (fun c250 => ?_)
                    · refine x_cst (zi 10) 2 260 rfl rfl rfl ?_
                      refine x_ld 0 1 2 261 rfl rfl rfl rfl rfl ?_
                      refine g_572_29 165 264 rfl rfl h.2.1 rfl ?_
                      refine x_ce 207 115 267 [.ref 572, zi 10, zi ((a : Nat) : Int)] rfl rfl rfl (Nat.le_of_ble_eq_true rfl) rfl rfl (Nat.le_of_ble_eq_true rfl) ⟨_, _, _, rfl, o_572⟩ (Nat.le_of_ble_eq_true rfl) (c115 (kd := 10) (pl := a) (d + 2) h (by omega)) rfl ?_
                      rintro v M2 ⟨rfl, hF2, hR2⟩
                      refine x_ld 0 1 2 268 rfl rfl rfl rfl rfl ?_
                      refine x_ld 2 1 0 269 rfl rfl rfl rfl rfl ?_
                      refine z_ifeq 281 272 rfl rfl rfl (rg_lit 0 rfl) (fun _ => ?_) (fun c => absurd c (by decide))
                      refine x_ld 0 1 2 282 rfl rfl rfl rfl rfl ?_
                      refine g_572_28 204 285 rfl rfl hR2.2.2.1 rfl ?_
                      refine s_572_28 204 288 rfl rfl rfl rfl rfl rfl ?_
                      refine x_ld 0 1 2 289 rfl rfl rfl rfl rfl ?_
                      refine x_dup 290 rfl rfl rfl ?_
                      refine g_572_29 165 293 rfl rfl ((rd_nk (Ne.symm (by decide))).trans hR2.2.1) rfl ?_
                      refine x_cst (zi 1) 1 294 rfl rfl rfl ?_
                      refine z_add 295 rfl rfl ?_
                      refine s_572_29 165 298 rfl rfl rfl rfl rfl rfl ?_
                      refine x_cst (zi 1) 1 299 rfl rfl rfl ?_
                      refine x_ret rfl rfl rfl rfl ?_
                      exact ⟨_, _, rfl, rfl, Fpr_trans (Fpr_trans hF2 (Fpr_f (by omega))) (Fpr_f (by omega)), .inr (.inl ⟨rfl, a + 1, by omega, _, _, _, Rch_step hR (mw_br (by omega) (by omega)), rR_at (rR_dp hR2 (dp' := dpt os + 1) (by omega)) (by omega)⟩)⟩
                    · refine x_cst (zi 6) 2 255 rfl rfl rfl ?_
                      refine x_go 260 rfl rfl ?_
                      refine x_ld 0 1 2 261 rfl rfl rfl rfl rfl ?_
                      refine g_572_29 165 264 rfl rfl h.2.1 rfl ?_
                      refine x_ce 207 115 267 [.ref 572, zi 6, zi ((a : Nat) : Int)] rfl rfl rfl (Nat.le_of_ble_eq_true rfl) rfl rfl (Nat.le_of_ble_eq_true rfl) ⟨_, _, _, rfl, o_572⟩ (Nat.le_of_ble_eq_true rfl) (c115 (kd := 6) (pl := a) (d + 2) h (by omega)) rfl ?_
                      rintro v M2 ⟨rfl, hF2, hR2⟩
                      refine x_ld 0 1 2 268 rfl rfl rfl rfl rfl ?_
                      refine x_ld 2 1 0 269 rfl rfl rfl rfl rfl ?_
                      refine z_ifeq 281 272 rfl rfl rfl (rg_lit 0 rfl) (fun _ => ?_) (fun c => absurd c (by decide))
                      refine x_ld 0 1 2 282 rfl rfl rfl rfl rfl ?_
                      refine g_572_28 204 285 rfl rfl hR2.2.2.1 rfl ?_
                      refine s_572_28 204 288 rfl rfl rfl rfl rfl rfl ?_
                      refine x_ld 0 1 2 289 rfl rfl rfl rfl rfl ?_
                      refine x_dup 290 rfl rfl rfl ?_
                      refine g_572_29 165 293 rfl rfl ((rd_nk (Ne.symm (by decide))).trans hR2.2.1) rfl ?_
                      refine x_cst (zi 1) 1 294 rfl rfl rfl ?_
                      refine z_add 295 rfl rfl ?_
                      refine s_572_29 165 298 rfl rfl rfl rfl rfl rfl ?_
                      refine x_cst (zi 1) 1 299 rfl rfl rfl ?_
                      refine x_ret rfl rfl rfl rfl ?_
                      exact ⟨_, _, rfl, rfl, Fpr_trans (Fpr_trans hF2 (Fpr_f (by omega))) (Fpr_f (by omega)), .inr (.inl ⟨rfl, a + 1, by omega, _, _, _, Rch_step hR (mw_eq (by omega)), rR_at (rR_dp hR2 (dp' := dpt os) (by omega)) (by omega)⟩)⟩
                  · refine x_cst (zi 5) 1 244 rfl rfl rfl ?_
                    refine x_go 260 rfl rfl ?_
                    refine x_ld 0 1 2 261 rfl rfl rfl rfl rfl ?_
                    refine g_572_29 165 264 rfl rfl h.2.1 rfl ?_
                    refine x_ce 207 115 267 [.ref 572, zi 5, zi ((a : Nat) : Int)] rfl rfl rfl (Nat.le_of_ble_eq_true rfl) rfl rfl (Nat.le_of_ble_eq_true rfl) ⟨_, _, _, rfl, o_572⟩ (Nat.le_of_ble_eq_true rfl) (c115 (kd := 5) (pl := a) (d + 2) h (by omega)) rfl ?_
                    rintro v M2 ⟨rfl, hF2, hR2⟩
                    refine x_ld 0 1 2 268 rfl rfl rfl rfl rfl ?_
                    refine x_ld 2 1 0 269 rfl rfl rfl rfl rfl ?_
                    refine z_ifeq 281 272 rfl rfl rfl (rg_lit 0 rfl) (fun _ => ?_) (fun c => absurd c (by decide))
                    refine x_ld 0 1 2 282 rfl rfl rfl rfl rfl ?_
                    refine g_572_28 204 285 rfl rfl hR2.2.2.1 rfl ?_
                    refine s_572_28 204 288 rfl rfl rfl rfl rfl rfl ?_
                    refine x_ld 0 1 2 289 rfl rfl rfl rfl rfl ?_
                    refine x_dup 290 rfl rfl rfl ?_
                    refine g_572_29 165 293 rfl rfl ((rd_nk (Ne.symm (by decide))).trans hR2.2.1) rfl ?_
                    refine x_cst (zi 1) 1 294 rfl rfl rfl ?_
                    refine z_add 295 rfl rfl ?_
                    refine s_572_29 165 298 rfl rfl rfl rfl rfl rfl ?_
                    refine x_cst (zi 1) 1 299 rfl rfl rfl ?_
                    refine x_ret rfl rfl rfl rfl ?_
                    exact ⟨_, _, rfl, rfl, Fpr_trans (Fpr_trans hF2 (Fpr_f (by omega))) (Fpr_f (by omega)), .inr (.inl ⟨rfl, a + 1, by omega, _, _, _, Rch_step hR (mw_sw (by omega)), rR_at (rR_dp hR2 (dp' := dpt os) (by omega)) (by omega)⟩)⟩
                · refine x_ld 2 1 0 231 rfl rfl rfl rfl rfl ?_
                  refine z_ifne 236 234 rfl rfl rfl (rg_lit 0 rfl) (fun c => absurd c (by decide)) (fun _ => ?_)
                  refine x_cst (zi 0) 1 235 rfl rfl rfl ?_
                  refine x_ret rfl rfl rfl rfl ?_
                  exact ⟨_, _, rfl, rfl, Fpr_refl M, .inl ⟨rfl, a, ps, ls, os, Rch_step hR (mw_brF (by omega) (by omega)), h.2.1⟩⟩
            · refine x_cst (zi 1) 1 213 rfl rfl rfl ?_
              refine x_go 217 rfl rfl ?_
              refine x_st 2 1 0 218 [some (.ref 572), some (zi ((lk x a : Nat) : Int)), some (zi 1), none] rfl rfl rfl (Nat.le_of_ble_eq_true rfl) rfl rfl ?_
              refine x_ld 1 1 0 219 rfl rfl rfl rfl rfl ?_
              refine x_cst (zi 94) 2 221 rfl rfl rfl ?_
              refine z_iceq 236 224 rfl rfl rfl ⟨by omega, by omega⟩ (rg_lit 94 rfl) (fun c221 => ?_) (fun c221 => ?_)
              · refine x_ld 0 1 2 237 rfl rfl rfl rfl rfl ?_
                refine x_ld 1 1 0 238 rfl rfl rfl rfl rfl ?_
                refine x_cst (zi 94) 2 240 rfl rfl rfl ?_
                refine z_icne 247 243 rfl rfl rfl ⟨by omega, by omega⟩ (rg_lit 94 rfl) (fun c240 => ?_) (fun c240 => ?_)
                · refine x_ld 1 1 0 248 rfl rfl rfl rfl rfl ?_
                  refine x_cst (zi 61) 2 250 rfl rfl rfl ?_
                  refine z_icne 258 253 rfl rfl rfl ⟨by omega, by omega⟩ (rg_lit 61 rfl) (fun c250 => ?_) (fun c250 => ?_)
                  · refine x_cst (zi 10) 2 260 rfl rfl rfl ?_
                    refine x_ld 0 1 2 261 rfl rfl rfl rfl rfl ?_
                    refine g_572_29 165 264 rfl rfl h.2.1 rfl ?_
                    refine x_ce 207 115 267 [.ref 572, zi 10, zi ((a : Nat) : Int)] rfl rfl rfl (Nat.le_of_ble_eq_true rfl) rfl rfl (Nat.le_of_ble_eq_true rfl) ⟨_, _, _, rfl, o_572⟩ (Nat.le_of_ble_eq_true rfl) (c115 (kd := 10) (pl := a) (d + 2) h (by omega)) rfl ?_
                    rintro v M2 ⟨rfl, hF2, hR2⟩
                    refine x_ld 0 1 2 268 rfl rfl rfl rfl rfl ?_
                    refine x_ld 2 1 0 269 rfl rfl rfl rfl rfl ?_
                    refine z_ifeq 281 272 rfl rfl rfl (rg_lit 1 rfl) (fun c => absurd c (by decide)) (fun _ => ?_)
                    refine x_ld 0 1 2 273 rfl rfl rfl rfl rfl ?_
                    refine g_572_28 204 276 rfl rfl hR2.2.2.1 rfl ?_
                    refine x_cst (zi 1) 1 277 rfl rfl rfl ?_
                    refine z_add 278 rfl rfl ?_
                    refine x_go 285 rfl rfl ?_
                    refine s_572_28 204 288 rfl rfl rfl rfl rfl rfl ?_
                    refine x_ld 0 1 2 289 rfl rfl rfl rfl rfl ?_
                    refine x_dup 290 rfl rfl rfl ?_
                    refine g_572_29 165 293 rfl rfl ((rd_nk (Ne.symm (by decide))).trans hR2.2.1) rfl ?_
                    refine x_cst (zi 1) 1 294 rfl rfl rfl ?_
                    refine z_add 295 rfl rfl ?_
                    refine s_572_29 165 298 rfl rfl rfl rfl rfl rfl ?_
                    refine x_cst (zi 1) 1 299 rfl rfl rfl ?_
                    refine x_ret rfl rfl rfl rfl ?_
                    exact ⟨_, _, rfl, rfl, Fpr_trans (Fpr_trans hF2 (Fpr_f (by omega))) (Fpr_f (by omega)), .inr (.inl ⟨rfl, a + 1, by omega, _, _, _, Rch_step hR (mw_br (by omega) (by omega)), rR_at (rR_dp hR2 (dp' := dpt os + 1) (by omega)) (by omega)⟩)⟩
                  · refine x_cst (zi 6) 2 255 rfl rfl rfl ?_
                    refine x_go 260 rfl rfl ?_
                    refine x_ld 0 1 2 261 rfl rfl rfl rfl rfl ?_
                    refine g_572_29 165 264 rfl rfl h.2.1 rfl ?_
                    refine x_ce 207 115 267 [.ref 572, zi 6, zi ((a : Nat) : Int)] rfl rfl rfl (Nat.le_of_ble_eq_true rfl) rfl rfl (Nat.le_of_ble_eq_true rfl) ⟨_, _, _, rfl, o_572⟩ (Nat.le_of_ble_eq_true rfl) (c115 (kd := 6) (pl := a) (d + 2) h (by omega)) rfl ?_
                    rintro v M2 ⟨rfl, hF2, hR2⟩
                    refine x_ld 0 1 2 268 rfl rfl rfl rfl rfl ?_
                    refine x_ld 2 1 0 269 rfl rfl rfl rfl rfl ?_
                    refine z_ifeq 281 272 rfl rfl rfl (rg_lit 1 rfl) (fun c => absurd c (by decide)) (fun _ => ?_)
                    refine x_ld 0 1 2 273 rfl rfl rfl rfl rfl ?_
                    refine g_572_28 204 276 rfl rfl hR2.2.2.1 rfl ?_
                    refine x_cst (zi 1) 1 277 rfl rfl rfl ?_
                    refine z_add 278 rfl rfl ?_
                    refine x_go 285 rfl rfl ?_
                    refine s_572_28 204 288 rfl rfl rfl rfl rfl rfl ?_
                    refine x_ld 0 1 2 289 rfl rfl rfl rfl rfl ?_
                    refine x_dup 290 rfl rfl rfl ?_
                    refine g_572_29 165 293 rfl rfl ((rd_nk (Ne.symm (by decide))).trans hR2.2.1) rfl ?_
                    refine x_cst (zi 1) 1 294 rfl rfl rfl ?_
                    refine z_add 295 rfl rfl ?_
                    refine s_572_29 165 298 rfl rfl rfl rfl rfl rfl ?_
                    refine x_cst (zi 1) 1 299 rfl rfl rfl ?_
                    refine x_ret rfl rfl rfl rfl ?_
                    exact ⟨_, _, rfl, rfl, Fpr_trans (Fpr_trans hF2 (Fpr_f (by omega))) (Fpr_f (by omega)), .inr (.inl ⟨rfl, a + 1, by omega, _, _, _, Rch_step hR (mw_eq (by omega)), rR_at (rR_dp hR2 (dp' := dpt os) (by omega)) (by omega)⟩)⟩
                · refine x_cst (zi 5) 1 244 rfl rfl rfl ?_
                  refine x_go 260 rfl rfl ?_
                  refine x_ld 0 1 2 261 rfl rfl rfl rfl rfl ?_
                  refine g_572_29 165 264 rfl rfl h.2.1 rfl ?_
                  refine x_ce 207 115 267 [.ref 572, zi 5, zi ((a : Nat) : Int)] rfl rfl rfl (Nat.le_of_ble_eq_true rfl) rfl rfl (Nat.le_of_ble_eq_true rfl) ⟨_, _, _, rfl, o_572⟩ (Nat.le_of_ble_eq_true rfl) (c115 (kd := 5) (pl := a) (d + 2) h (by omega)) rfl ?_
                  rintro v M2 ⟨rfl, hF2, hR2⟩
                  refine x_ld 0 1 2 268 rfl rfl rfl rfl rfl ?_
                  refine x_ld 2 1 0 269 rfl rfl rfl rfl rfl ?_
                  refine z_ifeq 281 272 rfl rfl rfl (rg_lit 1 rfl) (fun c => absurd c (by decide)) (fun _ => ?_)
                  refine x_ld 0 1 2 273 rfl rfl rfl rfl rfl ?_
                  refine g_572_28 204 276 rfl rfl hR2.2.2.1 rfl ?_
                  refine x_cst (zi 1) 1 277 rfl rfl rfl ?_
                  refine z_add 278 rfl rfl ?_
                  refine x_go 285 rfl rfl ?_
                  refine s_572_28 204 288 rfl rfl rfl rfl rfl rfl ?_
                  refine x_ld 0 1 2 289 rfl rfl rfl rfl rfl ?_
                  refine x_dup 290 rfl rfl rfl ?_
                  refine g_572_29 165 293 rfl rfl ((rd_nk (Ne.symm (by decide))).trans hR2.2.1) rfl ?_
                  refine x_cst (zi 1) 1 294 rfl rfl rfl ?_
                  refine z_add 295 rfl rfl ?_
                  refine s_572_29 165 298 rfl rfl rfl rfl rfl rfl ?_
                  refine x_cst (zi 1) 1 299 rfl rfl rfl ?_
                  refine x_ret rfl rfl rfl rfl ?_
                  exact ⟨_, _, rfl, rfl, Fpr_trans (Fpr_trans hF2 (Fpr_f (by omega))) (Fpr_f (by omega)), .inr (.inl ⟨rfl, a + 1, by omega, _, _, _, Rch_step hR (mw_sw (by omega)), rR_at (rR_dp hR2 (dp' := dpt os) (by omega)) (by omega)⟩)⟩
              · refine x_ld 1 1 0 225 rfl rfl rfl rfl rfl ?_
                refine x_cst (zi 61) 2 227 rfl rfl rfl ?_
                refine z_iceq 236 230 rfl rfl rfl ⟨by omega, by omega⟩ (rg_lit 61 rfl) (fun c227 => ?_) (fun c227 => ?_)
                · refine x_ld 0 1 2 237 rfl rfl rfl rfl rfl ?_
                  refine x_ld 1 1 0 238 rfl rfl rfl rfl rfl ?_
                  refine x_cst (zi 94) 2 240 rfl rfl rfl ?_
                  refine z_icne 247 243 rfl rfl rfl ⟨by omega, by omega⟩ (rg_lit 94 rfl) (fun c240 => ?_) (fun c240 => ?_)
                  · refine x_ld 1 1 0 248 rfl rfl rfl rfl rfl ?_
                    refine x_cst (zi 61) 2 250 rfl rfl rfl ?_
                    refine z_icne 258 253 rfl rfl rfl ⟨by omega, by omega⟩ (rg_lit 61 rfl) (fun c250 => ?_) (fun c250 => ?_)
                    · refine x_cst (zi 10) 2 260 rfl rfl rfl ?_
                      refine x_ld 0 1 2 261 rfl rfl rfl rfl rfl ?_
                      refine g_572_29 165 264 rfl rfl h.2.1 rfl ?_
                      refine x_ce 207 115 267 [.ref 572, zi 10, zi ((a : Nat) : Int)] rfl rfl rfl (Nat.le_of_ble_eq_true rfl) rfl rfl (Nat.le_of_ble_eq_true rfl) ⟨_, _, _, rfl, o_572⟩ (Nat.le_of_ble_eq_true rfl) (c115 (kd := 10) (pl := a) (d + 2) h (by omega)) rfl ?_
                      rintro v M2 ⟨rfl, hF2, hR2⟩
                      refine x_ld 0 1 2 268 rfl rfl rfl rfl rfl ?_
                      refine x_ld 2 1 0 269 rfl rfl rfl rfl rfl ?_
                      refine z_ifeq 281 272 rfl rfl rfl (rg_lit 1 rfl) (fun c => absurd c (by decide)) (fun _ => ?_)
                      refine x_ld 0 1 2 273 rfl rfl rfl rfl rfl ?_
                      refine g_572_28 204 276 rfl rfl hR2.2.2.1 rfl ?_
                      refine x_cst (zi 1) 1 277 rfl rfl rfl ?_
                      refine z_add 278 rfl rfl ?_
                      refine x_go 285 rfl rfl ?_
                      refine s_572_28 204 288 rfl rfl rfl rfl rfl rfl ?_
                      refine x_ld 0 1 2 289 rfl rfl rfl rfl rfl ?_
                      refine x_dup 290 rfl rfl rfl ?_
                      refine g_572_29 165 293 rfl rfl ((rd_nk (Ne.symm (by decide))).trans hR2.2.1) rfl ?_
                      refine x_cst (zi 1) 1 294 rfl rfl rfl ?_
                      refine z_add 295 rfl rfl ?_
                      refine s_572_29 165 298 rfl rfl rfl rfl rfl rfl ?_
                      refine x_cst (zi 1) 1 299 rfl rfl rfl ?_
                      refine x_ret rfl rfl rfl rfl ?_
                      exact ⟨_, _, rfl, rfl, Fpr_trans (Fpr_trans hF2 (Fpr_f (by omega))) (Fpr_f (by omega)), .inr (.inl ⟨rfl, a + 1, by omega, _, _, _, Rch_step hR (mw_br (by omega) (by omega)), rR_at (rR_dp hR2 (dp' := dpt os + 1) (by omega)) (by omega)⟩)⟩
                    · refine x_cst (zi 6) 2 255 rfl rfl rfl ?_
                      refine x_go 260 rfl rfl ?_
                      refine x_ld 0 1 2 261 rfl rfl rfl rfl rfl ?_
                      refine g_572_29 165 264 rfl rfl h.2.1 rfl ?_
                      refine x_ce 207 115 267 [.ref 572, zi 6, zi ((a : Nat) : Int)] rfl rfl rfl (Nat.le_of_ble_eq_true rfl) rfl rfl (Nat.le_of_ble_eq_true rfl) ⟨_, _, _, rfl, o_572⟩ (Nat.le_of_ble_eq_true rfl) (c115 (kd := 6) (pl := a) (d + 2) h (by omega)) rfl ?_
                      rintro v M2 ⟨rfl, hF2, hR2⟩
                      refine x_ld 0 1 2 268 rfl rfl rfl rfl rfl ?_
                      refine x_ld 2 1 0 269 rfl rfl rfl rfl rfl ?_
                      refine z_ifeq 281 272 rfl rfl rfl (rg_lit 1 rfl) (fun c => absurd c (by decide)) (fun _ => ?_)
                      refine x_ld 0 1 2 273 rfl rfl rfl rfl rfl ?_
                      refine g_572_28 204 276 rfl rfl hR2.2.2.1 rfl ?_
                      refine x_cst (zi 1) 1 277 rfl rfl rfl ?_
                      refine z_add 278 rfl rfl ?_
                      refine x_go 285 rfl rfl ?_
                      refine s_572_28 204 288 rfl rfl rfl rfl rfl rfl ?_
                      refine x_ld 0 1 2 289 rfl rfl rfl rfl rfl ?_
                      refine x_dup 290 rfl rfl rfl ?_
                      refine g_572_29 165 293 rfl rfl ((rd_nk (Ne.symm (by decide))).trans hR2.2.1) rfl ?_
                      refine x_cst (zi 1) 1 294 rfl rfl rfl ?_
                      refine z_add 295 rfl rfl ?_
                      refine s_572_29 165 298 rfl rfl rfl rfl rfl rfl ?_
                      refine x_cst (zi 1) 1 299 rfl rfl rfl ?_
                      refine x_ret rfl rfl rfl rfl ?_
                      exact ⟨_, _, rfl, rfl, Fpr_trans (Fpr_trans hF2 (Fpr_f (by omega))) (Fpr_f (by omega)), .inr (.inl ⟨rfl, a + 1, by omega, _, _, _, Rch_step hR (mw_eq (by omega)), rR_at (rR_dp hR2 (dp' := dpt os) (by omega)) (by omega)⟩)⟩
                  · refine x_cst (zi 5) 1 244 rfl rfl rfl ?_
                    refine x_go 260 rfl rfl ?_
                    refine x_ld 0 1 2 261 rfl rfl rfl rfl rfl ?_
                    refine g_572_29 165 264 rfl rfl h.2.1 rfl ?_
                    refine x_ce 207 115 267 [.ref 572, zi 5, zi ((a : Nat) : Int)] rfl rfl rfl (Nat.le_of_ble_eq_true rfl) rfl rfl (Nat.le_of_ble_eq_true rfl) ⟨_, _, _, rfl, o_572⟩ (Nat.le_of_ble_eq_true rfl) (c115 (kd := 5) (pl := a) (d + 2) h (by omega)) rfl ?_
                    rintro v M2 ⟨rfl, hF2, hR2⟩
                    refine x_ld 0 1 2 268 rfl rfl rfl rfl rfl ?_
                    refine x_ld 2 1 0 269 rfl rfl rfl rfl rfl ?_
                    refine z_ifeq 281 272 rfl rfl rfl (rg_lit 1 rfl) (fun c => absurd c (by decide)) (fun _ => ?_)
                    refine x_ld 0 1 2 273 rfl rfl rfl rfl rfl ?_
                    refine g_572_28 204 276 rfl rfl hR2.2.2.1 rfl ?_
                    refine x_cst (zi 1) 1 277 rfl rfl rfl ?_
                    refine z_add 278 rfl rfl ?_
                    refine x_go 285 rfl rfl ?_
                    refine s_572_28 204 288 rfl rfl rfl rfl rfl rfl ?_
                    refine x_ld 0 1 2 289 rfl rfl rfl rfl rfl ?_
                    refine x_dup 290 rfl rfl rfl ?_
                    refine g_572_29 165 293 rfl rfl ((rd_nk (Ne.symm (by decide))).trans hR2.2.1) rfl ?_
                    refine x_cst (zi 1) 1 294 rfl rfl rfl ?_
                    refine z_add 295 rfl rfl ?_
                    refine s_572_29 165 298 rfl rfl rfl rfl rfl rfl ?_
                    refine x_cst (zi 1) 1 299 rfl rfl rfl ?_
                    refine x_ret rfl rfl rfl rfl ?_
                    exact ⟨_, _, rfl, rfl, Fpr_trans (Fpr_trans hF2 (Fpr_f (by omega))) (Fpr_f (by omega)), .inr (.inl ⟨rfl, a + 1, by omega, _, _, _, Rch_step hR (mw_sw (by omega)), rR_at (rR_dp hR2 (dp' := dpt os) (by omega)) (by omega)⟩)⟩
                · refine x_ld 2 1 0 231 rfl rfl rfl rfl rfl ?_
                  refine z_ifne 236 234 rfl rfl rfl (rg_lit 1 rfl) (fun _ => ?_) (fun c => absurd c (by decide))
                  refine x_ld 0 1 2 237 rfl rfl rfl rfl rfl ?_
                  refine x_ld 1 1 0 238 rfl rfl rfl rfl rfl ?_
                  refine x_cst (zi 94) 2 240 rfl rfl rfl ?_
                  refine z_icne 247 243 rfl rfl rfl ⟨by omega, by omega⟩ (rg_lit 94 rfl) (fun c240 => ?_) (fun c240 => ?_)
                  · refine x_ld 1 1 0 248 rfl rfl rfl rfl rfl ?_
                    refine x_cst (zi 61) 2 250 rfl rfl rfl ?_
                    refine z_icne 258 253 rfl rfl rfl ⟨by omega, by omega⟩ (rg_lit 61 rfl) (fun c250 => ?_) (fun c250 => ?_)
                    · refine x_cst (zi 10) 2 260 rfl rfl rfl ?_
                      refine x_ld 0 1 2 261 rfl rfl rfl rfl rfl ?_
                      refine g_572_29 165 264 rfl rfl h.2.1 rfl ?_
                      refine x_ce 207 115 267 [.ref 572, zi 10, zi ((a : Nat) : Int)] rfl rfl rfl (Nat.le_of_ble_eq_true rfl) rfl rfl (Nat.le_of_ble_eq_true rfl) ⟨_, _, _, rfl, o_572⟩ (Nat.le_of_ble_eq_true rfl) (c115 (kd := 10) (pl := a) (d + 2) h (by omega)) rfl ?_
                      rintro v M2 ⟨rfl, hF2, hR2⟩
                      refine x_ld 0 1 2 268 rfl rfl rfl rfl rfl ?_
                      refine x_ld 2 1 0 269 rfl rfl rfl rfl rfl ?_
                      refine z_ifeq 281 272 rfl rfl rfl (rg_lit 1 rfl) (fun c => absurd c (by decide)) (fun _ => ?_)
                      refine x_ld 0 1 2 273 rfl rfl rfl rfl rfl ?_
                      refine g_572_28 204 276 rfl rfl hR2.2.2.1 rfl ?_
                      refine x_cst (zi 1) 1 277 rfl rfl rfl ?_
                      refine z_add 278 rfl rfl ?_
                      refine x_go 285 rfl rfl ?_
                      refine s_572_28 204 288 rfl rfl rfl rfl rfl rfl ?_
                      refine x_ld 0 1 2 289 rfl rfl rfl rfl rfl ?_
                      refine x_dup 290 rfl rfl rfl ?_
                      refine g_572_29 165 293 rfl rfl ((rd_nk (Ne.symm (by decide))).trans hR2.2.1) rfl ?_
                      refine x_cst (zi 1) 1 294 rfl rfl rfl ?_
                      refine z_add 295 rfl rfl ?_
                      refine s_572_29 165 298 rfl rfl rfl rfl rfl rfl ?_
                      refine x_cst (zi 1) 1 299 rfl rfl rfl ?_
                      refine x_ret rfl rfl rfl rfl ?_
                      exact ⟨_, _, rfl, rfl, Fpr_trans (Fpr_trans hF2 (Fpr_f (by omega))) (Fpr_f (by omega)), .inr (.inl ⟨rfl, a + 1, by omega, _, _, _, Rch_step hR (mw_br (by omega) (by omega)), rR_at (rR_dp hR2 (dp' := dpt os + 1) (by omega)) (by omega)⟩)⟩
                    · refine x_cst (zi 6) 2 255 rfl rfl rfl ?_
                      refine x_go 260 rfl rfl ?_
                      refine x_ld 0 1 2 261 rfl rfl rfl rfl rfl ?_
                      refine g_572_29 165 264 rfl rfl h.2.1 rfl ?_
                      refine x_ce 207 115 267 [.ref 572, zi 6, zi ((a : Nat) : Int)] rfl rfl rfl (Nat.le_of_ble_eq_true rfl) rfl rfl (Nat.le_of_ble_eq_true rfl) ⟨_, _, _, rfl, o_572⟩ (Nat.le_of_ble_eq_true rfl) (c115 (kd := 6) (pl := a) (d + 2) h (by omega)) rfl ?_
                      rintro v M2 ⟨rfl, hF2, hR2⟩
                      refine x_ld 0 1 2 268 rfl rfl rfl rfl rfl ?_
                      refine x_ld 2 1 0 269 rfl rfl rfl rfl rfl ?_
                      refine z_ifeq 281 272 rfl rfl rfl (rg_lit 1 rfl) (fun c => absurd c (by decide)) (fun _ => ?_)
                      refine x_ld 0 1 2 273 rfl rfl rfl rfl rfl ?_
                      refine g_572_28 204 276 rfl rfl hR2.2.2.1 rfl ?_
                      refine x_cst (zi 1) 1 277 rfl rfl rfl ?_
                      refine z_add 278 rfl rfl ?_
                      refine x_go 285 rfl rfl ?_
                      refine s_572_28 204 288 rfl rfl rfl rfl rfl rfl ?_
                      refine x_ld 0 1 2 289 rfl rfl rfl rfl rfl ?_
                      refine x_dup 290 rfl rfl rfl ?_
                      refine g_572_29 165 293 rfl rfl ((rd_nk (Ne.symm (by decide))).trans hR2.2.1) rfl ?_
                      refine x_cst (zi 1) 1 294 rfl rfl rfl ?_
                      refine z_add 295 rfl rfl ?_
                      refine s_572_29 165 298 rfl rfl rfl rfl rfl rfl ?_
                      refine x_cst (zi 1) 1 299 rfl rfl rfl ?_
                      refine x_ret rfl rfl rfl rfl ?_
                      exact ⟨_, _, rfl, rfl, Fpr_trans (Fpr_trans hF2 (Fpr_f (by omega))) (Fpr_f (by omega)), .inr (.inl ⟨rfl, a + 1, by omega, _, _, _, Rch_step hR (mw_eq (by omega)), rR_at (rR_dp hR2 (dp' := dpt os) (by omega)) (by omega)⟩)⟩
                  · refine x_cst (zi 5) 1 244 rfl rfl rfl ?_
                    refine x_go 260 rfl rfl ?_
                    refine x_ld 0 1 2 261 rfl rfl rfl rfl rfl ?_
                    refine g_572_29 165 264 rfl rfl h.2.1 rfl ?_
                    refine x_ce 207 115 267 [.ref 572, zi 5, zi ((a : Nat) : Int)] rfl rfl rfl (Nat.le_of_ble_eq_true rfl) rfl rfl (Nat.le_of_ble_eq_true rfl) ⟨_, _, _, rfl, o_572⟩ (Nat.le_of_ble_eq_true rfl) (c115 (kd := 5) (pl := a) (d + 2) h (by omega)) rfl ?_
                    rintro v M2 ⟨rfl, hF2, hR2⟩
                    refine x_ld 0 1 2 268 rfl rfl rfl rfl rfl ?_
                    refine x_ld 2 1 0 269 rfl rfl rfl rfl rfl ?_
                    refine z_ifeq 281 272 rfl rfl rfl (rg_lit 1 rfl) (fun c => absurd c (by decide)) (fun _ => ?_)
                    refine x_ld 0 1 2 273 rfl rfl rfl rfl rfl ?_
                    refine g_572_28 204 276 rfl rfl hR2.2.2.1 rfl ?_
                    refine x_cst (zi 1) 1 277 rfl rfl rfl ?_
                    refine z_add 278 rfl rfl ?_
                    refine x_go 285 rfl rfl ?_
                    refine s_572_28 204 288 rfl rfl rfl rfl rfl rfl ?_
                    refine x_ld 0 1 2 289 rfl rfl rfl rfl rfl ?_
                    refine x_dup 290 rfl rfl rfl ?_
                    refine g_572_29 165 293 rfl rfl ((rd_nk (Ne.symm (by decide))).trans hR2.2.1) rfl ?_
                    refine x_cst (zi 1) 1 294 rfl rfl rfl ?_
                    refine z_add 295 rfl rfl ?_
                    refine s_572_29 165 298 rfl rfl rfl rfl rfl rfl ?_
                    refine x_cst (zi 1) 1 299 rfl rfl rfl ?_
                    refine x_ret rfl rfl rfl rfl ?_
                    exact ⟨_, _, rfl, rfl, Fpr_trans (Fpr_trans hF2 (Fpr_f (by omega))) (Fpr_f (by omega)), .inr (.inl ⟨rfl, a + 1, by omega, _, _, _, Rch_step hR (mw_sw (by omega)), rR_at (rR_dp hR2 (dp' := dpt os) (by omega)) (by omega)⟩)⟩
        · refine x_ld 0 1 2 92 rfl rfl rfl rfl rfl ?_
          refine x_cst (zi 1) 1 93 rfl rfl rfl ?_
          refine x_cv 196 108 96 [.ref 572, zi 1] rfl rfl rfl (Nat.le_of_ble_eq_true rfl) rfl rfl (Nat.le_of_ble_eq_true rfl) ⟨_, _, _, rfl, o_572⟩ (Nat.le_of_ble_eq_true rfl) (c108 (d + 2) h (k := 1) (by omega) (by decide)) rfl ?_
          refine x_st 2 1 0 97 [some (.ref 572), some (zi ((lk x a : Nat) : Int)), some (zi ((lk x (a + 1) : Nat) : Int)), none] rfl rfl rfl (Nat.le_of_ble_eq_true rfl) rfl rfl ?_
          refine x_ld 2 1 0 98 rfl rfl rfl rfl rfl ?_
          refine x_cv 189 109 101 [zi ((lk x (a + 1) : Nat) : Int)] rfl rfl rfl (Nat.le_of_ble_eq_true rfl) rfl rfl (Nat.le_of_ble_eq_true rfl) trivial (Nat.le_of_ble_eq_true rfl) (c109 (d + 2) (c := lk x (a + 1)) (by omega)) rfl ?_
          rcases Bool.eq_false_or_eq_true (ltc (lk x (a + 1))) with hl2 | hl2
          · rw [hl2]
            have hz2 : 97 ≤ lk x (a + 1) ∧ lk x (a + 1) ≤ 99 := by have t := hl2; unfold ltc at t; simpa using t
            refine z_ifne 116 104 rfl rfl rfl (rg_lit 1 rfl) (fun _ => ?_) (fun c => absurd c (by decide))
            refine x_cst (zi 1) 1 117 rfl rfl rfl ?_
            refine x_go 121 rfl rfl ?_
            refine x_st 3 1 0 122 [some (.ref 572), some (zi ((lk x a : Nat) : Int)), some (zi ((lk x (a + 1) : Nat) : Int)), some (zi 1)] rfl rfl rfl (Nat.le_of_ble_eq_true rfl) rfl rfl ?_
            refine x_ld 0 1 2 123 rfl rfl rfl rfl rfl ?_
            refine x_dup 124 rfl rfl rfl ?_
            refine g_572_29 165 127 rfl rfl h.2.1 rfl ?_
            refine x_cst (zi 1) 1 128 rfl rfl rfl ?_
            refine z_add 129 rfl rfl ?_
            rw [show ((a : Nat) : Int) + 1 = ((a + 1 : Nat) : Int) from (by omega)]
            refine s_572_29 165 132 rfl rfl rfl rfl rfl rfl ?_
            refine x_ld 3 1 0 133 rfl rfl rfl rfl rfl ?_
            refine z_ifne 138 136 rfl rfl rfl (rg_lit 1 rfl) (fun _ => ?_) (fun c => absurd c (by decide))
            refine x_ld 0 1 2 139 rfl rfl rfl rfl rfl ?_
            refine x_dup 140 rfl rfl rfl ?_
            refine g_572_29 165 143 rfl rfl rd_eq rfl ?_
            refine x_cst (zi 1) 1 144 rfl rfl rfl ?_
            refine z_add 145 rfl rfl ?_
            rw [show ((a + 1 : Nat) : Int) + 1 = ((a + 2 : Nat) : Int) from (by omega)]
            refine s_572_29 165 148 rfl rfl rfl rfl rfl rfl ?_
            refine x_ld 0 1 2 149 rfl rfl rfl rfl rfl ?_
            refine x_ld 1 1 0 150 rfl rfl rfl rfl rfl ?_
            refine x_cst (zi 45) 2 152 rfl rfl rfl ?_
            refine z_icne 159 155 rfl rfl rfl ⟨by omega, by omega⟩ (rg_lit 45 rfl) (fun c152 => ?_) (fun c152 => ?_)
            · refine x_cst (zi 3) 1 160 rfl rfl rfl ?_
              refine x_cst (zi (-1)) 1 161 rfl rfl rfl ?_
              refine x_cst (zi (-1)) 1 162 rfl rfl rfl ?_
              refine x_ld 2 1 0 163 rfl rfl rfl rfl rfl ?_
              refine x_cst (zi 46) 2 165 rfl rfl rfl ?_
              refine z_icne 172 168 rfl rfl rfl ⟨by omega, by omega⟩ (rg_lit 46 rfl) (fun c165 => ?_) (fun c165 => ?_)
              · refine x_ld 2 1 0 173 rfl rfl rfl rfl rfl ?_
                refine x_cst (zi 97) 2 175 rfl rfl rfl ?_
                refine z_sub 176 rfl rfl ?_
                refine x_ld 0 1 2 177 rfl rfl rfl rfl rfl ?_
                refine g_572_29 165 180 rfl rfl rd_eq rfl ?_
                refine x_cst (zi 2) 1 181 rfl rfl rfl ?_
                refine z_sub 182 rfl rfl ?_
                rw [show ((a + 2 : Nat) : Int) - 2 = ((a : Nat) : Int) from (by omega)]
                refine x_ce 185 110 185 [.ref 572, zi 3, zi (-1), zi (-1), zi (((lk x (a + 1) : Nat) : Int) - 97), zi ((a : Nat) : Int)] rfl rfl rfl (Nat.le_of_ble_eq_true rfl) rfl rfl (Nat.le_of_ble_eq_true rfl) ⟨_, _, _, rfl, o_572⟩ (Nat.le_of_ble_eq_true rfl) (c110 (d + 2) r2 (by omega) (by omega) (y := ((2, 0, 0, tOf (lk x (a + 1))), a)) rfl rfl rfl (fun _ => by show _ = mLt (tOf (lk x (a + 1))); rw [tOf_o (by omega)]; unfold mLt; rw [if_neg (by omega)]; omega) rfl) rfl ?_
                rintro v M2 ⟨rfl, hF2, hR2⟩
                refine x_ld 0 1 2 186 rfl rfl rfl rfl rfl ?_
                refine x_ce 200 111 189 [.ref 572] rfl rfl rfl (Nat.le_of_ble_eq_true rfl) rfl rfl (Nat.le_of_ble_eq_true rfl) ⟨_, _, _, rfl, o_572⟩ (Nat.le_of_ble_eq_true rfl) (c111 d hR2 (Rch_step hR ((mw_sgn (by omega) (by first | (rw [hl2]; rfl) | (rw [hl2]; simp; omega))).trans (by rw [if_neg (by omega)])))) rfl ?_
                rintro v M3 ⟨hF3, hv3⟩
                rcases hv3 with ⟨rfl, hg⟩ | ⟨rfl, hg⟩
                · refine z_ifeq 196 192 rfl rfl rfl (rg_lit 0 rfl) (fun _ => ?_) (fun c => absurd c (by decide))
                  refine x_cst (zi 1) 1 197 rfl rfl rfl ?_
                  refine x_ret rfl rfl rfl rfl ?_
                  exact ⟨_, _, rfl, rfl, Fpr_trans (Fpr_trans (Fpr_trans (Fpr_f (by omega)) (Fpr_f (by omega))) hF2) hF3, .inr (.inl ⟨rfl, a + 2, by omega, hg⟩)⟩
                · refine z_ifeq 196 192 rfl rfl rfl (rg_lit 1 rfl) (fun c => absurd c (by decide)) (fun _ => ?_)
                  refine x_cst (zi 2) 1 193 rfl rfl rfl ?_
                  refine x_go 197 rfl rfl ?_
                  refine x_ret rfl rfl rfl rfl ?_
                  exact ⟨_, _, rfl, rfl, Fpr_trans (Fpr_trans (Fpr_trans (Fpr_f (by omega)) (Fpr_f (by omega))) hF2) hF3, .inr (.inr ⟨rfl, a + 2, by omega, hg⟩)⟩
              · refine x_cst (zi 4) 1 169 rfl rfl rfl ?_
                refine x_go 176 rfl rfl ?_
                refine x_ld 0 1 2 177 rfl rfl rfl rfl rfl ?_
                refine g_572_29 165 180 rfl rfl rd_eq rfl ?_
                refine x_cst (zi 2) 1 181 rfl rfl rfl ?_
                refine z_sub 182 rfl rfl ?_
                rw [show ((a + 2 : Nat) : Int) - 2 = ((a : Nat) : Int) from (by omega)]
                refine x_ce 185 110 185 [.ref 572, zi 3, zi (-1), zi (-1), zi 4, zi ((a : Nat) : Int)] rfl rfl rfl (Nat.le_of_ble_eq_true rfl) rfl rfl (Nat.le_of_ble_eq_true rfl) ⟨_, _, _, rfl, o_572⟩ (Nat.le_of_ble_eq_true rfl) (c110 (d + 2) r2 (by omega) (by omega) (y := ((2, 0, 0, tOf (lk x (a + 1))), a)) rfl rfl rfl (fun _ => by show _ = mLt (tOf (lk x (a + 1))); rw [tOf_46 (by omega)]; rfl) rfl) rfl ?_
                rintro v M2 ⟨rfl, hF2, hR2⟩
                refine x_ld 0 1 2 186 rfl rfl rfl rfl rfl ?_
                refine x_ce 200 111 189 [.ref 572] rfl rfl rfl (Nat.le_of_ble_eq_true rfl) rfl rfl (Nat.le_of_ble_eq_true rfl) ⟨_, _, _, rfl, o_572⟩ (Nat.le_of_ble_eq_true rfl) (c111 d hR2 (Rch_step hR ((mw_sgn (by omega) (by first | (rw [hl2]; rfl) | (rw [hl2]; simp; omega))).trans (by rw [if_neg (by omega)])))) rfl ?_
                rintro v M3 ⟨hF3, hv3⟩
                rcases hv3 with ⟨rfl, hg⟩ | ⟨rfl, hg⟩
                · refine z_ifeq 196 192 rfl rfl rfl (rg_lit 0 rfl) (fun _ => ?_) (fun c => absurd c (by decide))
                  refine x_cst (zi 1) 1 197 rfl rfl rfl ?_
                  refine x_ret rfl rfl rfl rfl ?_
                  exact ⟨_, _, rfl, rfl, Fpr_trans (Fpr_trans (Fpr_trans (Fpr_f (by omega)) (Fpr_f (by omega))) hF2) hF3, .inr (.inl ⟨rfl, a + 2, by omega, hg⟩)⟩
                · refine z_ifeq 196 192 rfl rfl rfl (rg_lit 1 rfl) (fun c => absurd c (by decide)) (fun _ => ?_)
                  refine x_cst (zi 2) 1 193 rfl rfl rfl ?_
                  refine x_go 197 rfl rfl ?_
                  refine x_ret rfl rfl rfl rfl ?_
                  exact ⟨_, _, rfl, rfl, Fpr_trans (Fpr_trans (Fpr_trans (Fpr_f (by omega)) (Fpr_f (by omega))) hF2) hF3, .inr (.inr ⟨rfl, a + 2, by omega, hg⟩)⟩
            · refine x_cst (zi 2) 1 156 rfl rfl rfl ?_
              refine x_go 160 rfl rfl ?_
              refine x_cst (zi (-1)) 1 161 rfl rfl rfl ?_
              refine x_cst (zi (-1)) 1 162 rfl rfl rfl ?_
              refine x_ld 2 1 0 163 rfl rfl rfl rfl rfl ?_
              refine x_cst (zi 46) 2 165 rfl rfl rfl ?_
              refine z_icne 172 168 rfl rfl rfl ⟨by omega, by omega⟩ (rg_lit 46 rfl) (fun c165 => ?_) (fun c165 => ?_)
              · refine x_ld 2 1 0 173 rfl rfl rfl rfl rfl ?_
                refine x_cst (zi 97) 2 175 rfl rfl rfl ?_
                refine z_sub 176 rfl rfl ?_
                refine x_ld 0 1 2 177 rfl rfl rfl rfl rfl ?_
                refine g_572_29 165 180 rfl rfl rd_eq rfl ?_
                refine x_cst (zi 2) 1 181 rfl rfl rfl ?_
                refine z_sub 182 rfl rfl ?_
                rw [show ((a + 2 : Nat) : Int) - 2 = ((a : Nat) : Int) from (by omega)]
                refine x_ce 185 110 185 [.ref 572, zi 2, zi (-1), zi (-1), zi (((lk x (a + 1) : Nat) : Int) - 97), zi ((a : Nat) : Int)] rfl rfl rfl (Nat.le_of_ble_eq_true rfl) rfl rfl (Nat.le_of_ble_eq_true rfl) ⟨_, _, _, rfl, o_572⟩ (Nat.le_of_ble_eq_true rfl) (c110 (d + 2) r2 (by omega) (by omega) (y := ((1, 0, 0, tOf (lk x (a + 1))), a)) rfl rfl rfl (fun _ => by show _ = mLt (tOf (lk x (a + 1))); rw [tOf_o (by omega)]; unfold mLt; rw [if_neg (by omega)]; omega) rfl) rfl ?_
                rintro v M2 ⟨rfl, hF2, hR2⟩
                refine x_ld 0 1 2 186 rfl rfl rfl rfl rfl ?_
                refine x_ce 200 111 189 [.ref 572] rfl rfl rfl (Nat.le_of_ble_eq_true rfl) rfl rfl (Nat.le_of_ble_eq_true rfl) ⟨_, _, _, rfl, o_572⟩ (Nat.le_of_ble_eq_true rfl) (c111 d hR2 (Rch_step hR ((mw_sgn (by omega) (by first | (rw [hl2]; rfl) | (rw [hl2]; simp; omega))).trans (by rw [if_pos (by omega)])))) rfl ?_
                rintro v M3 ⟨hF3, hv3⟩
                rcases hv3 with ⟨rfl, hg⟩ | ⟨rfl, hg⟩
                · refine z_ifeq 196 192 rfl rfl rfl (rg_lit 0 rfl) (fun _ => ?_) (fun c => absurd c (by decide))
                  refine x_cst (zi 1) 1 197 rfl rfl rfl ?_
                  refine x_ret rfl rfl rfl rfl ?_
                  exact ⟨_, _, rfl, rfl, Fpr_trans (Fpr_trans (Fpr_trans (Fpr_f (by omega)) (Fpr_f (by omega))) hF2) hF3, .inr (.inl ⟨rfl, a + 2, by omega, hg⟩)⟩
                · refine z_ifeq 196 192 rfl rfl rfl (rg_lit 1 rfl) (fun c => absurd c (by decide)) (fun _ => ?_)
                  refine x_cst (zi 2) 1 193 rfl rfl rfl ?_
                  refine x_go 197 rfl rfl ?_
                  refine x_ret rfl rfl rfl rfl ?_
                  exact ⟨_, _, rfl, rfl, Fpr_trans (Fpr_trans (Fpr_trans (Fpr_f (by omega)) (Fpr_f (by omega))) hF2) hF3, .inr (.inr ⟨rfl, a + 2, by omega, hg⟩)⟩
              · refine x_cst (zi 4) 1 169 rfl rfl rfl ?_
                refine x_go 176 rfl rfl ?_
                refine x_ld 0 1 2 177 rfl rfl rfl rfl rfl ?_
                refine g_572_29 165 180 rfl rfl rd_eq rfl ?_
                refine x_cst (zi 2) 1 181 rfl rfl rfl ?_
                refine z_sub 182 rfl rfl ?_
                rw [show ((a + 2 : Nat) : Int) - 2 = ((a : Nat) : Int) from (by omega)]
                refine x_ce 185 110 185 [.ref 572, zi 2, zi (-1), zi (-1), zi 4, zi ((a : Nat) : Int)] rfl rfl rfl (Nat.le_of_ble_eq_true rfl) rfl rfl (Nat.le_of_ble_eq_true rfl) ⟨_, _, _, rfl, o_572⟩ (Nat.le_of_ble_eq_true rfl) (c110 (d + 2) r2 (by omega) (by omega) (y := ((1, 0, 0, tOf (lk x (a + 1))), a)) rfl rfl rfl (fun _ => by show _ = mLt (tOf (lk x (a + 1))); rw [tOf_46 (by omega)]; rfl) rfl) rfl ?_
                rintro v M2 ⟨rfl, hF2, hR2⟩
                refine x_ld 0 1 2 186 rfl rfl rfl rfl rfl ?_
                refine x_ce 200 111 189 [.ref 572] rfl rfl rfl (Nat.le_of_ble_eq_true rfl) rfl rfl (Nat.le_of_ble_eq_true rfl) ⟨_, _, _, rfl, o_572⟩ (Nat.le_of_ble_eq_true rfl) (c111 d hR2 (Rch_step hR ((mw_sgn (by omega) (by first | (rw [hl2]; rfl) | (rw [hl2]; simp; omega))).trans (by rw [if_pos (by omega)])))) rfl ?_
                rintro v M3 ⟨hF3, hv3⟩
                rcases hv3 with ⟨rfl, hg⟩ | ⟨rfl, hg⟩
                · refine z_ifeq 196 192 rfl rfl rfl (rg_lit 0 rfl) (fun _ => ?_) (fun c => absurd c (by decide))
                  refine x_cst (zi 1) 1 197 rfl rfl rfl ?_
                  refine x_ret rfl rfl rfl rfl ?_
                  exact ⟨_, _, rfl, rfl, Fpr_trans (Fpr_trans (Fpr_trans (Fpr_f (by omega)) (Fpr_f (by omega))) hF2) hF3, .inr (.inl ⟨rfl, a + 2, by omega, hg⟩)⟩
                · refine z_ifeq 196 192 rfl rfl rfl (rg_lit 1 rfl) (fun c => absurd c (by decide)) (fun _ => ?_)
                  refine x_cst (zi 2) 1 193 rfl rfl rfl ?_
                  refine x_go 197 rfl rfl ?_
                  refine x_ret rfl rfl rfl rfl ?_
                  exact ⟨_, _, rfl, rfl, Fpr_trans (Fpr_trans (Fpr_trans (Fpr_f (by omega)) (Fpr_f (by omega))) hF2) hF3, .inr (.inr ⟨rfl, a + 2, by omega, hg⟩)⟩
          · rw [hl2]
            refine z_ifne 116 104 rfl rfl rfl (rg_lit 0 rfl) (fun c => absurd c (by decide)) (fun _ => ?_)
            refine x_ld 2 1 0 105 rfl rfl rfl rfl rfl ?_
            refine x_cst (zi 46) 2 107 rfl rfl rfl ?_
            refine z_icne 120 110 rfl rfl rfl ⟨by omega, by omega⟩ (rg_lit 46 rfl) (fun c107 => ?_) (fun c107 => ?_)
            · refine x_cst (zi 0) 1 121 rfl rfl rfl ?_
              refine x_st 3 1 0 122 [some (.ref 572), some (zi ((lk x a : Nat) : Int)), some (zi ((lk x (a + 1) : Nat) : Int)), some (zi 0)] rfl rfl rfl (Nat.le_of_ble_eq_true rfl) rfl rfl ?_
              refine x_ld 0 1 2 123 rfl rfl rfl rfl rfl ?_
              refine x_dup 124 rfl rfl rfl ?_
              refine g_572_29 165 127 rfl rfl h.2.1 rfl ?_
              refine x_cst (zi 1) 1 128 rfl rfl rfl ?_
              refine z_add 129 rfl rfl ?_
              rw [show ((a : Nat) : Int) + 1 = ((a + 1 : Nat) : Int) from (by omega)]
              refine s_572_29 165 132 rfl rfl rfl rfl rfl rfl ?_
              refine x_ld 3 1 0 133 rfl rfl rfl rfl rfl ?_
              refine z_ifne 138 136 rfl rfl rfl (rg_lit 0 rfl) (fun c => absurd c (by decide)) (fun _ => ?_)
              refine x_cst (zi 0) 1 137 rfl rfl rfl ?_
              refine x_ret rfl rfl rfl rfl ?_
              exact ⟨_, _, rfl, rfl, Fpr_f (by omega), .inl ⟨rfl, a + 1, ps, ls, os, Rch_step hR (mw_sgnF (by omega) (by rw [hl2]; simp; omega)), rd_eq⟩⟩
            · refine x_ld 1 1 0 111 rfl rfl rfl rfl rfl ?_
              refine x_cst (zi 45) 2 113 rfl rfl rfl ?_
              refine z_icne 120 116 rfl rfl rfl ⟨by omega, by omega⟩ (rg_lit 45 rfl) (fun c113 => ?_) (fun c113 => ?_)
              · refine x_cst (zi 0) 1 121 rfl rfl rfl ?_
                refine x_st 3 1 0 122 [some (.ref 572), some (zi ((lk x a : Nat) : Int)), some (zi ((lk x (a + 1) : Nat) : Int)), some (zi 0)] rfl rfl rfl (Nat.le_of_ble_eq_true rfl) rfl rfl ?_
                refine x_ld 0 1 2 123 rfl rfl rfl rfl rfl ?_
                refine x_dup 124 rfl rfl rfl ?_
                refine g_572_29 165 127 rfl rfl h.2.1 rfl ?_
                refine x_cst (zi 1) 1 128 rfl rfl rfl ?_
                refine z_add 129 rfl rfl ?_
                rw [show ((a : Nat) : Int) + 1 = ((a + 1 : Nat) : Int) from (by omega)]
                refine s_572_29 165 132 rfl rfl rfl rfl rfl rfl ?_
                refine x_ld 3 1 0 133 rfl rfl rfl rfl rfl ?_
                refine z_ifne 138 136 rfl rfl rfl (rg_lit 0 rfl) (fun c => absurd c (by decide)) (fun _ => ?_)
                refine x_cst (zi 0) 1 137 rfl rfl rfl ?_
                refine x_ret rfl rfl rfl rfl ?_
                exact ⟨_, _, rfl, rfl, Fpr_f (by omega), .inl ⟨rfl, a + 1, ps, ls, os, Rch_step hR (mw_sgnF (by omega) (by rw [hl2]; simp; omega)), rd_eq⟩⟩
              · refine x_cst (zi 1) 1 117 rfl rfl rfl ?_
                refine x_go 121 rfl rfl ?_
                refine x_st 3 1 0 122 [some (.ref 572), some (zi ((lk x a : Nat) : Int)), some (zi ((lk x (a + 1) : Nat) : Int)), some (zi 1)] rfl rfl rfl (Nat.le_of_ble_eq_true rfl) rfl rfl ?_
                refine x_ld 0 1 2 123 rfl rfl rfl rfl rfl ?_
                refine x_dup 124 rfl rfl rfl ?_
                refine g_572_29 165 127 rfl rfl h.2.1 rfl ?_
                refine x_cst (zi 1) 1 128 rfl rfl rfl ?_
                refine z_add 129 rfl rfl ?_
                rw [show ((a : Nat) : Int) + 1 = ((a + 1 : Nat) : Int) from (by omega)]
                refine s_572_29 165 132 rfl rfl rfl rfl rfl rfl ?_
                refine x_ld 3 1 0 133 rfl rfl rfl rfl rfl ?_
                refine z_ifne 138 136 rfl rfl rfl (rg_lit 1 rfl) (fun _ => ?_) (fun c => absurd c (by decide))
                refine x_ld 0 1 2 139 rfl rfl rfl rfl rfl ?_
                refine x_dup 140 rfl rfl rfl ?_
                refine g_572_29 165 143 rfl rfl rd_eq rfl ?_
                refine x_cst (zi 1) 1 144 rfl rfl rfl ?_
                refine z_add 145 rfl rfl ?_
                rw [show ((a + 1 : Nat) : Int) + 1 = ((a + 2 : Nat) : Int) from (by omega)]
                refine s_572_29 165 148 rfl rfl rfl rfl rfl rfl ?_
                refine x_ld 0 1 2 149 rfl rfl rfl rfl rfl ?_
                refine x_ld 1 1 0 150 rfl rfl rfl rfl rfl ?_
                refine x_cst (zi 45) 2 152 rfl rfl rfl ?_
                refine z_icne 159 155 rfl rfl rfl ⟨by omega, by omega⟩ (rg_lit 45 rfl) (fun c152 => ?_) (fun c152 => ?_)
                · refine x_cst (zi 3) 1 160 rfl rfl rfl ?_
                  refine x_cst (zi (-1)) 1 161 rfl rfl rfl ?_
                  refine x_cst (zi (-1)) 1 162 rfl rfl rfl ?_
                  refine x_ld 2 1 0 163 rfl rfl rfl rfl rfl ?_
                  refine x_cst (zi 46) 2 165 rfl rfl rfl ?_
                  refine z_icne 172 168 rfl rfl rfl ⟨by omega, by omega⟩ (rg_lit 46 rfl) (fun c165 => ?_) (fun c165 => ?_)
                  · refine x_ld 2 1 0 173 rfl rfl rfl rfl rfl ?_
                    refine x_cst (zi 97) 2 175 rfl rfl rfl ?_
                    refine z_sub 176 rfl rfl ?_
                    refine x_ld 0 1 2 177 rfl rfl rfl rfl rfl ?_
                    refine g_572_29 165 180 rfl rfl rd_eq rfl ?_
                    refine x_cst (zi 2) 1 181 rfl rfl rfl ?_
                    refine z_sub 182 rfl rfl ?_
                    rw [show ((a + 2 : Nat) : Int) - 2 = ((a : Nat) : Int) from (by omega)]
                    refine x_ce 185 110 185 [.ref 572, zi 3, zi (-1), zi (-1), zi (((lk x (a + 1) : Nat) : Int) - 97), zi ((a : Nat) : Int)] rfl rfl rfl (Nat.le_of_ble_eq_true rfl) rfl rfl (Nat.le_of_ble_eq_true rfl) ⟨_, _, _, rfl, o_572⟩ (Nat.le_of_ble_eq_true rfl) (c110 (d + 2) r2 (by omega) (by omega) (y := ((2, 0, 0, tOf (lk x (a + 1))), a)) rfl rfl rfl (fun _ => by show _ = mLt (tOf (lk x (a + 1))); rw [tOf_o (by omega)]; unfold mLt; rw [if_neg (by omega)]; omega) rfl) rfl ?_
                    rintro v M2 ⟨rfl, hF2, hR2⟩
                    refine x_ld 0 1 2 186 rfl rfl rfl rfl rfl ?_
                    refine x_ce 200 111 189 [.ref 572] rfl rfl rfl (Nat.le_of_ble_eq_true rfl) rfl rfl (Nat.le_of_ble_eq_true rfl) ⟨_, _, _, rfl, o_572⟩ (Nat.le_of_ble_eq_true rfl) (c111 d hR2 (Rch_step hR ((mw_sgn (by omega) (by first | (rw [hl2]; rfl) | (rw [hl2]; simp; omega))).trans (by rw [if_neg (by omega)])))) rfl ?_
                    rintro v M3 ⟨hF3, hv3⟩
                    rcases hv3 with ⟨rfl, hg⟩ | ⟨rfl, hg⟩
                    · refine z_ifeq 196 192 rfl rfl rfl (rg_lit 0 rfl) (fun _ => ?_) (fun c => absurd c (by decide))
                      refine x_cst (zi 1) 1 197 rfl rfl rfl ?_
                      refine x_ret rfl rfl rfl rfl ?_
                      exact ⟨_, _, rfl, rfl, Fpr_trans (Fpr_trans (Fpr_trans (Fpr_f (by omega)) (Fpr_f (by omega))) hF2) hF3, .inr (.inl ⟨rfl, a + 2, by omega, hg⟩)⟩
                    · refine z_ifeq 196 192 rfl rfl rfl (rg_lit 1 rfl) (fun c => absurd c (by decide)) (fun _ => ?_)
                      refine x_cst (zi 2) 1 193 rfl rfl rfl ?_
                      refine x_go 197 rfl rfl ?_
                      refine x_ret rfl rfl rfl rfl ?_
                      exact ⟨_, _, rfl, rfl, Fpr_trans (Fpr_trans (Fpr_trans (Fpr_f (by omega)) (Fpr_f (by omega))) hF2) hF3, .inr (.inr ⟨rfl, a + 2, by omega, hg⟩)⟩
                  · refine x_cst (zi 4) 1 169 rfl rfl rfl ?_
                    refine x_go 176 rfl rfl ?_
                    refine x_ld 0 1 2 177 rfl rfl rfl rfl rfl ?_
                    refine g_572_29 165 180 rfl rfl rd_eq rfl ?_
                    refine x_cst (zi 2) 1 181 rfl rfl rfl ?_
                    refine z_sub 182 rfl rfl ?_
                    rw [show ((a + 2 : Nat) : Int) - 2 = ((a : Nat) : Int) from (by omega)]
                    refine x_ce 185 110 185 [.ref 572, zi 3, zi (-1), zi (-1), zi 4, zi ((a : Nat) : Int)] rfl rfl rfl (Nat.le_of_ble_eq_true rfl) rfl rfl (Nat.le_of_ble_eq_true rfl) ⟨_, _, _, rfl, o_572⟩ (Nat.le_of_ble_eq_true rfl) (c110 (d + 2) r2 (by omega) (by omega) (y := ((2, 0, 0, tOf (lk x (a + 1))), a)) rfl rfl rfl (fun _ => by show _ = mLt (tOf (lk x (a + 1))); rw [tOf_46 (by omega)]; rfl) rfl) rfl ?_
                    rintro v M2 ⟨rfl, hF2, hR2⟩
                    refine x_ld 0 1 2 186 rfl rfl rfl rfl rfl ?_
                    refine x_ce 200 111 189 [.ref 572] rfl rfl rfl (Nat.le_of_ble_eq_true rfl) rfl rfl (Nat.le_of_ble_eq_true rfl) ⟨_, _, _, rfl, o_572⟩ (Nat.le_of_ble_eq_true rfl) (c111 d hR2 (Rch_step hR ((mw_sgn (by omega) (by first | (rw [hl2]; rfl) | (rw [hl2]; simp; omega))).trans (by rw [if_neg (by omega)])))) rfl ?_
                    rintro v M3 ⟨hF3, hv3⟩
                    rcases hv3 with ⟨rfl, hg⟩ | ⟨rfl, hg⟩
                    · refine z_ifeq 196 192 rfl rfl rfl (rg_lit 0 rfl) (fun _ => ?_) (fun c => absurd c (by decide))
                      refine x_cst (zi 1) 1 197 rfl rfl rfl ?_
                      refine x_ret rfl rfl rfl rfl ?_
                      exact ⟨_, _, rfl, rfl, Fpr_trans (Fpr_trans (Fpr_trans (Fpr_f (by omega)) (Fpr_f (by omega))) hF2) hF3, .inr (.inl ⟨rfl, a + 2, by omega, hg⟩)⟩
                    · refine z_ifeq 196 192 rfl rfl rfl (rg_lit 1 rfl) (fun c => absurd c (by decide)) (fun _ => ?_)
                      refine x_cst (zi 2) 1 193 rfl rfl rfl ?_
                      refine x_go 197 rfl rfl ?_
                      refine x_ret rfl rfl rfl rfl ?_
                      exact ⟨_, _, rfl, rfl, Fpr_trans (Fpr_trans (Fpr_trans (Fpr_f (by omega)) (Fpr_f (by omega))) hF2) hF3, .inr (.inr ⟨rfl, a + 2, by omega, hg⟩)⟩
                · refine x_cst (zi 2) 1 156 rfl rfl rfl ?_
                  refine x_go 160 rfl rfl ?_
                  refine x_cst (zi (-1)) 1 161 rfl rfl rfl ?_
                  refine x_cst (zi (-1)) 1 162 rfl rfl rfl ?_
                  refine x_ld 2 1 0 163 rfl rfl rfl rfl rfl ?_
                  refine x_cst (zi 46) 2 165 rfl rfl rfl ?_
                  refine z_icne 172 168 rfl rfl rfl ⟨by omega, by omega⟩ (rg_lit 46 rfl) (fun c165 => ?_) (fun c165 => ?_)
                  · refine x_ld 2 1 0 173 rfl rfl rfl rfl rfl ?_
                    refine x_cst (zi 97) 2 175 rfl rfl rfl ?_
                    refine z_sub 176 rfl rfl ?_
                    refine x_ld 0 1 2 177 rfl rfl rfl rfl rfl ?_
                    refine g_572_29 165 180 rfl rfl rd_eq rfl ?_
                    refine x_cst (zi 2) 1 181 rfl rfl rfl ?_
                    refine z_sub 182 rfl rfl ?_
                    rw [show ((a + 2 : Nat) : Int) - 2 = ((a : Nat) : Int) from (by omega)]
                    refine x_ce 185 110 185 [.ref 572, zi 2, zi (-1), zi (-1), zi (((lk x (a + 1) : Nat) : Int) - 97), zi ((a : Nat) : Int)] rfl rfl rfl (Nat.le_of_ble_eq_true rfl) rfl rfl (Nat.le_of_ble_eq_true rfl) ⟨_, _, _, rfl, o_572⟩ (Nat.le_of_ble_eq_true rfl) (c110 (d + 2) r2 (by omega) (by omega) (y := ((1, 0, 0, tOf (lk x (a + 1))), a)) rfl rfl rfl (fun _ => by show _ = mLt (tOf (lk x (a + 1))); rw [tOf_o (by omega)]; unfold mLt; rw [if_neg (by omega)]; omega) rfl) rfl ?_
                    rintro v M2 ⟨rfl, hF2, hR2⟩
                    refine x_ld 0 1 2 186 rfl rfl rfl rfl rfl ?_
                    refine x_ce 200 111 189 [.ref 572] rfl rfl rfl (Nat.le_of_ble_eq_true rfl) rfl rfl (Nat.le_of_ble_eq_true rfl) ⟨_, _, _, rfl, o_572⟩ (Nat.le_of_ble_eq_true rfl) (c111 d hR2 (Rch_step hR ((mw_sgn (by omega) (by first | (rw [hl2]; rfl) | (rw [hl2]; simp; omega))).trans (by rw [if_pos (by omega)])))) rfl ?_
                    rintro v M3 ⟨hF3, hv3⟩
                    rcases hv3 with ⟨rfl, hg⟩ | ⟨rfl, hg⟩
                    · refine z_ifeq 196 192 rfl rfl rfl (rg_lit 0 rfl) (fun _ => ?_) (fun c => absurd c (by decide))
                      refine x_cst (zi 1) 1 197 rfl rfl rfl ?_
                      refine x_ret rfl rfl rfl rfl ?_
                      exact ⟨_, _, rfl, rfl, Fpr_trans (Fpr_trans (Fpr_trans (Fpr_f (by omega)) (Fpr_f (by omega))) hF2) hF3, .inr (.inl ⟨rfl, a + 2, by omega, hg⟩)⟩
                    · refine z_ifeq 196 192 rfl rfl rfl (rg_lit 1 rfl) (fun c => absurd c (by decide)) (fun _ => ?_)
                      refine x_cst (zi 2) 1 193 rfl rfl rfl ?_
                      refine x_go 197 rfl rfl ?_
                      refine x_ret rfl rfl rfl rfl ?_
                      exact ⟨_, _, rfl, rfl, Fpr_trans (Fpr_trans (Fpr_trans (Fpr_f (by omega)) (Fpr_f (by omega))) hF2) hF3, .inr (.inr ⟨rfl, a + 2, by omega, hg⟩)⟩
                  · refine x_cst (zi 4) 1 169 rfl rfl rfl ?_
                    refine x_go 176 rfl rfl ?_
                    refine x_ld 0 1 2 177 rfl rfl rfl rfl rfl ?_
                    refine g_572_29 165 180 rfl rfl rd_eq rfl ?_
                    refine x_cst (zi 2) 1 181 rfl rfl rfl ?_
                    refine z_sub 182 rfl rfl ?_
                    rw [show ((a + 2 : Nat) : Int) - 2 = ((a : Nat) : Int) from (by omega)]
                    refine x_ce 185 110 185 [.ref 572, zi 2, zi (-1), zi (-1), zi 4, zi ((a : Nat) : Int)] rfl rfl rfl (Nat.le_of_ble_eq_true rfl) rfl rfl (Nat.le_of_ble_eq_true rfl) ⟨_, _, _, rfl, o_572⟩ (Nat.le_of_ble_eq_true rfl) (c110 (d + 2) r2 (by omega) (by omega) (y := ((1, 0, 0, tOf (lk x (a + 1))), a)) rfl rfl rfl (fun _ => by show _ = mLt (tOf (lk x (a + 1))); rw [tOf_46 (by omega)]; rfl) rfl) rfl ?_
                    rintro v M2 ⟨rfl, hF2, hR2⟩
                    refine x_ld 0 1 2 186 rfl rfl rfl rfl rfl ?_
                    refine x_ce 200 111 189 [.ref 572] rfl rfl rfl (Nat.le_of_ble_eq_true rfl) rfl rfl (Nat.le_of_ble_eq_true rfl) ⟨_, _, _, rfl, o_572⟩ (Nat.le_of_ble_eq_true rfl) (c111 d hR2 (Rch_step hR ((mw_sgn (by omega) (by first | (rw [hl2]; rfl) | (rw [hl2]; simp; omega))).trans (by rw [if_pos (by omega)])))) rfl ?_
                    rintro v M3 ⟨hF3, hv3⟩
                    rcases hv3 with ⟨rfl, hg⟩ | ⟨rfl, hg⟩
                    · refine z_ifeq 196 192 rfl rfl rfl (rg_lit 0 rfl) (fun _ => ?_) (fun c => absurd c (by decide))
                      refine x_cst (zi 1) 1 197 rfl rfl rfl ?_
                      refine x_ret rfl rfl rfl rfl ?_
                      exact ⟨_, _, rfl, rfl, Fpr_trans (Fpr_trans (Fpr_trans (Fpr_f (by omega)) (Fpr_f (by omega))) hF2) hF3, .inr (.inl ⟨rfl, a + 2, by omega, hg⟩)⟩
                    · refine z_ifeq 196 192 rfl rfl rfl (rg_lit 1 rfl) (fun c => absurd c (by decide)) (fun _ => ?_)
                      refine x_cst (zi 2) 1 193 rfl rfl rfl ?_
                      refine x_go 197 rfl rfl ?_
                      refine x_ret rfl rfl rfl rfl ?_
                      exact ⟨_, _, rfl, rfl, Fpr_trans (Fpr_trans (Fpr_trans (Fpr_f (by omega)) (Fpr_f (by omega))) hF2) hF3, .inr (.inr ⟨rfl, a + 2, by omega, hg⟩)⟩
    · refine x_ld 0 1 2 20 rfl rfl rfl rfl rfl ?_
      refine x_dup 21 rfl rfl rfl ?_
      refine g_572_29 165 24 rfl rfl h.2.1 rfl ?_
      refine x_cst (zi 1) 1 25 rfl rfl rfl ?_
      refine z_add 26 rfl rfl ?_
      rw [show ((a : Nat) : Int) + 1 = ((a + 1 : Nat) : Int) from (by omega)]
      refine s_572_29 165 29 rfl rfl rfl rfl rfl rfl ?_
      refine x_ld 0 1 2 30 rfl rfl rfl rfl rfl ?_
      refine x_ld 1 1 0 31 rfl rfl rfl rfl rfl ?_
      refine x_cst (zi 46) 2 33 rfl rfl rfl ?_
      refine z_icne 40 36 rfl rfl rfl ⟨by omega, by omega⟩ (rg_lit 46 rfl) (fun c33 => ?_) (fun c33 => ?_)
      · refine x_cst (zi 0) 1 41 rfl rfl rfl ?_
        refine x_cst (zi (-1)) 1 42 rfl rfl rfl ?_
        refine x_cst (zi (-1)) 1 43 rfl rfl rfl ?_
        refine x_ld 1 1 0 44 rfl rfl rfl rfl rfl ?_
        refine x_cst (zi 46) 2 46 rfl rfl rfl ?_
        refine z_icne 53 49 rfl rfl rfl ⟨by omega, by omega⟩ (rg_lit 46 rfl) (fun c46 => ?_) (fun c46 => ?_)
        · refine x_ld 1 1 0 54 rfl rfl rfl rfl rfl ?_
          refine x_cst (zi 97) 2 56 rfl rfl rfl ?_
          refine z_sub 57 rfl rfl ?_
          refine x_ld 0 1 2 58 rfl rfl rfl rfl rfl ?_
          refine g_572_29 165 61 rfl rfl rd_eq rfl ?_
          refine x_cst (zi 1) 1 62 rfl rfl rfl ?_
          refine z_sub 63 rfl rfl ?_
          rw [show ((a + 1 : Nat) : Int) - 1 = ((a : Nat) : Int) from (by omega)]
          refine x_ce 185 110 66 [.ref 572, zi 0, zi (-1), zi (-1), zi (((lk x a : Nat) : Int) - 97), zi ((a : Nat) : Int)] rfl rfl rfl (Nat.le_of_ble_eq_true rfl) rfl rfl (Nat.le_of_ble_eq_true rfl) ⟨_, _, _, rfl, o_572⟩ (Nat.le_of_ble_eq_true rfl) (c110 (d + 2) r1 (by omega) (by omega) (y := ((0, 0, 0, tOf (lk x a)), a)) (by show (0 : Int) = (if tOf (lk x a) = 0 then 1 else 0); rw [tOf_o (by omega), if_neg (by omega)]) rfl rfl (fun _ => by show _ = mLt (tOf (lk x a)); rw [tOf_o (by omega)]; unfold mLt; rw [if_neg (by omega)]; omega) rfl) rfl ?_
          rintro v M2 ⟨rfl, hF2, hR2⟩
          refine x_ld 0 1 2 67 rfl rfl rfl rfl rfl ?_
          refine x_ce 200 111 70 [.ref 572] rfl rfl rfl (Nat.le_of_ble_eq_true rfl) rfl rfl (Nat.le_of_ble_eq_true rfl) ⟨_, _, _, rfl, o_572⟩ (Nat.le_of_ble_eq_true rfl) (c111 d hR2 (Rch_step hR (mw_let (by first | (rw [hl]; rfl) | (rw [hl]; simp; omega))))) rfl ?_
          rintro v M3 ⟨hF3, hv3⟩
          rcases hv3 with ⟨rfl, hg⟩ | ⟨rfl, hg⟩
          · refine z_ifeq 77 73 rfl rfl rfl (rg_lit 0 rfl) (fun _ => ?_) (fun c => absurd c (by decide))
            refine x_cst (zi 1) 1 78 rfl rfl rfl ?_
            refine x_ret rfl rfl rfl rfl ?_
            exact ⟨_, _, rfl, rfl, Fpr_trans (Fpr_trans (Fpr_f (by omega)) hF2) hF3, .inr (.inl ⟨rfl, a + 1, by omega, hg⟩)⟩
          · refine z_ifeq 77 73 rfl rfl rfl (rg_lit 1 rfl) (fun c => absurd c (by decide)) (fun _ => ?_)
            refine x_cst (zi 2) 1 74 rfl rfl rfl ?_
            refine x_go 78 rfl rfl ?_
            refine x_ret rfl rfl rfl rfl ?_
            exact ⟨_, _, rfl, rfl, Fpr_trans (Fpr_trans (Fpr_f (by omega)) hF2) hF3, .inr (.inr ⟨rfl, a + 1, by omega, hg⟩)⟩
        · refine x_cst (zi 4) 1 50 rfl rfl rfl ?_
          refine x_go 57 rfl rfl ?_
          refine x_ld 0 1 2 58 rfl rfl rfl rfl rfl ?_
          refine g_572_29 165 61 rfl rfl rd_eq rfl ?_
          refine x_cst (zi 1) 1 62 rfl rfl rfl ?_
          refine z_sub 63 rfl rfl ?_
          rw [show ((a + 1 : Nat) : Int) - 1 = ((a : Nat) : Int) from (by omega)]
          refine x_ce 185 110 66 [.ref 572, zi 0, zi (-1), zi (-1), zi 4, zi ((a : Nat) : Int)] rfl rfl rfl (Nat.le_of_ble_eq_true rfl) rfl rfl (Nat.le_of_ble_eq_true rfl) ⟨_, _, _, rfl, o_572⟩ (Nat.le_of_ble_eq_true rfl) (c110 (d + 2) r1 (by omega) (by omega) (y := ((0, 0, 0, tOf (lk x a)), a)) (by show (0 : Int) = (if tOf (lk x a) = 0 then 1 else 0); rw [tOf_o (by omega), if_neg (by omega)]) rfl rfl (fun _ => by show _ = mLt (tOf (lk x a)); rw [tOf_46 (by omega)]; rfl) rfl) rfl ?_
          rintro v M2 ⟨rfl, hF2, hR2⟩
          refine x_ld 0 1 2 67 rfl rfl rfl rfl rfl ?_
          refine x_ce 200 111 70 [.ref 572] rfl rfl rfl (Nat.le_of_ble_eq_true rfl) rfl rfl (Nat.le_of_ble_eq_true rfl) ⟨_, _, _, rfl, o_572⟩ (Nat.le_of_ble_eq_true rfl) (c111 d hR2 (Rch_step hR (mw_let (by first | (rw [hl]; rfl) | (rw [hl]; simp; omega))))) rfl ?_
          rintro v M3 ⟨hF3, hv3⟩
          rcases hv3 with ⟨rfl, hg⟩ | ⟨rfl, hg⟩
          · refine z_ifeq 77 73 rfl rfl rfl (rg_lit 0 rfl) (fun _ => ?_) (fun c => absurd c (by decide))
            refine x_cst (zi 1) 1 78 rfl rfl rfl ?_
            refine x_ret rfl rfl rfl rfl ?_
            exact ⟨_, _, rfl, rfl, Fpr_trans (Fpr_trans (Fpr_f (by omega)) hF2) hF3, .inr (.inl ⟨rfl, a + 1, by omega, hg⟩)⟩
          · refine z_ifeq 77 73 rfl rfl rfl (rg_lit 1 rfl) (fun c => absurd c (by decide)) (fun _ => ?_)
            refine x_cst (zi 2) 1 74 rfl rfl rfl ?_
            refine x_go 78 rfl rfl ?_
            refine x_ret rfl rfl rfl rfl ?_
            exact ⟨_, _, rfl, rfl, Fpr_trans (Fpr_trans (Fpr_f (by omega)) hF2) hF3, .inr (.inr ⟨rfl, a + 1, by omega, hg⟩)⟩
      · refine x_cst (zi 1) 1 37 rfl rfl rfl ?_
        refine x_go 41 rfl rfl ?_
        refine x_cst (zi (-1)) 1 42 rfl rfl rfl ?_
        refine x_cst (zi (-1)) 1 43 rfl rfl rfl ?_
        refine x_ld 1 1 0 44 rfl rfl rfl rfl rfl ?_
        refine x_cst (zi 46) 2 46 rfl rfl rfl ?_
        refine z_icne 53 49 rfl rfl rfl ⟨by omega, by omega⟩ (rg_lit 46 rfl) (fun c46 => ?_) (fun c46 => ?_)
        · refine x_ld 1 1 0 54 rfl rfl rfl rfl rfl ?_
          refine x_cst (zi 97) 2 56 rfl rfl rfl ?_
          refine z_sub 57 rfl rfl ?_
          refine x_ld 0 1 2 58 rfl rfl rfl rfl rfl ?_
          refine g_572_29 165 61 rfl rfl rd_eq rfl ?_
          refine x_cst (zi 1) 1 62 rfl rfl rfl ?_
          refine z_sub 63 rfl rfl ?_
          rw [show ((a + 1 : Nat) : Int) - 1 = ((a : Nat) : Int) from (by omega)]
          refine x_ce 185 110 66 [.ref 572, zi 1, zi (-1), zi (-1), zi (((lk x a : Nat) : Int) - 97), zi ((a : Nat) : Int)] rfl rfl rfl (Nat.le_of_ble_eq_true rfl) rfl rfl (Nat.le_of_ble_eq_true rfl) ⟨_, _, _, rfl, o_572⟩ (Nat.le_of_ble_eq_true rfl) (c110 (d + 2) r1 (by omega) (by omega) (y := ((0, 0, 0, tOf (lk x a)), a)) (by show (1 : Int) = (if tOf (lk x a) = 0 then 1 else 0); rw [tOf_46 (by omega)]; rfl) rfl rfl (fun _ => by show _ = mLt (tOf (lk x a)); rw [tOf_o (by omega)]; unfold mLt; rw [if_neg (by omega)]; omega) rfl) rfl ?_
          rintro v M2 ⟨rfl, hF2, hR2⟩
          refine x_ld 0 1 2 67 rfl rfl rfl rfl rfl ?_
          refine x_ce 200 111 70 [.ref 572] rfl rfl rfl (Nat.le_of_ble_eq_true rfl) rfl rfl (Nat.le_of_ble_eq_true rfl) ⟨_, _, _, rfl, o_572⟩ (Nat.le_of_ble_eq_true rfl) (c111 d hR2 (Rch_step hR (mw_let (by first | (rw [hl]; rfl) | (rw [hl]; simp; omega))))) rfl ?_
          rintro v M3 ⟨hF3, hv3⟩
          rcases hv3 with ⟨rfl, hg⟩ | ⟨rfl, hg⟩
          · refine z_ifeq 77 73 rfl rfl rfl (rg_lit 0 rfl) (fun _ => ?_) (fun c => absurd c (by decide))
            refine x_cst (zi 1) 1 78 rfl rfl rfl ?_
            refine x_ret rfl rfl rfl rfl ?_
            exact ⟨_, _, rfl, rfl, Fpr_trans (Fpr_trans (Fpr_f (by omega)) hF2) hF3, .inr (.inl ⟨rfl, a + 1, by omega, hg⟩)⟩
          · refine z_ifeq 77 73 rfl rfl rfl (rg_lit 1 rfl) (fun c => absurd c (by decide)) (fun _ => ?_)
            refine x_cst (zi 2) 1 74 rfl rfl rfl ?_
            refine x_go 78 rfl rfl ?_
            refine x_ret rfl rfl rfl rfl ?_
            exact ⟨_, _, rfl, rfl, Fpr_trans (Fpr_trans (Fpr_f (by omega)) hF2) hF3, .inr (.inr ⟨rfl, a + 1, by omega, hg⟩)⟩
        · refine x_cst (zi 4) 1 50 rfl rfl rfl ?_
          refine x_go 57 rfl rfl ?_
          refine x_ld 0 1 2 58 rfl rfl rfl rfl rfl ?_
          refine g_572_29 165 61 rfl rfl rd_eq rfl ?_
          refine x_cst (zi 1) 1 62 rfl rfl rfl ?_
          refine z_sub 63 rfl rfl ?_
          rw [show ((a + 1 : Nat) : Int) - 1 = ((a : Nat) : Int) from (by omega)]
          refine x_ce 185 110 66 [.ref 572, zi 1, zi (-1), zi (-1), zi 4, zi ((a : Nat) : Int)] rfl rfl rfl (Nat.le_of_ble_eq_true rfl) rfl rfl (Nat.le_of_ble_eq_true rfl) ⟨_, _, _, rfl, o_572⟩ (Nat.le_of_ble_eq_true rfl) (c110 (d + 2) r1 (by omega) (by omega) (y := ((0, 0, 0, tOf (lk x a)), a)) (by show (1 : Int) = (if tOf (lk x a) = 0 then 1 else 0); rw [tOf_46 (by omega)]; rfl) rfl rfl (fun _ => by show _ = mLt (tOf (lk x a)); rw [tOf_46 (by omega)]; rfl) rfl) rfl ?_
          rintro v M2 ⟨rfl, hF2, hR2⟩
          refine x_ld 0 1 2 67 rfl rfl rfl rfl rfl ?_
          refine x_ce 200 111 70 [.ref 572] rfl rfl rfl (Nat.le_of_ble_eq_true rfl) rfl rfl (Nat.le_of_ble_eq_true rfl) ⟨_, _, _, rfl, o_572⟩ (Nat.le_of_ble_eq_true rfl) (c111 d hR2 (Rch_step hR (mw_let (by first | (rw [hl]; rfl) | (rw [hl]; simp; omega))))) rfl ?_
          rintro v M3 ⟨hF3, hv3⟩
          rcases hv3 with ⟨rfl, hg⟩ | ⟨rfl, hg⟩
          · refine z_ifeq 77 73 rfl rfl rfl (rg_lit 0 rfl) (fun _ => ?_) (fun c => absurd c (by decide))
            refine x_cst (zi 1) 1 78 rfl rfl rfl ?_
            refine x_ret rfl rfl rfl rfl ?_
            exact ⟨_, _, rfl, rfl, Fpr_trans (Fpr_trans (Fpr_f (by omega)) hF2) hF3, .inr (.inl ⟨rfl, a + 1, by omega, hg⟩)⟩
          · refine z_ifeq 77 73 rfl rfl rfl (rg_lit 1 rfl) (fun c => absurd c (by decide)) (fun _ => ?_)
            refine x_cst (zi 2) 1 74 rfl rfl rfl ?_
            refine x_go 78 rfl rfl ?_
            refine x_ret rfl rfl rfl rfl ?_
            exact ⟨_, _, rfl, rfl, Fpr_trans (Fpr_trans (Fpr_f (by omega)) hF2) hF3, .inr (.inr ⟨rfl, a + 1, by omega, hg⟩)⟩
theorem toF {a : Nat} {ps : List (prt × Nat)} {ls : List Nat} {os : List opn} (hR : Rch x s0 (4, a, ps, ls, os)) (hs : sat (lk x a) = false) (h1 : lk x a ≠ 124) (h2 : lk x a ≠ 41) (ha : a < x.1) : ∃ ps5 ls5 os5, Rch x s0 (6, a, ps5, ls5, os5) := by
  have key : ∀ ps' ls' os', Rch x s0 (5, a, ps', ls', os') → ∃ ps5 ls5 os5, Rch x s0 (6, a, ps5, ls5, os5) := fun ps' ls' os' h => ⟨_, _, _, Rch_step h (md_F h1 (fun e => h2 e.1) (.inl ha))⟩
  have hR2 : Rch x s0 (mstep x (4, a, ps, ls, os)) := Rch_step hR rfl
  have e : (mstep x (4, a, ps, ls, os)).1 = 5 ∧ (mstep x (4, a, ps, ls, os)).2.1 = a := by
    unfold mstep; dsimp only
    rw [if_neg (by decide), if_neg (by decide), if_neg (by decide), if_pos rfl, if_neg (by rw [hs]; decide)]
    split <;> exact ⟨rfl, rfl⟩
  generalize mstep x (4, a, ps, ls, os) = s at hR2 e
  obtain ⟨m, a', ps', ls', os'⟩ := s
  obtain ⟨e1, e2⟩ := e
  have e1 : m = 5 := e1
  have e2 : a' = a := e2
  subst e1 e2
  exact key _ _ _ hR2
theorem c116_2 (d : Nat) {a : Nat} {ps : List (prt × Nat)} {ls : List Nat} {os : List opn} (h : rR M x a (dpt os) ps ls os) (hR : Rch x s0 (2, a, ps, ls, os)) (ha : a < x.1) : ab_Z (pg_G L xs) (d + 4) 116 [.ref 572, zi 1] M es (fun v M' => Fpr M M' ∧ ((v = some (zi 0) ∧ rgF x M') ∨ (v = some (zi 1) ∧ ∃ a', a ≤ a' ∧ rgW x M' 0 a') ∨ (v = some (zi 2) ∧ ∃ a', a < a' ∧ rgW x M' 3 a') ∨ (v = some (zi 3) ∧ ∃ a', a < a' ∧ rgW x M' 2 a'))) := by
  have hi := inv_Rch hR (inv_s0 x)
  have h1 : a ≤ x.1 := hi.1
  have h2 : ps.length + ls.length + eqc os ≤ 2 * a := hi.2.1
  have h16 := h.1.1
  have hop := opI_0 hR
  have hob : ∀ o ∈ os, o.1 < 100 := fun o ho => (hop o ho).1
  have hln := hi.2.2.2.1 (show 1 ≤ 2 by omega) (show 2 ≤ 5 by omega)
  have hl3 : ls.length = nd os + 1 := hln.1
  have hl4 : os.length + 1 ≤ 2 * a := hln.2
  have hlk : lk x a < 127 := by unfold lk; rw [if_pos ha]; exact (h.1.2.2 a ha).2
  obtain ⟨p, ls', rfl⟩ := one_of (ls := ls) (by omega)
  rw [List.length_cons] at h2
  have rl := rR_ls h (y := ((ls'.length : Nat) : Int)) rfl
  show ab_W (pg_G L xs) (ab_X (pg_G L xs) (d + 3)) 116 _ 0 [some (.ref 572), some (zi 1), none] [] (hp M ++ es)
  refine x_ld 0 1 2 1 rfl rfl rfl rfl rfl ?_
  refine x_cst (zi 0) 1 2 rfl rfl rfl ?_
  refine x_cv 196 108 5 [.ref 572, zi 0] rfl rfl rfl (Nat.le_of_ble_eq_true rfl) rfl rfl (Nat.le_of_ble_eq_true rfl) ⟨_, _, _, rfl, o_572⟩ (Nat.le_of_ble_eq_true rfl) (c108 (d + 2) h (k := 0) (by omega) (by decide)) rfl ?_
  refine x_st 2 1 0 6 [some (.ref 572), some (zi 1), some (zi ((lk x a : Nat) : Int))] rfl rfl rfl (Nat.le_of_ble_eq_true rfl) rfl rfl ?_
  refine x_ld 2 1 0 7 rfl rfl rfl rfl rfl ?_
  refine x_cst (zi 42) 2 9 rfl rfl rfl ?_
  refine z_iceq 18 12 rfl rfl rfl ⟨by omega, by omega⟩ (rg_lit 42 rfl) (fun c9 => ?_) (fun c9 => ?_)
  · refine x_ld 1 1 0 19 rfl rfl rfl rfl rfl ?_
    refine z_ifeq 61 22 rfl rfl rfl (rg_lit 1 rfl) (fun c => absurd c (by decide)) (fun _ => ?_)
    refine x_ld 0 1 2 23 rfl rfl rfl rfl rfl ?_
    refine x_ld 2 1 0 24 rfl rfl rfl rfl rfl ?_
    refine x_cst (zi 42) 2 26 rfl rfl rfl ?_
    refine z_icne 34 29 rfl rfl rfl ⟨by omega, by omega⟩ (rg_lit 42 rfl) (fun c26 => ?_) (fun c26 => ?_)
    · refine x_cst (zi 9) 2 36 rfl rfl rfl ?_
      refine x_ld 0 1 2 37 rfl rfl rfl rfl rfl ?_
      refine x_cv 181 113 40 [.ref 572] rfl rfl rfl (Nat.le_of_ble_eq_true rfl) rfl rfl (Nat.le_of_ble_eq_true rfl) ⟨_, _, _, rfl, o_572⟩ (Nat.le_of_ble_eq_true rfl) (c113 (d + 2) h (by omega)) rfl ?_
      refine x_cst (zi (-1)) 1 41 rfl rfl rfl ?_
      refine x_cst (zi 0) 1 42 rfl rfl rfl ?_
      refine x_ld 0 1 2 43 rfl rfl rfl rfl rfl ?_
      refine g_572_29 165 46 rfl rfl ((rd_nk (Ne.symm (by decide))).trans h.2.1) rfl ?_
      refine x_ce 185 110 49 [.ref 572, zi 9, zi ((p : Nat) : Int), zi (-1), zi 0, zi ((a : Nat) : Int)] rfl rfl rfl (Nat.le_of_ble_eq_true rfl) rfl rfl (Nat.le_of_ble_eq_true rfl) ⟨_, _, _, rfl, o_572⟩ (Nat.le_of_ble_eq_true rfl) (c110 (lt := 0) (d + 2) rl (by omega) (by omega) (y := ((8, p, p, 0), a)) rfl rfl rfl (fun e => absurd e (by show ¬ 8 < 3; omega)) rfl) rfl ?_
      rintro v M2 ⟨rfl, hF2, hR2⟩
      refine x_ld 0 1 2 50 rfl rfl rfl rfl rfl ?_
      refine x_dup 51 rfl rfl rfl ?_
      refine g_572_29 165 54 rfl rfl hR2.2.1 rfl ?_
      refine x_cst (zi 1) 1 55 rfl rfl rfl ?_
      refine z_add 56 rfl rfl ?_
      rw [show ((a : Nat) : Int) + 1 = ((a + 1 : Nat) : Int) from (by omega)]
      refine s_572_29 165 59 rfl rfl rfl rfl rfl rfl ?_
      refine x_cst (zi 2) 1 60 rfl rfl rfl ?_
      refine x_ret rfl rfl rfl rfl ?_
      exact ⟨_, _, rfl, rfl, Fpr_trans (Fpr_trans (Fpr_f (by omega)) hF2) (Fpr_f (by omega)), .inr (.inr (.inl ⟨rfl, a + 1, by omega, _, _, _, Rch_step hR ((mb_star (by omega)).trans (by rw [if_neg (by omega)])), rR_at hR2 (by omega)⟩))⟩
    · refine x_cst (zi 8) 2 31 rfl rfl rfl ?_
      refine x_go 36 rfl rfl ?_
      refine x_ld 0 1 2 37 rfl rfl rfl rfl rfl ?_
      refine x_cv 181 113 40 [.ref 572] rfl rfl rfl (Nat.le_of_ble_eq_true rfl) rfl rfl (Nat.le_of_ble_eq_true rfl) ⟨_, _, _, rfl, o_572⟩ (Nat.le_of_ble_eq_true rfl) (c113 (d + 2) h (by omega)) rfl ?_
      refine x_cst (zi (-1)) 1 41 rfl rfl rfl ?_
      refine x_cst (zi 0) 1 42 rfl rfl rfl ?_
      refine x_ld 0 1 2 43 rfl rfl rfl rfl rfl ?_
      refine g_572_29 165 46 rfl rfl ((rd_nk (Ne.symm (by decide))).trans h.2.1) rfl ?_
      refine x_ce 185 110 49 [.ref 572, zi 8, zi ((p : Nat) : Int), zi (-1), zi 0, zi ((a : Nat) : Int)] rfl rfl rfl (Nat.le_of_ble_eq_true rfl) rfl rfl (Nat.le_of_ble_eq_true rfl) ⟨_, _, _, rfl, o_572⟩ (Nat.le_of_ble_eq_true rfl) (c110 (lt := 0) (d + 2) rl (by omega) (by omega) (y := ((7, p, p, 0), a)) rfl rfl rfl (fun e => absurd e (by show ¬ 7 < 3; omega)) rfl) rfl ?_
      rintro v M2 ⟨rfl, hF2, hR2⟩
      refine x_ld 0 1 2 50 rfl rfl rfl rfl rfl ?_
      refine x_dup 51 rfl rfl rfl ?_
      refine g_572_29 165 54 rfl rfl hR2.2.1 rfl ?_
      refine x_cst (zi 1) 1 55 rfl rfl rfl ?_
      refine z_add 56 rfl rfl ?_
      rw [show ((a : Nat) : Int) + 1 = ((a + 1 : Nat) : Int) from (by omega)]
      refine s_572_29 165 59 rfl rfl rfl rfl rfl rfl ?_
      refine x_cst (zi 2) 1 60 rfl rfl rfl ?_
      refine x_ret rfl rfl rfl rfl ?_
      exact ⟨_, _, rfl, rfl, Fpr_trans (Fpr_trans (Fpr_f (by omega)) hF2) (Fpr_f (by omega)), .inr (.inr (.inl ⟨rfl, a + 1, by omega, _, _, _, Rch_step hR ((mb_star (by omega)).trans (by rw [if_pos (by omega)])), rR_at hR2 (by omega)⟩))⟩
  · refine x_ld 2 1 0 13 rfl rfl rfl rfl rfl ?_
    refine x_cst (zi 37) 2 15 rfl rfl rfl ?_
    refine z_icne 61 18 rfl rfl rfl ⟨by omega, by omega⟩ (rg_lit 37 rfl) (fun c15 => ?_) (fun c15 => ?_)
    · refine x_ld 0 1 2 62 rfl rfl rfl rfl rfl ?_
      refine x_cst (zi 4) 1 63 rfl rfl rfl ?_
      refine x_ce 192 114 66 [.ref 572, zi 4] rfl rfl rfl (Nat.le_of_ble_eq_true rfl) rfl rfl (Nat.le_of_ble_eq_true rfl) ⟨_, _, _, rfl, o_572⟩ (Nat.le_of_ble_eq_true rfl) (cl4 (d + 1) (m := 2) (by omega) (fun e => by omega) h hR) rfl ?_
      rintro v M4 ⟨rfl, hF4, ps4, ls4, os4, hR4, h4⟩
      refine x_ld 2 1 0 67 rfl rfl rfl rfl rfl ?_
      refine x_cv 211 117 70 [zi ((lk x a : Nat) : Int)] rfl rfl rfl (Nat.le_of_ble_eq_true rfl) rfl rfl (Nat.le_of_ble_eq_true rfl) trivial (Nat.le_of_ble_eq_true rfl) (c117 (d + 1) (c := lk x a) (by omega)) rfl ?_
      rcases Bool.eq_false_or_eq_true (sat (lk x a)) with hsat | hsat
      · rw [hsat]
        have hi4 := inv_Rch hR4 (inv_s0 x)
        have ho4 : os4.length + 1 ≤ 2 * a := (hi4.2.2.2.1 (show 1 ≤ 4 by decide) (show 4 ≤ 5 by decide)).2
        refine z_ifeq 84 73 rfl rfl rfl (rg_lit 1 rfl) (fun c => absurd c (by decide)) (fun _ => ?_)
        refine x_ld 0 1 2 74 rfl rfl rfl rfl rfl ?_
        refine x_cst (zi 4) 1 75 rfl rfl rfl ?_
        refine x_ld 0 1 2 76 rfl rfl rfl rfl rfl ?_
        refine g_572_29 165 79 rfl rfl h4.2.1 rfl ?_
        refine x_ce 207 115 82 [.ref 572, zi 4, zi ((a : Nat) : Int)] rfl rfl rfl (Nat.le_of_ble_eq_true rfl) rfl rfl (Nat.le_of_ble_eq_true rfl) ⟨_, _, _, rfl, o_572⟩ (Nat.le_of_ble_eq_true rfl) (c115 (kd := 4) (pl := a) (d + 2) h4 (by omega)) rfl ?_
        rintro v M6 ⟨rfl, hF6, hR6⟩
        refine x_cst (zi 1) 1 83 rfl rfl rfl ?_
        refine x_ret rfl rfl rfl rfl ?_
        exact ⟨_, _, rfl, rfl, Fpr_trans hF4 hF6, .inr (.inl ⟨rfl, a, Nat.le_refl _, _, _, _, Rch_step hR4 (mc_at hsat), hR6⟩)⟩
      · rw [hsat]
        refine z_ifeq 84 73 rfl rfl rfl (rg_lit 0 rfl) (fun _ => ?_) (fun c => absurd c (by decide))
        refine x_ld 2 1 0 85 rfl rfl rfl rfl rfl ?_
        refine x_cst (zi 124) 2 87 rfl rfl rfl ?_
        refine z_icne 118 90 rfl rfl rfl ⟨by omega, by omega⟩ (rg_lit 124 rfl) (fun c87 => ?_) (fun c87 => ?_)
        · refine x_ld 2 1 0 119 rfl rfl rfl rfl rfl ?_
          refine x_cst (zi 41) 2 121 rfl rfl rfl ?_
          refine z_icne 182 124 rfl rfl rfl ⟨by omega, by omega⟩ (rg_lit 41 rfl) (fun c121 => ?_) (fun c121 => ?_)
          · refine x_cst (zi 0) 1 183 rfl rfl rfl ?_
            refine x_ret rfl rfl rfl rfl ?_
            obtain ⟨ps5, ls5, os5, hR5⟩ : ∃ ps5 ls5 os5, Rch x s0 (6, a, ps5, ls5, os5) := toF hR4 hsat (by omega) (by omega) ha
            exact ⟨_, _, rfl, rfl, hF4, .inl ⟨rfl, a, _, _, _, hR5, h4.2.1⟩⟩
          · refine x_ld 0 1 2 125 rfl rfl rfl rfl rfl ?_
            refine x_cst (zi 7) 2 127 rfl rfl rfl ?_
            refine x_ce 192 114 130 [.ref 572, zi 7] rfl rfl rfl (Nat.le_of_ble_eq_true rfl) rfl rfl (Nat.le_of_ble_eq_true rfl) ⟨_, _, _, rfl, o_572⟩ (Nat.le_of_ble_eq_true rfl) (cl7 (d + 1) hsat h4 hR4) rfl ?_
            rintro v M5 ⟨rfl, hF5, ps5, ls5, os5, hR5, h5⟩
            refine x_ld 0 1 2 131 rfl rfl rfl rfl rfl ?_
            refine x_cst (zi 10) 2 133 rfl rfl rfl ?_
            refine x_cv 177 112 136 [.ref 572, zi 10] rfl rfl rfl (Nat.le_of_ble_eq_true rfl) rfl rfl (Nat.le_of_ble_eq_true rfl) ⟨_, _, _, rfl, o_572⟩ (Nat.le_of_ble_eq_true rfl) (c112 (d + 2) h5 (by have t := (inv_Rch hR5 (inv_s0 x)).2.2.2.1 (show 1 ≤ 5 by decide) (show 5 ≤ 5 by decide); have t2 : os5.length + 1 ≤ 2 * a := t.2; omega) (fun o ho => (opI_0 hR5 o ho).1) (kd := 10) (by decide)) rfl ?_
            rcases Bool.eq_false_or_eq_true (isO os5 10) with ho | ho
            · rw [ho]
              obtain ⟨pl, w, os6, rfl⟩ := isO_cons ho
              have h27 : M5.1 572 27 = ((os6.length + 1 : Nat) : Int) := h5.2.2.2.2.2.2.2.1
              have h28 : M5.1 572 28 = ((dpt os6 + 1 : Nat) : Int) := h5.2.2.1
              have r5 := rR_at (rR_dp (rR_os h5 (y := ((os6.length : Nat) : Int)) rfl) (dp' := dpt os6) (y := ((dpt os6 : Nat) : Int)) rfl) (a' := a + 1) (y := ((a + 1 : Nat) : Int)) rfl
              refine z_ifeq 182 139 rfl rfl rfl (rg_lit 1 rfl) (fun c => absurd c (by decide)) (fun _ => ?_)
              refine x_ld 0 1 2 140 rfl rfl rfl rfl rfl ?_
              refine x_dup 141 rfl rfl rfl ?_
              refine g_572_27 174 144 rfl rfl h27 rfl ?_
              refine x_cst (zi 1) 1 145 rfl rfl rfl ?_
              refine z_sub 146 rfl rfl ?_
              rw [show ((os6.length + 1 : Nat) : Int) - 1 = ((os6.length : Nat) : Int) from (by omega)]
              refine s_572_27 174 149 rfl rfl rfl rfl rfl rfl ?_
              refine x_ld 0 1 2 150 rfl rfl rfl rfl rfl ?_
              refine x_dup 151 rfl rfl rfl ?_
              refine g_572_28 204 154 rfl rfl ((rd_nk (Ne.symm (by decide))).trans h28) rfl ?_
              refine x_cst (zi 1) 1 155 rfl rfl rfl ?_
              refine z_sub 156 rfl rfl ?_
              rw [show ((dpt os6 + 1 : Nat) : Int) - 1 = ((dpt os6 : Nat) : Int) from (by omega)]
              refine s_572_28 204 159 rfl rfl rfl rfl rfl rfl ?_
              refine x_ld 0 1 2 160 rfl rfl rfl rfl rfl ?_
              refine x_dup 161 rfl rfl rfl ?_
              refine g_572_29 165 164 rfl rfl ((rd_nk (Ne.symm (by decide))).trans ((rd_nk (Ne.symm (by decide))).trans h5.2.1)) rfl ?_
              refine x_cst (zi 1) 1 165 rfl rfl rfl ?_
              refine z_add 166 rfl rfl ?_
              rw [show ((a : Nat) : Int) + 1 = ((a + 1 : Nat) : Int) from (by omega)]
              refine s_572_29 165 169 rfl rfl rfl rfl rfl rfl ?_
              refine x_ld 0 1 2 170 rfl rfl rfl rfl rfl ?_
              refine x_ce 200 111 173 [.ref 572] rfl rfl rfl (Nat.le_of_ble_eq_true rfl) rfl rfl (Nat.le_of_ble_eq_true rfl) ⟨_, _, _, rfl, o_572⟩ (Nat.le_of_ble_eq_true rfl) (c111 d r5 (Rch_step hR5 (md_br (by omega)))) rfl ?_
              rintro v M6 ⟨hF6, hv6⟩
              rcases hv6 with ⟨rfl, hg⟩ | ⟨rfl, hg⟩
              · refine z_ifeq 180 176 rfl rfl rfl (rg_lit 0 rfl) (fun _ => ?_) (fun c => absurd c (by decide))
                refine x_cst (zi 1) 1 181 rfl rfl rfl ?_
                refine x_ret rfl rfl rfl rfl ?_
                exact ⟨_, _, rfl, rfl, Fpr_trans (Fpr_trans (Fpr_trans (Fpr_trans (Fpr_trans hF4 hF5) (Fpr_f (by omega))) (Fpr_f (by omega))) (Fpr_f (by omega))) hF6, .inr (.inl ⟨rfl, a + 1, by omega, hg⟩)⟩
              · refine z_ifeq 180 176 rfl rfl rfl (rg_lit 1 rfl) (fun c => absurd c (by decide)) (fun _ => ?_)
                refine x_cst (zi 3) 1 177 rfl rfl rfl ?_
                refine x_go 181 rfl rfl ?_
                refine x_ret rfl rfl rfl rfl ?_
                exact ⟨_, _, rfl, rfl, Fpr_trans (Fpr_trans (Fpr_trans (Fpr_trans (Fpr_trans hF4 hF5) (Fpr_f (by omega))) (Fpr_f (by omega))) (Fpr_f (by omega))) hF6, .inr (.inr (.inr ⟨rfl, a + 1, by omega, hg⟩))⟩
            · rw [ho]
              refine z_ifeq 182 139 rfl rfl rfl (rg_lit 0 rfl) (fun _ => ?_) (fun c => absurd c (by decide))
              refine x_cst (zi 0) 1 183 rfl rfl rfl ?_
              refine x_ret rfl rfl rfl rfl ?_
              exact ⟨_, _, rfl, rfl, Fpr_trans hF4 hF5, .inl ⟨rfl, a, _, _, _, Rch_step hR5 (md_F (by omega) (fun e => by rw [ho] at e; exact absurd e.2 (by decide)) (.inl ha)), h5.2.1⟩⟩
        · refine x_ld 0 1 2 91 rfl rfl rfl rfl rfl ?_
          refine x_cst (zi 7) 2 93 rfl rfl rfl ?_
          refine x_ce 192 114 96 [.ref 572, zi 7] rfl rfl rfl (Nat.le_of_ble_eq_true rfl) rfl rfl (Nat.le_of_ble_eq_true rfl) ⟨_, _, _, rfl, o_572⟩ (Nat.le_of_ble_eq_true rfl) (cl7 (d + 1) hsat h4 hR4) rfl ?_
          rintro v M5 ⟨rfl, hF5, ps5, ls5, os5, hR5, h5⟩
          refine x_ld 0 1 2 97 rfl rfl rfl rfl rfl ?_
          refine x_cst (zi 7) 2 99 rfl rfl rfl ?_
          refine x_ld 0 1 2 100 rfl rfl rfl rfl rfl ?_
          refine g_572_29 165 103 rfl rfl h5.2.1 rfl ?_
          refine x_ce 207 115 106 [.ref 572, zi 7, zi ((a : Nat) : Int)] rfl rfl rfl (Nat.le_of_ble_eq_true rfl) rfl rfl (Nat.le_of_ble_eq_true rfl) ⟨_, _, _, rfl, o_572⟩ (Nat.le_of_ble_eq_true rfl) (c115 (kd := 7) (pl := a) (d + 2) h5 (by have t := (inv_Rch hR5 (inv_s0 x)).2.2.2.1 (show 1 ≤ 5 by decide) (show 5 ≤ 5 by decide); have t2 : os5.length + 1 ≤ 2 * a := t.2; omega)) rfl ?_
          rintro v M6 ⟨rfl, hF6, hR6⟩
          refine x_ld 0 1 2 107 rfl rfl rfl rfl rfl ?_
          refine x_dup 108 rfl rfl rfl ?_
          refine g_572_29 165 111 rfl rfl hR6.2.1 rfl ?_
          refine x_cst (zi 1) 1 112 rfl rfl rfl ?_
          refine z_add 113 rfl rfl ?_
          rw [show ((a : Nat) : Int) + 1 = ((a + 1 : Nat) : Int) from (by omega)]
          refine s_572_29 165 116 rfl rfl rfl rfl rfl rfl ?_
          refine x_cst (zi 1) 1 117 rfl rfl rfl ?_
          refine x_ret rfl rfl rfl rfl ?_
          exact ⟨_, _, rfl, rfl, Fpr_trans (Fpr_trans (Fpr_trans hF4 hF5) hF6) (Fpr_f (by omega)), .inr (.inl ⟨rfl, a + 1, by omega, _, _, _, Rch_step hR5 (md_or (by omega)), rR_at hR6 (by omega)⟩)⟩
    · refine x_ld 1 1 0 19 rfl rfl rfl rfl rfl ?_
      refine z_ifeq 61 22 rfl rfl rfl (rg_lit 1 rfl) (fun c => absurd c (by decide)) (fun _ => ?_)
      refine x_ld 0 1 2 23 rfl rfl rfl rfl rfl ?_
      refine x_ld 2 1 0 24 rfl rfl rfl rfl rfl ?_
      refine x_cst (zi 42) 2 26 rfl rfl rfl ?_
      refine z_icne 34 29 rfl rfl rfl ⟨by omega, by omega⟩ (rg_lit 42 rfl) (fun c26 => ?_) (fun c26 => ?_)
      · refine x_cst (zi 9) 2 36 rfl rfl rfl ?_
        refine x_ld 0 1 2 37 rfl rfl rfl rfl rfl ?_
        refine x_cv 181 113 40 [.ref 572] rfl rfl rfl (Nat.le_of_ble_eq_true rfl) rfl rfl (Nat.le_of_ble_eq_true rfl) ⟨_, _, _, rfl, o_572⟩ (Nat.le_of_ble_eq_true rfl) (c113 (d + 2) h (by omega)) rfl ?_
        refine x_cst (zi (-1)) 1 41 rfl rfl rfl ?_
        refine x_cst (zi 0) 1 42 rfl rfl rfl ?_
        refine x_ld 0 1 2 43 rfl rfl rfl rfl rfl ?_
        refine g_572_29 165 46 rfl rfl ((rd_nk (Ne.symm (by decide))).trans h.2.1) rfl ?_
        refine x_ce 185 110 49 [.ref 572, zi 9, zi ((p : Nat) : Int), zi (-1), zi 0, zi ((a : Nat) : Int)] rfl rfl rfl (Nat.le_of_ble_eq_true rfl) rfl rfl (Nat.le_of_ble_eq_true rfl) ⟨_, _, _, rfl, o_572⟩ (Nat.le_of_ble_eq_true rfl) (c110 (lt := 0) (d + 2) rl (by omega) (by omega) (y := ((8, p, p, 0), a)) rfl rfl rfl (fun e => absurd e (by show ¬ 8 < 3; omega)) rfl) rfl ?_
        rintro v M2 ⟨rfl, hF2, hR2⟩
        refine x_ld 0 1 2 50 rfl rfl rfl rfl rfl ?_
        refine x_dup 51 rfl rfl rfl ?_
        refine g_572_29 165 54 rfl rfl hR2.2.1 rfl ?_
        refine x_cst (zi 1) 1 55 rfl rfl rfl ?_
        refine z_add 56 rfl rfl ?_
        rw [show ((a : Nat) : Int) + 1 = ((a + 1 : Nat) : Int) from (by omega)]
        refine s_572_29 165 59 rfl rfl rfl rfl rfl rfl ?_
        refine x_cst (zi 2) 1 60 rfl rfl rfl ?_
        refine x_ret rfl rfl rfl rfl ?_
        exact ⟨_, _, rfl, rfl, Fpr_trans (Fpr_trans (Fpr_f (by omega)) hF2) (Fpr_f (by omega)), .inr (.inr (.inl ⟨rfl, a + 1, by omega, _, _, _, Rch_step hR ((mb_star (by omega)).trans (by rw [if_neg (by omega)])), rR_at hR2 (by omega)⟩))⟩
      · refine x_cst (zi 8) 2 31 rfl rfl rfl ?_
        refine x_go 36 rfl rfl ?_
        refine x_ld 0 1 2 37 rfl rfl rfl rfl rfl ?_
        refine x_cv 181 113 40 [.ref 572] rfl rfl rfl (Nat.le_of_ble_eq_true rfl) rfl rfl (Nat.le_of_ble_eq_true rfl) ⟨_, _, _, rfl, o_572⟩ (Nat.le_of_ble_eq_true rfl) (c113 (d + 2) h (by omega)) rfl ?_
        refine x_cst (zi (-1)) 1 41 rfl rfl rfl ?_
        refine x_cst (zi 0) 1 42 rfl rfl rfl ?_
        refine x_ld 0 1 2 43 rfl rfl rfl rfl rfl ?_
        refine g_572_29 165 46 rfl rfl ((rd_nk (Ne.symm (by decide))).trans h.2.1) rfl ?_
        refine x_ce 185 110 49 [.ref 572, zi 8, zi ((p : Nat) : Int), zi (-1), zi 0, zi ((a : Nat) : Int)] rfl rfl rfl (Nat.le_of_ble_eq_true rfl) rfl rfl (Nat.le_of_ble_eq_true rfl) ⟨_, _, _, rfl, o_572⟩ (Nat.le_of_ble_eq_true rfl) (c110 (lt := 0) (d + 2) rl (by omega) (by omega) (y := ((7, p, p, 0), a)) rfl rfl rfl (fun e => absurd e (by show ¬ 7 < 3; omega)) rfl) rfl ?_
        rintro v M2 ⟨rfl, hF2, hR2⟩
        refine x_ld 0 1 2 50 rfl rfl rfl rfl rfl ?_
        refine x_dup 51 rfl rfl rfl ?_
        refine g_572_29 165 54 rfl rfl hR2.2.1 rfl ?_
        refine x_cst (zi 1) 1 55 rfl rfl rfl ?_
        refine z_add 56 rfl rfl ?_
        rw [show ((a : Nat) : Int) + 1 = ((a + 1 : Nat) : Int) from (by omega)]
        refine s_572_29 165 59 rfl rfl rfl rfl rfl rfl ?_
        refine x_cst (zi 2) 1 60 rfl rfl rfl ?_
        refine x_ret rfl rfl rfl rfl ?_
        exact ⟨_, _, rfl, rfl, Fpr_trans (Fpr_trans (Fpr_f (by omega)) hF2) (Fpr_f (by omega)), .inr (.inr (.inl ⟨rfl, a + 1, by omega, _, _, _, Rch_step hR ((mb_star (by omega)).trans (by rw [if_pos (by omega)])), rR_at hR2 (by omega)⟩))⟩
theorem c116_3 (d : Nat) {a : Nat} {ps : List (prt × Nat)} {ls : List Nat} {os : List opn} (h : rR M x a (dpt os) ps ls os) (hR : Rch x s0 (3, a, ps, ls, os)) (ha : a < x.1) : ab_Z (pg_G L xs) (d + 4) 116 [.ref 572, zi 0] M es (fun v M' => Fpr M M' ∧ ((v = some (zi 0) ∧ rgF x M') ∨ (v = some (zi 1) ∧ ∃ a', a ≤ a' ∧ rgW x M' 0 a') ∨ (v = some (zi 2) ∧ ∃ a', a < a' ∧ rgW x M' 3 a') ∨ (v = some (zi 3) ∧ ∃ a', a < a' ∧ rgW x M' 2 a'))) := by
  have hi := inv_Rch hR (inv_s0 x)
  have h1 : a ≤ x.1 := hi.1
  have h2 : ps.length + ls.length + eqc os ≤ 2 * a := hi.2.1
  have h16 := h.1.1
  have hop := opI_0 hR
  have hob : ∀ o ∈ os, o.1 < 100 := fun o ho => (hop o ho).1
  have hln := hi.2.2.2.1 (show 1 ≤ 3 by omega) (show 3 ≤ 5 by omega)
  have hl3 : ls.length = nd os + 1 := hln.1
  have hl4 : os.length + 1 ≤ 2 * a := hln.2
  have hlk : lk x a < 127 := by unfold lk; rw [if_pos ha]; exact (h.1.2.2 a ha).2
  show ab_W (pg_G L xs) (ab_X (pg_G L xs) (d + 3)) 116 _ 0 [some (.ref 572), some (zi 0), none] [] (hp M ++ es)
  refine x_ld 0 1 2 1 rfl rfl rfl rfl rfl ?_
  refine x_cst (zi 0) 1 2 rfl rfl rfl ?_
  refine x_cv 196 108 5 [.ref 572, zi 0] rfl rfl rfl (Nat.le_of_ble_eq_true rfl) rfl rfl (Nat.le_of_ble_eq_true rfl) ⟨_, _, _, rfl, o_572⟩ (Nat.le_of_ble_eq_true rfl) (c108 (d + 2) h (k := 0) (by omega) (by decide)) rfl ?_
  refine x_st 2 1 0 6 [some (.ref 572), some (zi 0), some (zi ((lk x a : Nat) : Int))] rfl rfl rfl (Nat.le_of_ble_eq_true rfl) rfl rfl ?_
  refine x_ld 2 1 0 7 rfl rfl rfl rfl rfl ?_
  refine x_cst (zi 42) 2 9 rfl rfl rfl ?_
  refine z_iceq 18 12 rfl rfl rfl ⟨by omega, by omega⟩ (rg_lit 42 rfl) (fun c9 => ?_) (fun c9 => ?_)
  · refine x_ld 1 1 0 19 rfl rfl rfl rfl rfl ?_
    refine z_ifeq 61 22 rfl rfl rfl (rg_lit 0 rfl) (fun _ => ?_) (fun c => absurd c (by decide))
    refine x_ld 0 1 2 62 rfl rfl rfl rfl rfl ?_
    refine x_cst (zi 4) 1 63 rfl rfl rfl ?_
    refine x_ce 192 114 66 [.ref 572, zi 4] rfl rfl rfl (Nat.le_of_ble_eq_true rfl) rfl rfl (Nat.le_of_ble_eq_true rfl) ⟨_, _, _, rfl, o_572⟩ (Nat.le_of_ble_eq_true rfl) (cl4 (d + 1) (m := 3) (by omega) (fun e => by omega) h hR) rfl ?_
    rintro v M4 ⟨rfl, hF4, ps4, ls4, os4, hR4, h4⟩
    refine x_ld 2 1 0 67 rfl rfl rfl rfl rfl ?_
    refine x_cv 211 117 70 [zi ((lk x a : Nat) : Int)] rfl rfl rfl (Nat.le_of_ble_eq_true rfl) rfl rfl (Nat.le_of_ble_eq_true rfl) trivial (Nat.le_of_ble_eq_true rfl) (c117 (d + 1) (c := lk x a) (by omega)) rfl ?_
    rcases Bool.eq_false_or_eq_true (sat (lk x a)) with hsat | hsat
    · rw [hsat]
      have hi4 := inv_Rch hR4 (inv_s0 x)
      have ho4 : os4.length + 1 ≤ 2 * a := (hi4.2.2.2.1 (show 1 ≤ 4 by decide) (show 4 ≤ 5 by decide)).2
      refine z_ifeq 84 73 rfl rfl rfl (rg_lit 1 rfl) (fun c => absurd c (by decide)) (fun _ => ?_)
      refine x_ld 0 1 2 74 rfl rfl rfl rfl rfl ?_
      refine x_cst (zi 4) 1 75 rfl rfl rfl ?_
      refine x_ld 0 1 2 76 rfl rfl rfl rfl rfl ?_
      refine g_572_29 165 79 rfl rfl h4.2.1 rfl ?_
      refine x_ce 207 115 82 [.ref 572, zi 4, zi ((a : Nat) : Int)] rfl rfl rfl (Nat.le_of_ble_eq_true rfl) rfl rfl (Nat.le_of_ble_eq_true rfl) ⟨_, _, _, rfl, o_572⟩ (Nat.le_of_ble_eq_true rfl) (c115 (kd := 4) (pl := a) (d + 2) h4 (by omega)) rfl ?_
      rintro v M6 ⟨rfl, hF6, hR6⟩
      refine x_cst (zi 1) 1 83 rfl rfl rfl ?_
      refine x_ret rfl rfl rfl rfl ?_
      exact ⟨_, _, rfl, rfl, Fpr_trans hF4 hF6, .inr (.inl ⟨rfl, a, Nat.le_refl _, _, _, _, Rch_step hR4 (mc_at hsat), hR6⟩)⟩
    · rw [hsat]
      refine z_ifeq 84 73 rfl rfl rfl (rg_lit 0 rfl) (fun _ => ?_) (fun c => absurd c (by decide))
      refine x_ld 2 1 0 85 rfl rfl rfl rfl rfl ?_
      refine x_cst (zi 124) 2 87 rfl rfl rfl ?_
      refine z_icne 118 90 rfl rfl rfl ⟨by omega, by omega⟩ (rg_lit 124 rfl) (fun c87 => ?_) (fun c87 => ?_)
      · refine x_ld 2 1 0 119 rfl rfl rfl rfl rfl ?_
        refine x_cst (zi 41) 2 121 rfl rfl rfl ?_
        refine z_icne 182 124 rfl rfl rfl ⟨by omega, by omega⟩ (rg_lit 41 rfl) (fun c121 => ?_) (fun c121 => ?_)
        · refine x_cst (zi 0) 1 183 rfl rfl rfl ?_
          refine x_ret rfl rfl rfl rfl ?_
          obtain ⟨ps5, ls5, os5, hR5⟩ : ∃ ps5 ls5 os5, Rch x s0 (6, a, ps5, ls5, os5) := toF hR4 hsat (by omega) (by omega) ha
          exact ⟨_, _, rfl, rfl, hF4, .inl ⟨rfl, a, _, _, _, hR5, h4.2.1⟩⟩
        · refine x_ld 0 1 2 125 rfl rfl rfl rfl rfl ?_
          refine x_cst (zi 7) 2 127 rfl rfl rfl ?_
          refine x_ce 192 114 130 [.ref 572, zi 7] rfl rfl rfl (Nat.le_of_ble_eq_true rfl) rfl rfl (Nat.le_of_ble_eq_true rfl) ⟨_, _, _, rfl, o_572⟩ (Nat.le_of_ble_eq_true rfl) (cl7 (d + 1) hsat h4 hR4) rfl ?_
          rintro v M5 ⟨rfl, hF5, ps5, ls5, os5, hR5, h5⟩
          refine x_ld 0 1 2 131 rfl rfl rfl rfl rfl ?_
          refine x_cst (zi 10) 2 133 rfl rfl rfl ?_
          refine x_cv 177 112 136 [.ref 572, zi 10] rfl rfl rfl (Nat.le_of_ble_eq_true rfl) rfl rfl (Nat.le_of_ble_eq_true rfl) ⟨_, _, _, rfl, o_572⟩ (Nat.le_of_ble_eq_true rfl) (c112 (d + 2) h5 (by have t := (inv_Rch hR5 (inv_s0 x)).2.2.2.1 (show 1 ≤ 5 by decide) (show 5 ≤ 5 by decide); have t2 : os5.length + 1 ≤ 2 * a := t.2; omega) (fun o ho => (opI_0 hR5 o ho).1) (kd := 10) (by decide)) rfl ?_
          rcases Bool.eq_false_or_eq_true (isO os5 10) with ho | ho
          · rw [ho]
            obtain ⟨pl, w, os6, rfl⟩ := isO_cons ho
            have h27 : M5.1 572 27 = ((os6.length + 1 : Nat) : Int) := h5.2.2.2.2.2.2.2.1
            have h28 : M5.1 572 28 = ((dpt os6 + 1 : Nat) : Int) := h5.2.2.1
            have r5 := rR_at (rR_dp (rR_os h5 (y := ((os6.length : Nat) : Int)) rfl) (dp' := dpt os6) (y := ((dpt os6 : Nat) : Int)) rfl) (a' := a + 1) (y := ((a + 1 : Nat) : Int)) rfl
            refine z_ifeq 182 139 rfl rfl rfl (rg_lit 1 rfl) (fun c => absurd c (by decide)) (fun _ => ?_)
            refine x_ld 0 1 2 140 rfl rfl rfl rfl rfl ?_
            refine x_dup 141 rfl rfl rfl ?_
            refine g_572_27 174 144 rfl rfl h27 rfl ?_
            refine x_cst (zi 1) 1 145 rfl rfl rfl ?_
            refine z_sub 146 rfl rfl ?_
            rw [show ((os6.length + 1 : Nat) : Int) - 1 = ((os6.length : Nat) : Int) from (by omega)]
            refine s_572_27 174 149 rfl rfl rfl rfl rfl rfl ?_
            refine x_ld 0 1 2 150 rfl rfl rfl rfl rfl ?_
            refine x_dup 151 rfl rfl rfl ?_
            refine g_572_28 204 154 rfl rfl ((rd_nk (Ne.symm (by decide))).trans h28) rfl ?_
            refine x_cst (zi 1) 1 155 rfl rfl rfl ?_
            refine z_sub 156 rfl rfl ?_
            rw [show ((dpt os6 + 1 : Nat) : Int) - 1 = ((dpt os6 : Nat) : Int) from (by omega)]
            refine s_572_28 204 159 rfl rfl rfl rfl rfl rfl ?_
            refine x_ld 0 1 2 160 rfl rfl rfl rfl rfl ?_
            refine x_dup 161 rfl rfl rfl ?_
            refine g_572_29 165 164 rfl rfl ((rd_nk (Ne.symm (by decide))).trans ((rd_nk (Ne.symm (by decide))).trans h5.2.1)) rfl ?_
            refine x_cst (zi 1) 1 165 rfl rfl rfl ?_
            refine z_add 166 rfl rfl ?_
            rw [show ((a : Nat) : Int) + 1 = ((a + 1 : Nat) : Int) from (by omega)]
            refine s_572_29 165 169 rfl rfl rfl rfl rfl rfl ?_
            refine x_ld 0 1 2 170 rfl rfl rfl rfl rfl ?_
            refine x_ce 200 111 173 [.ref 572] rfl rfl rfl (Nat.le_of_ble_eq_true rfl) rfl rfl (Nat.le_of_ble_eq_true rfl) ⟨_, _, _, rfl, o_572⟩ (Nat.le_of_ble_eq_true rfl) (c111 d r5 (Rch_step hR5 (md_br (by omega)))) rfl ?_
            rintro v M6 ⟨hF6, hv6⟩
            rcases hv6 with ⟨rfl, hg⟩ | ⟨rfl, hg⟩
            · refine z_ifeq 180 176 rfl rfl rfl (rg_lit 0 rfl) (fun _ => ?_) (fun c => absurd c (by decide))
              refine x_cst (zi 1) 1 181 rfl rfl rfl ?_
              refine x_ret rfl rfl rfl rfl ?_
              exact ⟨_, _, rfl, rfl, Fpr_trans (Fpr_trans (Fpr_trans (Fpr_trans (Fpr_trans hF4 hF5) (Fpr_f (by omega))) (Fpr_f (by omega))) (Fpr_f (by omega))) hF6, .inr (.inl ⟨rfl, a + 1, by omega, hg⟩)⟩
            · refine z_ifeq 180 176 rfl rfl rfl (rg_lit 1 rfl) (fun c => absurd c (by decide)) (fun _ => ?_)
              refine x_cst (zi 3) 1 177 rfl rfl rfl ?_
              refine x_go 181 rfl rfl ?_
              refine x_ret rfl rfl rfl rfl ?_
              exact ⟨_, _, rfl, rfl, Fpr_trans (Fpr_trans (Fpr_trans (Fpr_trans (Fpr_trans hF4 hF5) (Fpr_f (by omega))) (Fpr_f (by omega))) (Fpr_f (by omega))) hF6, .inr (.inr (.inr ⟨rfl, a + 1, by omega, hg⟩))⟩
          · rw [ho]
            refine z_ifeq 182 139 rfl rfl rfl (rg_lit 0 rfl) (fun _ => ?_) (fun c => absurd c (by decide))
            refine x_cst (zi 0) 1 183 rfl rfl rfl ?_
            refine x_ret rfl rfl rfl rfl ?_
            exact ⟨_, _, rfl, rfl, Fpr_trans hF4 hF5, .inl ⟨rfl, a, _, _, _, Rch_step hR5 (md_F (by omega) (fun e => by rw [ho] at e; exact absurd e.2 (by decide)) (.inl ha)), h5.2.1⟩⟩
      · refine x_ld 0 1 2 91 rfl rfl rfl rfl rfl ?_
        refine x_cst (zi 7) 2 93 rfl rfl rfl ?_
        refine x_ce 192 114 96 [.ref 572, zi 7] rfl rfl rfl (Nat.le_of_ble_eq_true rfl) rfl rfl (Nat.le_of_ble_eq_true rfl) ⟨_, _, _, rfl, o_572⟩ (Nat.le_of_ble_eq_true rfl) (cl7 (d + 1) hsat h4 hR4) rfl ?_
        rintro v M5 ⟨rfl, hF5, ps5, ls5, os5, hR5, h5⟩
        refine x_ld 0 1 2 97 rfl rfl rfl rfl rfl ?_
        refine x_cst (zi 7) 2 99 rfl rfl rfl ?_
        refine x_ld 0 1 2 100 rfl rfl rfl rfl rfl ?_
        refine g_572_29 165 103 rfl rfl h5.2.1 rfl ?_
        refine x_ce 207 115 106 [.ref 572, zi 7, zi ((a : Nat) : Int)] rfl rfl rfl (Nat.le_of_ble_eq_true rfl) rfl rfl (Nat.le_of_ble_eq_true rfl) ⟨_, _, _, rfl, o_572⟩ (Nat.le_of_ble_eq_true rfl) (c115 (kd := 7) (pl := a) (d + 2) h5 (by have t := (inv_Rch hR5 (inv_s0 x)).2.2.2.1 (show 1 ≤ 5 by decide) (show 5 ≤ 5 by decide); have t2 : os5.length + 1 ≤ 2 * a := t.2; omega)) rfl ?_
        rintro v M6 ⟨rfl, hF6, hR6⟩
        refine x_ld 0 1 2 107 rfl rfl rfl rfl rfl ?_
        refine x_dup 108 rfl rfl rfl ?_
        refine g_572_29 165 111 rfl rfl hR6.2.1 rfl ?_
        refine x_cst (zi 1) 1 112 rfl rfl rfl ?_
        refine z_add 113 rfl rfl ?_
        rw [show ((a : Nat) : Int) + 1 = ((a + 1 : Nat) : Int) from (by omega)]
        refine s_572_29 165 116 rfl rfl rfl rfl rfl rfl ?_
        refine x_cst (zi 1) 1 117 rfl rfl rfl ?_
        refine x_ret rfl rfl rfl rfl ?_
        exact ⟨_, _, rfl, rfl, Fpr_trans (Fpr_trans (Fpr_trans hF4 hF5) hF6) (Fpr_f (by omega)), .inr (.inl ⟨rfl, a + 1, by omega, _, _, _, Rch_step hR5 (md_or (by omega)), rR_at hR6 (by omega)⟩)⟩
  · refine x_ld 2 1 0 13 rfl rfl rfl rfl rfl ?_
    refine x_cst (zi 37) 2 15 rfl rfl rfl ?_
    refine z_icne 61 18 rfl rfl rfl ⟨by omega, by omega⟩ (rg_lit 37 rfl) (fun c15 => ?_) (fun c15 => ?_)
    · refine x_ld 0 1 2 62 rfl rfl rfl rfl rfl ?_
      refine x_cst (zi 4) 1 63 rfl rfl rfl ?_
      refine x_ce 192 114 66 [.ref 572, zi 4] rfl rfl rfl (Nat.le_of_ble_eq_true rfl) rfl rfl (Nat.le_of_ble_eq_true rfl) ⟨_, _, _, rfl, o_572⟩ (Nat.le_of_ble_eq_true rfl) (cl4 (d + 1) (m := 3) (by omega) (fun e => by omega) h hR) rfl ?_
      rintro v M4 ⟨rfl, hF4, ps4, ls4, os4, hR4, h4⟩
      refine x_ld 2 1 0 67 rfl rfl rfl rfl rfl ?_
      refine x_cv 211 117 70 [zi ((lk x a : Nat) : Int)] rfl rfl rfl (Nat.le_of_ble_eq_true rfl) rfl rfl (Nat.le_of_ble_eq_true rfl) trivial (Nat.le_of_ble_eq_true rfl) (c117 (d + 1) (c := lk x a) (by omega)) rfl ?_
      rcases Bool.eq_false_or_eq_true (sat (lk x a)) with hsat | hsat
      · rw [hsat]
        have hi4 := inv_Rch hR4 (inv_s0 x)
        have ho4 : os4.length + 1 ≤ 2 * a := (hi4.2.2.2.1 (show 1 ≤ 4 by decide) (show 4 ≤ 5 by decide)).2
        refine z_ifeq 84 73 rfl rfl rfl (rg_lit 1 rfl) (fun c => absurd c (by decide)) (fun _ => ?_)
        refine x_ld 0 1 2 74 rfl rfl rfl rfl rfl ?_
        refine x_cst (zi 4) 1 75 rfl rfl rfl ?_
        refine x_ld 0 1 2 76 rfl rfl rfl rfl rfl ?_
        refine g_572_29 165 79 rfl rfl h4.2.1 rfl ?_
        refine x_ce 207 115 82 [.ref 572, zi 4, zi ((a : Nat) : Int)] rfl rfl rfl (Nat.le_of_ble_eq_true rfl) rfl rfl (Nat.le_of_ble_eq_true rfl) ⟨_, _, _, rfl, o_572⟩ (Nat.le_of_ble_eq_true rfl) (c115 (kd := 4) (pl := a) (d + 2) h4 (by omega)) rfl ?_
        rintro v M6 ⟨rfl, hF6, hR6⟩
        refine x_cst (zi 1) 1 83 rfl rfl rfl ?_
        refine x_ret rfl rfl rfl rfl ?_
        exact ⟨_, _, rfl, rfl, Fpr_trans hF4 hF6, .inr (.inl ⟨rfl, a, Nat.le_refl _, _, _, _, Rch_step hR4 (mc_at hsat), hR6⟩)⟩
      · rw [hsat]
        refine z_ifeq 84 73 rfl rfl rfl (rg_lit 0 rfl) (fun _ => ?_) (fun c => absurd c (by decide))
        refine x_ld 2 1 0 85 rfl rfl rfl rfl rfl ?_
        refine x_cst (zi 124) 2 87 rfl rfl rfl ?_
        refine z_icne 118 90 rfl rfl rfl ⟨by omega, by omega⟩ (rg_lit 124 rfl) (fun c87 => ?_) (fun c87 => ?_)
        · refine x_ld 2 1 0 119 rfl rfl rfl rfl rfl ?_
          refine x_cst (zi 41) 2 121 rfl rfl rfl ?_
          refine z_icne 182 124 rfl rfl rfl ⟨by omega, by omega⟩ (rg_lit 41 rfl) (fun c121 => ?_) (fun c121 => ?_)
          · refine x_cst (zi 0) 1 183 rfl rfl rfl ?_
            refine x_ret rfl rfl rfl rfl ?_
            obtain ⟨ps5, ls5, os5, hR5⟩ : ∃ ps5 ls5 os5, Rch x s0 (6, a, ps5, ls5, os5) := toF hR4 hsat (by omega) (by omega) ha
            exact ⟨_, _, rfl, rfl, hF4, .inl ⟨rfl, a, _, _, _, hR5, h4.2.1⟩⟩
          · refine x_ld 0 1 2 125 rfl rfl rfl rfl rfl ?_
            refine x_cst (zi 7) 2 127 rfl rfl rfl ?_
            refine x_ce 192 114 130 [.ref 572, zi 7] rfl rfl rfl (Nat.le_of_ble_eq_true rfl) rfl rfl (Nat.le_of_ble_eq_true rfl) ⟨_, _, _, rfl, o_572⟩ (Nat.le_of_ble_eq_true rfl) (cl7 (d + 1) hsat h4 hR4) rfl ?_
            rintro v M5 ⟨rfl, hF5, ps5, ls5, os5, hR5, h5⟩
            refine x_ld 0 1 2 131 rfl rfl rfl rfl rfl ?_
            refine x_cst (zi 10) 2 133 rfl rfl rfl ?_
            refine x_cv 177 112 136 [.ref 572, zi 10] rfl rfl rfl (Nat.le_of_ble_eq_true rfl) rfl rfl (Nat.le_of_ble_eq_true rfl) ⟨_, _, _, rfl, o_572⟩ (Nat.le_of_ble_eq_true rfl) (c112 (d + 2) h5 (by have t := (inv_Rch hR5 (inv_s0 x)).2.2.2.1 (show 1 ≤ 5 by decide) (show 5 ≤ 5 by decide); have t2 : os5.length + 1 ≤ 2 * a := t.2; omega) (fun o ho => (opI_0 hR5 o ho).1) (kd := 10) (by decide)) rfl ?_
            rcases Bool.eq_false_or_eq_true (isO os5 10) with ho | ho
            · rw [ho]
              obtain ⟨pl, w, os6, rfl⟩ := isO_cons ho
              have h27 : M5.1 572 27 = ((os6.length + 1 : Nat) : Int) := h5.2.2.2.2.2.2.2.1
              have h28 : M5.1 572 28 = ((dpt os6 + 1 : Nat) : Int) := h5.2.2.1
              have r5 := rR_at (rR_dp (rR_os h5 (y := ((os6.length : Nat) : Int)) rfl) (dp' := dpt os6) (y := ((dpt os6 : Nat) : Int)) rfl) (a' := a + 1) (y := ((a + 1 : Nat) : Int)) rfl
              refine z_ifeq 182 139 rfl rfl rfl (rg_lit 1 rfl) (fun c => absurd c (by decide)) (fun _ => ?_)
              refine x_ld 0 1 2 140 rfl rfl rfl rfl rfl ?_
              refine x_dup 141 rfl rfl rfl ?_
              refine g_572_27 174 144 rfl rfl h27 rfl ?_
              refine x_cst (zi 1) 1 145 rfl rfl rfl ?_
              refine z_sub 146 rfl rfl ?_
              rw [show ((os6.length + 1 : Nat) : Int) - 1 = ((os6.length : Nat) : Int) from (by omega)]
              refine s_572_27 174 149 rfl rfl rfl rfl rfl rfl ?_
              refine x_ld 0 1 2 150 rfl rfl rfl rfl rfl ?_
              refine x_dup 151 rfl rfl rfl ?_
              refine g_572_28 204 154 rfl rfl ((rd_nk (Ne.symm (by decide))).trans h28) rfl ?_
              refine x_cst (zi 1) 1 155 rfl rfl rfl ?_
              refine z_sub 156 rfl rfl ?_
              rw [show ((dpt os6 + 1 : Nat) : Int) - 1 = ((dpt os6 : Nat) : Int) from (by omega)]
              refine s_572_28 204 159 rfl rfl rfl rfl rfl rfl ?_
              refine x_ld 0 1 2 160 rfl rfl rfl rfl rfl ?_
              refine x_dup 161 rfl rfl rfl ?_
              refine g_572_29 165 164 rfl rfl ((rd_nk (Ne.symm (by decide))).trans ((rd_nk (Ne.symm (by decide))).trans h5.2.1)) rfl ?_
              refine x_cst (zi 1) 1 165 rfl rfl rfl ?_
              refine z_add 166 rfl rfl ?_
              rw [show ((a : Nat) : Int) + 1 = ((a + 1 : Nat) : Int) from (by omega)]
              refine s_572_29 165 169 rfl rfl rfl rfl rfl rfl ?_
              refine x_ld 0 1 2 170 rfl rfl rfl rfl rfl ?_
              refine x_ce 200 111 173 [.ref 572] rfl rfl rfl (Nat.le_of_ble_eq_true rfl) rfl rfl (Nat.le_of_ble_eq_true rfl) ⟨_, _, _, rfl, o_572⟩ (Nat.le_of_ble_eq_true rfl) (c111 d r5 (Rch_step hR5 (md_br (by omega)))) rfl ?_
              rintro v M6 ⟨hF6, hv6⟩
              rcases hv6 with ⟨rfl, hg⟩ | ⟨rfl, hg⟩
              · refine z_ifeq 180 176 rfl rfl rfl (rg_lit 0 rfl) (fun _ => ?_) (fun c => absurd c (by decide))
                refine x_cst (zi 1) 1 181 rfl rfl rfl ?_
                refine x_ret rfl rfl rfl rfl ?_
                exact ⟨_, _, rfl, rfl, Fpr_trans (Fpr_trans (Fpr_trans (Fpr_trans (Fpr_trans hF4 hF5) (Fpr_f (by omega))) (Fpr_f (by omega))) (Fpr_f (by omega))) hF6, .inr (.inl ⟨rfl, a + 1, by omega, hg⟩)⟩
              · refine z_ifeq 180 176 rfl rfl rfl (rg_lit 1 rfl) (fun c => absurd c (by decide)) (fun _ => ?_)
                refine x_cst (zi 3) 1 177 rfl rfl rfl ?_
                refine x_go 181 rfl rfl ?_
                refine x_ret rfl rfl rfl rfl ?_
                exact ⟨_, _, rfl, rfl, Fpr_trans (Fpr_trans (Fpr_trans (Fpr_trans (Fpr_trans hF4 hF5) (Fpr_f (by omega))) (Fpr_f (by omega))) (Fpr_f (by omega))) hF6, .inr (.inr (.inr ⟨rfl, a + 1, by omega, hg⟩))⟩
            · rw [ho]
              refine z_ifeq 182 139 rfl rfl rfl (rg_lit 0 rfl) (fun _ => ?_) (fun c => absurd c (by decide))
              refine x_cst (zi 0) 1 183 rfl rfl rfl ?_
              refine x_ret rfl rfl rfl rfl ?_
              exact ⟨_, _, rfl, rfl, Fpr_trans hF4 hF5, .inl ⟨rfl, a, _, _, _, Rch_step hR5 (md_F (by omega) (fun e => by rw [ho] at e; exact absurd e.2 (by decide)) (.inl ha)), h5.2.1⟩⟩
        · refine x_ld 0 1 2 91 rfl rfl rfl rfl rfl ?_
          refine x_cst (zi 7) 2 93 rfl rfl rfl ?_
          refine x_ce 192 114 96 [.ref 572, zi 7] rfl rfl rfl (Nat.le_of_ble_eq_true rfl) rfl rfl (Nat.le_of_ble_eq_true rfl) ⟨_, _, _, rfl, o_572⟩ (Nat.le_of_ble_eq_true rfl) (cl7 (d + 1) hsat h4 hR4) rfl ?_
          rintro v M5 ⟨rfl, hF5, ps5, ls5, os5, hR5, h5⟩
          refine x_ld 0 1 2 97 rfl rfl rfl rfl rfl ?_
          refine x_cst (zi 7) 2 99 rfl rfl rfl ?_
          refine x_ld 0 1 2 100 rfl rfl rfl rfl rfl ?_
          refine g_572_29 165 103 rfl rfl h5.2.1 rfl ?_
          refine x_ce 207 115 106 [.ref 572, zi 7, zi ((a : Nat) : Int)] rfl rfl rfl (Nat.le_of_ble_eq_true rfl) rfl rfl (Nat.le_of_ble_eq_true rfl) ⟨_, _, _, rfl, o_572⟩ (Nat.le_of_ble_eq_true rfl) (c115 (kd := 7) (pl := a) (d + 2) h5 (by have t := (inv_Rch hR5 (inv_s0 x)).2.2.2.1 (show 1 ≤ 5 by decide) (show 5 ≤ 5 by decide); have t2 : os5.length + 1 ≤ 2 * a := t.2; omega)) rfl ?_
          rintro v M6 ⟨rfl, hF6, hR6⟩
          refine x_ld 0 1 2 107 rfl rfl rfl rfl rfl ?_
          refine x_dup 108 rfl rfl rfl ?_
          refine g_572_29 165 111 rfl rfl hR6.2.1 rfl ?_
          refine x_cst (zi 1) 1 112 rfl rfl rfl ?_
          refine z_add 113 rfl rfl ?_
          rw [show ((a : Nat) : Int) + 1 = ((a + 1 : Nat) : Int) from (by omega)]
          refine s_572_29 165 116 rfl rfl rfl rfl rfl rfl ?_
          refine x_cst (zi 1) 1 117 rfl rfl rfl ?_
          refine x_ret rfl rfl rfl rfl ?_
          exact ⟨_, _, rfl, rfl, Fpr_trans (Fpr_trans (Fpr_trans hF4 hF5) hF6) (Fpr_f (by omega)), .inr (.inl ⟨rfl, a + 1, by omega, _, _, _, Rch_step hR5 (md_or (by omega)), rR_at hR6 (by omega)⟩)⟩
    · refine x_ld 1 1 0 19 rfl rfl rfl rfl rfl ?_
      refine z_ifeq 61 22 rfl rfl rfl (rg_lit 0 rfl) (fun _ => ?_) (fun c => absurd c (by decide))
      refine x_ld 0 1 2 62 rfl rfl rfl rfl rfl ?_
      refine x_cst (zi 4) 1 63 rfl rfl rfl ?_
      refine x_ce 192 114 66 [.ref 572, zi 4] rfl rfl rfl (Nat.le_of_ble_eq_true rfl) rfl rfl (Nat.le_of_ble_eq_true rfl) ⟨_, _, _, rfl, o_572⟩ (Nat.le_of_ble_eq_true rfl) (cl4 (d + 1) (m := 3) (by omega) (fun e => by omega) h hR) rfl ?_
      rintro v M4 ⟨rfl, hF4, ps4, ls4, os4, hR4, h4⟩
      refine x_ld 2 1 0 67 rfl rfl rfl rfl rfl ?_
      refine x_cv 211 117 70 [zi ((lk x a : Nat) : Int)] rfl rfl rfl (Nat.le_of_ble_eq_true rfl) rfl rfl (Nat.le_of_ble_eq_true rfl) trivial (Nat.le_of_ble_eq_true rfl) (c117 (d + 1) (c := lk x a) (by omega)) rfl ?_
      rcases Bool.eq_false_or_eq_true (sat (lk x a)) with hsat | hsat
      · rw [hsat]
        have hi4 := inv_Rch hR4 (inv_s0 x)
        have ho4 : os4.length + 1 ≤ 2 * a := (hi4.2.2.2.1 (show 1 ≤ 4 by decide) (show 4 ≤ 5 by decide)).2
        refine z_ifeq 84 73 rfl rfl rfl (rg_lit 1 rfl) (fun c => absurd c (by decide)) (fun _ => ?_)
        refine x_ld 0 1 2 74 rfl rfl rfl rfl rfl ?_
        refine x_cst (zi 4) 1 75 rfl rfl rfl ?_
        refine x_ld 0 1 2 76 rfl rfl rfl rfl rfl ?_
        refine g_572_29 165 79 rfl rfl h4.2.1 rfl ?_
        refine x_ce 207 115 82 [.ref 572, zi 4, zi ((a : Nat) : Int)] rfl rfl rfl (Nat.le_of_ble_eq_true rfl) rfl rfl (Nat.le_of_ble_eq_true rfl) ⟨_, _, _, rfl, o_572⟩ (Nat.le_of_ble_eq_true rfl) (c115 (kd := 4) (pl := a) (d + 2) h4 (by omega)) rfl ?_
        rintro v M6 ⟨rfl, hF6, hR6⟩
        refine x_cst (zi 1) 1 83 rfl rfl rfl ?_
        refine x_ret rfl rfl rfl rfl ?_
        exact ⟨_, _, rfl, rfl, Fpr_trans hF4 hF6, .inr (.inl ⟨rfl, a, Nat.le_refl _, _, _, _, Rch_step hR4 (mc_at hsat), hR6⟩)⟩
      · rw [hsat]
        refine z_ifeq 84 73 rfl rfl rfl (rg_lit 0 rfl) (fun _ => ?_) (fun c => absurd c (by decide))
        refine x_ld 2 1 0 85 rfl rfl rfl rfl rfl ?_
        refine x_cst (zi 124) 2 87 rfl rfl rfl ?_
        refine z_icne 118 90 rfl rfl rfl ⟨by omega, by omega⟩ (rg_lit 124 rfl) (fun c87 => ?_) (fun c87 => ?_)
        · refine x_ld 2 1 0 119 rfl rfl rfl rfl rfl ?_
          refine x_cst (zi 41) 2 121 rfl rfl rfl ?_
          refine z_icne 182 124 rfl rfl rfl ⟨by omega, by omega⟩ (rg_lit 41 rfl) (fun c121 => ?_) (fun c121 => ?_)
          · refine x_cst (zi 0) 1 183 rfl rfl rfl ?_
            refine x_ret rfl rfl rfl rfl ?_
            obtain ⟨ps5, ls5, os5, hR5⟩ : ∃ ps5 ls5 os5, Rch x s0 (6, a, ps5, ls5, os5) := toF hR4 hsat (by omega) (by omega) ha
            exact ⟨_, _, rfl, rfl, hF4, .inl ⟨rfl, a, _, _, _, hR5, h4.2.1⟩⟩
          · refine x_ld 0 1 2 125 rfl rfl rfl rfl rfl ?_
            refine x_cst (zi 7) 2 127 rfl rfl rfl ?_
            refine x_ce 192 114 130 [.ref 572, zi 7] rfl rfl rfl (Nat.le_of_ble_eq_true rfl) rfl rfl (Nat.le_of_ble_eq_true rfl) ⟨_, _, _, rfl, o_572⟩ (Nat.le_of_ble_eq_true rfl) (cl7 (d + 1) hsat h4 hR4) rfl ?_
            rintro v M5 ⟨rfl, hF5, ps5, ls5, os5, hR5, h5⟩
            refine x_ld 0 1 2 131 rfl rfl rfl rfl rfl ?_
            refine x_cst (zi 10) 2 133 rfl rfl rfl ?_
            refine x_cv 177 112 136 [.ref 572, zi 10] rfl rfl rfl (Nat.le_of_ble_eq_true rfl) rfl rfl (Nat.le_of_ble_eq_true rfl) ⟨_, _, _, rfl, o_572⟩ (Nat.le_of_ble_eq_true rfl) (c112 (d + 2) h5 (by have t := (inv_Rch hR5 (inv_s0 x)).2.2.2.1 (show 1 ≤ 5 by decide) (show 5 ≤ 5 by decide); have t2 : os5.length + 1 ≤ 2 * a := t.2; omega) (fun o ho => (opI_0 hR5 o ho).1) (kd := 10) (by decide)) rfl ?_
            rcases Bool.eq_false_or_eq_true (isO os5 10) with ho | ho
            · rw [ho]
              obtain ⟨pl, w, os6, rfl⟩ := isO_cons ho
              have h27 : M5.1 572 27 = ((os6.length + 1 : Nat) : Int) := h5.2.2.2.2.2.2.2.1
              have h28 : M5.1 572 28 = ((dpt os6 + 1 : Nat) : Int) := h5.2.2.1
              have r5 := rR_at (rR_dp (rR_os h5 (y := ((os6.length : Nat) : Int)) rfl) (dp' := dpt os6) (y := ((dpt os6 : Nat) : Int)) rfl) (a' := a + 1) (y := ((a + 1 : Nat) : Int)) rfl
              refine z_ifeq 182 139 rfl rfl rfl (rg_lit 1 rfl) (fun c => absurd c (by decide)) (fun _ => ?_)
              refine x_ld 0 1 2 140 rfl rfl rfl rfl rfl ?_
              refine x_dup 141 rfl rfl rfl ?_
              refine g_572_27 174 144 rfl rfl h27 rfl ?_
              refine x_cst (zi 1) 1 145 rfl rfl rfl ?_
              refine z_sub 146 rfl rfl ?_
              rw [show ((os6.length + 1 : Nat) : Int) - 1 = ((os6.length : Nat) : Int) from (by omega)]
              refine s_572_27 174 149 rfl rfl rfl rfl rfl rfl ?_
              refine x_ld 0 1 2 150 rfl rfl rfl rfl rfl ?_
              refine x_dup 151 rfl rfl rfl ?_
              refine g_572_28 204 154 rfl rfl ((rd_nk (Ne.symm (by decide))).trans h28) rfl ?_
              refine x_cst (zi 1) 1 155 rfl rfl rfl ?_
              refine z_sub 156 rfl rfl ?_
              rw [show ((dpt os6 + 1 : Nat) : Int) - 1 = ((dpt os6 : Nat) : Int) from (by omega)]
              refine s_572_28 204 159 rfl rfl rfl rfl rfl rfl ?_
              refine x_ld 0 1 2 160 rfl rfl rfl rfl rfl ?_
              refine x_dup 161 rfl rfl rfl ?_
              refine g_572_29 165 164 rfl rfl ((rd_nk (Ne.symm (by decide))).trans ((rd_nk (Ne.symm (by decide))).trans h5.2.1)) rfl ?_
              refine x_cst (zi 1) 1 165 rfl rfl rfl ?_
              refine z_add 166 rfl rfl ?_
              rw [show ((a : Nat) : Int) + 1 = ((a + 1 : Nat) : Int) from (by omega)]
              refine s_572_29 165 169 rfl rfl rfl rfl rfl rfl ?_
              refine x_ld 0 1 2 170 rfl rfl rfl rfl rfl ?_
              refine x_ce 200 111 173 [.ref 572] rfl rfl rfl (Nat.le_of_ble_eq_true rfl) rfl rfl (Nat.le_of_ble_eq_true rfl) ⟨_, _, _, rfl, o_572⟩ (Nat.le_of_ble_eq_true rfl) (c111 d r5 (Rch_step hR5 (md_br (by omega)))) rfl ?_
              rintro v M6 ⟨hF6, hv6⟩
              rcases hv6 with ⟨rfl, hg⟩ | ⟨rfl, hg⟩
              · refine z_ifeq 180 176 rfl rfl rfl (rg_lit 0 rfl) (fun _ => ?_) (fun c => absurd c (by decide))
                refine x_cst (zi 1) 1 181 rfl rfl rfl ?_
                refine x_ret rfl rfl rfl rfl ?_
                exact ⟨_, _, rfl, rfl, Fpr_trans (Fpr_trans (Fpr_trans (Fpr_trans (Fpr_trans hF4 hF5) (Fpr_f (by omega))) (Fpr_f (by omega))) (Fpr_f (by omega))) hF6, .inr (.inl ⟨rfl, a + 1, by omega, hg⟩)⟩
              · refine z_ifeq 180 176 rfl rfl rfl (rg_lit 1 rfl) (fun c => absurd c (by decide)) (fun _ => ?_)
                refine x_cst (zi 3) 1 177 rfl rfl rfl ?_
                refine x_go 181 rfl rfl ?_
                refine x_ret rfl rfl rfl rfl ?_
                exact ⟨_, _, rfl, rfl, Fpr_trans (Fpr_trans (Fpr_trans (Fpr_trans (Fpr_trans hF4 hF5) (Fpr_f (by omega))) (Fpr_f (by omega))) (Fpr_f (by omega))) hF6, .inr (.inr (.inr ⟨rfl, a + 1, by omega, hg⟩))⟩
            · rw [ho]
              refine z_ifeq 182 139 rfl rfl rfl (rg_lit 0 rfl) (fun _ => ?_) (fun c => absurd c (by decide))
              refine x_cst (zi 0) 1 183 rfl rfl rfl ?_
              refine x_ret rfl rfl rfl rfl ?_
              exact ⟨_, _, rfl, rfl, Fpr_trans hF4 hF5, .inl ⟨rfl, a, _, _, _, Rch_step hR5 (md_F (by omega) (fun e => by rw [ho] at e; exact absurd e.2 (by decide)) (.inl ha)), h5.2.1⟩⟩
        · refine x_ld 0 1 2 91 rfl rfl rfl rfl rfl ?_
          refine x_cst (zi 7) 2 93 rfl rfl rfl ?_
          refine x_ce 192 114 96 [.ref 572, zi 7] rfl rfl rfl (Nat.le_of_ble_eq_true rfl) rfl rfl (Nat.le_of_ble_eq_true rfl) ⟨_, _, _, rfl, o_572⟩ (Nat.le_of_ble_eq_true rfl) (cl7 (d + 1) hsat h4 hR4) rfl ?_
          rintro v M5 ⟨rfl, hF5, ps5, ls5, os5, hR5, h5⟩
          refine x_ld 0 1 2 97 rfl rfl rfl rfl rfl ?_
          refine x_cst (zi 7) 2 99 rfl rfl rfl ?_
          refine x_ld 0 1 2 100 rfl rfl rfl rfl rfl ?_
          refine g_572_29 165 103 rfl rfl h5.2.1 rfl ?_
          refine x_ce 207 115 106 [.ref 572, zi 7, zi ((a : Nat) : Int)] rfl rfl rfl (Nat.le_of_ble_eq_true rfl) rfl rfl (Nat.le_of_ble_eq_true rfl) ⟨_, _, _, rfl, o_572⟩ (Nat.le_of_ble_eq_true rfl) (c115 (kd := 7) (pl := a) (d + 2) h5 (by have t := (inv_Rch hR5 (inv_s0 x)).2.2.2.1 (show 1 ≤ 5 by decide) (show 5 ≤ 5 by decide); have t2 : os5.length + 1 ≤ 2 * a := t.2; omega)) rfl ?_
          rintro v M6 ⟨rfl, hF6, hR6⟩
          refine x_ld 0 1 2 107 rfl rfl rfl rfl rfl ?_
          refine x_dup 108 rfl rfl rfl ?_
          refine g_572_29 165 111 rfl rfl hR6.2.1 rfl ?_
          refine x_cst (zi 1) 1 112 rfl rfl rfl ?_
          refine z_add 113 rfl rfl ?_
          rw [show ((a : Nat) : Int) + 1 = ((a + 1 : Nat) : Int) from (by omega)]
          refine s_572_29 165 116 rfl rfl rfl rfl rfl rfl ?_
          refine x_cst (zi 1) 1 117 rfl rfl rfl ?_
          refine x_ret rfl rfl rfl rfl ?_
          exact ⟨_, _, rfl, rfl, Fpr_trans (Fpr_trans (Fpr_trans hF4 hF5) hF6) (Fpr_f (by omega)), .inr (.inl ⟨rfl, a + 1, by omega, _, _, _, Rch_step hR5 (md_or (by omega)), rR_at hR6 (by omega)⟩)⟩
theorem c106_F (d : Nat) {M' : mm} {Q : ab_Q} (kk : ∀ v, (Fpr M M' ∧ ((v = some (zi 0) ∧ rgF x M') ∨ (v = some (zi 1) ∧ ∃ a ps ls, Rch x s0 (7, a, ps, ls, []) ∧ rR M' x a 0 ps ls []))) → Q (.inl v) (hp M' ++ es)) (hF : Fpr M M') (hg : rgF x M') {o4 : Option Value} : ab_W (pg_G L xs) (ab_X (pg_G L xs) (d + 4)) 106 Q 31 [some (.ref 572), some (zi 0), some (zi 0), some (zi 0), o4] [] (hp M' ++ es) := by
  refine x_ld 3 1 0 32 rfl rfl rfl rfl rfl ?_
  refine z_ifeq 139 35 rfl rfl rfl (rg_lit 0 rfl) (fun _ => ?_) (fun c => absurd c (by decide))
  refine x_ld 3 1 0 140 rfl rfl rfl rfl rfl ?_
  refine z_ifeq 158 143 rfl rfl rfl (rg_lit 0 rfl) (fun _ => ?_) (fun c => absurd c (by decide))
  refine x_ld 3 1 0 159 rfl rfl rfl rfl rfl ?_
  refine z_ifeq 177 162 rfl rfl rfl (rg_lit 0 rfl) (fun _ => ?_) (fun c => absurd c (by decide))
  refine x_cst (zi 0) 1 178 rfl rfl rfl ?_
  refine x_ret rfl rfl rfl rfl ?_
  exact kk _ ⟨hF, .inl ⟨rfl, hg⟩⟩
theorem c106_loop (d : Nat) {Q : ab_Q} (kk : ∀ v M', (Fpr M M' ∧ ((v = some (zi 0) ∧ rgF x M') ∨ (v = some (zi 1) ∧ ∃ a ps ls, Rch x s0 (7, a, ps, ls, []) ∧ rR M' x a 0 ps ls []))) → Q (.inl v) (hp M' ++ es)) : ∀ n, ∀ (a : Nat) (M' : mm) (ps : List (prt × Nat)) (ls : List Nat) (os : List opn) (o4 : Option Value), Fpr M M' → rR M' x a (dpt os) ps ls os → (2 * (x.1 - a) = n → Rch x s0 (0, a, ps, ls, os) → ab_W (pg_G L xs) (ab_X (pg_G L xs) (d + 4)) 106 Q 31 [some (.ref 572), some (zi 1), some (zi 0), some (zi 1), o4] [] (hp M' ++ es)) ∧ (2 * (x.1 - a) + 1 = n → Rch x s0 (2, a, ps, ls, os) → ab_W (pg_G L xs) (ab_X (pg_G L xs) (d + 4)) 106 Q 31 [some (.ref 572), some (zi 0), some (zi 1), some (zi 1), o4] [] (hp M' ++ es)) ∧ (2 * (x.1 - a) + 1 = n → Rch x s0 (3, a, ps, ls, os) → ab_W (pg_G L xs) (ab_X (pg_G L xs) (d + 4)) 106 Q 31 [some (.ref 572), some (zi 0), some (zi 0), some (zi 1), o4] [] (hp M' ++ es)) := by
  intro n
  induction n using Nat.strongRecOn with
  | _ n ih =>
    intro a M' ps ls os o4 hF h
    refine ⟨fun hn hR => ?_, fun hn hR => ?_, fun hn hR => ?_⟩
    · have hi := inv_Rch hR (inv_s0 x)
      have h1 : a ≤ x.1 := hi.1
      have h2 : ps.length + ls.length + eqc os ≤ 2 * a := hi.2.1
      have h16 := h.1.1
      have hop := opI_0 hR
      have hob : ∀ o ∈ os, o.1 < 100 := fun o ho => (hop o ho).1
      have hln := hi.2.2.1 rfl
      have hl3 : ls.length = nd os := hln.1
      have hl4 : os.length ≤ 2 * a := hln.2
      refine x_ld 3 1 0 32 rfl rfl rfl rfl rfl ?_
      refine z_ifeq 139 35 rfl rfl rfl (rg_lit 1 rfl) (fun c => absurd c (by decide)) (fun _ => ?_)
      refine x_ld 0 1 2 36 rfl rfl rfl rfl rfl ?_
      refine g_572_29 165 39 rfl rfl h.2.1 rfl ?_
      refine x_ld 0 1 2 40 rfl rfl rfl rfl rfl ?_
      refine g_572_4 162 43 rfl rfl h.1.2.1 rfl ?_
      refine z_icge 139 46 rfl rfl rfl ⟨by omega, by omega⟩ ⟨by omega, by omega⟩ (fun c43 => ?_) (fun c43 => ?_)
      · refine x_ld 3 1 0 140 rfl rfl rfl rfl rfl ?_
        refine z_ifeq 158 143 rfl rfl rfl (rg_lit 1 rfl) (fun c => absurd c (by decide)) (fun _ => ?_)
        refine x_ld 1 1 0 144 rfl rfl rfl rfl rfl ?_
        refine z_ifne 158 147 rfl rfl rfl (rg_lit 1 rfl) (fun _ => ?_) (fun c => absurd c (by decide))
        refine x_ld 3 1 0 159 rfl rfl rfl rfl rfl ?_
        refine z_ifeq 177 162 rfl rfl rfl (rg_lit 1 rfl) (fun c => absurd c (by decide)) (fun _ => ?_)
        refine x_ld 1 1 0 163 rfl rfl rfl rfl rfl ?_
        refine z_ifne 177 166 rfl rfl rfl (rg_lit 1 rfl) (fun _ => ?_) (fun c => absurd c (by decide))
        refine x_cst (zi 0) 1 178 rfl rfl rfl ?_
        refine x_ret rfl rfl rfl rfl ?_
        exact kk _ M' ⟨hF, .inl ⟨rfl, a, ps, ls, os, Rch_step hR (by unfold mstep; dsimp only; rw [if_pos rfl, if_neg (by omega)]), h.2.1⟩⟩
      · refine x_ld 1 1 0 47 rfl rfl rfl rfl rfl ?_
        refine z_ifeq 94 50 rfl rfl rfl (rg_lit 1 rfl) (fun c => absurd c (by decide)) (fun _ => ?_)
        refine x_ld 0 1 2 51 rfl rfl rfl rfl rfl ?_
        refine x_ce 214 107 54 [.ref 572] rfl rfl rfl (Nat.le_of_ble_eq_true rfl) rfl rfl (Nat.le_of_ble_eq_true rfl) ⟨_, _, _, rfl, o_572⟩ (Nat.le_of_ble_eq_true rfl) (c107 (M := M') d h hR (by omega)) rfl ?_
        rintro v M2 ⟨hF2, hv2⟩
        rcases hv2 with ⟨rfl, hg⟩ | ⟨rfl, a2, ha2, ps2, ls2, os2, hR2, h2'⟩ | ⟨rfl, a2, ha2, ps2, ls2, os2, hR2, h2'⟩
        · refine x_st 4 2 0 56 [some (.ref 572), some (zi 1), some (zi 0), some (zi 1), some (zi 0)] rfl rfl rfl (Nat.le_of_ble_eq_true rfl) rfl rfl ?_
          refine x_ld 4 2 0 58 rfl rfl rfl rfl rfl ?_
          refine z_ifle 65 61 rfl rfl rfl (rg_lit 0 rfl) (fun _ => ?_) (fun c => absurd c (by decide))
          refine x_cst (zi 0) 1 66 rfl rfl rfl ?_
          refine x_st 3 1 0 67 [some (.ref 572), some (zi 1), some (zi 0), some (zi 0), some (zi 0)] rfl rfl rfl (Nat.le_of_ble_eq_true rfl) rfl rfl ?_
          refine x_ld 4 2 0 69 rfl rfl rfl rfl rfl ?_
          refine x_cst (zi 1) 1 70 rfl rfl rfl ?_
          refine z_icne 77 73 rfl rfl rfl (rg_lit 0 rfl) (rg_lit 1 rfl) (fun _ => ?_) (fun c => absurd c (by decide))
          refine x_cst (zi 0) 1 78 rfl rfl rfl ?_
          refine x_st 1 1 0 79 [some (.ref 572), some (zi 0), some (zi 0), some (zi 0), some (zi 0)] rfl rfl rfl (Nat.le_of_ble_eq_true rfl) rfl rfl ?_
          refine x_ld 4 2 0 81 rfl rfl rfl rfl rfl ?_
          refine x_cst (zi 2) 1 82 rfl rfl rfl ?_
          refine z_icne 89 85 rfl rfl rfl (rg_lit 0 rfl) (rg_lit 2 rfl) (fun _ => ?_) (fun c => absurd c (by decide))
          refine x_cst (zi 0) 1 90 rfl rfl rfl ?_
          refine x_st 2 1 0 91 [some (.ref 572), some (zi 0), some (zi 0), some (zi 0), some (zi 0)] rfl rfl rfl (Nat.le_of_ble_eq_true rfl) rfl rfl ?_
          refine x_go 31 rfl rfl ?_
          exact c106_F (M := M) d (fun v hv => kk v M2 hv) (Fpr_trans hF hF2) hg
        · have hx2 : a2 ≤ x.1 := (inv_Rch hR2 (inv_s0 x)).1
          refine x_st 4 2 0 56 [some (.ref 572), some (zi 1), some (zi 0), some (zi 1), some (zi 1)] rfl rfl rfl (Nat.le_of_ble_eq_true rfl) rfl rfl ?_
          refine x_ld 4 2 0 58 rfl rfl rfl rfl rfl ?_
          refine z_ifle 65 61 rfl rfl rfl (rg_lit 1 rfl) (fun c => absurd c (by decide)) (fun _ => ?_)
          refine x_cst (zi 1) 1 62 rfl rfl rfl ?_
          refine x_go 66 rfl rfl ?_
          refine x_st 3 1 0 67 [some (.ref 572), some (zi 1), some (zi 0), some (zi 1), some (zi 1)] rfl rfl rfl (Nat.le_of_ble_eq_true rfl) rfl rfl ?_
          refine x_ld 4 2 0 69 rfl rfl rfl rfl rfl ?_
          refine x_cst (zi 1) 1 70 rfl rfl rfl ?_
          refine z_icne 77 73 rfl rfl rfl (rg_lit 1 rfl) (rg_lit 1 rfl) (fun c => absurd c (by decide)) (fun _ => ?_)
          refine x_cst (zi 1) 1 74 rfl rfl rfl ?_
          refine x_go 78 rfl rfl ?_
          refine x_st 1 1 0 79 [some (.ref 572), some (zi 1), some (zi 0), some (zi 1), some (zi 1)] rfl rfl rfl (Nat.le_of_ble_eq_true rfl) rfl rfl ?_
          refine x_ld 4 2 0 81 rfl rfl rfl rfl rfl ?_
          refine x_cst (zi 2) 1 82 rfl rfl rfl ?_
          refine z_icne 89 85 rfl rfl rfl (rg_lit 1 rfl) (rg_lit 2 rfl) (fun _ => ?_) (fun c => absurd c (by decide))
          refine x_cst (zi 0) 1 90 rfl rfl rfl ?_
          refine x_st 2 1 0 91 [some (.ref 572), some (zi 1), some (zi 0), some (zi 1), some (zi 1)] rfl rfl rfl (Nat.le_of_ble_eq_true rfl) rfl rfl ?_
          refine x_go 31 rfl rfl ?_
          exact (ih (2 * (x.1 - a2)) (by omega) a2 M2 ps2 ls2 os2 _ (Fpr_trans hF hF2) h2').1 rfl hR2
        · have hx2 : a2 ≤ x.1 := (inv_Rch hR2 (inv_s0 x)).1
          refine x_st 4 2 0 56 [some (.ref 572), some (zi 1), some (zi 0), some (zi 1), some (zi 2)] rfl rfl rfl (Nat.le_of_ble_eq_true rfl) rfl rfl ?_
          refine x_ld 4 2 0 58 rfl rfl rfl rfl rfl ?_
          refine z_ifle 65 61 rfl rfl rfl (rg_lit 2 rfl) (fun c => absurd c (by decide)) (fun _ => ?_)
          refine x_cst (zi 1) 1 62 rfl rfl rfl ?_
          refine x_go 66 rfl rfl ?_
          refine x_st 3 1 0 67 [some (.ref 572), some (zi 1), some (zi 0), some (zi 1), some (zi 2)] rfl rfl rfl (Nat.le_of_ble_eq_true rfl) rfl rfl ?_
          refine x_ld 4 2 0 69 rfl rfl rfl rfl rfl ?_
          refine x_cst (zi 1) 1 70 rfl rfl rfl ?_
          refine z_icne 77 73 rfl rfl rfl (rg_lit 2 rfl) (rg_lit 1 rfl) (fun _ => ?_) (fun c => absurd c (by decide))
          refine x_cst (zi 0) 1 78 rfl rfl rfl ?_
          refine x_st 1 1 0 79 [some (.ref 572), some (zi 0), some (zi 0), some (zi 1), some (zi 2)] rfl rfl rfl (Nat.le_of_ble_eq_true rfl) rfl rfl ?_
          refine x_ld 4 2 0 81 rfl rfl rfl rfl rfl ?_
          refine x_cst (zi 2) 1 82 rfl rfl rfl ?_
          refine z_icne 89 85 rfl rfl rfl (rg_lit 2 rfl) (rg_lit 2 rfl) (fun c => absurd c (by decide)) (fun _ => ?_)
          refine x_cst (zi 1) 1 86 rfl rfl rfl ?_
          refine x_go 90 rfl rfl ?_
          refine x_st 2 1 0 91 [some (.ref 572), some (zi 0), some (zi 1), some (zi 1), some (zi 2)] rfl rfl rfl (Nat.le_of_ble_eq_true rfl) rfl rfl ?_
          refine x_go 31 rfl rfl ?_
          exact (ih (2 * (x.1 - a2) + 1) (by omega) a2 M2 ps2 ls2 os2 _ (Fpr_trans hF hF2) h2').2.1 rfl hR2
    · have hi := inv_Rch hR (inv_s0 x)
      have h1 : a ≤ x.1 := hi.1
      have h2 : ps.length + ls.length + eqc os ≤ 2 * a := hi.2.1
      have h16 := h.1.1
      have hop := opI_0 hR
      have hob : ∀ o ∈ os, o.1 < 100 := fun o ho => (hop o ho).1
      have hln := hi.2.2.2.1 (show 1 ≤ 2 by omega) (show 2 ≤ 5 by omega)
      have hl3 : ls.length = nd os + 1 := hln.1
      have hl4 : os.length + 1 ≤ 2 * a := hln.2
      refine x_ld 3 1 0 32 rfl rfl rfl rfl rfl ?_
      refine z_ifeq 139 35 rfl rfl rfl (rg_lit 1 rfl) (fun c => absurd c (by decide)) (fun _ => ?_)
      refine x_ld 0 1 2 36 rfl rfl rfl rfl rfl ?_
      refine g_572_29 165 39 rfl rfl h.2.1 rfl ?_
      refine x_ld 0 1 2 40 rfl rfl rfl rfl rfl ?_
      refine g_572_4 162 43 rfl rfl h.1.2.1 rfl ?_
      refine z_icge 139 46 rfl rfl rfl ⟨by omega, by omega⟩ ⟨by omega, by omega⟩ (fun c43 => ?_) (fun c43 => ?_)
      · refine x_ld 3 1 0 140 rfl rfl rfl rfl rfl ?_
        refine z_ifeq 158 143 rfl rfl rfl (rg_lit 1 rfl) (fun c => absurd c (by decide)) (fun _ => ?_)
        refine x_ld 1 1 0 144 rfl rfl rfl rfl rfl ?_
        refine z_ifne 158 147 rfl rfl rfl (rg_lit 0 rfl) (fun c => absurd c (by decide)) (fun _ => ?_)
        refine x_ld 0 1 2 148 rfl rfl rfl rfl rfl ?_
        refine x_cst (zi 4) 1 149 rfl rfl rfl ?_
        refine x_ce 192 114 152 [.ref 572, zi 4] rfl rfl rfl (Nat.le_of_ble_eq_true rfl) rfl rfl (Nat.le_of_ble_eq_true rfl) ⟨_, _, _, rfl, o_572⟩ (Nat.le_of_ble_eq_true rfl) (cl4 (M := M') (d + 2) (m := 2) (by omega) (fun e => by rw [show lk x a = 0 from if_neg (by omega)]; omega) h hR) rfl ?_
        rintro v M4 ⟨rfl, hF4, ps4, ls4, os4, hR4, h4⟩
        refine x_ld 0 1 2 153 rfl rfl rfl rfl rfl ?_
        refine x_cst (zi 7) 2 155 rfl rfl rfl ?_
        refine x_ce 192 114 158 [.ref 572, zi 7] rfl rfl rfl (Nat.le_of_ble_eq_true rfl) rfl rfl (Nat.le_of_ble_eq_true rfl) ⟨_, _, _, rfl, o_572⟩ (Nat.le_of_ble_eq_true rfl) (cl7 (d + 2) (by rw [show lk x a = 0 from if_neg (by omega)]; rfl) h4 hR4) rfl ?_
        rintro v M5 ⟨rfl, hF5, ps5, ls5, os5, hR5, h5⟩
        have hi5 := inv_Rch hR5 (inv_s0 x)
        have ho5 : os5.length + 1 ≤ 2 * a := (hi5.2.2.2.1 (show 1 ≤ 5 by decide) (show 5 ≤ 5 by decide)).2
        refine x_ld 3 1 0 159 rfl rfl rfl rfl rfl ?_
        refine z_ifeq 177 162 rfl rfl rfl (rg_lit 1 rfl) (fun c => absurd c (by decide)) (fun _ => ?_)
        refine x_ld 1 1 0 163 rfl rfl rfl rfl rfl ?_
        refine z_ifne 177 166 rfl rfl rfl (rg_lit 0 rfl) (fun c => absurd c (by decide)) (fun _ => ?_)
        refine x_ld 0 1 2 167 rfl rfl rfl rfl rfl ?_
        refine g_572_27 174 170 rfl rfl h5.2.2.2.2.2.2.2.1 rfl ?_
        refine z_ifne 177 173 rfl rfl rfl ⟨by omega, by omega⟩ (fun c170 => ?_) (fun c170 => ?_)
        · refine x_cst (zi 0) 1 178 rfl rfl rfl ?_
          refine x_ret rfl rfl rfl rfl ?_
          exact kk _ M5 ⟨Fpr_trans (Fpr_trans hF hF4) hF5, .inl ⟨rfl, a, _, _, _, Rch_step hR5 (md_F (by rw [show lk x a = 0 from if_neg (by omega)]; decide) (fun e => by rw [show lk x a = 0 from if_neg (by omega)] at e; exact absurd e.1 (by decide)) (.inr (fun e => by rw [e] at c170; exact c170 rfl))), h5.2.1⟩⟩
        · refine x_cst (zi 1) 1 174 rfl rfl rfl ?_
          refine x_go 178 rfl rfl ?_
          refine x_ret rfl rfl rfl rfl ?_
          have eo : os5 = [] := List.length_eq_zero_iff.mp (by omega)
          subst eo
          exact kk _ M5 ⟨Fpr_trans (Fpr_trans hF hF4) hF5, .inr ⟨rfl, a, ps5, ls5, Rch_step hR5 (md_A (by omega)), h5⟩⟩
      · refine x_ld 1 1 0 47 rfl rfl rfl rfl rfl ?_
        refine z_ifeq 94 50 rfl rfl rfl (rg_lit 0 rfl) (fun _ => ?_) (fun c => absurd c (by decide))
        refine x_ld 0 1 2 95 rfl rfl rfl rfl rfl ?_
        refine x_ld 2 1 0 96 rfl rfl rfl rfl rfl ?_
        refine x_ce 217 116 99 [.ref 572, zi 1] rfl rfl rfl (Nat.le_of_ble_eq_true rfl) rfl rfl (Nat.le_of_ble_eq_true rfl) ⟨_, _, _, rfl, o_572⟩ (Nat.le_of_ble_eq_true rfl) (c116_2 (M := M') d h hR (by omega)) rfl ?_
        rintro v M2 ⟨hF2, hv2⟩
        rcases hv2 with ⟨rfl, hg⟩ | ⟨rfl, a2, ha2, ps2, ls2, os2, hR2, h2'⟩ | ⟨rfl, a2, ha2, ps2, ls2, os2, hR2, h2'⟩ | ⟨rfl, a2, ha2, ps2, ls2, os2, hR2, h2'⟩
        · refine x_st 4 2 0 101 [some (.ref 572), some (zi 0), some (zi 1), some (zi 1), some (zi 0)] rfl rfl rfl (Nat.le_of_ble_eq_true rfl) rfl rfl ?_
          refine x_ld 4 2 0 103 rfl rfl rfl rfl rfl ?_
          refine z_ifle 110 106 rfl rfl rfl (rg_lit 0 rfl) (fun _ => ?_) (fun c => absurd c (by decide))
          refine x_cst (zi 0) 1 111 rfl rfl rfl ?_
          refine x_st 3 1 0 112 [some (.ref 572), some (zi 0), some (zi 1), some (zi 0), some (zi 0)] rfl rfl rfl (Nat.le_of_ble_eq_true rfl) rfl rfl ?_
          refine x_ld 4 2 0 114 rfl rfl rfl rfl rfl ?_
          refine x_cst (zi 1) 1 115 rfl rfl rfl ?_
          refine z_icne 122 118 rfl rfl rfl (rg_lit 0 rfl) (rg_lit 1 rfl) (fun _ => ?_) (fun c => absurd c (by decide))
          refine x_cst (zi 0) 1 123 rfl rfl rfl ?_
          refine x_st 1 1 0 124 [some (.ref 572), some (zi 0), some (zi 1), some (zi 0), some (zi 0)] rfl rfl rfl (Nat.le_of_ble_eq_true rfl) rfl rfl ?_
          refine x_ld 4 2 0 126 rfl rfl rfl rfl rfl ?_
          refine x_cst (zi 3) 1 127 rfl rfl rfl ?_
          refine z_icne 134 130 rfl rfl rfl (rg_lit 0 rfl) (rg_lit 3 rfl) (fun _ => ?_) (fun c => absurd c (by decide))
          refine x_cst (zi 0) 1 135 rfl rfl rfl ?_
          refine x_st 2 1 0 136 [some (.ref 572), some (zi 0), some (zi 0), some (zi 0), some (zi 0)] rfl rfl rfl (Nat.le_of_ble_eq_true rfl) rfl rfl ?_
          refine x_go 31 rfl rfl ?_
          exact c106_F (M := M) d (fun v hv => kk v M2 hv) (Fpr_trans hF hF2) hg
        · have hx2 : a2 ≤ x.1 := (inv_Rch hR2 (inv_s0 x)).1
          refine x_st 4 2 0 101 [some (.ref 572), some (zi 0), some (zi 1), some (zi 1), some (zi 1)] rfl rfl rfl (Nat.le_of_ble_eq_true rfl) rfl rfl ?_
          refine x_ld 4 2 0 103 rfl rfl rfl rfl rfl ?_
          refine z_ifle 110 106 rfl rfl rfl (rg_lit 1 rfl) (fun c => absurd c (by decide)) (fun _ => ?_)
          refine x_cst (zi 1) 1 107 rfl rfl rfl ?_
          refine x_go 111 rfl rfl ?_
          refine x_st 3 1 0 112 [some (.ref 572), some (zi 0), some (zi 1), some (zi 1), some (zi 1)] rfl rfl rfl (Nat.le_of_ble_eq_true rfl) rfl rfl ?_
          refine x_ld 4 2 0 114 rfl rfl rfl rfl rfl ?_
          refine x_cst (zi 1) 1 115 rfl rfl rfl ?_
          refine z_icne 122 118 rfl rfl rfl (rg_lit 1 rfl) (rg_lit 1 rfl) (fun c => absurd c (by decide)) (fun _ => ?_)
          refine x_cst (zi 1) 1 119 rfl rfl rfl ?_
          refine x_go 123 rfl rfl ?_
          refine x_st 1 1 0 124 [some (.ref 572), some (zi 1), some (zi 1), some (zi 1), some (zi 1)] rfl rfl rfl (Nat.le_of_ble_eq_true rfl) rfl rfl ?_
          refine x_ld 4 2 0 126 rfl rfl rfl rfl rfl ?_
          refine x_cst (zi 3) 1 127 rfl rfl rfl ?_
          refine z_icne 134 130 rfl rfl rfl (rg_lit 1 rfl) (rg_lit 3 rfl) (fun _ => ?_) (fun c => absurd c (by decide))
          refine x_cst (zi 0) 1 135 rfl rfl rfl ?_
          refine x_st 2 1 0 136 [some (.ref 572), some (zi 1), some (zi 0), some (zi 1), some (zi 1)] rfl rfl rfl (Nat.le_of_ble_eq_true rfl) rfl rfl ?_
          refine x_go 31 rfl rfl ?_
          exact (ih (2 * (x.1 - a2)) (by omega) a2 M2 ps2 ls2 os2 _ (Fpr_trans hF hF2) h2').1 rfl hR2
        · have hx2 : a2 ≤ x.1 := (inv_Rch hR2 (inv_s0 x)).1
          refine x_st 4 2 0 101 [some (.ref 572), some (zi 0), some (zi 1), some (zi 1), some (zi 2)] rfl rfl rfl (Nat.le_of_ble_eq_true rfl) rfl rfl ?_
          refine x_ld 4 2 0 103 rfl rfl rfl rfl rfl ?_
          refine z_ifle 110 106 rfl rfl rfl (rg_lit 2 rfl) (fun c => absurd c (by decide)) (fun _ => ?_)
          refine x_cst (zi 1) 1 107 rfl rfl rfl ?_
          refine x_go 111 rfl rfl ?_
          refine x_st 3 1 0 112 [some (.ref 572), some (zi 0), some (zi 1), some (zi 1), some (zi 2)] rfl rfl rfl (Nat.le_of_ble_eq_true rfl) rfl rfl ?_
          refine x_ld 4 2 0 114 rfl rfl rfl rfl rfl ?_
          refine x_cst (zi 1) 1 115 rfl rfl rfl ?_
          refine z_icne 122 118 rfl rfl rfl (rg_lit 2 rfl) (rg_lit 1 rfl) (fun _ => ?_) (fun c => absurd c (by decide))
          refine x_cst (zi 0) 1 123 rfl rfl rfl ?_
          refine x_st 1 1 0 124 [some (.ref 572), some (zi 0), some (zi 1), some (zi 1), some (zi 2)] rfl rfl rfl (Nat.le_of_ble_eq_true rfl) rfl rfl ?_
          refine x_ld 4 2 0 126 rfl rfl rfl rfl rfl ?_
          refine x_cst (zi 3) 1 127 rfl rfl rfl ?_
          refine z_icne 134 130 rfl rfl rfl (rg_lit 2 rfl) (rg_lit 3 rfl) (fun _ => ?_) (fun c => absurd c (by decide))
          refine x_cst (zi 0) 1 135 rfl rfl rfl ?_
          refine x_st 2 1 0 136 [some (.ref 572), some (zi 0), some (zi 0), some (zi 1), some (zi 2)] rfl rfl rfl (Nat.le_of_ble_eq_true rfl) rfl rfl ?_
          refine x_go 31 rfl rfl ?_
          exact (ih (2 * (x.1 - a2) + 1) (by omega) a2 M2 ps2 ls2 os2 _ (Fpr_trans hF hF2) h2').2.2 rfl hR2
        · have hx2 : a2 ≤ x.1 := (inv_Rch hR2 (inv_s0 x)).1
          refine x_st 4 2 0 101 [some (.ref 572), some (zi 0), some (zi 1), some (zi 1), some (zi 3)] rfl rfl rfl (Nat.le_of_ble_eq_true rfl) rfl rfl ?_
          refine x_ld 4 2 0 103 rfl rfl rfl rfl rfl ?_
          refine z_ifle 110 106 rfl rfl rfl (rg_lit 3 rfl) (fun c => absurd c (by decide)) (fun _ => ?_)
          refine x_cst (zi 1) 1 107 rfl rfl rfl ?_
          refine x_go 111 rfl rfl ?_
          refine x_st 3 1 0 112 [some (.ref 572), some (zi 0), some (zi 1), some (zi 1), some (zi 3)] rfl rfl rfl (Nat.le_of_ble_eq_true rfl) rfl rfl ?_
          refine x_ld 4 2 0 114 rfl rfl rfl rfl rfl ?_
          refine x_cst (zi 1) 1 115 rfl rfl rfl ?_
          refine z_icne 122 118 rfl rfl rfl (rg_lit 3 rfl) (rg_lit 1 rfl) (fun _ => ?_) (fun c => absurd c (by decide))
          refine x_cst (zi 0) 1 123 rfl rfl rfl ?_
          refine x_st 1 1 0 124 [some (.ref 572), some (zi 0), some (zi 1), some (zi 1), some (zi 3)] rfl rfl rfl (Nat.le_of_ble_eq_true rfl) rfl rfl ?_
          refine x_ld 4 2 0 126 rfl rfl rfl rfl rfl ?_
          refine x_cst (zi 3) 1 127 rfl rfl rfl ?_
          refine z_icne 134 130 rfl rfl rfl (rg_lit 3 rfl) (rg_lit 3 rfl) (fun c => absurd c (by decide)) (fun _ => ?_)
          refine x_cst (zi 1) 1 131 rfl rfl rfl ?_
          refine x_go 135 rfl rfl ?_
          refine x_st 2 1 0 136 [some (.ref 572), some (zi 0), some (zi 1), some (zi 1), some (zi 3)] rfl rfl rfl (Nat.le_of_ble_eq_true rfl) rfl rfl ?_
          refine x_go 31 rfl rfl ?_
          exact (ih (2 * (x.1 - a2) + 1) (by omega) a2 M2 ps2 ls2 os2 _ (Fpr_trans hF hF2) h2').2.1 rfl hR2
    · have hi := inv_Rch hR (inv_s0 x)
      have h1 : a ≤ x.1 := hi.1
      have h2 : ps.length + ls.length + eqc os ≤ 2 * a := hi.2.1
      have h16 := h.1.1
      have hop := opI_0 hR
      have hob : ∀ o ∈ os, o.1 < 100 := fun o ho => (hop o ho).1
      have hln := hi.2.2.2.1 (show 1 ≤ 3 by omega) (show 3 ≤ 5 by omega)
      have hl3 : ls.length = nd os + 1 := hln.1
      have hl4 : os.length + 1 ≤ 2 * a := hln.2
      refine x_ld 3 1 0 32 rfl rfl rfl rfl rfl ?_
      refine z_ifeq 139 35 rfl rfl rfl (rg_lit 1 rfl) (fun c => absurd c (by decide)) (fun _ => ?_)
      refine x_ld 0 1 2 36 rfl rfl rfl rfl rfl ?_
      refine g_572_29 165 39 rfl rfl h.2.1 rfl ?_
      refine x_ld 0 1 2 40 rfl rfl rfl rfl rfl ?_
      refine g_572_4 162 43 rfl rfl h.1.2.1 rfl ?_
      refine z_icge 139 46 rfl rfl rfl ⟨by omega, by omega⟩ ⟨by omega, by omega⟩ (fun c43 => ?_) (fun c43 => ?_)
      · refine x_ld 3 1 0 140 rfl rfl rfl rfl rfl ?_
        refine z_ifeq 158 143 rfl rfl rfl (rg_lit 1 rfl) (fun c => absurd c (by decide)) (fun _ => ?_)
        refine x_ld 1 1 0 144 rfl rfl rfl rfl rfl ?_
        refine z_ifne 158 147 rfl rfl rfl (rg_lit 0 rfl) (fun c => absurd c (by decide)) (fun _ => ?_)
        refine x_ld 0 1 2 148 rfl rfl rfl rfl rfl ?_
        refine x_cst (zi 4) 1 149 rfl rfl rfl ?_
        refine x_ce 192 114 152 [.ref 572, zi 4] rfl rfl rfl (Nat.le_of_ble_eq_true rfl) rfl rfl (Nat.le_of_ble_eq_true rfl) ⟨_, _, _, rfl, o_572⟩ (Nat.le_of_ble_eq_true rfl) (cl4 (M := M') (d + 2) (m := 3) (by omega) (fun e => by rw [show lk x a = 0 from if_neg (by omega)]; omega) h hR) rfl ?_
        rintro v M4 ⟨rfl, hF4, ps4, ls4, os4, hR4, h4⟩
        refine x_ld 0 1 2 153 rfl rfl rfl rfl rfl ?_
        refine x_cst (zi 7) 2 155 rfl rfl rfl ?_
        refine x_ce 192 114 158 [.ref 572, zi 7] rfl rfl rfl (Nat.le_of_ble_eq_true rfl) rfl rfl (Nat.le_of_ble_eq_true rfl) ⟨_, _, _, rfl, o_572⟩ (Nat.le_of_ble_eq_true rfl) (cl7 (d + 2) (by rw [show lk x a = 0 from if_neg (by omega)]; rfl) h4 hR4) rfl ?_
        rintro v M5 ⟨rfl, hF5, ps5, ls5, os5, hR5, h5⟩
        have hi5 := inv_Rch hR5 (inv_s0 x)
        have ho5 : os5.length + 1 ≤ 2 * a := (hi5.2.2.2.1 (show 1 ≤ 5 by decide) (show 5 ≤ 5 by decide)).2
        refine x_ld 3 1 0 159 rfl rfl rfl rfl rfl ?_
        refine z_ifeq 177 162 rfl rfl rfl (rg_lit 1 rfl) (fun c => absurd c (by decide)) (fun _ => ?_)
        refine x_ld 1 1 0 163 rfl rfl rfl rfl rfl ?_
        refine z_ifne 177 166 rfl rfl rfl (rg_lit 0 rfl) (fun c => absurd c (by decide)) (fun _ => ?_)
        refine x_ld 0 1 2 167 rfl rfl rfl rfl rfl ?_
        refine g_572_27 174 170 rfl rfl h5.2.2.2.2.2.2.2.1 rfl ?_
        refine z_ifne 177 173 rfl rfl rfl ⟨by omega, by omega⟩ (fun c170 => ?_) (fun c170 => ?_)
        · refine x_cst (zi 0) 1 178 rfl rfl rfl ?_
          refine x_ret rfl rfl rfl rfl ?_
          exact kk _ M5 ⟨Fpr_trans (Fpr_trans hF hF4) hF5, .inl ⟨rfl, a, _, _, _, Rch_step hR5 (md_F (by rw [show lk x a = 0 from if_neg (by omega)]; decide) (fun e => by rw [show lk x a = 0 from if_neg (by omega)] at e; exact absurd e.1 (by decide)) (.inr (fun e => by rw [e] at c170; exact c170 rfl))), h5.2.1⟩⟩
        · refine x_cst (zi 1) 1 174 rfl rfl rfl ?_
          refine x_go 178 rfl rfl ?_
          refine x_ret rfl rfl rfl rfl ?_
          have eo : os5 = [] := List.length_eq_zero_iff.mp (by omega)
          subst eo
          exact kk _ M5 ⟨Fpr_trans (Fpr_trans hF hF4) hF5, .inr ⟨rfl, a, ps5, ls5, Rch_step hR5 (md_A (by omega)), h5⟩⟩
      · refine x_ld 1 1 0 47 rfl rfl rfl rfl rfl ?_
        refine z_ifeq 94 50 rfl rfl rfl (rg_lit 0 rfl) (fun _ => ?_) (fun c => absurd c (by decide))
        refine x_ld 0 1 2 95 rfl rfl rfl rfl rfl ?_
        refine x_ld 2 1 0 96 rfl rfl rfl rfl rfl ?_
        refine x_ce 217 116 99 [.ref 572, zi 0] rfl rfl rfl (Nat.le_of_ble_eq_true rfl) rfl rfl (Nat.le_of_ble_eq_true rfl) ⟨_, _, _, rfl, o_572⟩ (Nat.le_of_ble_eq_true rfl) (c116_3 (M := M') d h hR (by omega)) rfl ?_
        rintro v M2 ⟨hF2, hv2⟩
        rcases hv2 with ⟨rfl, hg⟩ | ⟨rfl, a2, ha2, ps2, ls2, os2, hR2, h2'⟩ | ⟨rfl, a2, ha2, ps2, ls2, os2, hR2, h2'⟩ | ⟨rfl, a2, ha2, ps2, ls2, os2, hR2, h2'⟩
        · refine x_st 4 2 0 101 [some (.ref 572), some (zi 0), some (zi 0), some (zi 1), some (zi 0)] rfl rfl rfl (Nat.le_of_ble_eq_true rfl) rfl rfl ?_
          refine x_ld 4 2 0 103 rfl rfl rfl rfl rfl ?_
          refine z_ifle 110 106 rfl rfl rfl (rg_lit 0 rfl) (fun _ => ?_) (fun c => absurd c (by decide))
          refine x_cst (zi 0) 1 111 rfl rfl rfl ?_
          refine x_st 3 1 0 112 [some (.ref 572), some (zi 0), some (zi 0), some (zi 0), some (zi 0)] rfl rfl rfl (Nat.le_of_ble_eq_true rfl) rfl rfl ?_
          refine x_ld 4 2 0 114 rfl rfl rfl rfl rfl ?_
          refine x_cst (zi 1) 1 115 rfl rfl rfl ?_
          refine z_icne 122 118 rfl rfl rfl (rg_lit 0 rfl) (rg_lit 1 rfl) (fun _ => ?_) (fun c => absurd c (by decide))
          refine x_cst (zi 0) 1 123 rfl rfl rfl ?_
          refine x_st 1 1 0 124 [some (.ref 572), some (zi 0), some (zi 0), some (zi 0), some (zi 0)] rfl rfl rfl (Nat.le_of_ble_eq_true rfl) rfl rfl ?_
          refine x_ld 4 2 0 126 rfl rfl rfl rfl rfl ?_
          refine x_cst (zi 3) 1 127 rfl rfl rfl ?_
          refine z_icne 134 130 rfl rfl rfl (rg_lit 0 rfl) (rg_lit 3 rfl) (fun _ => ?_) (fun c => absurd c (by decide))
          refine x_cst (zi 0) 1 135 rfl rfl rfl ?_
          refine x_st 2 1 0 136 [some (.ref 572), some (zi 0), some (zi 0), some (zi 0), some (zi 0)] rfl rfl rfl (Nat.le_of_ble_eq_true rfl) rfl rfl ?_
          refine x_go 31 rfl rfl ?_
          exact c106_F (M := M) d (fun v hv => kk v M2 hv) (Fpr_trans hF hF2) hg
        · have hx2 : a2 ≤ x.1 := (inv_Rch hR2 (inv_s0 x)).1
          refine x_st 4 2 0 101 [some (.ref 572), some (zi 0), some (zi 0), some (zi 1), some (zi 1)] rfl rfl rfl (Nat.le_of_ble_eq_true rfl) rfl rfl ?_
          refine x_ld 4 2 0 103 rfl rfl rfl rfl rfl ?_
          refine z_ifle 110 106 rfl rfl rfl (rg_lit 1 rfl) (fun c => absurd c (by decide)) (fun _ => ?_)
          refine x_cst (zi 1) 1 107 rfl rfl rfl ?_
          refine x_go 111 rfl rfl ?_
          refine x_st 3 1 0 112 [some (.ref 572), some (zi 0), some (zi 0), some (zi 1), some (zi 1)] rfl rfl rfl (Nat.le_of_ble_eq_true rfl) rfl rfl ?_
          refine x_ld 4 2 0 114 rfl rfl rfl rfl rfl ?_
          refine x_cst (zi 1) 1 115 rfl rfl rfl ?_
          refine z_icne 122 118 rfl rfl rfl (rg_lit 1 rfl) (rg_lit 1 rfl) (fun c => absurd c (by decide)) (fun _ => ?_)
          refine x_cst (zi 1) 1 119 rfl rfl rfl ?_
          refine x_go 123 rfl rfl ?_
          refine x_st 1 1 0 124 [some (.ref 572), some (zi 1), some (zi 0), some (zi 1), some (zi 1)] rfl rfl rfl (Nat.le_of_ble_eq_true rfl) rfl rfl ?_
          refine x_ld 4 2 0 126 rfl rfl rfl rfl rfl ?_
          refine x_cst (zi 3) 1 127 rfl rfl rfl ?_
          refine z_icne 134 130 rfl rfl rfl (rg_lit 1 rfl) (rg_lit 3 rfl) (fun _ => ?_) (fun c => absurd c (by decide))
          refine x_cst (zi 0) 1 135 rfl rfl rfl ?_
          refine x_st 2 1 0 136 [some (.ref 572), some (zi 1), some (zi 0), some (zi 1), some (zi 1)] rfl rfl rfl (Nat.le_of_ble_eq_true rfl) rfl rfl ?_
          refine x_go 31 rfl rfl ?_
          exact (ih (2 * (x.1 - a2)) (by omega) a2 M2 ps2 ls2 os2 _ (Fpr_trans hF hF2) h2').1 rfl hR2
        · have hx2 : a2 ≤ x.1 := (inv_Rch hR2 (inv_s0 x)).1
          refine x_st 4 2 0 101 [some (.ref 572), some (zi 0), some (zi 0), some (zi 1), some (zi 2)] rfl rfl rfl (Nat.le_of_ble_eq_true rfl) rfl rfl ?_
          refine x_ld 4 2 0 103 rfl rfl rfl rfl rfl ?_
          refine z_ifle 110 106 rfl rfl rfl (rg_lit 2 rfl) (fun c => absurd c (by decide)) (fun _ => ?_)
          refine x_cst (zi 1) 1 107 rfl rfl rfl ?_
          refine x_go 111 rfl rfl ?_
          refine x_st 3 1 0 112 [some (.ref 572), some (zi 0), some (zi 0), some (zi 1), some (zi 2)] rfl rfl rfl (Nat.le_of_ble_eq_true rfl) rfl rfl ?_
          refine x_ld 4 2 0 114 rfl rfl rfl rfl rfl ?_
          refine x_cst (zi 1) 1 115 rfl rfl rfl ?_
          refine z_icne 122 118 rfl rfl rfl (rg_lit 2 rfl) (rg_lit 1 rfl) (fun _ => ?_) (fun c => absurd c (by decide))
          refine x_cst (zi 0) 1 123 rfl rfl rfl ?_
          refine x_st 1 1 0 124 [some (.ref 572), some (zi 0), some (zi 0), some (zi 1), some (zi 2)] rfl rfl rfl (Nat.le_of_ble_eq_true rfl) rfl rfl ?_
          refine x_ld 4 2 0 126 rfl rfl rfl rfl rfl ?_
          refine x_cst (zi 3) 1 127 rfl rfl rfl ?_
          refine z_icne 134 130 rfl rfl rfl (rg_lit 2 rfl) (rg_lit 3 rfl) (fun _ => ?_) (fun c => absurd c (by decide))
          refine x_cst (zi 0) 1 135 rfl rfl rfl ?_
          refine x_st 2 1 0 136 [some (.ref 572), some (zi 0), some (zi 0), some (zi 1), some (zi 2)] rfl rfl rfl (Nat.le_of_ble_eq_true rfl) rfl rfl ?_
          refine x_go 31 rfl rfl ?_
          exact (ih (2 * (x.1 - a2) + 1) (by omega) a2 M2 ps2 ls2 os2 _ (Fpr_trans hF hF2) h2').2.2 rfl hR2
        · have hx2 : a2 ≤ x.1 := (inv_Rch hR2 (inv_s0 x)).1
          refine x_st 4 2 0 101 [some (.ref 572), some (zi 0), some (zi 0), some (zi 1), some (zi 3)] rfl rfl rfl (Nat.le_of_ble_eq_true rfl) rfl rfl ?_
          refine x_ld 4 2 0 103 rfl rfl rfl rfl rfl ?_
          refine z_ifle 110 106 rfl rfl rfl (rg_lit 3 rfl) (fun c => absurd c (by decide)) (fun _ => ?_)
          refine x_cst (zi 1) 1 107 rfl rfl rfl ?_
          refine x_go 111 rfl rfl ?_
          refine x_st 3 1 0 112 [some (.ref 572), some (zi 0), some (zi 0), some (zi 1), some (zi 3)] rfl rfl rfl (Nat.le_of_ble_eq_true rfl) rfl rfl ?_
          refine x_ld 4 2 0 114 rfl rfl rfl rfl rfl ?_
          refine x_cst (zi 1) 1 115 rfl rfl rfl ?_
          refine z_icne 122 118 rfl rfl rfl (rg_lit 3 rfl) (rg_lit 1 rfl) (fun _ => ?_) (fun c => absurd c (by decide))
          refine x_cst (zi 0) 1 123 rfl rfl rfl ?_
          refine x_st 1 1 0 124 [some (.ref 572), some (zi 0), some (zi 0), some (zi 1), some (zi 3)] rfl rfl rfl (Nat.le_of_ble_eq_true rfl) rfl rfl ?_
          refine x_ld 4 2 0 126 rfl rfl rfl rfl rfl ?_
          refine x_cst (zi 3) 1 127 rfl rfl rfl ?_
          refine z_icne 134 130 rfl rfl rfl (rg_lit 3 rfl) (rg_lit 3 rfl) (fun c => absurd c (by decide)) (fun _ => ?_)
          refine x_cst (zi 1) 1 131 rfl rfl rfl ?_
          refine x_go 135 rfl rfl ?_
          refine x_st 2 1 0 136 [some (.ref 572), some (zi 0), some (zi 1), some (zi 1), some (zi 3)] rfl rfl rfl (Nat.le_of_ble_eq_true rfl) rfl rfl ?_
          refine x_go 31 rfl rfl ?_
          exact (ih (2 * (x.1 - a2) + 1) (by omega) a2 M2 ps2 ls2 os2 _ (Fpr_trans hF hF2) h2').2.1 rfl hR2
theorem c106 (d : Nat) (hl : rLn M x) : ab_Z (pg_G L xs) (d + 5) 106 [.ref 572] M es (fun v M' => Fpr M M' ∧ ((v = some (zi 0) ∧ rgF x M') ∨ (v = some (zi 1) ∧ ∃ a ps ls, Rch x s0 (7, a, ps, ls, []) ∧ rR M' x a 0 ps ls []))) := by
  show ab_W (pg_G L xs) (ab_X (pg_G L xs) (d + 4)) 106 _ 0 [some (.ref 572), none, none, none, none] [] (hp M ++ es)
  refine x_ld 0 1 2 1 rfl rfl rfl rfl rfl ?_
  refine x_cst (zi 0) 1 2 rfl rfl rfl ?_
  refine s_572_13 168 5 rfl rfl rfl rfl rfl rfl ?_
  refine x_ld 0 1 2 6 rfl rfl rfl rfl rfl ?_
  refine x_cst (zi 0) 1 7 rfl rfl rfl ?_
  refine s_572_23 171 10 rfl rfl rfl rfl rfl rfl ?_
  refine x_ld 0 1 2 11 rfl rfl rfl rfl rfl ?_
  refine x_cst (zi 0) 1 12 rfl rfl rfl ?_
  refine s_572_27 174 15 rfl rfl rfl rfl rfl rfl ?_
  refine x_ld 0 1 2 16 rfl rfl rfl rfl rfl ?_
  refine x_cst (zi 0) 1 17 rfl rfl rfl ?_
  refine s_572_28 204 20 rfl rfl rfl rfl rfl rfl ?_
  refine x_ld 0 1 2 21 rfl rfl rfl rfl rfl ?_
  refine x_cst (zi 0) 1 22 rfl rfl rfl ?_
  refine s_572_29 165 25 rfl rfl rfl rfl rfl rfl ?_
  refine x_cst (zi 1) 1 26 rfl rfl rfl ?_
  refine x_st 1 1 0 27 [some (.ref 572), some (zi 1), none, none, none] rfl rfl rfl (Nat.le_of_ble_eq_true rfl) rfl rfl ?_
  refine x_cst (zi 0) 1 28 rfl rfl rfl ?_
  refine x_st 2 1 0 29 [some (.ref 572), some (zi 1), some (zi 0), none, none] rfl rfl rfl (Nat.le_of_ble_eq_true rfl) rfl rfl ?_
  refine x_cst (zi 1) 1 30 rfl rfl rfl ?_
  refine x_st 3 1 0 31 [some (.ref 572), some (zi 1), some (zi 0), some (zi 1), none] rfl rfl rfl (Nat.le_of_ble_eq_true rfl) rfl rfl ?_
  have hF : Fpr M (sI (sI (sI (sI (sI M 572 13 0) 572 23 0) 572 27 0) 572 28 0) 572 29 0) := Fpr_trans (Fpr_trans (Fpr_trans (Fpr_trans (Fpr_f (by omega)) (Fpr_f (by omega))) (Fpr_f (by omega))) (Fpr_f (by omega))) (Fpr_f (by omega))
  refine (c106_loop (M := M) (x := x) d (fun v M' hv => ⟨v, M', rfl, rfl, hv⟩) _ 0 _ [] [] [] none hF ⟨rLn_F hl hF, rd_eq, (rd_nk (by decide)).trans rd_eq, ?_, fun k hk => absurd hk (Nat.not_lt_zero k), ?_, trivial, ?_, trivial⟩).1 rfl (Rch_refl x s0)
  · exact (rd_nk (by decide)).trans ((rd_nk (by decide)).trans ((rd_nk (by decide)).trans ((rd_nk (by decide)).trans rd_eq)))
  · exact (rd_nk (by decide)).trans ((rd_nk (by decide)).trans ((rd_nk (by decide)).trans rd_eq))
  · exact (rd_nk (by decide)).trans ((rd_nk (by decide)).trans rd_eq)
end C41
