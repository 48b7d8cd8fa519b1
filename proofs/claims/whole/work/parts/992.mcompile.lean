/-! OURS, printed by wip/tools/gen992.py: the reference compiles. -/
theorem cmO_uniq {x : lne} {r f d r' f' d' : Int} (h : cmO x r f d) (g : cmO x r' f' d') : r = r' ∧ f = f' ∧ d = d' := by
  rcases h with ⟨a, ps, ls, os, hR, h1, h2, h3⟩ | ⟨a, ps, ls, hR, h⟩
  · rcases g with ⟨a', ps', ls', os', gR, g1, g2, g3⟩ | ⟨a', ps', ls', gR, g⟩
    · have e := Rch_fin hR gR (Nat.le_refl 6) (Nat.le_refl 6)
      have ea : a = a' := congrArg (fun s : pst => s.2.1) e
      subst ea
      exact ⟨h1.trans g1.symm, h2.trans g2.symm, h3.trans g3.symm⟩
    · have e := Rch_fin hR gR (Nat.le_refl 6) (show 6 ≤ 7 by decide)
      have em : 6 = 7 := congrArg (fun s : pst => s.1) e
      omega
  · rcases g with ⟨a', ps', ls', os', gR, g1, g2, g3⟩ | ⟨a', ps', ls', gR, g⟩
    · have e := Rch_fin hR gR (show 6 ≤ 7 by decide) (Nat.le_refl 6)
      have em : 7 = 6 := congrArg (fun s : pst => s.1) e
      omega
    · have e := Rch_fin hR gR (show 6 ≤ 7 by decide) (show 6 ≤ 7 by decide)
      have ep : ps = ps' := congrArg (fun s : pst => s.2.2.1) e
      subst ep
      rcases h with ⟨k, hk, hb, hbd, hr⟩ | ⟨hall, hr, hf, hd⟩
      · rcases g with ⟨k', hk', gb, gbd, gr⟩ | ⟨gall, gr, gf, gd⟩
        · have ek : k = k' := by
            rcases Nat.lt_trichotomy k k' with q | q | q
            · exact absurd (gb k q) (bdO_bad hbd)
            · exact q
            · exact absurd (hb k' q) (bdO_bad gbd)
          subst ek
          have t := bdO_uniq hbd gbd
          exact ⟨hr.trans gr.symm, t.1, t.2⟩
        · exact absurd (gall k hk) (bdO_bad hbd)
      · rcases g with ⟨k', hk', gb, gbd, gr⟩ | ⟨gall, gr, gf, gd⟩
        · exact absurd (hall k' hk') (bdO_bad gbd)
        · exact ⟨hr.trans gr.symm, hf.trans gf.symm, hd.trans gd.symm⟩
/-- sets of the parts below i, as the reference lays them -/
def gSt (M : mm) (ps : Nat → prt) (i : Nat) : Prop := ∀ j, j < i → okp ps j ∧ ag (mS (M.2.1 587) j) (sts ps j).1 ∧ ag (mS (M.2.1 588) j) (sts ps j).2
section C42
variable {L : Nat} {xs : Nat → Int32} {M : mm} {es : ab_H}
theorem c118 (d : Nat) {ps : List (prt × Nat)} {k : Nat} (hk : k < 31) (hrow : pRw M k ps[k]!) (hw : ∀ j, j ≤ k → wfp (psf ps) j) (hg : gSt M (psf ps) k) : ab_Z (pg_G L xs) (d + 5) 118 [.ref 572, zi (k : Nat)] M es (fun v M' => FG k M M' ∧ ((v = some (zi 1) ∧ okp (psf ps) k ∧ M'.1 572 = M.1 572 ∧ ag (mS (M'.2.1 587) k) (sts (psf ps) k).1 ∧ ag (mS (M'.2.1 588) k) (sts (psf ps) k).2) ∨ (v = some (zi 0) ∧ bdO (psf ps) k (M'.1 572 30) (M'.1 572 31)))) := by
  have hwk := hw k (Nat.le_refl _)
  have hl := hwk.2.2.2
  obtain ⟨q1, q2, q3, q4, q5⟩ := hrow
  have key : gO k (psf ps k).1 (psf ps k).2.2.2 (mS (M.2.1 587) (psf ps k).2.1) (mS (M.2.1 587) (psf ps k).2.2.1) (mS (M.2.1 588) (psf ps k).2.1) (mS (M.2.1 588) (psf ps k).2.2.1) M = gO k (psf ps k).1 (psf ps k).2.2.2 (mS (M.2.1 587) (psf ps k).2.1) (mS (M.2.1 587) (psf ps k).2.2.1) (mS (M.2.1 588) (psf ps k).2.1) (mS (M.2.1 588) (psf ps k).2.2.1) M := rfl
  have fin : ab_Z (pg_G L xs) (d + 5) 118 [.ref 572, zi (k : Nat)] M es (gO k (psf ps k).1 (psf ps k).2.2.2 (mS (M.2.1 587) (psf ps k).2.1) (mS (M.2.1 587) (psf ps k).2.2.1) (mS (M.2.1 588) (psf ps k).2.1) (mS (M.2.1 588) (psf ps k).2.2.1) M) → ab_Z (pg_G L xs) (d + 5) 118 [.ref 572, zi (k : Nat)] M es (fun v M' => FG k M M' ∧ ((v = some (zi 1) ∧ okp (psf ps) k ∧ M'.1 572 = M.1 572 ∧ ag (mS (M'.2.1 587) k) (sts (psf ps) k).1 ∧ ag (mS (M'.2.1 588) k) (sts (psf ps) k).2) ∨ (v = some (zi 0) ∧ bdO (psf ps) k (M'.1 572 30) (M'.1 572 31)))) := by
    intro h
    refine ab_X_mono (d + 5) _ _ _ _ _ ?_ h
    rintro r' h' ⟨v, M', e1, e2, f, dd, e3, e4, e5, e6, e7⟩
    refine ⟨v, M', e1, e2, e5, ?_⟩
    rcases stO_to hwk e4 (fun e => (hg _ (hl e).1).2.1) (fun e => (hg _ (hl e).2).2.1) (fun e => (hg _ (hl e).1).2.2) (fun e => (hg _ (hl e).2).2.2) with ⟨t1, t2⟩ | ⟨t1, t2, t3, t4, t5⟩
    · refine .inr ⟨?_, ?_⟩
      · rw [e3, decide_eq_false t1]; rfl
      · rw [(e7 t1).1, (e7 t1).2]; exact t2
    · refine .inl ⟨?_, t3, e6 t1, t4, t5⟩
      rw [e3, decide_eq_true t1]; rfl
  refine fin ?_
  have hz : ∀ j, j < k → ∀ u : Nat, 1093 ≤ u → u < 1152 → mS (M.2.1 587) j u = false ∧ mS (M.2.1 588) j u = false := by
    intro j hj u h1 h2
    have t := hg j hj
    have z := sts_z1 (ps := psf ps) j (fun i hi => hw i (by omega)) u h1
    rw [t.2.1 u h2, t.2.2 u h2]; exact z
  have e0 : (ps[k]!).1 = psf ps k := rfl
  rw [e0] at q1 q2 q3 q4
  have hK8 := hwk.1
  have hT3 := hwk.2.1
  have hT1 := hwk.2.2.1
  clear key fin
  generalize hK : (psf ps k).1 = K at *
  match K, hK8 with
  | 0, _ =>
    exact c118_0 d (by omega) hT3 hT1 (q4 (by decide)) q1 q2 q3
  | 1, _ =>
    exact c118_1 d (by omega) hT3 hT1 (q4 (by decide)) q1 q2 q3
  | 2, _ =>
    exact c118_2 d (by omega) hT3 hT1 (q4 (by decide)) q1 q2 q3
  | 3, _ =>
    have hll := hl (by decide)
    exact c118_3 d (by omega) _ q1 q2 q3 (by omega) (by omega)
  | 4, _ =>
    have hll := hl (by decide)
    exact c118_4 d (by omega) _ q1 q2 q3 (by omega) (by omega) (by omega) (by omega) (fun u h1 h2 => ⟨(hz _ hll.1 u h1 h2).1, (hz _ hll.2 u h1 h2).1, (hz _ hll.1 u h1 h2).2, (hz _ hll.2 u h1 h2).2⟩)
  | 5, _ =>
    have hll := hl (by decide)
    exact c118_5 d (by omega) _ q1 q2 q3 (by omega) (by omega) (by omega) (by omega)
  | 6, _ =>
    have hll := hl (by decide)
    exact c118_6 d (by omega) _ q1 q2 q3 (by omega) (by omega) (by omega) (by omega)
  | 7, _ =>
    have hll := hl (by decide)
    exact c118_7 d (by omega) _ q1 q2 q3 (by omega) (by omega)
  | 8, _ =>
    have hll := hl (by decide)
    exact c118_8 d (by omega) _ q1 q2 q3 (by omega) (by omega)
  | n + 9, h9 => exact absurd h9 (by omega)
/-- laying goes on -/
def Fgg (M M' : mm) : Prop := (∀ b, b ≠ 589 → b ≠ 572 → M'.1 b = M.1 b) ∧ (∀ j, j ≠ 30 → j ≠ 31 → M'.1 572 j = M.1 572 j) ∧ M'.2.2 = M.2.2 ∧ (∀ b, b ≠ 587 → b ≠ 588 → M'.2.1 b = M.2.1 b)
theorem Fgg_refl (M : mm) : Fgg M M := ⟨fun _ _ _ => rfl, fun _ _ _ => rfl, rfl, fun _ _ _ => rfl⟩
theorem Fgg_trans {M M' M'' : mm} (h : Fgg M M') (g : Fgg M' M'') : Fgg M M'' := ⟨fun b h1 h2 => (g.1 b h1 h2).trans (h.1 b h1 h2), fun j h1 h2 => (g.2.1 j h1 h2).trans (h.2.1 j h1 h2), g.2.2.1.trans h.2.2.1, fun b h1 h2 => (g.2.2.2 b h1 h2).trans (h.2.2.2 b h1 h2)⟩
theorem FG_Fgg {k : Nat} {M M' : mm} (h : FG k M M') : Fgg M M' := ⟨h.1, h.2.1, h.2.2.1, h.2.2.2.1⟩
theorem gSt_FG {k : Nat} {M M' : mm} {ps : Nat → prt} (h : gSt M ps k) (hF : FG k M M') : gSt M' ps k := by
  intro j hj
  have t := h j hj
  refine ⟨t.1, fun u hu => ?_, fun u hu => ?_⟩
  · rw [← t.2.1 u hu]; exact hF.2.2.2.2 587 (.inl rfl) _ (.inl (by omega))
  · rw [← t.2.2 u hu]; exact hF.2.2.2.2 588 (.inr rfl) _ (.inl (by omega))
theorem c105_g (d : Nat) {ps : List (prt × Nat)} (hc : ps.length ≤ 31) (h13 : M.1 572 13 = (ps.length : Int)) (hrow : ∀ k, k < ps.length → pRw M k ps[k]!) (hw : ∀ k, k < ps.length → wfp (psf ps) k) (hpl : ∀ k, k < ps.length → (ps[k]!).2 ≤ 16) {Q : ab_Q} (kb : ∀ k M', k < ps.length → (∀ j, j < k → okp (psf ps) j) → bdO (psf ps) k (M'.1 572 30) (M'.1 572 31) → Fgg M M' → Q (.inl (some (zi ((((ps[k]!).2 : Nat) : Int) + 1)))) (hp M' ++ es)) (kg : ∀ M', gSt M' (psf ps) ps.length → Fgg M M' → M'.1 572 = M.1 572 → ab_W (pg_G L xs) (ab_X (pg_G L xs) (d + 5)) 105 Q 77 [some (.ref 572), some (zi 1), some (zi (ps.length : Nat))] [] (hp M' ++ es)) : ∀ m i : Nat, ps.length - i = m → i ≤ ps.length → ∀ M', gSt M' (psf ps) i → Fgg M M' → M'.1 572 = M.1 572 → ab_W (pg_G L xs) (ab_X (pg_G L xs) (d + 5)) 105 Q 46 [some (.ref 572), some (zi 1), some (zi (i : Nat))] [] (hp M' ++ es) := by
  intro m
  induction m using Nat.strongRecOn with
  | _ m ih =>
    intro i hm hi M' hg hF h572
    have h13' : M'.1 572 13 = (ps.length : Int) := by rw [h572]; exact h13
    have hrow' : i < ps.length → pRw M' i ps[i]! := fun h => by
      have t := hrow i h
      unfold pRw at t ⊢
      rw [hF.1 582 (by decide) (by decide), hF.1 583 (by decide) (by decide), hF.1 584 (by decide) (by decide), hF.1 585 (by decide) (by decide), hF.1 586 (by decide) (by decide)]
      exact t
    refine x_ld 2 1 0 47 rfl rfl rfl rfl rfl ?_
    refine x_ld 0 1 2 48 rfl rfl rfl rfl rfl ?_
    refine g_572_13 168 51 rfl rfl h13' rfl ?_
    refine z_icge 77 54 rfl rfl rfl ⟨by omega, by omega⟩ ⟨by omega, by omega⟩ (fun c51 => ?_) (fun c51 => ?_)
    · have e : i = ps.length := by omega
      subst e; exact kg M' hg hF h572
    · refine x_ld 0 1 2 55 rfl rfl rfl rfl rfl ?_
      refine x_ld 2 1 0 56 rfl rfl rfl rfl rfl ?_
      refine x_ce 264 118 59 [.ref 572, zi ((i : Nat) : Int)] rfl rfl rfl (Nat.le_of_ble_eq_true rfl) rfl rfl (Nat.le_of_ble_eq_true rfl) ⟨_, _, _, rfl, o_572⟩ (Nat.le_of_ble_eq_true rfl) (c118 (M := M') d (by omega) (hrow' (by omega)) (fun j hj => hw j (by omega)) hg) rfl ?_
      rintro v M2 ⟨hF2, hv⟩
      rcases hv with ⟨rfl, ho, e572, s1, s2⟩ | ⟨rfl, hbd⟩
      · refine z_ifne 71 62 rfl rfl rfl (rg_lit 1 rfl) (fun _ => ?_) (fun c => absurd c (by decide))
        refine z_inc 2 74 [some (.ref 572), some (zi 1), some (zi (((i : Nat) : Int) + 1))] rfl rfl (Nat.le_of_ble_eq_true rfl) rfl rfl ?_
        refine x_go 46 rfl rfl ?_
        refine ih (ps.length - (i + 1)) (by omega) (i + 1) rfl (by omega) M2 (fun j hj => ?_) (Fgg_trans hF (FG_Fgg hF2)) (e572.trans h572)
        rcases Nat.eq_or_lt_of_le (Nat.le_of_lt_succ hj) with e | e
        · subst e; exact ⟨ho, s1, s2⟩
        · exact gSt_FG hg hF2 j e
      · have h586 : M2.1 586 (i : Int) = (((ps[i]!).2 : Nat) : Int) := by rw [hF2.1 586 (by decide) (by decide)]; exact (hrow' (by omega)).2.2.2.2
        have hpi := hpl i (by omega)
        refine z_ifne 71 62 rfl rfl rfl (rg_lit 0 rfl) (fun c => absurd c (by decide)) (fun _ => ?_)
        refine x_ld 0 1 2 63 rfl rfl rfl rfl rfl ?_
        refine g_572_18 50 66 rfl rfl rfl ?_
        refine x_ld 2 1 0 67 rfl rfl rfl rfl rfl ?_
        refine z_ild (((ps[i]!).2 : Nat) : Int) 68 rfl i_586 rfl ⟨by omega, by omega⟩ h586 rfl ?_
        refine x_cst (zi 1) 1 69 rfl rfl rfl ?_
        refine z_add 70 rfl rfl ?_
        refine x_ret rfl rfl rfl rfl ?_
        exact kb i M2 (by omega) (fun j hj => (hg j hj).1) hbd (Fgg_trans hF (FG_Fgg hF2))
theorem c105_r (d : Nat) {n : Nat} (hc : n ≤ 31) (h6 : M.1 572 6 = (n : Int)) {Q : ab_Q} (kk : ∀ M', M'.2 = M.2 → (∀ b, ¬ (576 ≤ b ∧ b ≤ 579) → M'.1 b = M.1 b) → (∀ k : Nat, k < n → M'.1 576 (k : Int) = M.1 582 (k : Int) ∧ M'.1 577 (k : Int) = M.1 583 (k : Int) ∧ M'.1 578 (k : Int) = M.1 584 (k : Int) ∧ M'.1 579 (k : Int) = M.1 585 (k : Int)) → ab_W (pg_G L xs) (ab_X (pg_G L xs) (d + 5)) 105 Q 164 [some (.ref 572), some (zi 1), some (zi (n : Nat))] [] (hp M' ++ es)) : ∀ m i : Nat, n - i = m → i ≤ n → ∀ M', M'.2 = M.2 → (∀ b, ¬ (576 ≤ b ∧ b ≤ 579) → M'.1 b = M.1 b) → (∀ k : Nat, k < i → M'.1 576 (k : Int) = M.1 582 (k : Int) ∧ M'.1 577 (k : Int) = M.1 583 (k : Int) ∧ M'.1 578 (k : Int) = M.1 584 (k : Int) ∧ M'.1 579 (k : Int) = M.1 585 (k : Int)) → ab_W (pg_G L xs) (ab_X (pg_G L xs) (d + 5)) 105 Q 102 [some (.ref 572), some (zi 1), some (zi (i : Nat))] [] (hp M' ++ es) := by
  intro m
  induction m using Nat.strongRecOn with
  | _ m ih =>
    intro i hm hi M' e2 hb hr
    have h6' : M'.1 572 6 = (n : Int) := by rw [hb 572 (by decide)]; exact h6
    have p582 : M'.1 582 (i : Int) = M.1 582 (i : Int) := by rw [hb 582 (by decide)]
    have p583 : M'.1 583 (i : Int) = M.1 583 (i : Int) := by rw [hb 583 (by decide)]
    have p584 : M'.1 584 (i : Int) = M.1 584 (i : Int) := by rw [hb 584 (by decide)]
    have p585 : M'.1 585 (i : Int) = M.1 585 (i : Int) := by rw [hb 585 (by decide)]
    refine x_ld 2 1 0 103 rfl rfl rfl rfl rfl ?_
    refine x_ld 0 1 2 104 rfl rfl rfl rfl rfl ?_
    refine g_572_6 271 107 rfl rfl h6' rfl ?_
    refine z_icge 164 110 rfl rfl rfl ⟨by omega, by omega⟩ ⟨by omega, by omega⟩ (fun c107 => ?_) (fun c107 => ?_)
    · have e : i = n := by omega
      subst e; exact kk M' e2 hb hr
    · refine x_ld 0 1 2 111 rfl rfl rfl rfl rfl ?_
      refine g_572_7 19 114 rfl rfl rfl ?_
      refine x_ld 2 1 0 115 rfl rfl rfl rfl rfl ?_
      refine x_ld 0 1 2 116 rfl rfl rfl rfl rfl ?_
      refine g_572_14 38 119 rfl rfl rfl ?_
      refine x_ld 2 1 0 120 rfl rfl rfl rfl rfl ?_
      refine z_ild (M.1 582 ((i : Nat) : Int)) 121 rfl i_582 rfl ⟨by omega, by omega⟩ p582 rfl ?_
      refine z_ist 122 rfl i_576 rfl ⟨by omega, by omega⟩ rfl ?_
      refine x_ld 0 1 2 123 rfl rfl rfl rfl rfl ?_
      refine g_572_8 22 126 rfl rfl rfl ?_
      refine x_ld 2 1 0 127 rfl rfl rfl rfl rfl ?_
      refine x_ld 0 1 2 128 rfl rfl rfl rfl rfl ?_
      refine g_572_15 41 131 rfl rfl rfl ?_
      refine x_ld 2 1 0 132 rfl rfl rfl rfl rfl ?_
      refine z_ild (M.1 583 ((i : Nat) : Int)) 133 rfl i_583 rfl ⟨by omega, by omega⟩ ((rd_na (Ne.symm (by decide))).trans p583) rfl ?_
      refine z_ist 134 rfl i_577 rfl ⟨by omega, by omega⟩ rfl ?_
      refine x_ld 0 1 2 135 rfl rfl rfl rfl rfl ?_
      refine g_572_9 25 138 rfl rfl rfl ?_
      refine x_ld 2 1 0 139 rfl rfl rfl rfl rfl ?_
      refine x_ld 0 1 2 140 rfl rfl rfl rfl rfl ?_
      refine g_572_16 44 143 rfl rfl rfl ?_
      refine x_ld 2 1 0 144 rfl rfl rfl rfl rfl ?_
      refine z_ild (M.1 584 ((i : Nat) : Int)) 145 rfl i_584 rfl ⟨by omega, by omega⟩ ((rd_na (Ne.symm (by decide))).trans ((rd_na (Ne.symm (by decide))).trans p584)) rfl ?_
      refine z_ist 146 rfl i_578 rfl ⟨by omega, by omega⟩ rfl ?_
      refine x_ld 0 1 2 147 rfl rfl rfl rfl rfl ?_
      refine g_572_10 28 150 rfl rfl rfl ?_
      refine x_ld 2 1 0 151 rfl rfl rfl rfl rfl ?_
      refine x_ld 0 1 2 152 rfl rfl rfl rfl rfl ?_
      refine g_572_17 47 155 rfl rfl rfl ?_
      refine x_ld 2 1 0 156 rfl rfl rfl rfl rfl ?_
      refine z_ild (M.1 585 ((i : Nat) : Int)) 157 rfl i_585 rfl ⟨by omega, by omega⟩ ((rd_na (Ne.symm (by decide))).trans ((rd_na (Ne.symm (by decide))).trans ((rd_na (Ne.symm (by decide))).trans p585))) rfl ?_
      refine z_ist 158 rfl i_579 rfl ⟨by omega, by omega⟩ rfl ?_
      refine z_inc 2 161 [some (.ref 572), some (zi 1), some (zi (((i : Nat) : Int) + 1))] rfl rfl (Nat.le_of_ble_eq_true rfl) rfl rfl ?_
      refine x_go 102 rfl rfl ?_
      refine ih (n - (i + 1)) (by omega) (i + 1) rfl (by omega) _ e2 (fun b hb' => ?_) (fun k hk => ?_)
      · rw [sI_ne (by omega), sI_ne (by omega), sI_ne (by omega), sI_ne (by omega)]; exact hb b hb'
      · rcases Nat.eq_or_lt_of_le (Nat.le_of_lt_succ hk) with e | e
        · subst e
          exact ⟨(rd_na (by decide)).trans ((rd_na (by decide)).trans ((rd_na (by decide)).trans rd_eq)), (rd_na (by decide)).trans ((rd_na (by decide)).trans rd_eq), (rd_na (by decide)).trans rd_eq, rd_eq⟩
        · have t := hr k e
          exact ⟨(rd_na (by decide)).trans ((rd_na (by decide)).trans ((rd_na (by decide)).trans ((rd_nk (by omega)).trans t.1))), (rd_na (by decide)).trans ((rd_na (by decide)).trans ((rd_nk (by omega)).trans ((rd_na (by decide)).trans t.2.1))), (rd_na (by decide)).trans ((rd_nk (by omega)).trans ((rd_na (by decide)).trans ((rd_na (by decide)).trans t.2.2.1))), (rd_nk (by omega)).trans ((rd_na (by decide)).trans ((rd_na (by decide)).trans ((rd_na (by decide)).trans t.2.2.2)))⟩
theorem c105_b (d : Nat) {n : Nat} (hc : n ≤ 31) (h6 : M.1 572 6 = (n : Int)) {Q : ab_Q} (kk : ∀ M', M'.1 = M.1 → M'.2.2 = M.2.2 → (∀ b, b ≠ 580 → b ≠ 581 → M'.2.1 b = M.2.1 b) → (∀ j : Int, 0 ≤ j → j < 1152 * (n : Int) → M'.2.1 580 j = M.2.1 587 j ∧ M'.2.1 581 j = M.2.1 588 j) → Q (.inl (some (zi 0))) (hp M' ++ es)) : ∀ m i : Nat, 18 * n - i = m → i ≤ 18 * n → ∀ M', M'.1 = M.1 → M'.2.2 = M.2.2 → (∀ b, b ≠ 580 → b ≠ 581 → M'.2.1 b = M.2.1 b) → (∀ j : Int, 0 ≤ j → j < 64 * (i : Int) → M'.2.1 580 j = M.2.1 587 j ∧ M'.2.1 581 j = M.2.1 588 j) → ab_W (pg_G L xs) (ab_X (pg_G L xs) (d + 5)) 105 Q 166 [some (.ref 572), some (zi 1), some (zi (i : Nat))] [] (hp M' ++ es) := by
  intro m
  induction m using Nat.strongRecOn with
  | _ m ih =>
    intro i hm hi M' e1 e2 hb hj
    have h6' : M'.1 572 6 = (n : Int) := by rw [e1]; exact h6
    refine x_ld 2 1 0 167 rfl rfl rfl rfl rfl ?_
    refine x_cst (zi 18) 2 169 rfl rfl rfl ?_
    refine x_ld 0 1 2 170 rfl rfl rfl rfl rfl ?_
    refine g_572_6 271 173 rfl rfl h6' rfl ?_
    refine z_mul 174 rfl rfl ?_
    rw [show 18 * ((n : Nat) : Int) = ((18 * n : Nat) : Int) from (by omega)]
    refine z_icge 207 177 rfl rfl rfl ⟨by omega, by omega⟩ ⟨by omega, by omega⟩ (fun c174 => ?_) (fun c174 => ?_)
    · refine x_cst (zi 0) 1 208 rfl rfl rfl ?_
      refine x_ret rfl rfl rfl rfl ?_
      have e : i = 18 * n := by omega
      exact kk M' e1 e2 hb (fun j h0 h1 => hj j h0 (by omega))
    · refine x_ld 0 1 2 178 rfl rfl rfl rfl rfl ?_
      refine g_572_11 31 181 rfl rfl rfl ?_
      refine x_ld 2 1 0 182 rfl rfl rfl rfl rfl ?_
      refine x_ld 0 1 2 183 rfl rfl rfl rfl rfl ?_
      refine g_572_19 53 186 rfl rfl rfl ?_
      refine x_ld 2 1 0 187 rfl rfl rfl rfl rfl ?_
      refine z_lld 188 rfl i_587 rfl ⟨by omega, by omega⟩ rfl ?_
      refine z_lst 189 rfl i_580 rfl ⟨by omega, by omega⟩ rfl ?_
      refine x_ld 0 1 2 190 rfl rfl rfl rfl rfl ?_
      refine g_572_12 35 193 rfl rfl rfl ?_
      refine x_ld 2 1 0 194 rfl rfl rfl rfl rfl ?_
      refine x_ld 0 1 2 195 rfl rfl rfl rfl rfl ?_
      refine g_572_20 56 198 rfl rfl rfl ?_
      refine x_ld 2 1 0 199 rfl rfl rfl rfl rfl ?_
      refine z_lld 200 rfl i_588 rfl ⟨by omega, by omega⟩ rfl ?_
      refine z_lst 201 rfl i_581 rfl ⟨by omega, by omega⟩ rfl ?_
      refine z_inc 2 204 [some (.ref 572), some (zi 1), some (zi (((i : Nat) : Int) + 1))] rfl rfl (Nat.le_of_ble_eq_true rfl) rfl rfl ?_
      refine x_go 166 rfl rfl ?_
      refine ih (18 * n - (i + 1)) (by omega) (i + 1) rfl (by omega) _ e1 e2 (fun b h1 h2 => ?_) (fun j h0 h1 => ?_)
      · rw [rB_ne h2, rB_ne h1]; exact hb b h1 h2
      · rw [rB_ne (show (580 : Nat) ≠ 581 by decide), rB_at, rB_at, rB_ne (show (581 : Nat) ≠ 580 by decide)]
        unfold upw
        by_cases q : 64 * (i : Int) ≤ j
        · rw [if_pos ⟨q, by omega⟩, if_pos ⟨q, by omega⟩, rB_ne (show (588 : Nat) ≠ 580 by decide), hb 587 (by decide) (by decide), hb 588 (by decide) (by decide)]
          show M.2.1 587 (64 * ((i : Nat) : Int) + ((j - 64 * (i : Int)).toNat : Int)) = _ ∧ M.2.1 588 (64 * ((i : Nat) : Int) + ((j - 64 * (i : Int)).toNat : Int)) = _
          rw [show 64 * ((i : Nat) : Int) + ((j - 64 * (i : Int)).toNat : Int) = j by omega]; exact ⟨rfl, rfl⟩
        · rw [if_neg (by omega), if_neg (by omega)]; exact hj j h0 (by omega)
/-- what the reference's compiling may change -/
def Fmc (M M' : mm) : Prop := (∀ a, a < 572 → M'.1 a = M.1 a) ∧ M'.1 595 = M.1 595 ∧ (∀ a, a < 572 ∨ a = 594 → M'.2.1 a = M.2.1 a) ∧ M'.2.2 = M.2.2 ∧ M'.1 572 34 = M.1 572 34
def Kmc (M M' : mm) : Prop := (∀ a, 576 ≤ a → a ≤ 579 → M'.1 a = M.1 a) ∧ (∀ a, a = 580 ∨ a = 581 → M'.2.1 a = M.2.1 a) ∧ M'.1 572 5 = M.1 572 5 ∧ M'.1 572 6 = M.1 572 6 ∧ M'.1 572 32 = M.1 572 32 ∧ M'.1 572 35 = M.1 572 35
theorem c105 (d : Nat) {x : lne} (hl : rLn M x) : ab_Z (pg_G L xs) (d + 6) 105 [.ref 572] M es (fun v M' => ∃ r, v = some (zi r) ∧ rg r ∧ Fmc M M' ∧ M'.1 572 2 = 0 ∧ M'.1 572 4 = 0 ∧ cmO x r (M'.1 572 30) (M'.1 572 31) ∧ ((r ≠ 0 ∧ Kmc M M') ∨ (r = 0 ∧ M'.1 572 5 = 1 ∧ M'.1 572 32 = -1 ∧ M'.1 572 35 = 0 ∧ ∃ a ps ls, Rch x s0 (7, a, ps, ls, []) ∧ mdl M' (psf ps) ps.length ∧ M'.1 572 6 = (ps.length : Int)))) := by
  have hl1 : rLn (sI M 572 2 0) x := ⟨hl.1, (rd_nk (by decide)).trans hl.2.1, fun i hi => by rw [sI_ne (by decide)]; exact hl.2.2 i hi⟩
  show ab_W (pg_G L xs) (ab_X (pg_G L xs) (d + 5)) 105 _ 0 [some (.ref 572), none, none] [] (hp M ++ es)
  refine x_ld 0 1 2 1 rfl rfl rfl rfl rfl ?_
  refine x_cst (zi 0) 1 2 rfl rfl rfl ?_
  refine s_572_2 159 5 rfl rfl rfl rfl rfl rfl ?_
  refine x_ld 0 1 2 6 rfl rfl rfl rfl rfl ?_
  refine x_ce 261 106 9 [.ref 572] rfl rfl rfl (Nat.le_of_ble_eq_true rfl) rfl rfl (Nat.le_of_ble_eq_true rfl) ⟨_, _, _, rfl, o_572⟩ (Nat.le_of_ble_eq_true rfl) (c106 (M := (sI M 572 2 0)) d hl1) rfl ?_
  rintro v M2 ⟨hF2, hv⟩
  have f2 : M2.1 572 2 = 0 := (hF2.2.1 2 (by decide) (by decide) (by decide) (by decide) (by decide)).trans rd_eq
  rcases hv with ⟨rfl, a9, ps9, ls9, os9, hR9, hN9⟩ | ⟨rfl, a2, ps2, ls2, hR2, h2⟩
  · have ha9 : a9 ≤ x.1 := (inv_Rch hR9 (inv_s0 x)).1
    have hx16 := hl.1
    refine x_st 1 1 0 10 [some (.ref 572), some (zi 0), none] rfl rfl rfl (Nat.le_of_ble_eq_true rfl) rfl rfl ?_
    refine x_ld 0 1 2 11 rfl rfl rfl rfl rfl ?_
    refine x_cst (zi 0) 1 12 rfl rfl rfl ?_
    refine s_572_4 162 15 rfl rfl rfl rfl rfl rfl ?_
    refine x_ld 0 1 2 16 rfl rfl rfl rfl rfl ?_
    refine x_ld 1 1 0 17 rfl rfl rfl rfl rfl ?_
    refine z_ifeq 24 20 rfl rfl rfl (rg_lit 0 rfl) (fun _ => ?_) (fun c => absurd c (by decide))
    refine x_cst (zi 1) 1 25 rfl rfl rfl ?_
    refine s_572_30 258 28 rfl rfl rfl rfl rfl rfl ?_
    refine x_ld 0 1 2 29 rfl rfl rfl rfl rfl ?_
    refine x_cst (zi (-1)) 1 30 rfl rfl rfl ?_
    refine s_572_31 74 33 rfl rfl rfl rfl rfl rfl ?_
    refine x_ld 1 1 0 34 rfl rfl rfl rfl rfl ?_
    refine z_ifne 44 37 rfl rfl rfl (rg_lit 0 rfl) (fun c => absurd c (by decide)) (fun _ => ?_)
    refine x_ld 0 1 2 38 rfl rfl rfl rfl rfl ?_
    refine g_572_29 165 41 rfl rfl ((rd_nk (Ne.symm (by decide))).trans ((rd_nk (Ne.symm (by decide))).trans ((rd_nk (Ne.symm (by decide))).trans hN9))) rfl ?_
    refine x_cst (zi 1) 1 42 rfl rfl rfl ?_
    refine z_add 43 rfl rfl ?_
    refine x_ret rfl rfl rfl rfl ?_
    refine ⟨_, _, rfl, rfl, _, rfl, ⟨by omega, by omega⟩, ⟨fun a h => ?_, ?_, fun a h => by rw [show (sI (sI (sI M2 _ _ _) _ _ _) _ _ _).2.1 = M2.2.1 from rfl, hF2.2.2]; rfl, by rw [show (sI (sI (sI M2 _ _ _) _ _ _) _ _ _).2.2 = M2.2.2 from rfl, hF2.2.2]; rfl, ?_⟩, ?_, ?_, .inl ⟨a9, ps9, ls9, os9, hR9, rfl, (rd_nk (by decide)).trans rd_eq, rd_eq⟩, .inl ⟨by omega, ⟨fun a h1 h2 => ?_, fun a h => by rw [show (sI (sI (sI M2 _ _ _) _ _ _) _ _ _).2.1 = M2.2.1 from rfl, hF2.2.2]; rfl, ?_, ?_, ?_, ?_⟩⟩⟩
    · rw [sI_ne (by omega), sI_ne (by omega), sI_ne (by omega), hF2.1 a (by omega) (by omega) (by omega), sI_ne (by omega)]
    · rw [sI_ne (by decide), sI_ne (by decide), sI_ne (by decide), hF2.1 595 (by decide) (by decide) (by decide), sI_ne (by decide)]
    · exact (rd_nk (by decide)).trans ((rd_nk (by decide)).trans ((rd_nk (by decide)).trans ((hF2.2.1 34 (by decide) (by decide) (by decide) (by decide) (by decide)).trans (rd_nk (by decide)))))
    · exact (rd_nk (by decide)).trans ((rd_nk (by decide)).trans ((rd_nk (by decide)).trans f2))
    · exact (rd_nk (by decide)).trans ((rd_nk (by decide)).trans rd_eq)
    · rw [sI_ne (by omega), sI_ne (by omega), sI_ne (by omega), hF2.1 a (by omega) (by omega) (by omega), sI_ne (by omega)]
    · exact (rd_nk (by decide)).trans ((rd_nk (by decide)).trans ((rd_nk (by decide)).trans ((hF2.2.1 5 (by decide) (by decide) (by decide) (by decide) (by decide)).trans (rd_nk (by decide)))))
    · exact (rd_nk (by decide)).trans ((rd_nk (by decide)).trans ((rd_nk (by decide)).trans ((hF2.2.1 6 (by decide) (by decide) (by decide) (by decide) (by decide)).trans (rd_nk (by decide)))))
    · exact (rd_nk (by decide)).trans ((rd_nk (by decide)).trans ((rd_nk (by decide)).trans ((hF2.2.1 32 (by decide) (by decide) (by decide) (by decide) (by decide)).trans (rd_nk (by decide)))))
    · exact (rd_nk (by decide)).trans ((rd_nk (by decide)).trans ((rd_nk (by decide)).trans ((hF2.2.1 35 (by decide) (by decide) (by decide) (by decide) (by decide)).trans (rd_nk (by decide)))))
  · have hi2 := inv_Rch hR2 (inv_s0 x)
    have ha2 : a2 ≤ x.1 := hi2.1
    have hx16 := hl.1
    have hb2 : ps2.length + ls2.length + 0 ≤ 2 * a2 := hi2.2.1
    have hl2 : ls2.length = 1 := hi2.2.2.2.2.2.2.2.2 rfl
    refine x_st 1 1 0 10 [some (.ref 572), some (zi 1), none] rfl rfl rfl (Nat.le_of_ble_eq_true rfl) rfl rfl ?_
    refine x_ld 0 1 2 11 rfl rfl rfl rfl rfl ?_
    refine x_cst (zi 0) 1 12 rfl rfl rfl ?_
    refine s_572_4 162 15 rfl rfl rfl rfl rfl rfl ?_
    refine x_ld 0 1 2 16 rfl rfl rfl rfl rfl ?_
    refine x_ld 1 1 0 17 rfl rfl rfl rfl rfl ?_
    refine z_ifeq 24 20 rfl rfl rfl (rg_lit 1 rfl) (fun c => absurd c (by decide)) (fun _ => ?_)
    refine x_cst (zi 0) 1 21 rfl rfl rfl ?_
    refine x_go 25 rfl rfl ?_
    refine s_572_30 258 28 rfl rfl rfl rfl rfl rfl ?_
    refine x_ld 0 1 2 29 rfl rfl rfl rfl rfl ?_
    refine x_cst (zi (-1)) 1 30 rfl rfl rfl ?_
    refine s_572_31 74 33 rfl rfl rfl rfl rfl rfl ?_
    refine x_ld 1 1 0 34 rfl rfl rfl rfl rfl ?_
    refine z_ifne 44 37 rfl rfl rfl (rg_lit 1 rfl) (fun _ => ?_) (fun c => absurd c (by decide))
    refine x_cst (zi 0) 1 45 rfl rfl rfl ?_
    refine x_st 2 1 0 46 [some (.ref 572), some (zi 1), some (zi 0)] rfl rfl rfl (Nat.le_of_ble_eq_true rfl) rfl rfl ?_
    have F3 : ∀ M4, Fgg (sI (sI (sI M2 572 4 0) 572 30 0) 572 31 (-1)) M4 → Fmc M M4 ∧ (∀ j, j ≠ 4 → j ≠ 30 → j ≠ 31 → j ≠ 13 → j ≠ 23 → j ≠ 27 → j ≠ 28 → j ≠ 29 → M4.1 572 j = (sI M 572 2 0).1 572 j) ∧ (∀ a, 576 ≤ a → a ≤ 581 → M4.1 a = M.1 a ∧ M4.2.1 a = M.2.1 a) := by
      intro M4 hF4
      have hj : ∀ j, j ≠ 4 → j ≠ 30 → j ≠ 31 → j ≠ 13 → j ≠ 23 → j ≠ 27 → j ≠ 28 → j ≠ 29 → M4.1 572 j = (sI M 572 2 0).1 572 j := fun j g1 g2 g3 g4 g5 g6 g7 g8 => (hF4.2.1 j g2 g3).trans ((rd_nk g3).trans ((rd_nk g2).trans ((rd_nk g1).trans (hF2.2.1 j g4 g5 g6 g7 g8))))
      have hI : ∀ a, a ≠ 589 → a ≠ 572 → ¬ (582 ≤ a ∧ a ≤ 586) → ¬ (590 ≤ a ∧ a ≤ 593) → M4.1 a = M.1 a := fun a g1 g2 g3 g4 => by rw [hF4.1 a g1 g2, sI_ne g2, sI_ne g2, sI_ne g2, hF2.1 a g2 g3 g4, sI_ne g2]
      have hB : ∀ a, a ≠ 587 → a ≠ 588 → M4.2.1 a = M.2.1 a := fun a g1 g2 => by rw [hF4.2.2.2 a g1 g2, show (sI (sI (sI M2 572 4 0) 572 30 0) 572 31 (-1)).2.1 = M2.2.1 from rfl, hF2.2.2]; rfl
      refine ⟨⟨fun a h => hI a (by omega) (by omega) (by omega) (by omega), hI 595 (by decide) (by decide) (by decide) (by decide), fun a h => hB a (by omega) (by omega), ?_, ?_⟩, hj, fun a g1 g2 => ⟨hI a (by omega) (by omega) (by omega) (by omega), hB a (by omega) (by omega)⟩⟩
      · rw [hF4.2.2.1, show (sI (sI (sI M2 572 4 0) 572 30 0) 572 31 (-1)).2.2 = M2.2.2 from rfl, hF2.2.2]; rfl
      · exact (hj 34 (by decide) (by decide) (by decide) (by decide) (by decide) (by decide) (by decide) (by decide)).trans (rd_nk (by decide))
    have hdec : ∀ j : Int, (j = 5 ∨ j = 6 ∨ j = 32 ∨ j = 35 ∨ j = 2) → j ≠ 4 ∧ j ≠ 30 ∧ j ≠ 31 ∧ j ≠ 13 ∧ j ≠ 23 ∧ j ≠ 27 ∧ j ≠ 28 ∧ j ≠ 29 := by intro j h; omega
    refine c105_g (L := L) (xs := xs) (es := es) (M := (sI (sI (sI M2 572 4 0) 572 30 0) 572 31 (-1))) d (ps := ps2) (by omega) ?_ ?_ hi2.2.2.2.2.2.2.1 ?_ (Q := fun r' h' => ∃ v M', r' = .inl v ∧ h' = hp M' ++ es ∧ ∃ r, v = some (zi r) ∧ rg r ∧ Fmc M M' ∧ M'.1 572 2 = 0 ∧ M'.1 572 4 = 0 ∧ cmO x r (M'.1 572 30) (M'.1 572 31) ∧ ((r ≠ 0 ∧ Kmc M M') ∨ (r = 0 ∧ M'.1 572 5 = 1 ∧ M'.1 572 32 = -1 ∧ M'.1 572 35 = 0 ∧ ∃ a ps ls, Rch x s0 (7, a, ps, ls, []) ∧ mdl M' (psf ps) ps.length ∧ M'.1 572 6 = (ps.length : Int)))) ?_ ?_ _ 0 rfl (Nat.zero_le _) (sI (sI (sI M2 572 4 0) 572 30 0) 572 31 (-1)) (fun j hj => absurd hj (Nat.not_lt_zero j)) (Fgg_refl _) rfl
    · exact (rd_nk (by decide)).trans ((rd_nk (by decide)).trans ((rd_nk (by decide)).trans h2.2.2.2.1))
    · intro k hk
      have t := h2.2.2.2.2.1 k hk
      unfold pRw at t ⊢
      rw [sI_ne (by decide), sI_ne (by decide), sI_ne (by decide)]
      rw [sI_ne (by decide), sI_ne (by decide), sI_ne (by decide)]
      rw [sI_ne (by decide), sI_ne (by decide), sI_ne (by decide)]
      rw [sI_ne (by decide), sI_ne (by decide), sI_ne (by decide)]
      rw [sI_ne (by decide), sI_ne (by decide), sI_ne (by decide)]
      exact t
    · intro k hk
      have := plc_le hR2 k hk
      omega
    · intro k M4 hk hbef hbd hF4
      obtain ⟨t1, t2, t3⟩ := F3 M4 hF4
      have := plc_le hR2 k hk
      exact ⟨_, M4, rfl, rfl, _, rfl, ⟨by omega, by omega⟩, t1, ((t2 2 (by decide) (by decide) (by decide) (by decide) (by decide) (by decide) (by decide) (by decide)).trans rd_eq), (hF4.2.1 4 (by decide) (by decide)).trans ((rd_nk (by decide)).trans ((rd_nk (by decide)).trans rd_eq)), .inr ⟨a2, ps2, ls2, hR2, .inl ⟨k, hk, hbef, hbd, rfl⟩⟩, .inl ⟨by omega, fun a g1 g2 => (t3 a g1 (by omega)).1, fun a g => (t3 a (by omega) (by omega)).2, ((t2 5 (by decide) (by decide) (by decide) (by decide) (by decide) (by decide) (by decide) (by decide)).trans (rd_nk (by decide))), ((t2 6 (by decide) (by decide) (by decide) (by decide) (by decide) (by decide) (by decide) (by decide)).trans (rd_nk (by decide))), ((t2 32 (by decide) (by decide) (by decide) (by decide) (by decide) (by decide) (by decide) (by decide)).trans (rd_nk (by decide))), ((t2 35 (by decide) (by decide) (by decide) (by decide) (by decide) (by decide) (by decide) (by decide)).trans (rd_nk (by decide)))⟩⟩
    · intro M4 hgs hF4 e572
      obtain ⟨t1, t2, t3⟩ := F3 M4 hF4
      have h13 : M4.1 572 13 = (ps2.length : Int) := by rw [e572]; exact (rd_nk (by decide)).trans ((rd_nk (by decide)).trans ((rd_nk (by decide)).trans h2.2.2.2.1))
      refine x_ld 0 1 2 78 rfl rfl rfl rfl rfl ?_
      refine x_cst (zi 1) 1 79 rfl rfl rfl ?_
      refine s_572_5 267 82 rfl rfl rfl rfl rfl rfl ?_
      refine x_ld 0 1 2 83 rfl rfl rfl rfl rfl ?_
      refine x_cst (zi (-1)) 1 84 rfl rfl rfl ?_
      refine s_572_32 78 87 rfl rfl rfl rfl rfl rfl ?_
      refine x_ld 0 1 2 88 rfl rfl rfl rfl rfl ?_
      refine x_cst (zi 0) 1 89 rfl rfl rfl ?_
      refine s_572_35 156 92 rfl rfl rfl rfl rfl rfl ?_
      refine x_ld 0 1 2 93 rfl rfl rfl rfl rfl ?_
      refine x_ld 0 1 2 94 rfl rfl rfl rfl rfl ?_
      refine g_572_13 168 97 rfl rfl ((rd_nk (Ne.symm (by decide))).trans ((rd_nk (Ne.symm (by decide))).trans ((rd_nk (Ne.symm (by decide))).trans h13))) rfl ?_
      refine s_572_6 271 100 rfl rfl rfl rfl rfl rfl ?_
      refine x_cst (zi 0) 1 101 rfl rfl rfl ?_
      refine x_st 2 1 0 102 [some (.ref 572), some (zi 1), some (zi 0)] rfl rfl rfl (Nat.le_of_ble_eq_true rfl) rfl rfl ?_
      refine c105_r (L := L) (xs := xs) (es := es) (M := (sI (sI (sI (sI M4 572 5 1) 572 32 (-1)) 572 35 0) 572 6 ((ps2.length : Nat) : Int))) d (n := ps2.length) (by omega) rd_eq ?_ _ 0 rfl (Nat.zero_le _) (sI (sI (sI (sI M4 572 5 1) 572 32 (-1)) 572 35 0) 572 6 ((ps2.length : Nat) : Int)) rfl (fun b _ => rfl) (fun k hk => absurd hk (Nat.not_lt_zero k))
      intro M6 e62 hb6 hr6
      refine x_cst (zi 0) 1 165 rfl rfl rfl ?_
      refine x_st 2 1 0 166 [some (.ref 572), some (zi 1), some (zi 0)] rfl rfl rfl (Nat.le_of_ble_eq_true rfl) rfl rfl ?_
      refine c105_b (L := L) (xs := xs) (es := es) (M := M6) d (n := ps2.length) (by omega) (by rw [hb6 572 (by decide)]; exact rd_eq) ?_ _ 0 rfl (Nat.zero_le _) M6 rfl rfl (fun b _ _ => rfl) (fun j h0 h1 => absurd h1 (by omega))
      intro M7 e71 e72 hb7 hj7
      have f7 : ∀ j, j ≠ 5 → j ≠ 32 → j ≠ 35 → j ≠ 6 → M7.1 572 j = M4.1 572 j := fun j g1 g2 g3 g4 => by rw [e71, hb6 572 (by decide)]; exact (rd_nk g4).trans ((rd_nk g3).trans ((rd_nk g2).trans (rd_nk g1)))
      have i7 : ∀ a, a ≠ 572 → ¬ (576 ≤ a ∧ a ≤ 579) → M7.1 a = M4.1 a := fun a g1 g2 => by rw [e71, hb6 a g2, sI_ne g1, sI_ne g1, sI_ne g1, sI_ne g1]
      have b7 : ∀ a, a ≠ 580 → a ≠ 581 → M7.2.1 a = M4.2.1 a := fun a g1 g2 => by rw [hb7 a g1 g2, e62]; rfl
      refine ⟨_, M7, rfl, rfl, 0, rfl, ⟨by omega, by omega⟩, ⟨fun a h => (i7 a (by omega) (by omega)).trans (t1.1 a h), (i7 595 (by decide) (by decide)).trans t1.2.1, fun a h => (b7 a (by omega) (by omega)).trans (t1.2.2.1 a h), by rw [e72, e62]; exact t1.2.2.2.1, (f7 34 (by decide) (by decide) (by decide) (by decide)).trans t1.2.2.2.2⟩, ?_, ?_, ?_, .inr ⟨rfl, ?_, ?_, ?_, a2, ps2, ls2, hR2, ?_, ?_⟩⟩
      · exact (f7 2 (by decide) (by decide) (by decide) (by decide)).trans ((t2 2 (by decide) (by decide) (by decide) (by decide) (by decide) (by decide) (by decide) (by decide)).trans rd_eq)
      · exact (f7 4 (by decide) (by decide) (by decide) (by decide)).trans ((hF4.2.1 4 (by decide) (by decide)).trans ((rd_nk (by decide)).trans ((rd_nk (by decide)).trans rd_eq)))
      · refine .inr ⟨a2, ps2, ls2, hR2, .inr ⟨fun j hj => (hgs j hj).1, rfl, ?_, ?_⟩⟩
        · exact (f7 30 (by decide) (by decide) (by decide) (by decide)).trans ((congrFun e572 _).trans ((rd_nk (by decide)).trans rd_eq))
        · exact (f7 31 (by decide) (by decide) (by decide) (by decide)).trans ((congrFun e572 _).trans rd_eq)
      · rw [e71, hb6 572 (by decide)]; exact (rd_nk (by decide)).trans ((rd_nk (by decide)).trans ((rd_nk (by decide)).trans rd_eq))
      · rw [e71, hb6 572 (by decide)]; exact (rd_nk (by decide)).trans ((rd_nk (by decide)).trans rd_eq)
      · rw [e71, hb6 572 (by decide)]; exact (rd_nk (by decide)).trans rd_eq
      · refine ⟨by omega, fun k hk => ?_⟩
        have tw := hi2.2.2.2.2.2.2.1 k hk
        have tg := hgs k hk
        have tr := h2.2.2.2.2.1 k hk
        have r7 := hr6 k hk
        have c4 : ∀ a, 582 ≤ a → a ≤ 585 → (sI (sI (sI (sI M4 572 5 1) 572 32 (-1)) 572 35 0) 572 6 ((ps2.length : Nat) : Int)).1 a = M2.1 a := fun a g1 g2 => by rw [sI_ne (by omega), sI_ne (by omega), sI_ne (by omega), sI_ne (by omega), hF4.1 a (by omega) (by omega), sI_ne (by omega), sI_ne (by omega), sI_ne (by omega)]
        rw [c4 582 (by decide) (by decide), c4 583 (by decide) (by decide), c4 584 (by decide) (by decide), c4 585 (by decide) (by decide)] at r7
        refine ⟨tw, tg.1, by rw [e71, r7.1]; exact tr.1, by rw [e71, r7.2.1]; exact tr.2.1, by rw [e71, r7.2.2.1]; exact tr.2.2.1, fun h3 => by rw [e71, r7.2.2.2]; exact tr.2.2.2.1 h3, fun u hu => ?_, fun u hu => ?_⟩
        · rw [← tg.2.1 u hu]; show M7.2.1 580 (1152 * (k : Int) + (u : Int)) = M4.2.1 587 (1152 * (k : Int) + (u : Int)); rw [(hj7 _ (by omega) (by omega)).1, e62]; rfl
        · rw [← tg.2.2 u hu]; show M7.2.1 581 (1152 * (k : Int) + (u : Int)) = M4.2.1 588 (1152 * (k : Int) + (u : Int)); rw [(hj7 _ (by omega) (by omega)).2, e62]; rfl
      · rw [e71, hb6 572 (by decide)]; exact rd_eq
end C42
