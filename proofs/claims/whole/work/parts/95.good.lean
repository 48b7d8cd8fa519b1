/-! OURS, printed by wip/tools/gen95.py: the reference's isGood. -/
/-- kinds and letters as the reference writes them -/
def mKd (K T : Nat) : Int := match K with
  | 0 => if T = 0 then 1 else 0
  | 1 => 2
  | 2 => 3
  | 3 => 6
  | 4 => 7
  | 5 => 4
  | 6 => 5
  | 7 => 8
  | _ => 9
def mLt (T : Nat) : Int := if T = 0 then 4 else (T : Int) - 1
def FG (k : Nat) (M M' : mm) : Prop := (∀ b, b ≠ 589 → b ≠ 572 → M'.1 b = M.1 b) ∧ (∀ j, j ≠ 30 → j ≠ 31 → M'.1 572 j = M.1 572 j) ∧ M'.2.2 = M.2.2 ∧ (∀ b, b ≠ 587 → b ≠ 588 → M'.2.1 b = M.2.1 b) ∧ (∀ c, c = 587 ∨ c = 588 → ∀ j : Int, (j < 1152 * (k : Int) ∨ 1152 * (k : Int) + 1152 ≤ j) → M'.2.1 c j = M.2.1 c j)
theorem FG_of {k : Nat} {M M' : mm} (h : Fe k M M') : FG k M M' := ⟨fun b h1 _ => h.1 b h1, fun j _ _ => by rw [h.1 572 (by decide)], h.2.1, h.2.2.1, h.2.2.2⟩
theorem FG_put {k : Nat} {M M' : mm} (h : Fe k M M') (f d : Int) : FG k M (sI (sI M' 572 31 d) 572 30 f) := by
  refine ⟨fun b h1 h2 => ?_, fun j h1 h2 => ?_, h.2.1, h.2.2.1, h.2.2.2⟩
  · rw [sI_ne h2, sI_ne h2]; exact h.1 b h1
  · rw [rd_nk h1, rd_nk h2, h.1 572 (by decide)]
/-- what isGood comes to -/
def gO (k K T : Nat) (Sl Sr Vl Vr : Nat → Bool) (M : mm) (v : Option Value) (M' : mm) : Prop := ∃ f d, v = some (zi (bz (decide (f = (0 : Int))))) ∧ stO K T Sl Sr Vl Vr f d (fun j => M'.2.1 587 (1152 * (k : Int) + j)) (fun j => M'.2.1 588 (1152 * (k : Int) + j)) ∧ FG k M M' ∧ (f = 0 → M'.1 572 = M.1 572) ∧ (¬ f = 0 → M'.1 572 30 = f ∧ M'.1 572 31 = d)
theorem Fe_cl {c k : Nat} (hc : c = 587 ∨ c = 588) (M : mm) : Fe k M (rB M c (clP (M.2.1 c) k 18)) := by
  refine Fe_of hc ⟨fun _ _ => rfl, rfl, fun b hb => rB_ne hb, fun j hj => ?_⟩
  rw [rB_at]
  unfold clP
  rw [if_neg (by omega)]
/-- words copied from part l to part k -/
def cpP (B : Int → Bool) (k l n : Nat) : Int → Bool := fun j => if 1152 * (k : Int) ≤ j ∧ j < 1152 * (k : Int) + 64 * (n : Int) then B (j - 1152 * (k : Int) + 1152 * (l : Int)) else B j
theorem upw_cpP (B : Int → Bool) {k l n : Nat} (hkl : l ≠ k) (hn : n < 18) : upw (cpP B k l n) (18 * (k : Int) + (n : Int)) (fun i => cpP B k l n (64 * (18 * (l : Int) + (n : Int)) + (i : Int))) = cpP B k l (n + 1) := by
  funext j
  unfold upw
  by_cases h : 64 * (18 * (k : Int) + (n : Int)) ≤ j ∧ j < 64 * (18 * (k : Int) + (n : Int)) + 64
  · rw [if_pos h]
    show cpP B k l n (64 * (18 * (l : Int) + (n : Int)) + ((j - 64 * (18 * (k : Int) + (n : Int))).toNat : Int)) = _
    unfold cpP
    rw [if_neg (by omega), if_pos (by omega)]
    congr 1
    omega
  · rw [if_neg h]
    unfold cpP
    by_cases h2 : 1152 * (k : Int) ≤ j ∧ j < 1152 * (k : Int) + 64 * (n : Int)
    · rw [if_pos h2, if_pos (by omega)]
    · rw [if_neg h2, if_neg (by omega)]
theorem cpP_0 (B : Int → Bool) (k l : Nat) : cpP B k l 0 = B := by
  funext j; unfold cpP; rw [if_neg (by omega)]
section D5
variable {L : Nat} {xs : Nat → Int32} {M : mm} {es : ab_H}
theorem c120 (d : Nat) {k K T : Nat} (hk : k < 32) (hK : K < 3) (hT : T ≤ 3) (hT1 : K = 2 → 1 ≤ T) (hkd : M.1 582 (k : Int) = mKd K T) (hlt : M.1 585 (k : Int) = mLt T) (hc1 : ∀ u : Nat, u < 1152 → M.2.1 587 (1152 * (k : Int) + (u : Int)) = false) (hc2 : ∀ u : Nat, u < 1152 → M.2.1 588 (1152 * (k : Int) + (u : Int)) = false) : ab_Z (pg_G L xs) (d + 2) 120 [.ref 572, zi (k : Nat)] M es (fun v M' => v = none ∧ Fe k M M' ∧ ∀ u : Nat, u < 1152 → (M'.2.1 587 (1152 * (k : Int) + (u : Int)) = true ↔ sS K T (fun _ => false) (fun _ => false) u) ∧ (M'.2.1 588 (1152 * (k : Int) + (u : Int)) = true ↔ sV K T (fun _ => false) (fun _ => false) u)) := by
  match K, T, hK, hT, hT1 with
  | 0, 0, _, _, _ => exact c120_0_0 d hk hkd hlt hc1 hc2
  | 0, 1, _, _, _ => exact c120_0_1 d hk hkd hlt hc1 hc2
  | 0, 2, _, _, _ => exact c120_0_2 d hk hkd hlt hc1 hc2
  | 0, 3, _, _, _ => exact c120_0_3 d hk hkd hlt hc1 hc2
  | 1, 0, _, _, _ => exact c120_1_0 d hk hkd hlt hc1 hc2
  | 1, 1, _, _, _ => exact c120_1_1 d hk hkd hlt hc1 hc2
  | 1, 2, _, _, _ => exact c120_1_2 d hk hkd hlt hc1 hc2
  | 1, 3, _, _, _ => exact c120_1_3 d hk hkd hlt hc1 hc2
  | 2, 0, _, _, h => exact absurd (h rfl) (by decide)
  | 2, 1, _, _, _ => exact c120_2_1 d hk hkd hlt hc1 hc2
  | 2, 2, _, _, _ => exact c120_2_2 d hk hkd hlt hc1 hc2
  | 2, 3, _, _, _ => exact c120_2_3 d hk hkd hlt hc1 hc2
  | n + 3, _, h, _, _ => exact absurd h (by omega)
  | _, n + 4, _, h, _ => exact absurd h (by omega)
theorem lst_rgN {D : Nat → Prop} {n : Nat} {x : Int} (h : lst (fun u => u < n ∧ D u) x) : -1 ≤ x ∧ x < n ∨ x = -1 := by
  rcases h with ⟨h1, _⟩ | ⟨t, h1, h2, _⟩
  · exact .inr h1
  · have := h2.1
    exact .inl (by omega)
theorem Fe_572' {k : Nat} {M M' : mm} (h : Fe k M M') : M'.1 572 = M.1 572 := h.1 572 (by decide)
theorem c118_0 (d : Nat) {k l r : Nat} (hk : k < 32) {T : Nat} (hT : T ≤ 3) (hT1 : 0 = 2 → 1 ≤ T) (hlt : M.1 585 (k : Int) = mLt T) (hkd : M.1 582 (k : Int) = mKd 0 T) (hl : M.1 583 (k : Int) = -1) (hr : M.1 584 (k : Int) = -1) : ab_Z (pg_G L xs) (d + 5) 118 [.ref 572, zi (k : Nat)] M es (gO k 0 T (mS (M.2.1 587) l) (mS (M.2.1 587) r) (mS (M.2.1 588) l) (mS (M.2.1 588) r) M) := by
  have hmv : mKd 0 T = (if T = 0 then 1 else 0) := rfl
  have hmk : rg (mKd 0 T) := by rw [hmv]; split <;> exact ⟨by decide, by decide⟩
  have hm2 : mKd 0 T < 4 := by rw [hmv]; split <;> decide
  have F2 : Fe k M (rB (rB M 587 (clP (M.2.1 587) k 18)) 588 (clP ((rB M 587 (clP (M.2.1 587) k 18)).2.1 588) k 18)) := Fe_trans (Fe_cl (.inl rfl) M) (Fe_cl (.inr rfl) _)
  have hc1 : ∀ u : Nat, u < 1152 → (rB (rB M 587 (clP (M.2.1 587) k 18)) 588 (clP ((rB M 587 (clP (M.2.1 587) k 18)).2.1 588) k 18)).2.1 587 (1152 * (k : Int) + (u : Int)) = false := by
    intro u hu
    rw [rB_ne (by decide), rB_at]; unfold clP; rw [if_pos (by omega)]
  have hc2 : ∀ u : Nat, u < 1152 → (rB (rB M 587 (clP (M.2.1 587) k 18)) 588 (clP ((rB M 587 (clP (M.2.1 587) k 18)).2.1 588) k 18)).2.1 588 (1152 * (k : Int) + (u : Int)) = false := by
    intro u hu
    rw [rB_at]; unfold clP; rw [if_pos (by omega)]
  show ab_W (pg_G L xs) (ab_X (pg_G L xs) (d + 4)) 118 _ 0 [some (.ref 572), some (zi ((k : Nat) : Int)), none, none, none, none, none, none] [] (hp M ++ es)
  refine x_ld 0 1 2 1 rfl rfl rfl rfl rfl ?_
  refine g_572_14 38 4 rfl rfl rfl ?_
  refine x_ld 1 1 0 5 rfl rfl rfl rfl rfl ?_
  refine z_ild (mKd 0 T) 6 rfl i_582 rfl ⟨by omega, by omega⟩ hkd rfl ?_
  refine x_st 2 1 0 7 [some (.ref 572), some (zi ((k : Nat) : Int)), some (zi (mKd 0 T)), none, none, none, none, none] rfl rfl rfl (Nat.le_of_ble_eq_true rfl) rfl rfl ?_
  refine x_ld 0 1 2 8 rfl rfl rfl rfl rfl ?_
  refine g_572_15 41 11 rfl rfl rfl ?_
  refine x_ld 1 1 0 12 rfl rfl rfl rfl rfl ?_
  refine z_ild (-1) 13 rfl i_583 rfl ⟨by omega, by omega⟩ hl rfl ?_
  refine x_st 3 1 0 14 [some (.ref 572), some (zi ((k : Nat) : Int)), some (zi (mKd 0 T)), some (zi (-1)), none, none, none, none] rfl rfl rfl (Nat.le_of_ble_eq_true rfl) rfl rfl ?_
  refine x_ld 0 1 2 15 rfl rfl rfl rfl rfl ?_
  refine g_572_16 44 18 rfl rfl rfl ?_
  refine x_ld 1 1 0 19 rfl rfl rfl rfl rfl ?_
  refine z_ild (-1) 20 rfl i_584 rfl ⟨by omega, by omega⟩ hr rfl ?_
  refine x_st 4 2 0 22 [some (.ref 572), some (zi ((k : Nat) : Int)), some (zi (mKd 0 T)), some (zi (-1)), some (zi (-1)), none, none, none] rfl rfl rfl (Nat.le_of_ble_eq_true rfl) rfl rfl ?_
  refine x_ld 0 1 2 23 rfl rfl rfl rfl rfl ?_
  refine x_ld 0 1 2 24 rfl rfl rfl rfl rfl ?_
  refine g_572_19 53 27 rfl rfl rfl ?_
  refine x_ld 1 1 0 28 rfl rfl rfl rfl rfl ?_
  refine x_cv 239 119 31 [.ref 572, .ref 587, zi ((k : Nat) : Int)] rfl rfl rfl (Nat.le_of_ble_eq_true rfl) rfl rfl (Nat.le_of_ble_eq_true rfl) ⟨_, _, _, rfl, o_572⟩ (Nat.le_of_ble_eq_true rfl) (c119 (d + 3) i_587 (by omega)) rfl ?_
  refine x_ld 0 1 2 32 rfl rfl rfl rfl rfl ?_
  refine x_ld 0 1 2 33 rfl rfl rfl rfl rfl ?_
  refine g_572_20 56 36 rfl rfl rfl ?_
  refine x_ld 1 1 0 37 rfl rfl rfl rfl rfl ?_
  refine x_cv 239 119 40 [.ref 572, .ref 588, zi ((k : Nat) : Int)] rfl rfl rfl (Nat.le_of_ble_eq_true rfl) rfl rfl (Nat.le_of_ble_eq_true rfl) ⟨_, _, _, rfl, o_572⟩ (Nat.le_of_ble_eq_true rfl) (c119 (M := (rB M 587 (clP (M.2.1 587) k 18))) (d + 3) i_588 (by omega)) rfl ?_
  refine x_cst (zi (-1)) 1 41 rfl rfl rfl ?_
  refine x_st 5 2 0 43 [some (.ref 572), some (zi ((k : Nat) : Int)), some (zi (mKd 0 T)), some (zi (-1)), some (zi (-1)), some (zi (-1)), none, none] rfl rfl rfl (Nat.le_of_ble_eq_true rfl) rfl rfl ?_
  refine x_cst (zi (-1)) 1 44 rfl rfl rfl ?_
  refine x_st 6 2 0 46 [some (.ref 572), some (zi ((k : Nat) : Int)), some (zi (mKd 0 T)), some (zi (-1)), some (zi (-1)), some (zi (-1)), some (zi (-1)), none] rfl rfl rfl (Nat.le_of_ble_eq_true rfl) rfl rfl ?_
  refine x_ld 2 1 0 47 rfl rfl rfl rfl rfl ?_
  refine x_cst (zi 4) 1 48 rfl rfl rfl ?_
  refine z_icge 59 51 rfl rfl rfl hmk (rg_lit 4 rfl) (fun c => absurd c (by omega)) (fun _ => ?_)
  refine x_ld 0 1 2 52 rfl rfl rfl rfl rfl ?_
  refine x_ld 1 1 0 53 rfl rfl rfl rfl rfl ?_
  refine x_ce 243 120 56 [.ref 572, zi ((k : Nat) : Int)] rfl rfl rfl (Nat.le_of_ble_eq_true rfl) rfl rfl (Nat.le_of_ble_eq_true rfl) ⟨_, _, _, rfl, o_572⟩ (Nat.le_of_ble_eq_true rfl) (c120 (M := (rB (rB M 587 (clP (M.2.1 587) k 18)) 588 (clP ((rB M 587 (clP (M.2.1 587) k 18)).2.1 588) k 18))) (d + 2) hk (K := 0) (by decide) hT hT1 hkd hlt hc1 hc2) rfl ?_
  rintro v M3 ⟨rfl, F3, hs⟩
  refine x_go 238 rfl rfl ?_
  refine x_ld 5 2 0 240 rfl rfl rfl rfl rfl ?_
  refine z_ifge 250 243 rfl rfl rfl (rg_lit (-1) rfl) (fun c => absurd c (by decide)) (fun _ => ?_)
  refine x_ld 6 2 0 245 rfl rfl rfl rfl rfl ?_
  refine z_ifge 250 248 rfl rfl rfl (rg_lit (-1) rfl) (fun c => absurd c (by decide)) (fun _ => ?_)
  refine x_cst (zi 1) 1 249 rfl rfl rfl ?_
  refine x_ret rfl rfl rfl rfl ?_
  exact ⟨_, M3, rfl, rfl, 0, -1, rfl, .inr (.inr ⟨fun _ e => e, fun _ e => e, rfl, rfl, fun t ht => hs t ht⟩), FG_of (Fe_trans F2 F3), fun _ => Fe_572' (Fe_trans F2 F3), fun e => absurd rfl e⟩
theorem c118_1 (d : Nat) {k l r : Nat} (hk : k < 32) {T : Nat} (hT : T ≤ 3) (hT1 : 1 = 2 → 1 ≤ T) (hlt : M.1 585 (k : Int) = mLt T) (hkd : M.1 582 (k : Int) = 2) (hl : M.1 583 (k : Int) = -1) (hr : M.1 584 (k : Int) = -1) : ab_Z (pg_G L xs) (d + 5) 118 [.ref 572, zi (k : Nat)] M es (gO k 1 T (mS (M.2.1 587) l) (mS (M.2.1 587) r) (mS (M.2.1 588) l) (mS (M.2.1 588) r) M) := by
  have F2 : Fe k M (rB (rB M 587 (clP (M.2.1 587) k 18)) 588 (clP ((rB M 587 (clP (M.2.1 587) k 18)).2.1 588) k 18)) := Fe_trans (Fe_cl (.inl rfl) M) (Fe_cl (.inr rfl) _)
  have hc1 : ∀ u : Nat, u < 1152 → (rB (rB M 587 (clP (M.2.1 587) k 18)) 588 (clP ((rB M 587 (clP (M.2.1 587) k 18)).2.1 588) k 18)).2.1 587 (1152 * (k : Int) + (u : Int)) = false := by
    intro u hu
    rw [rB_ne (by decide), rB_at]; unfold clP; rw [if_pos (by omega)]
  have hc2 : ∀ u : Nat, u < 1152 → (rB (rB M 587 (clP (M.2.1 587) k 18)) 588 (clP ((rB M 587 (clP (M.2.1 587) k 18)).2.1 588) k 18)).2.1 588 (1152 * (k : Int) + (u : Int)) = false := by
    intro u hu
    rw [rB_at]; unfold clP; rw [if_pos (by omega)]
  show ab_W (pg_G L xs) (ab_X (pg_G L xs) (d + 4)) 118 _ 0 [some (.ref 572), some (zi ((k : Nat) : Int)), none, none, none, none, none, none] [] (hp M ++ es)
  refine x_ld 0 1 2 1 rfl rfl rfl rfl rfl ?_
  refine g_572_14 38 4 rfl rfl rfl ?_
  refine x_ld 1 1 0 5 rfl rfl rfl rfl rfl ?_
  refine z_ild 2 6 rfl i_582 rfl ⟨by omega, by omega⟩ hkd rfl ?_
  refine x_st 2 1 0 7 [some (.ref 572), some (zi ((k : Nat) : Int)), some (zi 2), none, none, none, none, none] rfl rfl rfl (Nat.le_of_ble_eq_true rfl) rfl rfl ?_
  refine x_ld 0 1 2 8 rfl rfl rfl rfl rfl ?_
  refine g_572_15 41 11 rfl rfl rfl ?_
  refine x_ld 1 1 0 12 rfl rfl rfl rfl rfl ?_
  refine z_ild (-1) 13 rfl i_583 rfl ⟨by omega, by omega⟩ hl rfl ?_
  refine x_st 3 1 0 14 [some (.ref 572), some (zi ((k : Nat) : Int)), some (zi 2), some (zi (-1)), none, none, none, none] rfl rfl rfl (Nat.le_of_ble_eq_true rfl) rfl rfl ?_
  refine x_ld 0 1 2 15 rfl rfl rfl rfl rfl ?_
  refine g_572_16 44 18 rfl rfl rfl ?_
  refine x_ld 1 1 0 19 rfl rfl rfl rfl rfl ?_
  refine z_ild (-1) 20 rfl i_584 rfl ⟨by omega, by omega⟩ hr rfl ?_
  refine x_st 4 2 0 22 [some (.ref 572), some (zi ((k : Nat) : Int)), some (zi 2), some (zi (-1)), some (zi (-1)), none, none, none] rfl rfl rfl (Nat.le_of_ble_eq_true rfl) rfl rfl ?_
  refine x_ld 0 1 2 23 rfl rfl rfl rfl rfl ?_
  refine x_ld 0 1 2 24 rfl rfl rfl rfl rfl ?_
  refine g_572_19 53 27 rfl rfl rfl ?_
  refine x_ld 1 1 0 28 rfl rfl rfl rfl rfl ?_
  refine x_cv 239 119 31 [.ref 572, .ref 587, zi ((k : Nat) : Int)] rfl rfl rfl (Nat.le_of_ble_eq_true rfl) rfl rfl (Nat.le_of_ble_eq_true rfl) ⟨_, _, _, rfl, o_572⟩ (Nat.le_of_ble_eq_true rfl) (c119 (d + 3) i_587 (by omega)) rfl ?_
  refine x_ld 0 1 2 32 rfl rfl rfl rfl rfl ?_
  refine x_ld 0 1 2 33 rfl rfl rfl rfl rfl ?_
  refine g_572_20 56 36 rfl rfl rfl ?_
  refine x_ld 1 1 0 37 rfl rfl rfl rfl rfl ?_
  refine x_cv 239 119 40 [.ref 572, .ref 588, zi ((k : Nat) : Int)] rfl rfl rfl (Nat.le_of_ble_eq_true rfl) rfl rfl (Nat.le_of_ble_eq_true rfl) ⟨_, _, _, rfl, o_572⟩ (Nat.le_of_ble_eq_true rfl) (c119 (M := (rB M 587 (clP (M.2.1 587) k 18))) (d + 3) i_588 (by omega)) rfl ?_
  refine x_cst (zi (-1)) 1 41 rfl rfl rfl ?_
  refine x_st 5 2 0 43 [some (.ref 572), some (zi ((k : Nat) : Int)), some (zi 2), some (zi (-1)), some (zi (-1)), some (zi (-1)), none, none] rfl rfl rfl (Nat.le_of_ble_eq_true rfl) rfl rfl ?_
  refine x_cst (zi (-1)) 1 44 rfl rfl rfl ?_
  refine x_st 6 2 0 46 [some (.ref 572), some (zi ((k : Nat) : Int)), some (zi 2), some (zi (-1)), some (zi (-1)), some (zi (-1)), some (zi (-1)), none] rfl rfl rfl (Nat.le_of_ble_eq_true rfl) rfl rfl ?_
  refine x_ld 2 1 0 47 rfl rfl rfl rfl rfl ?_
  refine x_cst (zi 4) 1 48 rfl rfl rfl ?_
  refine z_icge 59 51 rfl rfl rfl (rg_lit 2 rfl) (rg_lit 4 rfl) (fun c => absurd c (by decide)) (fun _ => ?_)
  refine x_ld 0 1 2 52 rfl rfl rfl rfl rfl ?_
  refine x_ld 1 1 0 53 rfl rfl rfl rfl rfl ?_
  refine x_ce 243 120 56 [.ref 572, zi ((k : Nat) : Int)] rfl rfl rfl (Nat.le_of_ble_eq_true rfl) rfl rfl (Nat.le_of_ble_eq_true rfl) ⟨_, _, _, rfl, o_572⟩ (Nat.le_of_ble_eq_true rfl) (c120 (M := (rB (rB M 587 (clP (M.2.1 587) k 18)) 588 (clP ((rB M 587 (clP (M.2.1 587) k 18)).2.1 588) k 18))) (d + 2) hk (K := 1) (by decide) hT hT1 hkd hlt hc1 hc2) rfl ?_
  rintro v M3 ⟨rfl, F3, hs⟩
  refine x_go 238 rfl rfl ?_
  refine x_ld 5 2 0 240 rfl rfl rfl rfl rfl ?_
  refine z_ifge 250 243 rfl rfl rfl (rg_lit (-1) rfl) (fun c => absurd c (by decide)) (fun _ => ?_)
  refine x_ld 6 2 0 245 rfl rfl rfl rfl rfl ?_
  refine z_ifge 250 248 rfl rfl rfl (rg_lit (-1) rfl) (fun c => absurd c (by decide)) (fun _ => ?_)
  refine x_cst (zi 1) 1 249 rfl rfl rfl ?_
  refine x_ret rfl rfl rfl rfl ?_
  exact ⟨_, M3, rfl, rfl, 0, -1, rfl, .inr (.inr ⟨fun _ e => e, fun _ e => e, rfl, rfl, fun t ht => hs t ht⟩), FG_of (Fe_trans F2 F3), fun _ => Fe_572' (Fe_trans F2 F3), fun e => absurd rfl e⟩
theorem c118_2 (d : Nat) {k l r : Nat} (hk : k < 32) {T : Nat} (hT : T ≤ 3) (hT1 : 2 = 2 → 1 ≤ T) (hlt : M.1 585 (k : Int) = mLt T) (hkd : M.1 582 (k : Int) = 3) (hl : M.1 583 (k : Int) = -1) (hr : M.1 584 (k : Int) = -1) : ab_Z (pg_G L xs) (d + 5) 118 [.ref 572, zi (k : Nat)] M es (gO k 2 T (mS (M.2.1 587) l) (mS (M.2.1 587) r) (mS (M.2.1 588) l) (mS (M.2.1 588) r) M) := by
  have F2 : Fe k M (rB (rB M 587 (clP (M.2.1 587) k 18)) 588 (clP ((rB M 587 (clP (M.2.1 587) k 18)).2.1 588) k 18)) := Fe_trans (Fe_cl (.inl rfl) M) (Fe_cl (.inr rfl) _)
  have hc1 : ∀ u : Nat, u < 1152 → (rB (rB M 587 (clP (M.2.1 587) k 18)) 588 (clP ((rB M 587 (clP (M.2.1 587) k 18)).2.1 588) k 18)).2.1 587 (1152 * (k : Int) + (u : Int)) = false := by
    intro u hu
    rw [rB_ne (by decide), rB_at]; unfold clP; rw [if_pos (by omega)]
  have hc2 : ∀ u : Nat, u < 1152 → (rB (rB M 587 (clP (M.2.1 587) k 18)) 588 (clP ((rB M 587 (clP (M.2.1 587) k 18)).2.1 588) k 18)).2.1 588 (1152 * (k : Int) + (u : Int)) = false := by
    intro u hu
    rw [rB_at]; unfold clP; rw [if_pos (by omega)]
  show ab_W (pg_G L xs) (ab_X (pg_G L xs) (d + 4)) 118 _ 0 [some (.ref 572), some (zi ((k : Nat) : Int)), none, none, none, none, none, none] [] (hp M ++ es)
  refine x_ld 0 1 2 1 rfl rfl rfl rfl rfl ?_
  refine g_572_14 38 4 rfl rfl rfl ?_
  refine x_ld 1 1 0 5 rfl rfl rfl rfl rfl ?_
  refine z_ild 3 6 rfl i_582 rfl ⟨by omega, by omega⟩ hkd rfl ?_
  refine x_st 2 1 0 7 [some (.ref 572), some (zi ((k : Nat) : Int)), some (zi 3), none, none, none, none, none] rfl rfl rfl (Nat.le_of_ble_eq_true rfl) rfl rfl ?_
  refine x_ld 0 1 2 8 rfl rfl rfl rfl rfl ?_
  refine g_572_15 41 11 rfl rfl rfl ?_
  refine x_ld 1 1 0 12 rfl rfl rfl rfl rfl ?_
  refine z_ild (-1) 13 rfl i_583 rfl ⟨by omega, by omega⟩ hl rfl ?_
  refine x_st 3 1 0 14 [some (.ref 572), some (zi ((k : Nat) : Int)), some (zi 3), some (zi (-1)), none, none, none, none] rfl rfl rfl (Nat.le_of_ble_eq_true rfl) rfl rfl ?_
  refine x_ld 0 1 2 15 rfl rfl rfl rfl rfl ?_
  refine g_572_16 44 18 rfl rfl rfl ?_
  refine x_ld 1 1 0 19 rfl rfl rfl rfl rfl ?_
  refine z_ild (-1) 20 rfl i_584 rfl ⟨by omega, by omega⟩ hr rfl ?_
  refine x_st 4 2 0 22 [some (.ref 572), some (zi ((k : Nat) : Int)), some (zi 3), some (zi (-1)), some (zi (-1)), none, none, none] rfl rfl rfl (Nat.le_of_ble_eq_true rfl) rfl rfl ?_
  refine x_ld 0 1 2 23 rfl rfl rfl rfl rfl ?_
  refine x_ld 0 1 2 24 rfl rfl rfl rfl rfl ?_
  refine g_572_19 53 27 rfl rfl rfl ?_
  refine x_ld 1 1 0 28 rfl rfl rfl rfl rfl ?_
  refine x_cv 239 119 31 [.ref 572, .ref 587, zi ((k : Nat) : Int)] rfl rfl rfl (Nat.le_of_ble_eq_true rfl) rfl rfl (Nat.le_of_ble_eq_true rfl) ⟨_, _, _, rfl, o_572⟩ (Nat.le_of_ble_eq_true rfl) (c119 (d + 3) i_587 (by omega)) rfl ?_
  refine x_ld 0 1 2 32 rfl rfl rfl rfl rfl ?_
  refine x_ld 0 1 2 33 rfl rfl rfl rfl rfl ?_
  refine g_572_20 56 36 rfl rfl rfl ?_
  refine x_ld 1 1 0 37 rfl rfl rfl rfl rfl ?_
  refine x_cv 239 119 40 [.ref 572, .ref 588, zi ((k : Nat) : Int)] rfl rfl rfl (Nat.le_of_ble_eq_true rfl) rfl rfl (Nat.le_of_ble_eq_true rfl) ⟨_, _, _, rfl, o_572⟩ (Nat.le_of_ble_eq_true rfl) (c119 (M := (rB M 587 (clP (M.2.1 587) k 18))) (d + 3) i_588 (by omega)) rfl ?_
  refine x_cst (zi (-1)) 1 41 rfl rfl rfl ?_
  refine x_st 5 2 0 43 [some (.ref 572), some (zi ((k : Nat) : Int)), some (zi 3), some (zi (-1)), some (zi (-1)), some (zi (-1)), none, none] rfl rfl rfl (Nat.le_of_ble_eq_true rfl) rfl rfl ?_
  refine x_cst (zi (-1)) 1 44 rfl rfl rfl ?_
  refine x_st 6 2 0 46 [some (.ref 572), some (zi ((k : Nat) : Int)), some (zi 3), some (zi (-1)), some (zi (-1)), some (zi (-1)), some (zi (-1)), none] rfl rfl rfl (Nat.le_of_ble_eq_true rfl) rfl rfl ?_
  refine x_ld 2 1 0 47 rfl rfl rfl rfl rfl ?_
  refine x_cst (zi 4) 1 48 rfl rfl rfl ?_
  refine z_icge 59 51 rfl rfl rfl (rg_lit 3 rfl) (rg_lit 4 rfl) (fun c => absurd c (by decide)) (fun _ => ?_)
  refine x_ld 0 1 2 52 rfl rfl rfl rfl rfl ?_
  refine x_ld 1 1 0 53 rfl rfl rfl rfl rfl ?_
  refine x_ce 243 120 56 [.ref 572, zi ((k : Nat) : Int)] rfl rfl rfl (Nat.le_of_ble_eq_true rfl) rfl rfl (Nat.le_of_ble_eq_true rfl) ⟨_, _, _, rfl, o_572⟩ (Nat.le_of_ble_eq_true rfl) (c120 (M := (rB (rB M 587 (clP (M.2.1 587) k 18)) 588 (clP ((rB M 587 (clP (M.2.1 587) k 18)).2.1 588) k 18))) (d + 2) hk (K := 2) (by decide) hT hT1 hkd hlt hc1 hc2) rfl ?_
  rintro v M3 ⟨rfl, F3, hs⟩
  refine x_go 238 rfl rfl ?_
  refine x_ld 5 2 0 240 rfl rfl rfl rfl rfl ?_
  refine z_ifge 250 243 rfl rfl rfl (rg_lit (-1) rfl) (fun c => absurd c (by decide)) (fun _ => ?_)
  refine x_ld 6 2 0 245 rfl rfl rfl rfl rfl ?_
  refine z_ifge 250 248 rfl rfl rfl (rg_lit (-1) rfl) (fun c => absurd c (by decide)) (fun _ => ?_)
  refine x_cst (zi 1) 1 249 rfl rfl rfl ?_
  refine x_ret rfl rfl rfl rfl ?_
  exact ⟨_, M3, rfl, rfl, 0, -1, rfl, .inr (.inr ⟨fun _ e => e, fun _ e => e, rfl, rfl, fun t ht => hs t ht⟩), FG_of (Fe_trans F2 F3), fun _ => Fe_572' (Fe_trans F2 F3), fun e => absurd rfl e⟩
theorem Fe_572 {k : Nat} {M M' : mm} (h : Fe k M M') : M'.1 572 = M.1 572 := h.1 572 (by decide)
theorem Fe_cp (M : mm) (k l : Nat) : Fe k M (rB (rB M 587 (cpP (M.2.1 587) k l 18)) 588 (cpP (M.2.1 588) k l 18)) := by
  refine ⟨fun _ _ => rfl, rfl, fun b h1 h2 => by rw [rB_ne h2, rB_ne h1], fun c hc j hj => ?_⟩
  rcases hc with rfl | rfl
  · rw [rB_ne (by decide), rB_at]; unfold cpP; rw [if_neg (by omega)]
  · rw [rB_at]; unfold cpP; rw [if_neg (by omega)]
theorem c118_3l (d : Nat) {k l : Nat} (hk : k < 32) (l32 : l < 32) (lk : l ≠ k) {Q : ab_Q} (kk : Q (.inl (some (zi 1))) (hp (rB (rB M 587 (cpP (M.2.1 587) k l 18)) 588 (cpP (M.2.1 588) k l 18)) ++ es)) : ∀ m n : Nat, 18 - n = m → n ≤ 18 → ab_W (pg_G L xs) (ab_X (pg_G L xs) d) 118 Q 68 [some (.ref 572), some (zi (k : Nat)), some (zi 6), some (zi (l : Nat)), some (zi (-1)), some (zi (-1)), some (zi (-1)), some (zi (n : Nat))] [] (hp (rB (rB M 587 (cpP (M.2.1 587) k l n)) 588 (cpP (M.2.1 588) k l n)) ++ es) := by
  intro m
  induction m using Nat.strongRecOn with
  | _ m ih =>
    intro n hm hn
    refine x_ld 7 2 0 70 rfl rfl rfl rfl rfl ?_
    refine x_cst (zi 18) 2 72 rfl rfl rfl ?_
    refine z_icge 129 75 rfl rfl rfl ⟨by omega, by omega⟩ (rg_lit 18 rfl) (fun c72 => ?_) (fun c72 => ?_)
    · refine x_go 238 rfl rfl ?_
      refine x_ld 5 2 0 240 rfl rfl rfl rfl rfl ?_
      refine z_ifge 250 243 rfl rfl rfl (rg_lit (-1) rfl) (fun c => absurd c (by decide)) (fun _ => ?_)
      refine x_ld 6 2 0 245 rfl rfl rfl rfl rfl ?_
      refine z_ifge 250 248 rfl rfl rfl (rg_lit (-1) rfl) (fun c => absurd c (by decide)) (fun _ => ?_)
      refine x_cst (zi 1) 1 249 rfl rfl rfl ?_
      refine x_ret rfl rfl rfl rfl ?_
      have e : n = 18 := by omega
      subst e; exact kk
    · refine x_ld 0 1 2 76 rfl rfl rfl rfl rfl ?_
      refine g_572_19 53 79 rfl rfl rfl ?_
      refine x_cst (zi 18) 2 81 rfl rfl rfl ?_
      refine x_ld 1 1 0 82 rfl rfl rfl rfl rfl ?_
      refine z_mul 83 rfl rfl ?_
      refine x_ld 7 2 0 85 rfl rfl rfl rfl rfl ?_
      refine z_add 86 rfl rfl ?_
      refine x_ld 0 1 2 87 rfl rfl rfl rfl rfl ?_
      refine g_572_19 53 90 rfl rfl rfl ?_
      refine x_cst (zi 18) 2 92 rfl rfl rfl ?_
      refine x_ld 3 1 0 93 rfl rfl rfl rfl rfl ?_
      refine z_mul 94 rfl rfl ?_
      refine x_ld 7 2 0 96 rfl rfl rfl rfl rfl ?_
      refine z_add 97 rfl rfl ?_
      refine z_lld 98 rfl i_587 rfl ⟨by omega, by omega⟩ rfl ?_
      refine z_lst 99 rfl i_587 rfl ⟨by omega, by omega⟩ rfl ?_
      refine x_ld 0 1 2 100 rfl rfl rfl rfl rfl ?_
      refine g_572_20 56 103 rfl rfl rfl ?_
      refine x_cst (zi 18) 2 105 rfl rfl rfl ?_
      refine x_ld 1 1 0 106 rfl rfl rfl rfl rfl ?_
      refine z_mul 107 rfl rfl ?_
      refine x_ld 7 2 0 109 rfl rfl rfl rfl rfl ?_
      refine z_add 110 rfl rfl ?_
      refine x_ld 0 1 2 111 rfl rfl rfl rfl rfl ?_
      refine g_572_20 56 114 rfl rfl rfl ?_
      refine x_cst (zi 18) 2 116 rfl rfl rfl ?_
      refine x_ld 3 1 0 117 rfl rfl rfl rfl rfl ?_
      refine z_mul 118 rfl rfl ?_
      refine x_ld 7 2 0 120 rfl rfl rfl rfl rfl ?_
      refine z_add 121 rfl rfl ?_
      refine z_lld 122 rfl i_588 rfl ⟨by omega, by omega⟩ rfl ?_
      refine z_lst 123 rfl i_588 rfl ⟨by omega, by omega⟩ rfl ?_
      refine z_inc 7 126 [some (.ref 572), some (zi ((k : Nat) : Int)), some (zi 6), some (zi ((l : Nat) : Int)), some (zi (-1)), some (zi (-1)), some (zi (-1)), some (zi (((n : Nat) : Int) + 1))] rfl rfl (Nat.le_of_ble_eq_true rfl) rfl rfl ?_
      refine x_go 68 rfl rfl ?_
      have e1 := upw_cpP (M.2.1 587) (n := n) lk (by omega)
      have e2 := upw_cpP (M.2.1 588) (n := n) lk (by omega)
      have em : (rB (rB (rB (rB M 587 (cpP (M.2.1 587) k l n)) 588 (cpP (M.2.1 588) k l n)) 587 (upw ((rB (rB M 587 (cpP (M.2.1 587) k l n)) 588 (cpP (M.2.1 588) k l n)).2.1 587) ((18 * ((k : Nat) : Int)) + ((n : Nat) : Int)) (fun i => (rB (rB M 587 (cpP (M.2.1 587) k l n)) 588 (cpP (M.2.1 588) k l n)).2.1 587 (64 * ((18 * ((l : Nat) : Int)) + ((n : Nat) : Int)) + (i : Int))))) 588 (upw ((rB (rB (rB M 587 (cpP (M.2.1 587) k l n)) 588 (cpP (M.2.1 588) k l n)) 587 (upw ((rB (rB M 587 (cpP (M.2.1 587) k l n)) 588 (cpP (M.2.1 588) k l n)).2.1 587) ((18 * ((k : Nat) : Int)) + ((n : Nat) : Int)) (fun i => (rB (rB M 587 (cpP (M.2.1 587) k l n)) 588 (cpP (M.2.1 588) k l n)).2.1 587 (64 * ((18 * ((l : Nat) : Int)) + ((n : Nat) : Int)) + (i : Int))))).2.1 588) ((18 * ((k : Nat) : Int)) + ((n : Nat) : Int)) (fun i => (rB (rB (rB M 587 (cpP (M.2.1 587) k l n)) 588 (cpP (M.2.1 588) k l n)) 587 (upw ((rB (rB M 587 (cpP (M.2.1 587) k l n)) 588 (cpP (M.2.1 588) k l n)).2.1 587) ((18 * ((k : Nat) : Int)) + ((n : Nat) : Int)) (fun i => (rB (rB M 587 (cpP (M.2.1 587) k l n)) 588 (cpP (M.2.1 588) k l n)).2.1 587 (64 * ((18 * ((l : Nat) : Int)) + ((n : Nat) : Int)) + (i : Int))))).2.1 588 (64 * ((18 * ((l : Nat) : Int)) + ((n : Nat) : Int)) + (i : Int))))) = (rB (rB M 587 (cpP (M.2.1 587) k l (n + 1))) 588 (cpP (M.2.1 588) k l (n + 1))) := by
        rw [← e1, ← e2]
        refine Prod.ext rfl (Prod.ext (funext fun b => ?_) rfl)
        by_cases h8 : b = 588
        · subst h8; rfl
        · by_cases h7 : b = 587
          · subst h7; rfl
          · simp only [rB, h8, h7, ↓reduceIte]
      rw [em]
      exact ih (18 - (n + 1)) (by omega) (n + 1) rfl (by omega)
theorem c118_3 (d : Nat) {k l r : Nat} (hk : k < 32) (T : Nat) (hkd : M.1 582 (k : Int) = 6) (hl : M.1 583 (k : Int) = (l : Int)) (hr : M.1 584 (k : Int) = -1) (l32 : l < 32) (lk : l ≠ k) : ab_Z (pg_G L xs) (d + 5) 118 [.ref 572, zi (k : Nat)] M es (gO k 3 T (mS (M.2.1 587) l) (mS (M.2.1 587) r) (mS (M.2.1 588) l) (mS (M.2.1 588) r) M) := by
  have F2 : Fe k M (rB (rB M 587 (clP (M.2.1 587) k 18)) 588 (clP ((rB M 587 (clP (M.2.1 587) k 18)).2.1 588) k 18)) := Fe_trans (Fe_cl (.inl rfl) M) (Fe_cl (.inr rfl) _)
  have hc1 : ∀ u : Nat, u < 1152 → (rB (rB M 587 (clP (M.2.1 587) k 18)) 588 (clP ((rB M 587 (clP (M.2.1 587) k 18)).2.1 588) k 18)).2.1 587 (1152 * (k : Int) + (u : Int)) = false := by
    intro u hu
    rw [rB_ne (by decide), rB_at]; unfold clP; rw [if_pos (by omega)]
  have hc2 : ∀ u : Nat, u < 1152 → (rB (rB M 587 (clP (M.2.1 587) k 18)) 588 (clP ((rB M 587 (clP (M.2.1 587) k 18)).2.1 588) k 18)).2.1 588 (1152 * (k : Int) + (u : Int)) = false := by
    intro u hu
    rw [rB_at]; unfold clP; rw [if_pos (by omega)]
  show ab_W (pg_G L xs) (ab_X (pg_G L xs) (d + 4)) 118 _ 0 [some (.ref 572), some (zi ((k : Nat) : Int)), none, none, none, none, none, none] [] (hp M ++ es)
  refine x_ld 0 1 2 1 rfl rfl rfl rfl rfl ?_
  refine g_572_14 38 4 rfl rfl rfl ?_
  refine x_ld 1 1 0 5 rfl rfl rfl rfl rfl ?_
  refine z_ild 6 6 rfl i_582 rfl ⟨by omega, by omega⟩ hkd rfl ?_
  refine x_st 2 1 0 7 [some (.ref 572), some (zi ((k : Nat) : Int)), some (zi 6), none, none, none, none, none] rfl rfl rfl (Nat.le_of_ble_eq_true rfl) rfl rfl ?_
  refine x_ld 0 1 2 8 rfl rfl rfl rfl rfl ?_
  refine g_572_15 41 11 rfl rfl rfl ?_
  refine x_ld 1 1 0 12 rfl rfl rfl rfl rfl ?_
  refine z_ild ((l : Nat) : Int) 13 rfl i_583 rfl ⟨by omega, by omega⟩ hl rfl ?_
  refine x_st 3 1 0 14 [some (.ref 572), some (zi ((k : Nat) : Int)), some (zi 6), some (zi ((l : Nat) : Int)), none, none, none, none] rfl rfl rfl (Nat.le_of_ble_eq_true rfl) rfl rfl ?_
  refine x_ld 0 1 2 15 rfl rfl rfl rfl rfl ?_
  refine g_572_16 44 18 rfl rfl rfl ?_
  refine x_ld 1 1 0 19 rfl rfl rfl rfl rfl ?_
  refine z_ild (-1) 20 rfl i_584 rfl ⟨by omega, by omega⟩ hr rfl ?_
  refine x_st 4 2 0 22 [some (.ref 572), some (zi ((k : Nat) : Int)), some (zi 6), some (zi ((l : Nat) : Int)), some (zi (-1)), none, none, none] rfl rfl rfl (Nat.le_of_ble_eq_true rfl) rfl rfl ?_
  refine x_ld 0 1 2 23 rfl rfl rfl rfl rfl ?_
  refine x_ld 0 1 2 24 rfl rfl rfl rfl rfl ?_
  refine g_572_19 53 27 rfl rfl rfl ?_
  refine x_ld 1 1 0 28 rfl rfl rfl rfl rfl ?_
  refine x_cv 239 119 31 [.ref 572, .ref 587, zi ((k : Nat) : Int)] rfl rfl rfl (Nat.le_of_ble_eq_true rfl) rfl rfl (Nat.le_of_ble_eq_true rfl) ⟨_, _, _, rfl, o_572⟩ (Nat.le_of_ble_eq_true rfl) (c119 (d + 3) i_587 (by omega)) rfl ?_
  refine x_ld 0 1 2 32 rfl rfl rfl rfl rfl ?_
  refine x_ld 0 1 2 33 rfl rfl rfl rfl rfl ?_
  refine g_572_20 56 36 rfl rfl rfl ?_
  refine x_ld 1 1 0 37 rfl rfl rfl rfl rfl ?_
  refine x_cv 239 119 40 [.ref 572, .ref 588, zi ((k : Nat) : Int)] rfl rfl rfl (Nat.le_of_ble_eq_true rfl) rfl rfl (Nat.le_of_ble_eq_true rfl) ⟨_, _, _, rfl, o_572⟩ (Nat.le_of_ble_eq_true rfl) (c119 (M := (rB M 587 (clP (M.2.1 587) k 18))) (d + 3) i_588 (by omega)) rfl ?_
  refine x_cst (zi (-1)) 1 41 rfl rfl rfl ?_
  refine x_st 5 2 0 43 [some (.ref 572), some (zi ((k : Nat) : Int)), some (zi 6), some (zi ((l : Nat) : Int)), some (zi (-1)), some (zi (-1)), none, none] rfl rfl rfl (Nat.le_of_ble_eq_true rfl) rfl rfl ?_
  refine x_cst (zi (-1)) 1 44 rfl rfl rfl ?_
  refine x_st 6 2 0 46 [some (.ref 572), some (zi ((k : Nat) : Int)), some (zi 6), some (zi ((l : Nat) : Int)), some (zi (-1)), some (zi (-1)), some (zi (-1)), none] rfl rfl rfl (Nat.le_of_ble_eq_true rfl) rfl rfl ?_
  refine x_ld 2 1 0 47 rfl rfl rfl rfl rfl ?_
  refine x_cst (zi 4) 1 48 rfl rfl rfl ?_
  refine z_icge 59 51 rfl rfl rfl (rg_lit 6 rfl) (rg_lit 4 rfl) (fun _ => ?_) (fun c => absurd c (by decide))
  refine x_ld 2 1 0 60 rfl rfl rfl rfl rfl ?_
  refine x_cst (zi 6) 2 62 rfl rfl rfl ?_
  refine z_icne 132 65 rfl rfl rfl (rg_lit 6 rfl) (rg_lit 6 rfl) (fun c => absurd c (by decide)) (fun _ => ?_)
  refine x_cst (zi 0) 1 66 rfl rfl rfl ?_
  refine x_st 7 2 0 68 [some (.ref 572), some (zi ((k : Nat) : Int)), some (zi 6), some (zi ((l : Nat) : Int)), some (zi (-1)), some (zi (-1)), some (zi (-1)), some (zi 0)] rfl rfl rfl (Nat.le_of_ble_eq_true rfl) rfl rfl ?_
  have q := c118_3l (L := L) (xs := xs) (es := es) (M := (rB (rB M 587 (clP (M.2.1 587) k 18)) 588 (clP ((rB M 587 (clP (M.2.1 587) k 18)).2.1 588) k 18))) (d + 4) hk l32 lk (Q := fun r' h' => ∃ v M', r' = .inl v ∧ h' = hp M' ++ es ∧ (gO k 3 T (mS (M.2.1 587) l) (mS (M.2.1 587) r) (mS (M.2.1 588) l) (mS (M.2.1 588) r) M) v M') ?_ _ 0 rfl (Nat.zero_le _)
  · rw [cpP_0, cpP_0, rB_self, rB_self] at q; exact q
  · refine ⟨_, _, rfl, rfl, 0, -1, rfl, .inr (.inr ⟨fun _ e => e, fun _ e => e, rfl, rfl, fun t ht => ⟨?_, ?_⟩⟩), ?_, ?_, fun e => absurd rfl e⟩
    · show (rB (rB (rB (rB M 587 (clP (M.2.1 587) k 18)) 588 (clP ((rB M 587 (clP (M.2.1 587) k 18)).2.1 588) k 18)) 587 _) 588 _).2.1 587 _ = true ↔ mS (M.2.1 587) l t = true
      rw [rB_ne (by decide), rB_at]
      unfold cpP
      rw [if_pos (by omega), show 1152 * (k : Int) + (t : Int) - 1152 * (k : Int) + 1152 * (l : Int) = 1152 * (l : Int) + (t : Int) by omega]
      rw [F2.2.2.2 587 (.inl rfl) _ (by omega)]
    · show (rB (rB (rB (rB M 587 (clP (M.2.1 587) k 18)) 588 (clP ((rB M 587 (clP (M.2.1 587) k 18)).2.1 588) k 18)) 587 _) 588 _).2.1 588 _ = true ↔ mS (M.2.1 588) l t = true
      rw [rB_at]
      unfold cpP
      rw [if_pos (by omega), show 1152 * (k : Int) + (t : Int) - 1152 * (k : Int) + 1152 * (l : Int) = 1152 * (l : Int) + (t : Int) by omega]
      rw [F2.2.2.2 588 (.inr rfl) _ (by omega)]
    · exact FG_of (Fe_trans F2 (Fe_cp _ _ _))
    · exact fun _ => Fe_572 (Fe_trans F2 (Fe_cp _ _ _))
theorem c118_4 (d : Nat) {k l r : Nat} (hk : k < 32) (T : Nat) (hkd : M.1 582 (k : Int) = 7) (hl : M.1 583 (k : Int) = (l : Int)) (hr : M.1 584 (k : Int) = (r : Int)) (l32 : l < 32) (lk : l ≠ k) (r32 : r < 32) (rk : r ≠ k) (zs : ∀ u : Nat, 1093 ≤ u → u < 1152 → mS (M.2.1 587) l u = false ∧ mS (M.2.1 587) r u = false ∧ mS (M.2.1 588) l u = false ∧ mS (M.2.1 588) r u = false) : ab_Z (pg_G L xs) (d + 5) 118 [.ref 572, zi (k : Nat)] M es (gO k 4 T (mS (M.2.1 587) l) (mS (M.2.1 587) r) (mS (M.2.1 588) l) (mS (M.2.1 588) r) M) := by
  have F2 : Fe k M (rB (rB M 587 (clP (M.2.1 587) k 18)) 588 (clP ((rB M 587 (clP (M.2.1 587) k 18)).2.1 588) k 18)) := Fe_trans (Fe_cl (.inl rfl) M) (Fe_cl (.inr rfl) _)
  have hc1 : ∀ u : Nat, u < 1152 → (rB (rB M 587 (clP (M.2.1 587) k 18)) 588 (clP ((rB M 587 (clP (M.2.1 587) k 18)).2.1 588) k 18)).2.1 587 (1152 * (k : Int) + (u : Int)) = false := by
    intro u hu
    rw [rB_ne (by decide), rB_at]; unfold clP; rw [if_pos (by omega)]
  have hc2 : ∀ u : Nat, u < 1152 → (rB (rB M 587 (clP (M.2.1 587) k 18)) 588 (clP ((rB M 587 (clP (M.2.1 587) k 18)).2.1 588) k 18)).2.1 588 (1152 * (k : Int) + (u : Int)) = false := by
    intro u hu
    rw [rB_at]; unfold clP; rw [if_pos (by omega)]
  show ab_W (pg_G L xs) (ab_X (pg_G L xs) (d + 4)) 118 _ 0 [some (.ref 572), some (zi ((k : Nat) : Int)), none, none, none, none, none, none] [] (hp M ++ es)
  refine x_ld 0 1 2 1 rfl rfl rfl rfl rfl ?_
  refine g_572_14 38 4 rfl rfl rfl ?_
  refine x_ld 1 1 0 5 rfl rfl rfl rfl rfl ?_
  refine z_ild 7 6 rfl i_582 rfl ⟨by omega, by omega⟩ hkd rfl ?_
  refine x_st 2 1 0 7 [some (.ref 572), some (zi ((k : Nat) : Int)), some (zi 7), none, none, none, none, none] rfl rfl rfl (Nat.le_of_ble_eq_true rfl) rfl rfl ?_
  refine x_ld 0 1 2 8 rfl rfl rfl rfl rfl ?_
  refine g_572_15 41 11 rfl rfl rfl ?_
  refine x_ld 1 1 0 12 rfl rfl rfl rfl rfl ?_
  refine z_ild ((l : Nat) : Int) 13 rfl i_583 rfl ⟨by omega, by omega⟩ hl rfl ?_
  refine x_st 3 1 0 14 [some (.ref 572), some (zi ((k : Nat) : Int)), some (zi 7), some (zi ((l : Nat) : Int)), none, none, none, none] rfl rfl rfl (Nat.le_of_ble_eq_true rfl) rfl rfl ?_
  refine x_ld 0 1 2 15 rfl rfl rfl rfl rfl ?_
  refine g_572_16 44 18 rfl rfl rfl ?_
  refine x_ld 1 1 0 19 rfl rfl rfl rfl rfl ?_
  refine z_ild ((r : Nat) : Int) 20 rfl i_584 rfl ⟨by omega, by omega⟩ hr rfl ?_
  refine x_st 4 2 0 22 [some (.ref 572), some (zi ((k : Nat) : Int)), some (zi 7), some (zi ((l : Nat) : Int)), some (zi ((r : Nat) : Int)), none, none, none] rfl rfl rfl (Nat.le_of_ble_eq_true rfl) rfl rfl ?_
  refine x_ld 0 1 2 23 rfl rfl rfl rfl rfl ?_
  refine x_ld 0 1 2 24 rfl rfl rfl rfl rfl ?_
  refine g_572_19 53 27 rfl rfl rfl ?_
  refine x_ld 1 1 0 28 rfl rfl rfl rfl rfl ?_
  refine x_cv 239 119 31 [.ref 572, .ref 587, zi ((k : Nat) : Int)] rfl rfl rfl (Nat.le_of_ble_eq_true rfl) rfl rfl (Nat.le_of_ble_eq_true rfl) ⟨_, _, _, rfl, o_572⟩ (Nat.le_of_ble_eq_true rfl) (c119 (d + 3) i_587 (by omega)) rfl ?_
  refine x_ld 0 1 2 32 rfl rfl rfl rfl rfl ?_
  refine x_ld 0 1 2 33 rfl rfl rfl rfl rfl ?_
  refine g_572_20 56 36 rfl rfl rfl ?_
  refine x_ld 1 1 0 37 rfl rfl rfl rfl rfl ?_
  refine x_cv 239 119 40 [.ref 572, .ref 588, zi ((k : Nat) : Int)] rfl rfl rfl (Nat.le_of_ble_eq_true rfl) rfl rfl (Nat.le_of_ble_eq_true rfl) ⟨_, _, _, rfl, o_572⟩ (Nat.le_of_ble_eq_true rfl) (c119 (M := (rB M 587 (clP (M.2.1 587) k 18))) (d + 3) i_588 (by omega)) rfl ?_
  refine x_cst (zi (-1)) 1 41 rfl rfl rfl ?_
  refine x_st 5 2 0 43 [some (.ref 572), some (zi ((k : Nat) : Int)), some (zi 7), some (zi ((l : Nat) : Int)), some (zi ((r : Nat) : Int)), some (zi (-1)), none, none] rfl rfl rfl (Nat.le_of_ble_eq_true rfl) rfl rfl ?_
  refine x_cst (zi (-1)) 1 44 rfl rfl rfl ?_
  refine x_st 6 2 0 46 [some (.ref 572), some (zi ((k : Nat) : Int)), some (zi 7), some (zi ((l : Nat) : Int)), some (zi ((r : Nat) : Int)), some (zi (-1)), some (zi (-1)), none] rfl rfl rfl (Nat.le_of_ble_eq_true rfl) rfl rfl ?_
  refine x_ld 2 1 0 47 rfl rfl rfl rfl rfl ?_
  refine x_cst (zi 4) 1 48 rfl rfl rfl ?_
  refine z_icge 59 51 rfl rfl rfl (rg_lit 7 rfl) (rg_lit 4 rfl) (fun _ => ?_) (fun c => absurd c (by decide))
  refine x_ld 2 1 0 60 rfl rfl rfl rfl rfl ?_
  refine x_cst (zi 6) 2 62 rfl rfl rfl ?_
  refine z_icne 132 65 rfl rfl rfl (rg_lit 7 rfl) (rg_lit 6 rfl) (fun _ => ?_) (fun c => absurd c (by decide))
  refine x_ld 2 1 0 133 rfl rfl rfl rfl rfl ?_
  refine x_cst (zi 7) 2 135 rfl rfl rfl ?_
  refine z_icne 151 138 rfl rfl rfl (rg_lit 7 rfl) (rg_lit 7 rfl) (fun c => absurd c (by decide)) (fun _ => ?_)
  refine x_ld 0 1 2 139 rfl rfl rfl rfl rfl ?_
  refine x_ld 1 1 0 140 rfl rfl rfl rfl rfl ?_
  refine x_ld 3 1 0 141 rfl rfl rfl rfl rfl ?_
  refine x_ld 4 2 0 143 rfl rfl rfl rfl rfl ?_
  refine x_ce 246 122 146 [.ref 572, zi ((k : Nat) : Int), zi ((l : Nat) : Int), zi ((r : Nat) : Int)] rfl rfl rfl (Nat.le_of_ble_eq_true rfl) rfl rfl (Nat.le_of_ble_eq_true rfl) ⟨_, _, _, rfl, o_572⟩ (Nat.le_of_ble_eq_true rfl) (c122 (M := (rB (rB M 587 (clP (M.2.1 587) k 18)) 588 (clP ((rB M 587 (clP (M.2.1 587) k 18)).2.1 588) k 18))) (d + 2) hk l32 r32 lk rk hc1 hc2) rfl ?_
  rintro v M3 ⟨x, rfl, F3, hb1, hb2, hx⟩
  have hxr := lst_rgN hx
  have FF := Fe_trans F2 F3
  refine x_st 5 2 0 148 [some (.ref 572), some (zi ((k : Nat) : Int)), some (zi 7), some (zi ((l : Nat) : Int)), some (zi ((r : Nat) : Int)), some (zi x), some (zi (-1)), none] rfl rfl rfl (Nat.le_of_ble_eq_true rfl) rfl rfl ?_
  refine x_go 238 rfl rfl ?_
  refine x_ld 5 2 0 240 rfl rfl rfl rfl rfl ?_
  refine z_ifge 250 243 rfl rfl rfl ⟨by omega, by omega⟩ (fun c240 => ?_) (fun c240 => ?_)
  · refine x_ld 0 1 2 251 rfl rfl rfl rfl rfl ?_
    refine x_ld 5 2 0 253 rfl rfl rfl rfl rfl ?_
    refine z_iflt 261 256 rfl rfl rfl ⟨by omega, by omega⟩ (fun c => absurd c (by omega)) (fun _ => ?_)
    refine x_ld 5 2 0 258 rfl rfl rfl rfl rfl ?_
    refine x_go 263 rfl rfl ?_
    refine s_572_31 74 266 rfl rfl rfl rfl rfl rfl ?_
    refine x_ld 0 1 2 267 rfl rfl rfl rfl rfl ?_
    refine x_ld 2 1 0 268 rfl rfl rfl rfl rfl ?_
    refine x_cst (zi 7) 2 270 rfl rfl rfl ?_
    refine z_icne 278 273 rfl rfl rfl (rg_lit 7 rfl) (rg_lit 7 rfl) (fun c => absurd c (by decide)) (fun _ => ?_)
    refine x_cst (zi 6) 2 275 rfl rfl rfl ?_
    refine x_go 304 rfl rfl ?_
    refine s_572_30 258 307 rfl rfl rfl rfl rfl rfl ?_
    refine x_cst (zi 0) 1 308 rfl rfl rfl ?_
    refine x_ret rfl rfl rfl rfl ?_
    have q1 : ag (mS ((rB (rB M 587 (clP (M.2.1 587) k 18)) 588 (clP ((rB M 587 (clP (M.2.1 587) k 18)).2.1 588) k 18)).2.1 587) l) (mS (M.2.1 587) l) := Fe_ag F2 (.inl rfl) lk
    have q2 : ag (mS ((rB (rB M 587 (clP (M.2.1 587) k 18)) 588 (clP ((rB M 587 (clP (M.2.1 587) k 18)).2.1 588) k 18)).2.1 587) r) (mS (M.2.1 587) r) := Fe_ag F2 (.inl rfl) rk
    have q3 : ag (mS ((rB (rB M 587 (clP (M.2.1 587) k 18)) 588 (clP ((rB M 587 (clP (M.2.1 587) k 18)).2.1 588) k 18)).2.1 588) l) (mS (M.2.1 588) l) := Fe_ag F2 (.inr rfl) lk
    have q4 : ag (mS ((rB (rB M 587 (clP (M.2.1 587) k 18)) 588 (clP ((rB M 587 (clP (M.2.1 587) k 18)).2.1 588) k 18)).2.1 588) r) (mS (M.2.1 588) r) := Fe_ag F2 (.inr rfl) rk
    have hx4 : lst (sD1 4 (mS (M.2.1 587) l) (mS (M.2.1 587) r)) x := by
      refine lst_congr (fun u => ?_) hx
      constructor
      · rintro ⟨h1, h2⟩
        exact ⟨by omega, by rw [← q1 u (by omega), ← q2 u (by omega)]; exact h2⟩
      · rintro ⟨h1, h2⟩
        have hu : u < 1093 := by
          rcases Nat.lt_or_ge u 1093 with e | e
          · exact e
          · rw [(zs u e h1).1] at h2; cases h2
        exact ⟨hu, by rw [q1 u (by omega), q2 u (by omega)]; exact h2⟩
    obtain ⟨tt, et, hl5⟩ := lst_pos hx4 (by omega)
    exact ⟨_, _, rfl, rfl, 6, x, rfl, .inl ⟨tt, hl5, rfl, et⟩, FG_put FF _ _, fun e => absurd e (by decide), fun _ => ⟨rd_eq, (rd_nk (by decide)).trans rd_eq⟩⟩
  · refine x_ld 6 2 0 245 rfl rfl rfl rfl rfl ?_
    refine z_ifge 250 248 rfl rfl rfl (rg_lit (-1) rfl) (fun c => absurd c (by decide)) (fun _ => ?_)
    refine x_cst (zi 1) 1 249 rfl rfl rfl ?_
    refine x_ret rfl rfl rfl rfl ?_
    have q1 : ag (mS ((rB (rB M 587 (clP (M.2.1 587) k 18)) 588 (clP ((rB M 587 (clP (M.2.1 587) k 18)).2.1 588) k 18)).2.1 587) l) (mS (M.2.1 587) l) := Fe_ag F2 (.inl rfl) lk
    have q2 : ag (mS ((rB (rB M 587 (clP (M.2.1 587) k 18)) 588 (clP ((rB M 587 (clP (M.2.1 587) k 18)).2.1 588) k 18)).2.1 587) r) (mS (M.2.1 587) r) := Fe_ag F2 (.inl rfl) rk
    have q3 : ag (mS ((rB (rB M 587 (clP (M.2.1 587) k 18)) 588 (clP ((rB M 587 (clP (M.2.1 587) k 18)).2.1 588) k 18)).2.1 588) l) (mS (M.2.1 588) l) := Fe_ag F2 (.inr rfl) lk
    have q4 : ag (mS ((rB (rB M 587 (clP (M.2.1 587) k 18)) 588 (clP ((rB M 587 (clP (M.2.1 587) k 18)).2.1 588) k 18)).2.1 588) r) (mS (M.2.1 588) r) := Fe_ag F2 (.inr rfl) rk
    have hx4 : lst (sD1 4 (mS (M.2.1 587) l) (mS (M.2.1 587) r)) x := by
      refine lst_congr (fun u => ?_) hx
      constructor
      · rintro ⟨h1, h2⟩
        exact ⟨by omega, by rw [← q1 u (by omega), ← q2 u (by omega)]; exact h2⟩
      · rintro ⟨h1, h2⟩
        have hu : u < 1093 := by
          rcases Nat.lt_or_ge u 1093 with e | e
          · exact e
          · rw [(zs u e h1).1] at h2; cases h2
        exact ⟨hu, by rw [q1 u (by omega), q2 u (by omega)]; exact h2⟩
    refine ⟨_, M3, rfl, rfl, 0, -1, rfl, .inr (.inr ⟨(lst_none hx4).mp (by omega), fun _ e => e, rfl, rfl, fun t ht => ⟨?_, ?_⟩⟩), FG_of FF, fun _ => Fe_572 FF, fun e => absurd rfl e⟩
    · refine (hb1 t ht).trans ?_
      show t < 1093 ∧ (_ || _) = true ↔ (_ || _) = true
      rw [q1 t ht, q2 t ht]
      refine ⟨fun e => e.2, fun e => ⟨?_, e⟩⟩
      rcases Nat.lt_or_ge t 1093 with q | q
      · exact q
      · rw [(zs t q ht).1, (zs t q ht).2.1] at e; cases e
    · refine (hb2 t ht).trans ?_
      show t < 1093 ∧ (_ || _) = true ↔ (_ || _) = true
      rw [q3 t ht, q4 t ht]
      refine ⟨fun e => e.2, fun e => ⟨?_, e⟩⟩
      rcases Nat.lt_or_ge t 1093 with q | q
      · exact q
      · rw [(zs t q ht).2.2.1, (zs t q ht).2.2.2] at e; cases e
theorem c118_5 (d : Nat) {k l r : Nat} (hk : k < 32) (T : Nat) (hkd : M.1 582 (k : Int) = 4) (hl : M.1 583 (k : Int) = (l : Int)) (hr : M.1 584 (k : Int) = (r : Int)) (l32 : l < 32) (lk : l ≠ k) (r32 : r < 32) (rk : r ≠ k) : ab_Z (pg_G L xs) (d + 5) 118 [.ref 572, zi (k : Nat)] M es (gO k 5 T (mS (M.2.1 587) l) (mS (M.2.1 587) r) (mS (M.2.1 588) l) (mS (M.2.1 588) r) M) := by
  have F2 : Fe k M (rB (rB M 587 (clP (M.2.1 587) k 18)) 588 (clP ((rB M 587 (clP (M.2.1 587) k 18)).2.1 588) k 18)) := Fe_trans (Fe_cl (.inl rfl) M) (Fe_cl (.inr rfl) _)
  have hc1 : ∀ u : Nat, u < 1152 → (rB (rB M 587 (clP (M.2.1 587) k 18)) 588 (clP ((rB M 587 (clP (M.2.1 587) k 18)).2.1 588) k 18)).2.1 587 (1152 * (k : Int) + (u : Int)) = false := by
    intro u hu
    rw [rB_ne (by decide), rB_at]; unfold clP; rw [if_pos (by omega)]
  have hc2 : ∀ u : Nat, u < 1152 → (rB (rB M 587 (clP (M.2.1 587) k 18)) 588 (clP ((rB M 587 (clP (M.2.1 587) k 18)).2.1 588) k 18)).2.1 588 (1152 * (k : Int) + (u : Int)) = false := by
    intro u hu
    rw [rB_at]; unfold clP; rw [if_pos (by omega)]
  show ab_W (pg_G L xs) (ab_X (pg_G L xs) (d + 4)) 118 _ 0 [some (.ref 572), some (zi ((k : Nat) : Int)), none, none, none, none, none, none] [] (hp M ++ es)
  refine x_ld 0 1 2 1 rfl rfl rfl rfl rfl ?_
  refine g_572_14 38 4 rfl rfl rfl ?_
  refine x_ld 1 1 0 5 rfl rfl rfl rfl rfl ?_
  refine z_ild 4 6 rfl i_582 rfl ⟨by omega, by omega⟩ hkd rfl ?_
  refine x_st 2 1 0 7 [some (.ref 572), some (zi ((k : Nat) : Int)), some (zi 4), none, none, none, none, none] rfl rfl rfl (Nat.le_of_ble_eq_true rfl) rfl rfl ?_
  refine x_ld 0 1 2 8 rfl rfl rfl rfl rfl ?_
  refine g_572_15 41 11 rfl rfl rfl ?_
  refine x_ld 1 1 0 12 rfl rfl rfl rfl rfl ?_
  refine z_ild ((l : Nat) : Int) 13 rfl i_583 rfl ⟨by omega, by omega⟩ hl rfl ?_
  refine x_st 3 1 0 14 [some (.ref 572), some (zi ((k : Nat) : Int)), some (zi 4), some (zi ((l : Nat) : Int)), none, none, none, none] rfl rfl rfl (Nat.le_of_ble_eq_true rfl) rfl rfl ?_
  refine x_ld 0 1 2 15 rfl rfl rfl rfl rfl ?_
  refine g_572_16 44 18 rfl rfl rfl ?_
  refine x_ld 1 1 0 19 rfl rfl rfl rfl rfl ?_
  refine z_ild ((r : Nat) : Int) 20 rfl i_584 rfl ⟨by omega, by omega⟩ hr rfl ?_
  refine x_st 4 2 0 22 [some (.ref 572), some (zi ((k : Nat) : Int)), some (zi 4), some (zi ((l : Nat) : Int)), some (zi ((r : Nat) : Int)), none, none, none] rfl rfl rfl (Nat.le_of_ble_eq_true rfl) rfl rfl ?_
  refine x_ld 0 1 2 23 rfl rfl rfl rfl rfl ?_
  refine x_ld 0 1 2 24 rfl rfl rfl rfl rfl ?_
  refine g_572_19 53 27 rfl rfl rfl ?_
  refine x_ld 1 1 0 28 rfl rfl rfl rfl rfl ?_
  refine x_cv 239 119 31 [.ref 572, .ref 587, zi ((k : Nat) : Int)] rfl rfl rfl (Nat.le_of_ble_eq_true rfl) rfl rfl (Nat.le_of_ble_eq_true rfl) ⟨_, _, _, rfl, o_572⟩ (Nat.le_of_ble_eq_true rfl) (c119 (d + 3) i_587 (by omega)) rfl ?_
  refine x_ld 0 1 2 32 rfl rfl rfl rfl rfl ?_
  refine x_ld 0 1 2 33 rfl rfl rfl rfl rfl ?_
  refine g_572_20 56 36 rfl rfl rfl ?_
  refine x_ld 1 1 0 37 rfl rfl rfl rfl rfl ?_
  refine x_cv 239 119 40 [.ref 572, .ref 588, zi ((k : Nat) : Int)] rfl rfl rfl (Nat.le_of_ble_eq_true rfl) rfl rfl (Nat.le_of_ble_eq_true rfl) ⟨_, _, _, rfl, o_572⟩ (Nat.le_of_ble_eq_true rfl) (c119 (M := (rB M 587 (clP (M.2.1 587) k 18))) (d + 3) i_588 (by omega)) rfl ?_
  refine x_cst (zi (-1)) 1 41 rfl rfl rfl ?_
  refine x_st 5 2 0 43 [some (.ref 572), some (zi ((k : Nat) : Int)), some (zi 4), some (zi ((l : Nat) : Int)), some (zi ((r : Nat) : Int)), some (zi (-1)), none, none] rfl rfl rfl (Nat.le_of_ble_eq_true rfl) rfl rfl ?_
  refine x_cst (zi (-1)) 1 44 rfl rfl rfl ?_
  refine x_st 6 2 0 46 [some (.ref 572), some (zi ((k : Nat) : Int)), some (zi 4), some (zi ((l : Nat) : Int)), some (zi ((r : Nat) : Int)), some (zi (-1)), some (zi (-1)), none] rfl rfl rfl (Nat.le_of_ble_eq_true rfl) rfl rfl ?_
  refine x_ld 2 1 0 47 rfl rfl rfl rfl rfl ?_
  refine x_cst (zi 4) 1 48 rfl rfl rfl ?_
  refine z_icge 59 51 rfl rfl rfl (rg_lit 4 rfl) (rg_lit 4 rfl) (fun _ => ?_) (fun c => absurd c (by decide))
  refine x_ld 2 1 0 60 rfl rfl rfl rfl rfl ?_
  refine x_cst (zi 6) 2 62 rfl rfl rfl ?_
  refine z_icne 132 65 rfl rfl rfl (rg_lit 4 rfl) (rg_lit 6 rfl) (fun _ => ?_) (fun c => absurd c (by decide))
  refine x_ld 2 1 0 133 rfl rfl rfl rfl rfl ?_
  refine x_cst (zi 7) 2 135 rfl rfl rfl ?_
  refine z_icne 151 138 rfl rfl rfl (rg_lit 4 rfl) (rg_lit 7 rfl) (fun _ => ?_) (fun c => absurd c (by decide))
  refine x_ld 2 1 0 152 rfl rfl rfl rfl rfl ?_
  refine x_cst (zi 8) 2 154 rfl rfl rfl ?_
  refine z_iceq 163 157 rfl rfl rfl (rg_lit 4 rfl) (rg_lit 8 rfl) (fun c => absurd c (by decide)) (fun _ => ?_)
  refine x_ld 2 1 0 158 rfl rfl rfl rfl rfl ?_
  refine x_cst (zi 9) 2 160 rfl rfl rfl ?_
  refine z_icne 190 163 rfl rfl rfl (rg_lit 4 rfl) (rg_lit 9 rfl) (fun _ => ?_) (fun c => absurd c (by decide))
  refine x_ld 0 1 2 191 rfl rfl rfl rfl rfl ?_
  refine x_ld 0 1 2 192 rfl rfl rfl rfl rfl ?_
  refine g_572_19 53 195 rfl rfl rfl ?_
  refine x_ld 1 1 0 196 rfl rfl rfl rfl rfl ?_
  refine x_ld 3 1 0 197 rfl rfl rfl rfl rfl ?_
  refine x_ld 4 2 0 199 rfl rfl rfl rfl rfl ?_
  refine x_ce 254 128 202 [.ref 572, .ref 587, zi ((k : Nat) : Int), zi ((l : Nat) : Int), zi ((r : Nat) : Int)] rfl rfl rfl (Nat.le_of_ble_eq_true rfl) rfl rfl (Nat.le_of_ble_eq_true rfl) ⟨_, _, _, rfl, o_572⟩ (Nat.le_of_ble_eq_true rfl) (c128 (M := (rB (rB M 587 (clP (M.2.1 587) k 18)) 588 (clP ((rB M 587 (clP (M.2.1 587) k 18)).2.1 588) k 18))) (d + 1) i_587 (k := k) (f := l) (g := r) (by omega) (by omega) (by omega) lk rk hc1) rfl ?_
  rintro v M3 ⟨x, rfl, F3, hx, hbx⟩
  have hxr := lst_rg hx (fun t ht => ht.1)
  refine x_st 5 2 0 204 [some (.ref 572), some (zi ((k : Nat) : Int)), some (zi 4), some (zi ((l : Nat) : Int)), some (zi ((r : Nat) : Int)), some (zi x), some (zi (-1)), none] rfl rfl rfl (Nat.le_of_ble_eq_true rfl) rfl rfl ?_
  refine x_ld 2 1 0 205 rfl rfl rfl rfl rfl ?_
  refine x_cst (zi 4) 1 206 rfl rfl rfl ?_
  refine z_icne 224 209 rfl rfl rfl (rg_lit 4 rfl) (rg_lit 4 rfl) (fun c => absurd c (by decide)) (fun _ => ?_)
  refine x_ld 0 1 2 210 rfl rfl rfl rfl rfl ?_
  refine x_ld 0 1 2 211 rfl rfl rfl rfl rfl ?_
  refine g_572_20 56 214 rfl rfl rfl ?_
  refine x_ld 1 1 0 215 rfl rfl rfl rfl rfl ?_
  refine x_ld 3 1 0 216 rfl rfl rfl rfl rfl ?_
  refine x_ld 4 2 0 218 rfl rfl rfl rfl rfl ?_
  refine x_ce 254 128 221 [.ref 572, .ref 588, zi ((k : Nat) : Int), zi ((l : Nat) : Int), zi ((r : Nat) : Int)] rfl rfl rfl (Nat.le_of_ble_eq_true rfl) rfl rfl (Nat.le_of_ble_eq_true rfl) ⟨_, _, _, rfl, o_572⟩ (Nat.le_of_ble_eq_true rfl) (c128 (M := M3) (d + 1) i_588 (k := k) (f := l) (g := r) (by omega) (by omega) (by omega) lk rk (fun u hu => by rw [F3.2.2.1 588 (by decide)]; exact hc2 u hu)) rfl ?_
  rintro v4 M4 ⟨y, rfl, F4, hy, hby⟩
  have hyr := lst_rg hy (fun t ht => ht.1)
  have FF := Fe_trans (Fe_trans F2 (Fe_of (.inl rfl) F3)) (Fe_of (.inr rfl) F4)
  refine x_go 236 rfl rfl ?_
  refine x_st 6 2 0 238 [some (.ref 572), some (zi ((k : Nat) : Int)), some (zi 4), some (zi ((l : Nat) : Int)), some (zi ((r : Nat) : Int)), some (zi x), some (zi y), none] rfl rfl rfl (Nat.le_of_ble_eq_true rfl) rfl rfl ?_
  refine x_ld 5 2 0 240 rfl rfl rfl rfl rfl ?_
  refine z_ifge 250 243 rfl rfl rfl ⟨by omega, by omega⟩ (fun c240 => ?_) (fun c240 => ?_)
  · refine x_ld 0 1 2 251 rfl rfl rfl rfl rfl ?_
    refine x_ld 5 2 0 253 rfl rfl rfl rfl rfl ?_
    refine z_iflt 261 256 rfl rfl rfl ⟨by omega, by omega⟩ (fun c => absurd c (by omega)) (fun _ => ?_)
    refine x_ld 5 2 0 258 rfl rfl rfl rfl rfl ?_
    refine x_go 263 rfl rfl ?_
    refine s_572_31 74 266 rfl rfl rfl rfl rfl rfl ?_
    refine x_ld 0 1 2 267 rfl rfl rfl rfl rfl ?_
    refine x_ld 2 1 0 268 rfl rfl rfl rfl rfl ?_
    refine x_cst (zi 7) 2 270 rfl rfl rfl ?_
    refine z_icne 278 273 rfl rfl rfl (rg_lit 4 rfl) (rg_lit 7 rfl) (fun _ => ?_) (fun c => absurd c (by decide))
    refine x_ld 2 1 0 279 rfl rfl rfl rfl rfl ?_
    refine x_cst (zi 4) 1 280 rfl rfl rfl ?_
    refine z_iceq 288 283 rfl rfl rfl (rg_lit 4 rfl) (rg_lit 4 rfl) (fun _ => ?_) (fun c => absurd c (by decide))
    refine x_cst (zi 2) 1 289 rfl rfl rfl ?_
    refine x_go 293 rfl rfl ?_
    refine x_ld 5 2 0 295 rfl rfl rfl rfl rfl ?_
    refine z_iflt 302 298 rfl rfl rfl ⟨by omega, by omega⟩ (fun c => absurd c (by omega)) (fun _ => ?_)
    refine x_cst (zi 0) 1 299 rfl rfl rfl ?_
    refine x_go 303 rfl rfl ?_
    refine z_add 304 rfl rfl ?_
    refine s_572_30 258 307 rfl rfl rfl rfl rfl rfl ?_
    refine x_cst (zi 0) 1 308 rfl rfl rfl ?_
    refine x_ret rfl rfl rfl rfl ?_
    have q1 : ag (mS ((rB (rB M 587 (clP (M.2.1 587) k 18)) 588 (clP ((rB M 587 (clP (M.2.1 587) k 18)).2.1 588) k 18)).2.1 587) l) (mS (M.2.1 587) l) := Fe_ag F2 (.inl rfl) lk
    have q3 : ag (mS (M3.2.1 588) l) (mS (M.2.1 588) l) := Fe_ag (Fe_trans F2 (Fe_of (.inl rfl) F3)) (.inr rfl) lk
    have q2 : ag (mS ((rB (rB M 587 (clP (M.2.1 587) k 18)) 588 (clP ((rB M 587 (clP (M.2.1 587) k 18)).2.1 588) k 18)).2.1 587) r) (mS (M.2.1 587) r) := Fe_ag F2 (.inl rfl) rk
    have q4 : ag (mS (M3.2.1 588) r) (mS (M.2.1 588) r) := Fe_ag (Fe_trans F2 (Fe_of (.inl rfl) F3)) (.inr rfl) rk
    have hx4 : lst (sD1 5 (mS (M.2.1 587) l) (mS (M.2.1 587) r)) x := lst_congr (fun u => jn2_ag q1 q2 u) hx
    have hy4 : lst (sD2 5 (mS (M.2.1 588) l) (mS (M.2.1 588) r)) y := lst_congr (fun u => jn2_ag q3 q4 u) hy
    obtain ⟨tt, et, hl5⟩ := lst_pos hx4 (by omega)
    exact ⟨_, _, rfl, rfl, 2, x, rfl, .inl ⟨tt, hl5, rfl, et⟩, FG_put FF _ _, fun e => absurd e (by decide), fun _ => ⟨rd_eq, (rd_nk (by decide)).trans rd_eq⟩⟩
  · refine x_ld 6 2 0 245 rfl rfl rfl rfl rfl ?_
    refine z_ifge 250 248 rfl rfl rfl ⟨by omega, by omega⟩ (fun c245 => ?_) (fun c245 => ?_)
    · refine x_ld 0 1 2 251 rfl rfl rfl rfl rfl ?_
      refine x_ld 5 2 0 253 rfl rfl rfl rfl rfl ?_
      refine z_iflt 261 256 rfl rfl rfl ⟨by omega, by omega⟩ (fun _ => ?_) (fun c => absurd c (by omega))
      refine x_ld 6 2 0 263 rfl rfl rfl rfl rfl ?_
      refine s_572_31 74 266 rfl rfl rfl rfl rfl rfl ?_
      refine x_ld 0 1 2 267 rfl rfl rfl rfl rfl ?_
      refine x_ld 2 1 0 268 rfl rfl rfl rfl rfl ?_
      refine x_cst (zi 7) 2 270 rfl rfl rfl ?_
      refine z_icne 278 273 rfl rfl rfl (rg_lit 4 rfl) (rg_lit 7 rfl) (fun _ => ?_) (fun c => absurd c (by decide))
      refine x_ld 2 1 0 279 rfl rfl rfl rfl rfl ?_
      refine x_cst (zi 4) 1 280 rfl rfl rfl ?_
      refine z_iceq 288 283 rfl rfl rfl (rg_lit 4 rfl) (rg_lit 4 rfl) (fun _ => ?_) (fun c => absurd c (by decide))
      refine x_cst (zi 2) 1 289 rfl rfl rfl ?_
      refine x_go 293 rfl rfl ?_
      refine x_ld 5 2 0 295 rfl rfl rfl rfl rfl ?_
      refine z_iflt 302 298 rfl rfl rfl ⟨by omega, by omega⟩ (fun _ => ?_) (fun c => absurd c (by omega))
      refine x_cst (zi 1) 1 303 rfl rfl rfl ?_
      refine z_add 304 rfl rfl ?_
      refine s_572_30 258 307 rfl rfl rfl rfl rfl rfl ?_
      refine x_cst (zi 0) 1 308 rfl rfl rfl ?_
      refine x_ret rfl rfl rfl rfl ?_
      have q1 : ag (mS ((rB (rB M 587 (clP (M.2.1 587) k 18)) 588 (clP ((rB M 587 (clP (M.2.1 587) k 18)).2.1 588) k 18)).2.1 587) l) (mS (M.2.1 587) l) := Fe_ag F2 (.inl rfl) lk
      have q3 : ag (mS (M3.2.1 588) l) (mS (M.2.1 588) l) := Fe_ag (Fe_trans F2 (Fe_of (.inl rfl) F3)) (.inr rfl) lk
      have q2 : ag (mS ((rB (rB M 587 (clP (M.2.1 587) k 18)) 588 (clP ((rB M 587 (clP (M.2.1 587) k 18)).2.1 588) k 18)).2.1 587) r) (mS (M.2.1 587) r) := Fe_ag F2 (.inl rfl) rk
      have q4 : ag (mS (M3.2.1 588) r) (mS (M.2.1 588) r) := Fe_ag (Fe_trans F2 (Fe_of (.inl rfl) F3)) (.inr rfl) rk
      have hx4 : lst (sD1 5 (mS (M.2.1 587) l) (mS (M.2.1 587) r)) x := lst_congr (fun u => jn2_ag q1 q2 u) hx
      have hy4 : lst (sD2 5 (mS (M.2.1 588) l) (mS (M.2.1 588) r)) y := lst_congr (fun u => jn2_ag q3 q4 u) hy
      obtain ⟨tt, et, hl5⟩ := lst_pos hy4 (by omega)
      exact ⟨_, _, rfl, rfl, 3, y, rfl, .inr (.inl ⟨(lst_none hx4).mp (by omega), tt, hl5, rfl, et⟩), FG_put FF _ _, fun e => absurd e (by decide), fun _ => ⟨rd_eq, (rd_nk (by decide)).trans rd_eq⟩⟩
    · refine x_cst (zi 1) 1 249 rfl rfl rfl ?_
      refine x_ret rfl rfl rfl rfl ?_
      have q1 : ag (mS ((rB (rB M 587 (clP (M.2.1 587) k 18)) 588 (clP ((rB M 587 (clP (M.2.1 587) k 18)).2.1 588) k 18)).2.1 587) l) (mS (M.2.1 587) l) := Fe_ag F2 (.inl rfl) lk
      have q3 : ag (mS (M3.2.1 588) l) (mS (M.2.1 588) l) := Fe_ag (Fe_trans F2 (Fe_of (.inl rfl) F3)) (.inr rfl) lk
      have q2 : ag (mS ((rB (rB M 587 (clP (M.2.1 587) k 18)) 588 (clP ((rB M 587 (clP (M.2.1 587) k 18)).2.1 588) k 18)).2.1 587) r) (mS (M.2.1 587) r) := Fe_ag F2 (.inl rfl) rk
      have q4 : ag (mS (M3.2.1 588) r) (mS (M.2.1 588) r) := Fe_ag (Fe_trans F2 (Fe_of (.inl rfl) F3)) (.inr rfl) rk
      have hx4 : lst (sD1 5 (mS (M.2.1 587) l) (mS (M.2.1 587) r)) x := lst_congr (fun u => jn2_ag q1 q2 u) hx
      have hy4 : lst (sD2 5 (mS (M.2.1 588) l) (mS (M.2.1 588) r)) y := lst_congr (fun u => jn2_ag q3 q4 u) hy
      refine ⟨_, M4, rfl, rfl, 0, -1, rfl, .inr (.inr ⟨(lst_none hx4).mp (by omega), (lst_none hy4).mp (by omega), rfl, rfl, fun t ht => ⟨?_, ?_⟩⟩), FG_of FF, fun _ => Fe_572 FF, fun e => absurd rfl e⟩
      · rw [F4.2.2.1 587 (by decide)]; exact (hbx t ht).trans (jn_ag q1 q2 t)
      · exact (hby t ht).trans (jn_ag q3 q4 t)
theorem c118_6 (d : Nat) {k l r : Nat} (hk : k < 32) (T : Nat) (hkd : M.1 582 (k : Int) = 5) (hl : M.1 583 (k : Int) = (l : Int)) (hr : M.1 584 (k : Int) = (r : Int)) (l32 : l < 32) (lk : l ≠ k) (r32 : r < 32) (rk : r ≠ k) : ab_Z (pg_G L xs) (d + 5) 118 [.ref 572, zi (k : Nat)] M es (gO k 6 T (mS (M.2.1 587) l) (mS (M.2.1 587) r) (mS (M.2.1 588) l) (mS (M.2.1 588) r) M) := by
  have F2 : Fe k M (rB (rB M 587 (clP (M.2.1 587) k 18)) 588 (clP ((rB M 587 (clP (M.2.1 587) k 18)).2.1 588) k 18)) := Fe_trans (Fe_cl (.inl rfl) M) (Fe_cl (.inr rfl) _)
  have hc1 : ∀ u : Nat, u < 1152 → (rB (rB M 587 (clP (M.2.1 587) k 18)) 588 (clP ((rB M 587 (clP (M.2.1 587) k 18)).2.1 588) k 18)).2.1 587 (1152 * (k : Int) + (u : Int)) = false := by
    intro u hu
    rw [rB_ne (by decide), rB_at]; unfold clP; rw [if_pos (by omega)]
  have hc2 : ∀ u : Nat, u < 1152 → (rB (rB M 587 (clP (M.2.1 587) k 18)) 588 (clP ((rB M 587 (clP (M.2.1 587) k 18)).2.1 588) k 18)).2.1 588 (1152 * (k : Int) + (u : Int)) = false := by
    intro u hu
    rw [rB_at]; unfold clP; rw [if_pos (by omega)]
  show ab_W (pg_G L xs) (ab_X (pg_G L xs) (d + 4)) 118 _ 0 [some (.ref 572), some (zi ((k : Nat) : Int)), none, none, none, none, none, none] [] (hp M ++ es)
  refine x_ld 0 1 2 1 rfl rfl rfl rfl rfl ?_
  refine g_572_14 38 4 rfl rfl rfl ?_
  refine x_ld 1 1 0 5 rfl rfl rfl rfl rfl ?_
  refine z_ild 5 6 rfl i_582 rfl ⟨by omega, by omega⟩ hkd rfl ?_
  refine x_st 2 1 0 7 [some (.ref 572), some (zi ((k : Nat) : Int)), some (zi 5), none, none, none, none, none] rfl rfl rfl (Nat.le_of_ble_eq_true rfl) rfl rfl ?_
  refine x_ld 0 1 2 8 rfl rfl rfl rfl rfl ?_
  refine g_572_15 41 11 rfl rfl rfl ?_
  refine x_ld 1 1 0 12 rfl rfl rfl rfl rfl ?_
  refine z_ild ((l : Nat) : Int) 13 rfl i_583 rfl ⟨by omega, by omega⟩ hl rfl ?_
  refine x_st 3 1 0 14 [some (.ref 572), some (zi ((k : Nat) : Int)), some (zi 5), some (zi ((l : Nat) : Int)), none, none, none, none] rfl rfl rfl (Nat.le_of_ble_eq_true rfl) rfl rfl ?_
  refine x_ld 0 1 2 15 rfl rfl rfl rfl rfl ?_
  refine g_572_16 44 18 rfl rfl rfl ?_
  refine x_ld 1 1 0 19 rfl rfl rfl rfl rfl ?_
  refine z_ild ((r : Nat) : Int) 20 rfl i_584 rfl ⟨by omega, by omega⟩ hr rfl ?_
  refine x_st 4 2 0 22 [some (.ref 572), some (zi ((k : Nat) : Int)), some (zi 5), some (zi ((l : Nat) : Int)), some (zi ((r : Nat) : Int)), none, none, none] rfl rfl rfl (Nat.le_of_ble_eq_true rfl) rfl rfl ?_
  refine x_ld 0 1 2 23 rfl rfl rfl rfl rfl ?_
  refine x_ld 0 1 2 24 rfl rfl rfl rfl rfl ?_
  refine g_572_19 53 27 rfl rfl rfl ?_
  refine x_ld 1 1 0 28 rfl rfl rfl rfl rfl ?_
  refine x_cv 239 119 31 [.ref 572, .ref 587, zi ((k : Nat) : Int)] rfl rfl rfl (Nat.le_of_ble_eq_true rfl) rfl rfl (Nat.le_of_ble_eq_true rfl) ⟨_, _, _, rfl, o_572⟩ (Nat.le_of_ble_eq_true rfl) (c119 (d + 3) i_587 (by omega)) rfl ?_
  refine x_ld 0 1 2 32 rfl rfl rfl rfl rfl ?_
  refine x_ld 0 1 2 33 rfl rfl rfl rfl rfl ?_
  refine g_572_20 56 36 rfl rfl rfl ?_
  refine x_ld 1 1 0 37 rfl rfl rfl rfl rfl ?_
  refine x_cv 239 119 40 [.ref 572, .ref 588, zi ((k : Nat) : Int)] rfl rfl rfl (Nat.le_of_ble_eq_true rfl) rfl rfl (Nat.le_of_ble_eq_true rfl) ⟨_, _, _, rfl, o_572⟩ (Nat.le_of_ble_eq_true rfl) (c119 (M := (rB M 587 (clP (M.2.1 587) k 18))) (d + 3) i_588 (by omega)) rfl ?_
  refine x_cst (zi (-1)) 1 41 rfl rfl rfl ?_
  refine x_st 5 2 0 43 [some (.ref 572), some (zi ((k : Nat) : Int)), some (zi 5), some (zi ((l : Nat) : Int)), some (zi ((r : Nat) : Int)), some (zi (-1)), none, none] rfl rfl rfl (Nat.le_of_ble_eq_true rfl) rfl rfl ?_
  refine x_cst (zi (-1)) 1 44 rfl rfl rfl ?_
  refine x_st 6 2 0 46 [some (.ref 572), some (zi ((k : Nat) : Int)), some (zi 5), some (zi ((l : Nat) : Int)), some (zi ((r : Nat) : Int)), some (zi (-1)), some (zi (-1)), none] rfl rfl rfl (Nat.le_of_ble_eq_true rfl) rfl rfl ?_
  refine x_ld 2 1 0 47 rfl rfl rfl rfl rfl ?_
  refine x_cst (zi 4) 1 48 rfl rfl rfl ?_
  refine z_icge 59 51 rfl rfl rfl (rg_lit 5 rfl) (rg_lit 4 rfl) (fun _ => ?_) (fun c => absurd c (by decide))
  refine x_ld 2 1 0 60 rfl rfl rfl rfl rfl ?_
  refine x_cst (zi 6) 2 62 rfl rfl rfl ?_
  refine z_icne 132 65 rfl rfl rfl (rg_lit 5 rfl) (rg_lit 6 rfl) (fun _ => ?_) (fun c => absurd c (by decide))
  refine x_ld 2 1 0 133 rfl rfl rfl rfl rfl ?_
  refine x_cst (zi 7) 2 135 rfl rfl rfl ?_
  refine z_icne 151 138 rfl rfl rfl (rg_lit 5 rfl) (rg_lit 7 rfl) (fun _ => ?_) (fun c => absurd c (by decide))
  refine x_ld 2 1 0 152 rfl rfl rfl rfl rfl ?_
  refine x_cst (zi 8) 2 154 rfl rfl rfl ?_
  refine z_iceq 163 157 rfl rfl rfl (rg_lit 5 rfl) (rg_lit 8 rfl) (fun c => absurd c (by decide)) (fun _ => ?_)
  refine x_ld 2 1 0 158 rfl rfl rfl rfl rfl ?_
  refine x_cst (zi 9) 2 160 rfl rfl rfl ?_
  refine z_icne 190 163 rfl rfl rfl (rg_lit 5 rfl) (rg_lit 9 rfl) (fun _ => ?_) (fun c => absurd c (by decide))
  refine x_ld 0 1 2 191 rfl rfl rfl rfl rfl ?_
  refine x_ld 0 1 2 192 rfl rfl rfl rfl rfl ?_
  refine g_572_19 53 195 rfl rfl rfl ?_
  refine x_ld 1 1 0 196 rfl rfl rfl rfl rfl ?_
  refine x_ld 3 1 0 197 rfl rfl rfl rfl rfl ?_
  refine x_ld 4 2 0 199 rfl rfl rfl rfl rfl ?_
  refine x_ce 254 128 202 [.ref 572, .ref 587, zi ((k : Nat) : Int), zi ((l : Nat) : Int), zi ((r : Nat) : Int)] rfl rfl rfl (Nat.le_of_ble_eq_true rfl) rfl rfl (Nat.le_of_ble_eq_true rfl) ⟨_, _, _, rfl, o_572⟩ (Nat.le_of_ble_eq_true rfl) (c128 (M := (rB (rB M 587 (clP (M.2.1 587) k 18)) 588 (clP ((rB M 587 (clP (M.2.1 587) k 18)).2.1 588) k 18))) (d + 1) i_587 (k := k) (f := l) (g := r) (by omega) (by omega) (by omega) lk rk hc1) rfl ?_
  rintro v M3 ⟨x, rfl, F3, hx, hbx⟩
  have hxr := lst_rg hx (fun t ht => ht.1)
  refine x_st 5 2 0 204 [some (.ref 572), some (zi ((k : Nat) : Int)), some (zi 5), some (zi ((l : Nat) : Int)), some (zi ((r : Nat) : Int)), some (zi x), some (zi (-1)), none] rfl rfl rfl (Nat.le_of_ble_eq_true rfl) rfl rfl ?_
  refine x_ld 2 1 0 205 rfl rfl rfl rfl rfl ?_
  refine x_cst (zi 4) 1 206 rfl rfl rfl ?_
  refine z_icne 224 209 rfl rfl rfl (rg_lit 5 rfl) (rg_lit 4 rfl) (fun _ => ?_) (fun c => absurd c (by decide))
  refine x_ld 0 1 2 225 rfl rfl rfl rfl rfl ?_
  refine x_ld 0 1 2 226 rfl rfl rfl rfl rfl ?_
  refine g_572_20 56 229 rfl rfl rfl ?_
  refine x_ld 1 1 0 230 rfl rfl rfl rfl rfl ?_
  refine x_ld 4 2 0 232 rfl rfl rfl rfl rfl ?_
  refine x_ld 3 1 0 233 rfl rfl rfl rfl rfl ?_
  refine x_ce 254 128 236 [.ref 572, .ref 588, zi ((k : Nat) : Int), zi ((r : Nat) : Int), zi ((l : Nat) : Int)] rfl rfl rfl (Nat.le_of_ble_eq_true rfl) rfl rfl (Nat.le_of_ble_eq_true rfl) ⟨_, _, _, rfl, o_572⟩ (Nat.le_of_ble_eq_true rfl) (c128 (M := M3) (d + 1) i_588 (k := k) (f := r) (g := l) (by omega) (by omega) (by omega) rk lk (fun u hu => by rw [F3.2.2.1 588 (by decide)]; exact hc2 u hu)) rfl ?_
  rintro v4 M4 ⟨y, rfl, F4, hy, hby⟩
  have hyr := lst_rg hy (fun t ht => ht.1)
  have FF := Fe_trans (Fe_trans F2 (Fe_of (.inl rfl) F3)) (Fe_of (.inr rfl) F4)
  refine x_st 6 2 0 238 [some (.ref 572), some (zi ((k : Nat) : Int)), some (zi 5), some (zi ((l : Nat) : Int)), some (zi ((r : Nat) : Int)), some (zi x), some (zi y), none] rfl rfl rfl (Nat.le_of_ble_eq_true rfl) rfl rfl ?_
  refine x_ld 5 2 0 240 rfl rfl rfl rfl rfl ?_
  refine z_ifge 250 243 rfl rfl rfl ⟨by omega, by omega⟩ (fun c240 => ?_) (fun c240 => ?_)
  · refine x_ld 0 1 2 251 rfl rfl rfl rfl rfl ?_
    refine x_ld 5 2 0 253 rfl rfl rfl rfl rfl ?_
    refine z_iflt 261 256 rfl rfl rfl ⟨by omega, by omega⟩ (fun c => absurd c (by omega)) (fun _ => ?_)
    refine x_ld 5 2 0 258 rfl rfl rfl rfl rfl ?_
    refine x_go 263 rfl rfl ?_
    refine s_572_31 74 266 rfl rfl rfl rfl rfl rfl ?_
    refine x_ld 0 1 2 267 rfl rfl rfl rfl rfl ?_
    refine x_ld 2 1 0 268 rfl rfl rfl rfl rfl ?_
    refine x_cst (zi 7) 2 270 rfl rfl rfl ?_
    refine z_icne 278 273 rfl rfl rfl (rg_lit 5 rfl) (rg_lit 7 rfl) (fun _ => ?_) (fun c => absurd c (by decide))
    refine x_ld 2 1 0 279 rfl rfl rfl rfl rfl ?_
    refine x_cst (zi 4) 1 280 rfl rfl rfl ?_
    refine z_iceq 288 283 rfl rfl rfl (rg_lit 5 rfl) (rg_lit 4 rfl) (fun c => absurd c (by decide)) (fun _ => ?_)
    refine x_ld 2 1 0 284 rfl rfl rfl rfl rfl ?_
    refine x_cst (zi 5) 1 285 rfl rfl rfl ?_
    refine z_icne 292 288 rfl rfl rfl (rg_lit 5 rfl) (rg_lit 5 rfl) (fun c => absurd c (by decide)) (fun _ => ?_)
    refine x_cst (zi 2) 1 289 rfl rfl rfl ?_
    refine x_go 293 rfl rfl ?_
    refine x_ld 5 2 0 295 rfl rfl rfl rfl rfl ?_
    refine z_iflt 302 298 rfl rfl rfl ⟨by omega, by omega⟩ (fun c => absurd c (by omega)) (fun _ => ?_)
    refine x_cst (zi 0) 1 299 rfl rfl rfl ?_
    refine x_go 303 rfl rfl ?_
    refine z_add 304 rfl rfl ?_
    refine s_572_30 258 307 rfl rfl rfl rfl rfl rfl ?_
    refine x_cst (zi 0) 1 308 rfl rfl rfl ?_
    refine x_ret rfl rfl rfl rfl ?_
    have q1 : ag (mS ((rB (rB M 587 (clP (M.2.1 587) k 18)) 588 (clP ((rB M 587 (clP (M.2.1 587) k 18)).2.1 588) k 18)).2.1 587) l) (mS (M.2.1 587) l) := Fe_ag F2 (.inl rfl) lk
    have q3 : ag (mS (M3.2.1 588) l) (mS (M.2.1 588) l) := Fe_ag (Fe_trans F2 (Fe_of (.inl rfl) F3)) (.inr rfl) lk
    have q2 : ag (mS ((rB (rB M 587 (clP (M.2.1 587) k 18)) 588 (clP ((rB M 587 (clP (M.2.1 587) k 18)).2.1 588) k 18)).2.1 587) r) (mS (M.2.1 587) r) := Fe_ag F2 (.inl rfl) rk
    have q4 : ag (mS (M3.2.1 588) r) (mS (M.2.1 588) r) := Fe_ag (Fe_trans F2 (Fe_of (.inl rfl) F3)) (.inr rfl) rk
    have hx4 : lst (sD1 6 (mS (M.2.1 587) l) (mS (M.2.1 587) r)) x := lst_congr (fun u => jn2_ag q1 q2 u) hx
    have hy4 : lst (sD2 6 (mS (M.2.1 588) l) (mS (M.2.1 588) r)) y := lst_congr (fun u => jn2_ag q4 q3 u) hy
    obtain ⟨tt, et, hl5⟩ := lst_pos hx4 (by omega)
    exact ⟨_, _, rfl, rfl, 2, x, rfl, .inl ⟨tt, hl5, rfl, et⟩, FG_put FF _ _, fun e => absurd e (by decide), fun _ => ⟨rd_eq, (rd_nk (by decide)).trans rd_eq⟩⟩
  · refine x_ld 6 2 0 245 rfl rfl rfl rfl rfl ?_
    refine z_ifge 250 248 rfl rfl rfl ⟨by omega, by omega⟩ (fun c245 => ?_) (fun c245 => ?_)
    · refine x_ld 0 1 2 251 rfl rfl rfl rfl rfl ?_
      refine x_ld 5 2 0 253 rfl rfl rfl rfl rfl ?_
      refine z_iflt 261 256 rfl rfl rfl ⟨by omega, by omega⟩ (fun _ => ?_) (fun c => absurd c (by omega))
      refine x_ld 6 2 0 263 rfl rfl rfl rfl rfl ?_
      refine s_572_31 74 266 rfl rfl rfl rfl rfl rfl ?_
      refine x_ld 0 1 2 267 rfl rfl rfl rfl rfl ?_
      refine x_ld 2 1 0 268 rfl rfl rfl rfl rfl ?_
      refine x_cst (zi 7) 2 270 rfl rfl rfl ?_
      refine z_icne 278 273 rfl rfl rfl (rg_lit 5 rfl) (rg_lit 7 rfl) (fun _ => ?_) (fun c => absurd c (by decide))
      refine x_ld 2 1 0 279 rfl rfl rfl rfl rfl ?_
      refine x_cst (zi 4) 1 280 rfl rfl rfl ?_
      refine z_iceq 288 283 rfl rfl rfl (rg_lit 5 rfl) (rg_lit 4 rfl) (fun c => absurd c (by decide)) (fun _ => ?_)
      refine x_ld 2 1 0 284 rfl rfl rfl rfl rfl ?_
      refine x_cst (zi 5) 1 285 rfl rfl rfl ?_
      refine z_icne 292 288 rfl rfl rfl (rg_lit 5 rfl) (rg_lit 5 rfl) (fun c => absurd c (by decide)) (fun _ => ?_)
      refine x_cst (zi 2) 1 289 rfl rfl rfl ?_
      refine x_go 293 rfl rfl ?_
      refine x_ld 5 2 0 295 rfl rfl rfl rfl rfl ?_
      refine z_iflt 302 298 rfl rfl rfl ⟨by omega, by omega⟩ (fun _ => ?_) (fun c => absurd c (by omega))
      refine x_cst (zi 1) 1 303 rfl rfl rfl ?_
      refine z_add 304 rfl rfl ?_
      refine s_572_30 258 307 rfl rfl rfl rfl rfl rfl ?_
      refine x_cst (zi 0) 1 308 rfl rfl rfl ?_
      refine x_ret rfl rfl rfl rfl ?_
      have q1 : ag (mS ((rB (rB M 587 (clP (M.2.1 587) k 18)) 588 (clP ((rB M 587 (clP (M.2.1 587) k 18)).2.1 588) k 18)).2.1 587) l) (mS (M.2.1 587) l) := Fe_ag F2 (.inl rfl) lk
      have q3 : ag (mS (M3.2.1 588) l) (mS (M.2.1 588) l) := Fe_ag (Fe_trans F2 (Fe_of (.inl rfl) F3)) (.inr rfl) lk
      have q2 : ag (mS ((rB (rB M 587 (clP (M.2.1 587) k 18)) 588 (clP ((rB M 587 (clP (M.2.1 587) k 18)).2.1 588) k 18)).2.1 587) r) (mS (M.2.1 587) r) := Fe_ag F2 (.inl rfl) rk
      have q4 : ag (mS (M3.2.1 588) r) (mS (M.2.1 588) r) := Fe_ag (Fe_trans F2 (Fe_of (.inl rfl) F3)) (.inr rfl) rk
      have hx4 : lst (sD1 6 (mS (M.2.1 587) l) (mS (M.2.1 587) r)) x := lst_congr (fun u => jn2_ag q1 q2 u) hx
      have hy4 : lst (sD2 6 (mS (M.2.1 588) l) (mS (M.2.1 588) r)) y := lst_congr (fun u => jn2_ag q4 q3 u) hy
      obtain ⟨tt, et, hl5⟩ := lst_pos hy4 (by omega)
      exact ⟨_, _, rfl, rfl, 3, y, rfl, .inr (.inl ⟨(lst_none hx4).mp (by omega), tt, hl5, rfl, et⟩), FG_put FF _ _, fun e => absurd e (by decide), fun _ => ⟨rd_eq, (rd_nk (by decide)).trans rd_eq⟩⟩
    · refine x_cst (zi 1) 1 249 rfl rfl rfl ?_
      refine x_ret rfl rfl rfl rfl ?_
      have q1 : ag (mS ((rB (rB M 587 (clP (M.2.1 587) k 18)) 588 (clP ((rB M 587 (clP (M.2.1 587) k 18)).2.1 588) k 18)).2.1 587) l) (mS (M.2.1 587) l) := Fe_ag F2 (.inl rfl) lk
      have q3 : ag (mS (M3.2.1 588) l) (mS (M.2.1 588) l) := Fe_ag (Fe_trans F2 (Fe_of (.inl rfl) F3)) (.inr rfl) lk
      have q2 : ag (mS ((rB (rB M 587 (clP (M.2.1 587) k 18)) 588 (clP ((rB M 587 (clP (M.2.1 587) k 18)).2.1 588) k 18)).2.1 587) r) (mS (M.2.1 587) r) := Fe_ag F2 (.inl rfl) rk
      have q4 : ag (mS (M3.2.1 588) r) (mS (M.2.1 588) r) := Fe_ag (Fe_trans F2 (Fe_of (.inl rfl) F3)) (.inr rfl) rk
      have hx4 : lst (sD1 6 (mS (M.2.1 587) l) (mS (M.2.1 587) r)) x := lst_congr (fun u => jn2_ag q1 q2 u) hx
      have hy4 : lst (sD2 6 (mS (M.2.1 588) l) (mS (M.2.1 588) r)) y := lst_congr (fun u => jn2_ag q4 q3 u) hy
      refine ⟨_, M4, rfl, rfl, 0, -1, rfl, .inr (.inr ⟨(lst_none hx4).mp (by omega), (lst_none hy4).mp (by omega), rfl, rfl, fun t ht => ⟨?_, ?_⟩⟩), FG_of FF, fun _ => Fe_572 FF, fun e => absurd rfl e⟩
      · rw [F4.2.2.1 587 (by decide)]; exact (hbx t ht).trans (jn_ag q1 q2 t)
      · exact (hby t ht).trans (jn_ag q4 q3 t)
theorem c118_7 (d : Nat) {k l r : Nat} (hk : k < 32) (T : Nat) (hkd : M.1 582 (k : Int) = 8) (hl : M.1 583 (k : Int) = (l : Int)) (hr : M.1 584 (k : Int) = -1) (l32 : l < 32) (lk : l ≠ k) : ab_Z (pg_G L xs) (d + 5) 118 [.ref 572, zi (k : Nat)] M es (gO k 7 T (mS (M.2.1 587) l) (mS (M.2.1 587) r) (mS (M.2.1 588) l) (mS (M.2.1 588) r) M) := by
  have F2 : Fe k M (rB (rB M 587 (clP (M.2.1 587) k 18)) 588 (clP ((rB M 587 (clP (M.2.1 587) k 18)).2.1 588) k 18)) := Fe_trans (Fe_cl (.inl rfl) M) (Fe_cl (.inr rfl) _)
  have hc1 : ∀ u : Nat, u < 1152 → (rB (rB M 587 (clP (M.2.1 587) k 18)) 588 (clP ((rB M 587 (clP (M.2.1 587) k 18)).2.1 588) k 18)).2.1 587 (1152 * (k : Int) + (u : Int)) = false := by
    intro u hu
    rw [rB_ne (by decide), rB_at]; unfold clP; rw [if_pos (by omega)]
  have hc2 : ∀ u : Nat, u < 1152 → (rB (rB M 587 (clP (M.2.1 587) k 18)) 588 (clP ((rB M 587 (clP (M.2.1 587) k 18)).2.1 588) k 18)).2.1 588 (1152 * (k : Int) + (u : Int)) = false := by
    intro u hu
    rw [rB_at]; unfold clP; rw [if_pos (by omega)]
  show ab_W (pg_G L xs) (ab_X (pg_G L xs) (d + 4)) 118 _ 0 [some (.ref 572), some (zi ((k : Nat) : Int)), none, none, none, none, none, none] [] (hp M ++ es)
  refine x_ld 0 1 2 1 rfl rfl rfl rfl rfl ?_
  refine g_572_14 38 4 rfl rfl rfl ?_
  refine x_ld 1 1 0 5 rfl rfl rfl rfl rfl ?_
  refine z_ild 8 6 rfl i_582 rfl ⟨by omega, by omega⟩ hkd rfl ?_
  refine x_st 2 1 0 7 [some (.ref 572), some (zi ((k : Nat) : Int)), some (zi 8), none, none, none, none, none] rfl rfl rfl (Nat.le_of_ble_eq_true rfl) rfl rfl ?_
  refine x_ld 0 1 2 8 rfl rfl rfl rfl rfl ?_
  refine g_572_15 41 11 rfl rfl rfl ?_
  refine x_ld 1 1 0 12 rfl rfl rfl rfl rfl ?_
  refine z_ild ((l : Nat) : Int) 13 rfl i_583 rfl ⟨by omega, by omega⟩ hl rfl ?_
  refine x_st 3 1 0 14 [some (.ref 572), some (zi ((k : Nat) : Int)), some (zi 8), some (zi ((l : Nat) : Int)), none, none, none, none] rfl rfl rfl (Nat.le_of_ble_eq_true rfl) rfl rfl ?_
  refine x_ld 0 1 2 15 rfl rfl rfl rfl rfl ?_
  refine g_572_16 44 18 rfl rfl rfl ?_
  refine x_ld 1 1 0 19 rfl rfl rfl rfl rfl ?_
  refine z_ild (-1) 20 rfl i_584 rfl ⟨by omega, by omega⟩ hr rfl ?_
  refine x_st 4 2 0 22 [some (.ref 572), some (zi ((k : Nat) : Int)), some (zi 8), some (zi ((l : Nat) : Int)), some (zi (-1)), none, none, none] rfl rfl rfl (Nat.le_of_ble_eq_true rfl) rfl rfl ?_
  refine x_ld 0 1 2 23 rfl rfl rfl rfl rfl ?_
  refine x_ld 0 1 2 24 rfl rfl rfl rfl rfl ?_
  refine g_572_19 53 27 rfl rfl rfl ?_
  refine x_ld 1 1 0 28 rfl rfl rfl rfl rfl ?_
  refine x_cv 239 119 31 [.ref 572, .ref 587, zi ((k : Nat) : Int)] rfl rfl rfl (Nat.le_of_ble_eq_true rfl) rfl rfl (Nat.le_of_ble_eq_true rfl) ⟨_, _, _, rfl, o_572⟩ (Nat.le_of_ble_eq_true rfl) (c119 (d + 3) i_587 (by omega)) rfl ?_
  refine x_ld 0 1 2 32 rfl rfl rfl rfl rfl ?_
  refine x_ld 0 1 2 33 rfl rfl rfl rfl rfl ?_
  refine g_572_20 56 36 rfl rfl rfl ?_
  refine x_ld 1 1 0 37 rfl rfl rfl rfl rfl ?_
  refine x_cv 239 119 40 [.ref 572, .ref 588, zi ((k : Nat) : Int)] rfl rfl rfl (Nat.le_of_ble_eq_true rfl) rfl rfl (Nat.le_of_ble_eq_true rfl) ⟨_, _, _, rfl, o_572⟩ (Nat.le_of_ble_eq_true rfl) (c119 (M := (rB M 587 (clP (M.2.1 587) k 18))) (d + 3) i_588 (by omega)) rfl ?_
  refine x_cst (zi (-1)) 1 41 rfl rfl rfl ?_
  refine x_st 5 2 0 43 [some (.ref 572), some (zi ((k : Nat) : Int)), some (zi 8), some (zi ((l : Nat) : Int)), some (zi (-1)), some (zi (-1)), none, none] rfl rfl rfl (Nat.le_of_ble_eq_true rfl) rfl rfl ?_
  refine x_cst (zi (-1)) 1 44 rfl rfl rfl ?_
  refine x_st 6 2 0 46 [some (.ref 572), some (zi ((k : Nat) : Int)), some (zi 8), some (zi ((l : Nat) : Int)), some (zi (-1)), some (zi (-1)), some (zi (-1)), none] rfl rfl rfl (Nat.le_of_ble_eq_true rfl) rfl rfl ?_
  refine x_ld 2 1 0 47 rfl rfl rfl rfl rfl ?_
  refine x_cst (zi 4) 1 48 rfl rfl rfl ?_
  refine z_icge 59 51 rfl rfl rfl (rg_lit 8 rfl) (rg_lit 4 rfl) (fun _ => ?_) (fun c => absurd c (by decide))
  refine x_ld 2 1 0 60 rfl rfl rfl rfl rfl ?_
  refine x_cst (zi 6) 2 62 rfl rfl rfl ?_
  refine z_icne 132 65 rfl rfl rfl (rg_lit 8 rfl) (rg_lit 6 rfl) (fun _ => ?_) (fun c => absurd c (by decide))
  refine x_ld 2 1 0 133 rfl rfl rfl rfl rfl ?_
  refine x_cst (zi 7) 2 135 rfl rfl rfl ?_
  refine z_icne 151 138 rfl rfl rfl (rg_lit 8 rfl) (rg_lit 7 rfl) (fun _ => ?_) (fun c => absurd c (by decide))
  refine x_ld 2 1 0 152 rfl rfl rfl rfl rfl ?_
  refine x_cst (zi 8) 2 154 rfl rfl rfl ?_
  refine z_iceq 163 157 rfl rfl rfl (rg_lit 8 rfl) (rg_lit 8 rfl) (fun _ => ?_) (fun c => absurd c (by decide))
  refine x_ld 0 1 2 164 rfl rfl rfl rfl rfl ?_
  refine x_ld 0 1 2 165 rfl rfl rfl rfl rfl ?_
  refine g_572_19 53 168 rfl rfl rfl ?_
  refine x_ld 1 1 0 169 rfl rfl rfl rfl rfl ?_
  refine x_ld 3 1 0 170 rfl rfl rfl rfl rfl ?_
  refine x_ce 250 124 173 [.ref 572, .ref 587, zi ((k : Nat) : Int), zi ((l : Nat) : Int)] rfl rfl rfl (Nat.le_of_ble_eq_true rfl) rfl rfl (Nat.le_of_ble_eq_true rfl) ⟨_, _, _, rfl, o_572⟩ (Nat.le_of_ble_eq_true rfl) (c124 (M := (rB (rB M 587 (clP (M.2.1 587) k 18)) 588 (clP ((rB M 587 (clP (M.2.1 587) k 18)).2.1 588) k 18))) (d + 1) i_587 (k := k) (f := l) (by omega) (by omega) lk hc1) rfl ?_
  rintro v M3 ⟨x, rfl, F3, hx, hbx⟩
  have hxr := lst_rg hx (fun t ht => by rcases ht with ht | ht; (· have := ht.2; omega); (· exact ht.2.1))
  refine x_st 5 2 0 175 [some (.ref 572), some (zi ((k : Nat) : Int)), some (zi 8), some (zi ((l : Nat) : Int)), some (zi (-1)), some (zi x), some (zi (-1)), none] rfl rfl rfl (Nat.le_of_ble_eq_true rfl) rfl rfl ?_
  refine x_ld 0 1 2 176 rfl rfl rfl rfl rfl ?_
  refine x_ld 0 1 2 177 rfl rfl rfl rfl rfl ?_
  refine g_572_20 56 180 rfl rfl rfl ?_
  refine x_ld 1 1 0 181 rfl rfl rfl rfl rfl ?_
  refine x_ld 3 1 0 182 rfl rfl rfl rfl rfl ?_
  refine x_ce 250 124 185 [.ref 572, .ref 588, zi ((k : Nat) : Int), zi ((l : Nat) : Int)] rfl rfl rfl (Nat.le_of_ble_eq_true rfl) rfl rfl (Nat.le_of_ble_eq_true rfl) ⟨_, _, _, rfl, o_572⟩ (Nat.le_of_ble_eq_true rfl) (c124 (M := M3) (d + 1) i_588 (k := k) (f := l) (by omega) (by omega) lk (fun u hu => by rw [F3.2.2.1 588 (by decide)]; exact hc2 u hu)) rfl ?_
  rintro v4 M4 ⟨y, rfl, F4, hy, hby⟩
  have hyr := lst_rg hy (fun t ht => by rcases ht with ht | ht; (· have := ht.2; omega); (· exact ht.2.1))
  have FF := Fe_trans (Fe_trans F2 (Fe_of (.inl rfl) F3)) (Fe_of (.inr rfl) F4)
  refine x_st 6 2 0 187 [some (.ref 572), some (zi ((k : Nat) : Int)), some (zi 8), some (zi ((l : Nat) : Int)), some (zi (-1)), some (zi x), some (zi y), none] rfl rfl rfl (Nat.le_of_ble_eq_true rfl) rfl rfl ?_
  refine x_go 238 rfl rfl ?_
  refine x_ld 5 2 0 240 rfl rfl rfl rfl rfl ?_
  refine z_ifge 250 243 rfl rfl rfl ⟨by omega, by omega⟩ (fun c240 => ?_) (fun c240 => ?_)
  · refine x_ld 0 1 2 251 rfl rfl rfl rfl rfl ?_
    refine x_ld 5 2 0 253 rfl rfl rfl rfl rfl ?_
    refine z_iflt 261 256 rfl rfl rfl ⟨by omega, by omega⟩ (fun c => absurd c (by omega)) (fun _ => ?_)
    refine x_ld 5 2 0 258 rfl rfl rfl rfl rfl ?_
    refine x_go 263 rfl rfl ?_
    refine s_572_31 74 266 rfl rfl rfl rfl rfl rfl ?_
    refine x_ld 0 1 2 267 rfl rfl rfl rfl rfl ?_
    refine x_ld 2 1 0 268 rfl rfl rfl rfl rfl ?_
    refine x_cst (zi 7) 2 270 rfl rfl rfl ?_
    refine z_icne 278 273 rfl rfl rfl (rg_lit 8 rfl) (rg_lit 7 rfl) (fun _ => ?_) (fun c => absurd c (by decide))
    refine x_ld 2 1 0 279 rfl rfl rfl rfl rfl ?_
    refine x_cst (zi 4) 1 280 rfl rfl rfl ?_
    refine z_iceq 288 283 rfl rfl rfl (rg_lit 8 rfl) (rg_lit 4 rfl) (fun c => absurd c (by decide)) (fun _ => ?_)
    refine x_ld 2 1 0 284 rfl rfl rfl rfl rfl ?_
    refine x_cst (zi 5) 1 285 rfl rfl rfl ?_
    refine z_icne 292 288 rfl rfl rfl (rg_lit 8 rfl) (rg_lit 5 rfl) (fun _ => ?_) (fun c => absurd c (by decide))
    refine x_cst (zi 4) 1 293 rfl rfl rfl ?_
    refine x_ld 5 2 0 295 rfl rfl rfl rfl rfl ?_
    refine z_iflt 302 298 rfl rfl rfl ⟨by omega, by omega⟩ (fun c => absurd c (by omega)) (fun _ => ?_)
    refine x_cst (zi 0) 1 299 rfl rfl rfl ?_
    refine x_go 303 rfl rfl ?_
    refine z_add 304 rfl rfl ?_
    refine s_572_30 258 307 rfl rfl rfl rfl rfl rfl ?_
    refine x_cst (zi 0) 1 308 rfl rfl rfl ?_
    refine x_ret rfl rfl rfl rfl ?_
    have q1 : ag (mS ((rB (rB M 587 (clP (M.2.1 587) k 18)) 588 (clP ((rB M 587 (clP (M.2.1 587) k 18)).2.1 588) k 18)).2.1 587) l) (mS (M.2.1 587) l) := Fe_ag F2 (.inl rfl) lk
    have q3 : ag (mS (M3.2.1 588) l) (mS (M.2.1 588) l) := Fe_ag (Fe_trans F2 (Fe_of (.inl rfl) F3)) (.inr rfl) lk
    have hx4 : lst (sD1 7 (mS (M.2.1 587) l) (mS (M.2.1 587) r)) x := lst_congr (fun u => rD_ag q1 u) hx
    have hy4 : lst (sD2 7 (mS (M.2.1 588) l) (mS (M.2.1 588) r)) y := lst_congr (fun u => rD_ag q3 u) hy
    obtain ⟨tt, et, hl5⟩ := lst_pos hx4 (by omega)
    exact ⟨_, _, rfl, rfl, 4, x, rfl, .inl ⟨tt, hl5, rfl, et⟩, FG_put FF _ _, fun e => absurd e (by decide), fun _ => ⟨rd_eq, (rd_nk (by decide)).trans rd_eq⟩⟩
  · refine x_ld 6 2 0 245 rfl rfl rfl rfl rfl ?_
    refine z_ifge 250 248 rfl rfl rfl ⟨by omega, by omega⟩ (fun c245 => ?_) (fun c245 => ?_)
    · refine x_ld 0 1 2 251 rfl rfl rfl rfl rfl ?_
      refine x_ld 5 2 0 253 rfl rfl rfl rfl rfl ?_
      refine z_iflt 261 256 rfl rfl rfl ⟨by omega, by omega⟩ (fun _ => ?_) (fun c => absurd c (by omega))
      refine x_ld 6 2 0 263 rfl rfl rfl rfl rfl ?_
      refine s_572_31 74 266 rfl rfl rfl rfl rfl rfl ?_
      refine x_ld 0 1 2 267 rfl rfl rfl rfl rfl ?_
      refine x_ld 2 1 0 268 rfl rfl rfl rfl rfl ?_
      refine x_cst (zi 7) 2 270 rfl rfl rfl ?_
      refine z_icne 278 273 rfl rfl rfl (rg_lit 8 rfl) (rg_lit 7 rfl) (fun _ => ?_) (fun c => absurd c (by decide))
      refine x_ld 2 1 0 279 rfl rfl rfl rfl rfl ?_
      refine x_cst (zi 4) 1 280 rfl rfl rfl ?_
      refine z_iceq 288 283 rfl rfl rfl (rg_lit 8 rfl) (rg_lit 4 rfl) (fun c => absurd c (by decide)) (fun _ => ?_)
      refine x_ld 2 1 0 284 rfl rfl rfl rfl rfl ?_
      refine x_cst (zi 5) 1 285 rfl rfl rfl ?_
      refine z_icne 292 288 rfl rfl rfl (rg_lit 8 rfl) (rg_lit 5 rfl) (fun _ => ?_) (fun c => absurd c (by decide))
      refine x_cst (zi 4) 1 293 rfl rfl rfl ?_
      refine x_ld 5 2 0 295 rfl rfl rfl rfl rfl ?_
      refine z_iflt 302 298 rfl rfl rfl ⟨by omega, by omega⟩ (fun _ => ?_) (fun c => absurd c (by omega))
      refine x_cst (zi 1) 1 303 rfl rfl rfl ?_
      refine z_add 304 rfl rfl ?_
      refine s_572_30 258 307 rfl rfl rfl rfl rfl rfl ?_
      refine x_cst (zi 0) 1 308 rfl rfl rfl ?_
      refine x_ret rfl rfl rfl rfl ?_
      have q1 : ag (mS ((rB (rB M 587 (clP (M.2.1 587) k 18)) 588 (clP ((rB M 587 (clP (M.2.1 587) k 18)).2.1 588) k 18)).2.1 587) l) (mS (M.2.1 587) l) := Fe_ag F2 (.inl rfl) lk
      have q3 : ag (mS (M3.2.1 588) l) (mS (M.2.1 588) l) := Fe_ag (Fe_trans F2 (Fe_of (.inl rfl) F3)) (.inr rfl) lk
      have hx4 : lst (sD1 7 (mS (M.2.1 587) l) (mS (M.2.1 587) r)) x := lst_congr (fun u => rD_ag q1 u) hx
      have hy4 : lst (sD2 7 (mS (M.2.1 588) l) (mS (M.2.1 588) r)) y := lst_congr (fun u => rD_ag q3 u) hy
      obtain ⟨tt, et, hl5⟩ := lst_pos hy4 (by omega)
      exact ⟨_, _, rfl, rfl, 5, y, rfl, .inr (.inl ⟨(lst_none hx4).mp (by omega), tt, hl5, rfl, et⟩), FG_put FF _ _, fun e => absurd e (by decide), fun _ => ⟨rd_eq, (rd_nk (by decide)).trans rd_eq⟩⟩
    · refine x_cst (zi 1) 1 249 rfl rfl rfl ?_
      refine x_ret rfl rfl rfl rfl ?_
      have q1 : ag (mS ((rB (rB M 587 (clP (M.2.1 587) k 18)) 588 (clP ((rB M 587 (clP (M.2.1 587) k 18)).2.1 588) k 18)).2.1 587) l) (mS (M.2.1 587) l) := Fe_ag F2 (.inl rfl) lk
      have q3 : ag (mS (M3.2.1 588) l) (mS (M.2.1 588) l) := Fe_ag (Fe_trans F2 (Fe_of (.inl rfl) F3)) (.inr rfl) lk
      have hx4 : lst (sD1 7 (mS (M.2.1 587) l) (mS (M.2.1 587) r)) x := lst_congr (fun u => rD_ag q1 u) hx
      have hy4 : lst (sD2 7 (mS (M.2.1 588) l) (mS (M.2.1 588) r)) y := lst_congr (fun u => rD_ag q3 u) hy
      refine ⟨_, M4, rfl, rfl, 0, -1, rfl, .inr (.inr ⟨(lst_none hx4).mp (by omega), (lst_none hy4).mp (by omega), rfl, rfl, fun t ht => ⟨?_, ?_⟩⟩), FG_of FF, fun _ => Fe_572 FF, fun e => absurd rfl e⟩
      · rw [F4.2.2.1 587 (by decide)]; exact (hbx ((lst_none hx).mp (by omega)) t ht).trans (rq_ag q1 t)
      · exact (hby ((lst_none hy).mp (by omega)) t ht).trans (rq_ag q3 t)
theorem c118_8 (d : Nat) {k l r : Nat} (hk : k < 32) (T : Nat) (hkd : M.1 582 (k : Int) = 9) (hl : M.1 583 (k : Int) = (l : Int)) (hr : M.1 584 (k : Int) = -1) (l32 : l < 32) (lk : l ≠ k) : ab_Z (pg_G L xs) (d + 5) 118 [.ref 572, zi (k : Nat)] M es (gO k 8 T (mS (M.2.1 587) l) (mS (M.2.1 587) r) (mS (M.2.1 588) l) (mS (M.2.1 588) r) M) := by
  have F2 : Fe k M (rB (rB M 587 (clP (M.2.1 587) k 18)) 588 (clP ((rB M 587 (clP (M.2.1 587) k 18)).2.1 588) k 18)) := Fe_trans (Fe_cl (.inl rfl) M) (Fe_cl (.inr rfl) _)
  have hc1 : ∀ u : Nat, u < 1152 → (rB (rB M 587 (clP (M.2.1 587) k 18)) 588 (clP ((rB M 587 (clP (M.2.1 587) k 18)).2.1 588) k 18)).2.1 587 (1152 * (k : Int) + (u : Int)) = false := by
    intro u hu
    rw [rB_ne (by decide), rB_at]; unfold clP; rw [if_pos (by omega)]
  have hc2 : ∀ u : Nat, u < 1152 → (rB (rB M 587 (clP (M.2.1 587) k 18)) 588 (clP ((rB M 587 (clP (M.2.1 587) k 18)).2.1 588) k 18)).2.1 588 (1152 * (k : Int) + (u : Int)) = false := by
    intro u hu
    rw [rB_at]; unfold clP; rw [if_pos (by omega)]
  show ab_W (pg_G L xs) (ab_X (pg_G L xs) (d + 4)) 118 _ 0 [some (.ref 572), some (zi ((k : Nat) : Int)), none, none, none, none, none, none] [] (hp M ++ es)
  refine x_ld 0 1 2 1 rfl rfl rfl rfl rfl ?_
  refine g_572_14 38 4 rfl rfl rfl ?_
  refine x_ld 1 1 0 5 rfl rfl rfl rfl rfl ?_
  refine z_ild 9 6 rfl i_582 rfl ⟨by omega, by omega⟩ hkd rfl ?_
  refine x_st 2 1 0 7 [some (.ref 572), some (zi ((k : Nat) : Int)), some (zi 9), none, none, none, none, none] rfl rfl rfl (Nat.le_of_ble_eq_true rfl) rfl rfl ?_
  refine x_ld 0 1 2 8 rfl rfl rfl rfl rfl ?_
  refine g_572_15 41 11 rfl rfl rfl ?_
  refine x_ld 1 1 0 12 rfl rfl rfl rfl rfl ?_
  refine z_ild ((l : Nat) : Int) 13 rfl i_583 rfl ⟨by omega, by omega⟩ hl rfl ?_
  refine x_st 3 1 0 14 [some (.ref 572), some (zi ((k : Nat) : Int)), some (zi 9), some (zi ((l : Nat) : Int)), none, none, none, none] rfl rfl rfl (Nat.le_of_ble_eq_true rfl) rfl rfl ?_
  refine x_ld 0 1 2 15 rfl rfl rfl rfl rfl ?_
  refine g_572_16 44 18 rfl rfl rfl ?_
  refine x_ld 1 1 0 19 rfl rfl rfl rfl rfl ?_
  refine z_ild (-1) 20 rfl i_584 rfl ⟨by omega, by omega⟩ hr rfl ?_
  refine x_st 4 2 0 22 [some (.ref 572), some (zi ((k : Nat) : Int)), some (zi 9), some (zi ((l : Nat) : Int)), some (zi (-1)), none, none, none] rfl rfl rfl (Nat.le_of_ble_eq_true rfl) rfl rfl ?_
  refine x_ld 0 1 2 23 rfl rfl rfl rfl rfl ?_
  refine x_ld 0 1 2 24 rfl rfl rfl rfl rfl ?_
  refine g_572_19 53 27 rfl rfl rfl ?_
  refine x_ld 1 1 0 28 rfl rfl rfl rfl rfl ?_
  refine x_cv 239 119 31 [.ref 572, .ref 587, zi ((k : Nat) : Int)] rfl rfl rfl (Nat.le_of_ble_eq_true rfl) rfl rfl (Nat.le_of_ble_eq_true rfl) ⟨_, _, _, rfl, o_572⟩ (Nat.le_of_ble_eq_true rfl) (c119 (d + 3) i_587 (by omega)) rfl ?_
  refine x_ld 0 1 2 32 rfl rfl rfl rfl rfl ?_
  refine x_ld 0 1 2 33 rfl rfl rfl rfl rfl ?_
  refine g_572_20 56 36 rfl rfl rfl ?_
  refine x_ld 1 1 0 37 rfl rfl rfl rfl rfl ?_
  refine x_cv 239 119 40 [.ref 572, .ref 588, zi ((k : Nat) : Int)] rfl rfl rfl (Nat.le_of_ble_eq_true rfl) rfl rfl (Nat.le_of_ble_eq_true rfl) ⟨_, _, _, rfl, o_572⟩ (Nat.le_of_ble_eq_true rfl) (c119 (M := (rB M 587 (clP (M.2.1 587) k 18))) (d + 3) i_588 (by omega)) rfl ?_
  refine x_cst (zi (-1)) 1 41 rfl rfl rfl ?_
  refine x_st 5 2 0 43 [some (.ref 572), some (zi ((k : Nat) : Int)), some (zi 9), some (zi ((l : Nat) : Int)), some (zi (-1)), some (zi (-1)), none, none] rfl rfl rfl (Nat.le_of_ble_eq_true rfl) rfl rfl ?_
  refine x_cst (zi (-1)) 1 44 rfl rfl rfl ?_
  refine x_st 6 2 0 46 [some (.ref 572), some (zi ((k : Nat) : Int)), some (zi 9), some (zi ((l : Nat) : Int)), some (zi (-1)), some (zi (-1)), some (zi (-1)), none] rfl rfl rfl (Nat.le_of_ble_eq_true rfl) rfl rfl ?_
  refine x_ld 2 1 0 47 rfl rfl rfl rfl rfl ?_
  refine x_cst (zi 4) 1 48 rfl rfl rfl ?_
  refine z_icge 59 51 rfl rfl rfl (rg_lit 9 rfl) (rg_lit 4 rfl) (fun _ => ?_) (fun c => absurd c (by decide))
  refine x_ld 2 1 0 60 rfl rfl rfl rfl rfl ?_
  refine x_cst (zi 6) 2 62 rfl rfl rfl ?_
  refine z_icne 132 65 rfl rfl rfl (rg_lit 9 rfl) (rg_lit 6 rfl) (fun _ => ?_) (fun c => absurd c (by decide))
  refine x_ld 2 1 0 133 rfl rfl rfl rfl rfl ?_
  refine x_cst (zi 7) 2 135 rfl rfl rfl ?_
  refine z_icne 151 138 rfl rfl rfl (rg_lit 9 rfl) (rg_lit 7 rfl) (fun _ => ?_) (fun c => absurd c (by decide))
  refine x_ld 2 1 0 152 rfl rfl rfl rfl rfl ?_
  refine x_cst (zi 8) 2 154 rfl rfl rfl ?_
  refine z_iceq 163 157 rfl rfl rfl (rg_lit 9 rfl) (rg_lit 8 rfl) (fun c => absurd c (by decide)) (fun _ => ?_)
  refine x_ld 2 1 0 158 rfl rfl rfl rfl rfl ?_
  refine x_cst (zi 9) 2 160 rfl rfl rfl ?_
  refine z_icne 190 163 rfl rfl rfl (rg_lit 9 rfl) (rg_lit 9 rfl) (fun c => absurd c (by decide)) (fun _ => ?_)
  refine x_ld 0 1 2 164 rfl rfl rfl rfl rfl ?_
  refine x_ld 0 1 2 165 rfl rfl rfl rfl rfl ?_
  refine g_572_19 53 168 rfl rfl rfl ?_
  refine x_ld 1 1 0 169 rfl rfl rfl rfl rfl ?_
  refine x_ld 3 1 0 170 rfl rfl rfl rfl rfl ?_
  refine x_ce 250 124 173 [.ref 572, .ref 587, zi ((k : Nat) : Int), zi ((l : Nat) : Int)] rfl rfl rfl (Nat.le_of_ble_eq_true rfl) rfl rfl (Nat.le_of_ble_eq_true rfl) ⟨_, _, _, rfl, o_572⟩ (Nat.le_of_ble_eq_true rfl) (c124 (M := (rB (rB M 587 (clP (M.2.1 587) k 18)) 588 (clP ((rB M 587 (clP (M.2.1 587) k 18)).2.1 588) k 18))) (d + 1) i_587 (k := k) (f := l) (by omega) (by omega) lk hc1) rfl ?_
  rintro v M3 ⟨x, rfl, F3, hx, hbx⟩
  have hxr := lst_rg hx (fun t ht => by rcases ht with ht | ht; (· have := ht.2; omega); (· exact ht.2.1))
  refine x_st 5 2 0 175 [some (.ref 572), some (zi ((k : Nat) : Int)), some (zi 9), some (zi ((l : Nat) : Int)), some (zi (-1)), some (zi x), some (zi (-1)), none] rfl rfl rfl (Nat.le_of_ble_eq_true rfl) rfl rfl ?_
  refine x_ld 0 1 2 176 rfl rfl rfl rfl rfl ?_
  refine x_ld 0 1 2 177 rfl rfl rfl rfl rfl ?_
  refine g_572_20 56 180 rfl rfl rfl ?_
  refine x_ld 1 1 0 181 rfl rfl rfl rfl rfl ?_
  refine x_ld 3 1 0 182 rfl rfl rfl rfl rfl ?_
  refine x_ce 250 124 185 [.ref 572, .ref 588, zi ((k : Nat) : Int), zi ((l : Nat) : Int)] rfl rfl rfl (Nat.le_of_ble_eq_true rfl) rfl rfl (Nat.le_of_ble_eq_true rfl) ⟨_, _, _, rfl, o_572⟩ (Nat.le_of_ble_eq_true rfl) (c124 (M := M3) (d + 1) i_588 (k := k) (f := l) (by omega) (by omega) lk (fun u hu => by rw [F3.2.2.1 588 (by decide)]; exact hc2 u hu)) rfl ?_
  rintro v4 M4 ⟨y, rfl, F4, hy, hby⟩
  have hyr := lst_rg hy (fun t ht => by rcases ht with ht | ht; (· have := ht.2; omega); (· exact ht.2.1))
  have FF := Fe_trans (Fe_trans F2 (Fe_of (.inl rfl) F3)) (Fe_of (.inr rfl) F4)
  refine x_st 6 2 0 187 [some (.ref 572), some (zi ((k : Nat) : Int)), some (zi 9), some (zi ((l : Nat) : Int)), some (zi (-1)), some (zi x), some (zi y), none] rfl rfl rfl (Nat.le_of_ble_eq_true rfl) rfl rfl ?_
  refine x_go 238 rfl rfl ?_
  refine x_ld 5 2 0 240 rfl rfl rfl rfl rfl ?_
  refine z_ifge 250 243 rfl rfl rfl ⟨by omega, by omega⟩ (fun c240 => ?_) (fun c240 => ?_)
  · refine x_ld 0 1 2 251 rfl rfl rfl rfl rfl ?_
    refine x_ld 5 2 0 253 rfl rfl rfl rfl rfl ?_
    refine z_iflt 261 256 rfl rfl rfl ⟨by omega, by omega⟩ (fun c => absurd c (by omega)) (fun _ => ?_)
    refine x_ld 5 2 0 258 rfl rfl rfl rfl rfl ?_
    refine x_go 263 rfl rfl ?_
    refine s_572_31 74 266 rfl rfl rfl rfl rfl rfl ?_
    refine x_ld 0 1 2 267 rfl rfl rfl rfl rfl ?_
    refine x_ld 2 1 0 268 rfl rfl rfl rfl rfl ?_
    refine x_cst (zi 7) 2 270 rfl rfl rfl ?_
    refine z_icne 278 273 rfl rfl rfl (rg_lit 9 rfl) (rg_lit 7 rfl) (fun _ => ?_) (fun c => absurd c (by decide))
    refine x_ld 2 1 0 279 rfl rfl rfl rfl rfl ?_
    refine x_cst (zi 4) 1 280 rfl rfl rfl ?_
    refine z_iceq 288 283 rfl rfl rfl (rg_lit 9 rfl) (rg_lit 4 rfl) (fun c => absurd c (by decide)) (fun _ => ?_)
    refine x_ld 2 1 0 284 rfl rfl rfl rfl rfl ?_
    refine x_cst (zi 5) 1 285 rfl rfl rfl ?_
    refine z_icne 292 288 rfl rfl rfl (rg_lit 9 rfl) (rg_lit 5 rfl) (fun _ => ?_) (fun c => absurd c (by decide))
    refine x_cst (zi 4) 1 293 rfl rfl rfl ?_
    refine x_ld 5 2 0 295 rfl rfl rfl rfl rfl ?_
    refine z_iflt 302 298 rfl rfl rfl ⟨by omega, by omega⟩ (fun c => absurd c (by omega)) (fun _ => ?_)
    refine x_cst (zi 0) 1 299 rfl rfl rfl ?_
    refine x_go 303 rfl rfl ?_
    refine z_add 304 rfl rfl ?_
    refine s_572_30 258 307 rfl rfl rfl rfl rfl rfl ?_
    refine x_cst (zi 0) 1 308 rfl rfl rfl ?_
    refine x_ret rfl rfl rfl rfl ?_
    have q1 : ag (mS ((rB (rB M 587 (clP (M.2.1 587) k 18)) 588 (clP ((rB M 587 (clP (M.2.1 587) k 18)).2.1 588) k 18)).2.1 587) l) (mS (M.2.1 587) l) := Fe_ag F2 (.inl rfl) lk
    have q3 : ag (mS (M3.2.1 588) l) (mS (M.2.1 588) l) := Fe_ag (Fe_trans F2 (Fe_of (.inl rfl) F3)) (.inr rfl) lk
    have hx4 : lst (sD1 8 (mS (M.2.1 587) l) (mS (M.2.1 587) r)) x := lst_congr (fun u => rD_ag q1 u) hx
    have hy4 : lst (sD2 8 (mS (M.2.1 588) l) (mS (M.2.1 588) r)) y := lst_congr (fun u => rD_ag q3 u) hy
    obtain ⟨tt, et, hl5⟩ := lst_pos hx4 (by omega)
    exact ⟨_, _, rfl, rfl, 4, x, rfl, .inl ⟨tt, hl5, rfl, et⟩, FG_put FF _ _, fun e => absurd e (by decide), fun _ => ⟨rd_eq, (rd_nk (by decide)).trans rd_eq⟩⟩
  · refine x_ld 6 2 0 245 rfl rfl rfl rfl rfl ?_
    refine z_ifge 250 248 rfl rfl rfl ⟨by omega, by omega⟩ (fun c245 => ?_) (fun c245 => ?_)
    · refine x_ld 0 1 2 251 rfl rfl rfl rfl rfl ?_
      refine x_ld 5 2 0 253 rfl rfl rfl rfl rfl ?_
      refine z_iflt 261 256 rfl rfl rfl ⟨by omega, by omega⟩ (fun _ => ?_) (fun c => absurd c (by omega))
      refine x_ld 6 2 0 263 rfl rfl rfl rfl rfl ?_
      refine s_572_31 74 266 rfl rfl rfl rfl rfl rfl ?_
      refine x_ld 0 1 2 267 rfl rfl rfl rfl rfl ?_
      refine x_ld 2 1 0 268 rfl rfl rfl rfl rfl ?_
      refine x_cst (zi 7) 2 270 rfl rfl rfl ?_
      refine z_icne 278 273 rfl rfl rfl (rg_lit 9 rfl) (rg_lit 7 rfl) (fun _ => ?_) (fun c => absurd c (by decide))
      refine x_ld 2 1 0 279 rfl rfl rfl rfl rfl ?_
      refine x_cst (zi 4) 1 280 rfl rfl rfl ?_
      refine z_iceq 288 283 rfl rfl rfl (rg_lit 9 rfl) (rg_lit 4 rfl) (fun c => absurd c (by decide)) (fun _ => ?_)
      refine x_ld 2 1 0 284 rfl rfl rfl rfl rfl ?_
      refine x_cst (zi 5) 1 285 rfl rfl rfl ?_
      refine z_icne 292 288 rfl rfl rfl (rg_lit 9 rfl) (rg_lit 5 rfl) (fun _ => ?_) (fun c => absurd c (by decide))
      refine x_cst (zi 4) 1 293 rfl rfl rfl ?_
      refine x_ld 5 2 0 295 rfl rfl rfl rfl rfl ?_
      refine z_iflt 302 298 rfl rfl rfl ⟨by omega, by omega⟩ (fun _ => ?_) (fun c => absurd c (by omega))
      refine x_cst (zi 1) 1 303 rfl rfl rfl ?_
      refine z_add 304 rfl rfl ?_
      refine s_572_30 258 307 rfl rfl rfl rfl rfl rfl ?_
      refine x_cst (zi 0) 1 308 rfl rfl rfl ?_
      refine x_ret rfl rfl rfl rfl ?_
      have q1 : ag (mS ((rB (rB M 587 (clP (M.2.1 587) k 18)) 588 (clP ((rB M 587 (clP (M.2.1 587) k 18)).2.1 588) k 18)).2.1 587) l) (mS (M.2.1 587) l) := Fe_ag F2 (.inl rfl) lk
      have q3 : ag (mS (M3.2.1 588) l) (mS (M.2.1 588) l) := Fe_ag (Fe_trans F2 (Fe_of (.inl rfl) F3)) (.inr rfl) lk
      have hx4 : lst (sD1 8 (mS (M.2.1 587) l) (mS (M.2.1 587) r)) x := lst_congr (fun u => rD_ag q1 u) hx
      have hy4 : lst (sD2 8 (mS (M.2.1 588) l) (mS (M.2.1 588) r)) y := lst_congr (fun u => rD_ag q3 u) hy
      obtain ⟨tt, et, hl5⟩ := lst_pos hy4 (by omega)
      exact ⟨_, _, rfl, rfl, 5, y, rfl, .inr (.inl ⟨(lst_none hx4).mp (by omega), tt, hl5, rfl, et⟩), FG_put FF _ _, fun e => absurd e (by decide), fun _ => ⟨rd_eq, (rd_nk (by decide)).trans rd_eq⟩⟩
    · refine x_cst (zi 1) 1 249 rfl rfl rfl ?_
      refine x_ret rfl rfl rfl rfl ?_
      have q1 : ag (mS ((rB (rB M 587 (clP (M.2.1 587) k 18)) 588 (clP ((rB M 587 (clP (M.2.1 587) k 18)).2.1 588) k 18)).2.1 587) l) (mS (M.2.1 587) l) := Fe_ag F2 (.inl rfl) lk
      have q3 : ag (mS (M3.2.1 588) l) (mS (M.2.1 588) l) := Fe_ag (Fe_trans F2 (Fe_of (.inl rfl) F3)) (.inr rfl) lk
      have hx4 : lst (sD1 8 (mS (M.2.1 587) l) (mS (M.2.1 587) r)) x := lst_congr (fun u => rD_ag q1 u) hx
      have hy4 : lst (sD2 8 (mS (M.2.1 588) l) (mS (M.2.1 588) r)) y := lst_congr (fun u => rD_ag q3 u) hy
      refine ⟨_, M4, rfl, rfl, 0, -1, rfl, .inr (.inr ⟨(lst_none hx4).mp (by omega), (lst_none hy4).mp (by omega), rfl, rfl, fun t ht => ⟨?_, ?_⟩⟩), FG_of FF, fun _ => Fe_572 FF, fun e => absurd rfl e⟩
      · rw [F4.2.2.1 587 (by decide)]; exact (hbx ((lst_none hx).mp (by omega)) t ht).trans (rq_ag q1 t)
      · exact (hby ((lst_none hy).mp (by omega)) t ht).trans (rq_ag q3 t)
end D5
