/-! OURS, printed by wip/tools/gen899.py: putInto. -/
section C16
variable {L : Nat} {xs : Nat → Int32} {M : mm} {es : ab_H}
set_option maxRecDepth 8000 in
theorem c83_7 {n : Nat} {ps : Nat → prt} {c : Nat} (hc : cls n M ps c) {k : Nat} (hk : k < c) (hK : 7 ≤ (ps k).1) (hKe : (ps k).1 = 7) {p q : Nat} (ep : p = n + 3 + 9 * k) (eq' : q = n + 3 + 9 * (ps k).2.1) {deep : Nat} (hd : deep + k ≤ 40) (D : Nat) (hD : 2 * k ≤ D) {s v : List Nat} (hs : tx_L s) (s6 : s.length ≤ 6) (hv : tx_L v) (v6 : v.length ≤ 6) (ms : (sts ps k).1 (tx_num s) = true) (mv : (sts ps k).2 (tx_num v) = true) (hsh : (sem_sh (pgo ps) k s).length ≤ 6) (ihl : ∀ M', cls n M' ps c → ∀ s' v' : List Nat, tx_L s' → tx_L v' → s'.length ≤ 6 → v'.length ≤ 6 → (sts ps (ps k).2.1).1 (tx_num s') = true → (sts ps (ps k).2.1).2 (tx_num v') = true → (sem_sh (pgo ps) (ps k).2.1 s').length ≤ 6 → ab_Z (pg_G L xs) (D + 6) 76 [.ref q, zi (tx_num s' : Nat), zi (tx_num v' : Nat), zi ((deep : Int) + 1)] M' es (fun w M'' => w = some (zi (nz (sem_pu (pgo ps) (ps k).2.1 s' v'))) ∧ Fu n (ps k).2.1 M' M'')) : ab_Z (pg_G L xs) (D + 7) 83 [.ref p, zi ((tx_num s : Nat) : Int), zi ((tx_num v : Nat) : Int), zi ((deep : Nat) : Int)] M es (fun w M' => w = some (zi (nz (sem_pu (pgo ps) k s v))) ∧ Fu n k M M' ∧ M'.1 p 13 = ((rps (sts ps (ps k).2.1).2 (sts ps k).2 v).length : Int) ∧ ∀ i, i < (rps (sts ps (ps k).2.1).2 (sts ps k).2 v).length → M'.1 (p + 8) (i : Int) = oz (org false ((rps (sts ps (ps k).2.1).1 (sts ps k).1 s).map (fun u => tx_num (sem_ky (pgo ps) (ps k).2.1 (sem_sh (pgo ps) (ps k).2.1 u)))) ((rps (sts ps (ps k).2.1).2 (sts ps k).2 v).map (fun u => tx_num (sem_ky (pgo ps) (ps k).2.1 u))) i)) := by
  have hlk := (hc.2.2.2.2 k hk).2.2.2 (by omega)
  have hG := hc.1
  have h31 := hc.2.1
  have hP : isP p := by rw [ep]; exact isP_A hG (by omega)
  have hQ : isP q := by rw [eq']; exact isP_A hG (by omega)
  have eq : M.2.2 p 3 = q := by rw [ep, eq']; exact ((hc.2.2.1 k hk).2.2 (by omega)).1
  have hk0 : M.1 p 0 = 7 := by rw [ep]; have := (hc.2.2.1 k hk).1; rw [hKe] at this; exact this
  have gds' := cls_gds hc
  have g := (gds' k hk).2
  rw [show pK (pgo ps) k = 7 from hKe] at g
  have hSB : ∀ t, (sts ps k).1 t = true ↔ rq (sts ps (ps k).2.1).1 t := g.2.2.2.2.1
  have hVB : ∀ t, (sts ps k).2 t = true ↔ rq (sts ps (ps k).2.1).2 t := g.2.2.2.2.2
  have h0S : (sts ps (ps k).2.1).1 0 = false := g.2.2.1
  have h0V : (sts ps (ps k).2.1).2 0 = false := g.2.2.2.1
  have aS : ag (sN (M.2.1 (q + 2))) (sts ps (ps k).2.1).1 := by rw [eq']; exact (hc.2.2.2.1 _ (Nat.lt_trans hlk.1 hk)).2.1
  have aV : ag (sN (M.2.1 (q + 4))) (sts ps (ps k).2.1).2 := by rw [eq']; exact (hc.2.2.2.1 _ (Nat.lt_trans hlk.1 hk)).2.2
  have aSk : ag (sN (M.2.1 (p + 2))) (sts ps k).1 := by rw [ep]; exact (hc.2.2.2.1 k hk).2.1
  have aVk : ag (sN (M.2.1 (p + 4))) (sts ps k).2 := by rw [ep]; exact (hc.2.2.2.1 k hk).2.2
  have hspm := rps_mem hSB hs ms
  have hvpm := rps_mem hVB hv mv
  have hsl := rps_len (sts ps (ps k).2.1).1 (sts ps k).1 s
  have hvl := rps_len (sts ps (ps k).2.1).2 (sts ps k).2 v
  have hspc : ∀ u ∈ (rps (sts ps (ps k).2.1).1 (sts ps k).1 s), tx_L u ∧ u.length ≤ 6 ∧ (sts ps (ps k).2.1).1 (tx_num u) = true ∧ (sem_sh (pgo ps) (ps k).2.1 u).length ≤ 6 := by
    intro u hu
    have hm := hspm u hu
    have hx : (sem_sh (pgo ps) k s).length ≤ 6 := hsh
    rw [sh_7 hKe g.2.1] at hx
    exact ⟨hm.2.1, by have := hm.2.2.2; omega, hm.1, Nat.le_trans (len_fm (g := fun u => sem_sh (pgo ps) (ps k).2.1 u) hu) hx⟩
  have hvpc : ∀ u ∈ (rps (sts ps (ps k).2.1).2 (sts ps k).2 v), tx_L u ∧ u.length ≤ 6 ∧ (sts ps (ps k).2.1).2 (tx_num u) = true := fun u hu => ⟨(hvpm u hu).2.1, by have := (hvpm u hu).2.2.2; omega, (hvpm u hu).1⟩
  have FU3 : Fu n k M (sI (rI (rI M (p + 5) (lsR ((rps (sts ps (ps k).2.1).1 (sts ps k).1 s).map tx_num) (M.1 (p + 5)))) (p + 7) (lsR ((rps (sts ps (ps k).2.1).2 (sts ps k).2 v).map tx_num) ((rI M (p + 5) (lsR ((rps (sts ps (ps k).2.1).1 (sts ps k).1 s).map tx_num) (M.1 (p + 5)))).1 (p + 7)))) p 13 (((rps (sts ps (ps k).2.1).2 (sts ps k).2 v).length : Nat) : Int)) := Fu_trans (Fu_trans (Fu_row (a := p + 5) (by omega)) (Fu_row (a := p + 7) (by omega))) (by rw [ep]; exact Fu_cnt)
  have hc3 : cls n (sI (rI (rI M (p + 5) (lsR ((rps (sts ps (ps k).2.1).1 (sts ps k).1 s).map tx_num) (M.1 (p + 5)))) (p + 7) (lsR ((rps (sts ps (ps k).2.1).2 (sts ps k).2 v).map tx_num) ((rI M (p + 5) (lsR ((rps (sts ps (ps k).2.1).1 (sts ps k).1 s).map tx_num) (M.1 (p + 5)))).1 (p + 7)))) p 13 (((rps (sts ps (ps k).2.1).2 (sts ps k).2 v).length : Nat) : Int)) ps c := cls_Fu hc hk FU3
  have rs3 : ∀ i, i < (rps (sts ps (ps k).2.1).1 (sts ps k).1 s).length → (sI (rI (rI M (p + 5) (lsR ((rps (sts ps (ps k).2.1).1 (sts ps k).1 s).map tx_num) (M.1 (p + 5)))) (p + 7) (lsR ((rps (sts ps (ps k).2.1).2 (sts ps k).2 v).map tx_num) ((rI M (p + 5) (lsR ((rps (sts ps (ps k).2.1).1 (sts ps k).1 s).map tx_num) (M.1 (p + 5)))).1 (p + 7)))) p 13 (((rps (sts ps (ps k).2.1).2 (sts ps k).2 v).length : Nat) : Int)).1 (p + 5) (i : Int) = ((tx_num (rps (sts ps (ps k).2.1).1 (sts ps k).1 s)[i]! : Nat) : Int) := by
    intro i hi
    rw [sI_ne (by omega), rI_ne (by omega), rI_at, lsR_at _ _ (by rw [List.length_map]; exact hi), List.getD_eq_getElem?_getD, List.getElem?_map, List.getElem?_eq_getElem hi, getElem!_pos _ i hi]
    rfl
  have rv3 : ∀ i, i < (rps (sts ps (ps k).2.1).2 (sts ps k).2 v).length → (sI (rI (rI M (p + 5) (lsR ((rps (sts ps (ps k).2.1).1 (sts ps k).1 s).map tx_num) (M.1 (p + 5)))) (p + 7) (lsR ((rps (sts ps (ps k).2.1).2 (sts ps k).2 v).map tx_num) ((rI M (p + 5) (lsR ((rps (sts ps (ps k).2.1).1 (sts ps k).1 s).map tx_num) (M.1 (p + 5)))).1 (p + 7)))) p 13 (((rps (sts ps (ps k).2.1).2 (sts ps k).2 v).length : Nat) : Int)).1 (p + 7) (i : Int) = ((tx_num (rps (sts ps (ps k).2.1).2 (sts ps k).2 v)[i]! : Nat) : Int) := by
    intro i hi
    rw [sI_ne (by omega), rI_at, lsR_at _ _ (by rw [List.length_map]; exact hi), List.getD_eq_getElem?_getD, List.getElem?_map, List.getElem?_eq_getElem hi, getElem!_pos _ i hi]
    rfl
  have hfL : ∀ i, i < (rps (sts ps (ps k).2.1).2 (sts ps k).2 v).length → tx_L ((fun i => match org false ((rps (sts ps (ps k).2.1).1 (sts ps k).1 s).map (fun u => tx_num (sem_ky (pgo ps) (ps k).2.1 (sem_sh (pgo ps) (ps k).2.1 u)))) ((rps (sts ps (ps k).2.1).2 (sts ps k).2 v).map (fun u => tx_num (sem_ky (pgo ps) (ps k).2.1 u))) i with | none => sem_cr (pgo ps) (ps k).2.1 (rps (sts ps (ps k).2.1).2 (sts ps k).2 v)[i]! | some o => sem_pu (pgo ps) (ps k).2.1 (rps (sts ps (ps k).2.1).1 (sts ps k).1 s)[o]! (rps (sts ps (ps k).2.1).2 (sts ps k).2 v)[i]!) i) := by
    intro i hi
    have hu := hvpc _ (get_mem hi)
    show tx_L (match org false ((rps (sts ps (ps k).2.1).1 (sts ps k).1 s).map (fun u => tx_num (sem_ky (pgo ps) (ps k).2.1 (sem_sh (pgo ps) (ps k).2.1 u)))) ((rps (sts ps (ps k).2.1).2 (sts ps k).2 v).map (fun u => tx_num (sem_ky (pgo ps) (ps k).2.1 u))) i with | none => _ | some o => _)
    cases ho : org false ((rps (sts ps (ps k).2.1).1 (sts ps k).1 s).map (fun u => tx_num (sem_ky (pgo ps) (ps k).2.1 (sem_sh (pgo ps) (ps k).2.1 u)))) ((rps (sts ps (ps k).2.1).2 (sts ps k).2 v).map (fun u => tx_num (sem_ky (pgo ps) (ps k).2.1 u))) i with
    | none => exact cr_L gds' _ (Nat.lt_trans hlk.1 hk) _ hu.1
    | some j =>
      have hj := org_lt ho
      rw [List.length_map] at hj
      exact pu_L gds' _ (Nat.lt_trans hlk.1 hk) _ _ (hspc _ (get_mem hj)).1 hu.1
  rw [pu_7 hKe g.2.1]
  show ab_W (pg_G L xs) (ab_X (pg_G L xs) (D + 6)) 83 _ 0 [some (.ref p), some (zi ((tx_num s : Nat) : Int)), some (zi ((tx_num v : Nat) : Int)), some (zi ((deep : Nat) : Int)), none, none, none, none, none] [] (hp M ++ es)
  refine x_ld 0 1 2 1 rfl rfl rfl rfl rfl ?_
  refine g_P_9 hP 37 4 rfl rfl rfl ?_
  refine x_ld 1 1 0 5 rfl rfl rfl rfl rfl ?_
  refine x_ld 0 1 2 6 rfl rfl rfl rfl rfl ?_
  refine g_P_3 hP 53 9 rfl rfl eq rfl ?_
  refine g_P_5 hQ 24 12 rfl rfl rfl ?_
  refine x_ld 0 1 2 13 rfl rfl rfl rfl rfl ?_
  refine g_P_5 hP 24 16 rfl rfl rfl ?_
  refine x_cv 179 84 19 [.ref (p + 5), zi ((tx_num s : Nat) : Int), .ref (q + 1), .ref (p + 1)] rfl rfl rfl (Nat.le_of_ble_eq_true rfl) rfl rfl (Nat.le_of_ble_eq_true rfl) trivial (Nat.le_of_ble_eq_true rfl) (c84 (D + 3) (iP5 hP) (iT_P1 hQ) (iT_P1 hP) aS aSk hSB h0S hs s6 ms) rfl ?_
  refine x_st 4 2 0 21 [some (.ref p), some (zi ((tx_num s : Nat) : Int)), some (zi ((tx_num v : Nat) : Int)), some (zi ((deep : Nat) : Int)), some (zi (((rps (sts ps (ps k).2.1).1 (sts ps k).1 s).length : Nat) : Int)), none, none, none, none] rfl rfl rfl (Nat.le_of_ble_eq_true rfl) rfl rfl ?_
  refine x_ld 0 1 2 22 rfl rfl rfl rfl rfl ?_
  refine x_ld 0 1 2 23 rfl rfl rfl rfl rfl ?_
  refine g_P_11 hP 44 26 rfl rfl rfl ?_
  refine x_ld 2 1 0 27 rfl rfl rfl rfl rfl ?_
  refine x_ld 0 1 2 28 rfl rfl rfl rfl rfl ?_
  refine g_P_3 hP 53 31 rfl rfl eq rfl ?_
  refine g_P_6 hQ 28 34 rfl rfl rfl ?_
  refine x_ld 0 1 2 35 rfl rfl rfl rfl rfl ?_
  refine g_P_6 hP 28 38 rfl rfl rfl ?_
  refine x_cv 179 84 41 [.ref (p + 7), zi ((tx_num v : Nat) : Int), .ref (q + 3), .ref (p + 3)] rfl rfl rfl (Nat.le_of_ble_eq_true rfl) rfl rfl (Nat.le_of_ble_eq_true rfl) trivial (Nat.le_of_ble_eq_true rfl) (c84 (M := (rI M (p + 5) (lsR ((rps (sts ps (ps k).2.1).1 (sts ps k).1 s).map tx_num) (M.1 (p + 5))))) (D + 3) (iP7 hP) (iT_P3 hQ) (iT_P3 hP) aV aVk hVB h0V hv v6 mv) rfl ?_
  refine s_P_13 hP 50 44 rfl rfl rfl rfl rfl rfl ?_
  refine x_ld 0 1 2 45 rfl rfl rfl rfl rfl ?_
  refine g_P_0 hP 9 48 rfl rfl ((rd_nk (Ne.symm (by decide))).trans ((rd_ra (by omega)).trans ((rd_ra (by omega)).trans hk0))) rfl ?_
  refine x_cst (zi 8) 2 50 rfl rfl rfl ?_
  refine z_icne 63 53 rfl rfl rfl (rg_lit 7 rfl) (rg_lit 8 rfl) (fun _ => ?_) (fun c => absurd c (by decide))
  refine x_ld 0 1 2 64 rfl rfl rfl rfl rfl ?_
  refine x_ld 4 2 0 66 rfl rfl rfl rfl rfl ?_
  refine x_cv 186 90 69 [.ref p, zi (((rps (sts ps (ps k).2.1).1 (sts ps k).1 s).length : Nat) : Int)] rfl rfl rfl (Nat.le_of_ble_eq_true rfl) rfl rfl (Nat.le_of_ble_eq_true rfl) ⟨_, _, _, rfl, oP hP⟩ (Nat.le_of_ble_eq_true rfl) (c90 (M := (sI (rI (rI M (p + 5) (lsR ((rps (sts ps (ps k).2.1).1 (sts ps k).1 s).map tx_num) (M.1 (p + 5)))) (p + 7) (lsR ((rps (sts ps (ps k).2.1).2 (sts ps k).2 v).map tx_num) ((rI M (p + 5) (lsR ((rps (sts ps (ps k).2.1).1 (sts ps k).1 s).map tx_num) (M.1 (p + 5)))).1 (p + 7)))) p 13 (((rps (sts ps (ps k).2.1).2 (sts ps k).2 v).length : Nat) : Int))) (D + 5) hP rd_eq (by omega) (by omega)) rfl ?_
  refine x_cst (zi 0) 1 70 rfl rfl rfl ?_
  refine x_st 5 2 0 72 [some (.ref p), some (zi ((tx_num s : Nat) : Int)), some (zi ((tx_num v : Nat) : Int)), some (zi ((deep : Nat) : Int)), some (zi (((rps (sts ps (ps k).2.1).1 (sts ps k).1 s).length : Nat) : Int)), some (zi 0), none, none, none] rfl rfl rfl (Nat.le_of_ble_eq_true rfl) rfl rfl ?_
  refine x_cst (zi 0) 1 73 rfl rfl rfl ?_
  refine x_st 6 2 0 75 [some (.ref p), some (zi ((tx_num s : Nat) : Int)), some (zi ((tx_num v : Nat) : Int)), some (zi ((deep : Nat) : Int)), some (zi (((rps (sts ps (ps k).2.1).1 (sts ps k).1 s).length : Nat) : Int)), some (zi 0), some (zi 0), none, none] rfl rfl rfl (Nat.le_of_ble_eq_true rfl) rfl rfl ?_
  have F4 : F6 p (sI (rI (rI M (p + 5) (lsR ((rps (sts ps (ps k).2.1).1 (sts ps k).1 s).map tx_num) (M.1 (p + 5)))) (p + 7) (lsR ((rps (sts ps (ps k).2.1).2 (sts ps k).2 v).map tx_num) ((rI M (p + 5) (lsR ((rps (sts ps (ps k).2.1).1 (sts ps k).1 s).map tx_num) (M.1 (p + 5)))).1 (p + 7)))) p 13 (((rps (sts ps (ps k).2.1).2 (sts ps k).2 v).length : Nat) : Int)) (rI (sI (rI (rI M (p + 5) (lsR ((rps (sts ps (ps k).2.1).1 (sts ps k).1 s).map tx_num) (M.1 (p + 5)))) (p + 7) (lsR ((rps (sts ps (ps k).2.1).2 (sts ps k).2 v).map tx_num) ((rI M (p + 5) (lsR ((rps (sts ps (ps k).2.1).1 (sts ps k).1 s).map tx_num) (M.1 (p + 5)))).1 (p + 7)))) p 13 (((rps (sts ps (ps k).2.1).2 (sts ps k).2 v).length : Nat) : Int)) (p + 8) (opl (rps (sts ps (ps k).2.1).2 (sts ps k).2 v).length (rps (sts ps (ps k).2.1).1 (sts ps k).1 s).length ((sI (rI (rI M (p + 5) (lsR ((rps (sts ps (ps k).2.1).1 (sts ps k).1 s).map tx_num) (M.1 (p + 5)))) (p + 7) (lsR ((rps (sts ps (ps k).2.1).2 (sts ps k).2 v).map tx_num) ((rI M (p + 5) (lsR ((rps (sts ps (ps k).2.1).1 (sts ps k).1 s).map tx_num) (M.1 (p + 5)))).1 (p + 7)))) p 13 (((rps (sts ps (ps k).2.1).2 (sts ps k).2 v).length : Nat) : Int)).1 (p + 8)))) := ⟨fun a _ h8 => rI_ne h8, rfl⟩
  have ro4 : ∀ i, i < (rps (sts ps (ps k).2.1).2 (sts ps k).2 v).length → (rI (sI (rI (rI M (p + 5) (lsR ((rps (sts ps (ps k).2.1).1 (sts ps k).1 s).map tx_num) (M.1 (p + 5)))) (p + 7) (lsR ((rps (sts ps (ps k).2.1).2 (sts ps k).2 v).map tx_num) ((rI M (p + 5) (lsR ((rps (sts ps (ps k).2.1).1 (sts ps k).1 s).map tx_num) (M.1 (p + 5)))).1 (p + 7)))) p 13 (((rps (sts ps (ps k).2.1).2 (sts ps k).2 v).length : Nat) : Int)) (p + 8) (opl (rps (sts ps (ps k).2.1).2 (sts ps k).2 v).length (rps (sts ps (ps k).2.1).1 (sts ps k).1 s).length ((sI (rI (rI M (p + 5) (lsR ((rps (sts ps (ps k).2.1).1 (sts ps k).1 s).map tx_num) (M.1 (p + 5)))) (p + 7) (lsR ((rps (sts ps (ps k).2.1).2 (sts ps k).2 v).map tx_num) ((rI M (p + 5) (lsR ((rps (sts ps (ps k).2.1).1 (sts ps k).1 s).map tx_num) (M.1 (p + 5)))).1 (p + 7)))) p 13 (((rps (sts ps (ps k).2.1).2 (sts ps k).2 v).length : Nat) : Int)).1 (p + 8)))).1 (p + 8) (i : Int) = oz (org false ((rps (sts ps (ps k).2.1).1 (sts ps k).1 s).map (fun u => tx_num (sem_ky (pgo ps) (ps k).2.1 (sem_sh (pgo ps) (ps k).2.1 u)))) ((rps (sts ps (ps k).2.1).2 (sts ps k).2 v).map (fun u => tx_num (sem_ky (pgo ps) (ps k).2.1 u))) i) := by
    intro i hi
    rw [rI_at]
    unfold opl org
    rw [if_pos (show 0 ≤ (i : Int) ∧ (i : Int) < _ by omega), cond_false, List.length_map]
    by_cases hq : i < (rps (sts ps (ps k).2.1).1 (sts ps k).1 s).length
    · rw [if_pos hq, if_pos (show (i : Int) < _ by omega)]; rfl
    · rw [if_neg hq, if_neg (show ¬ (i : Int) < _ by omega)]; rfl
  have FU4 : Fu n k M (rI (sI (rI (rI M (p + 5) (lsR ((rps (sts ps (ps k).2.1).1 (sts ps k).1 s).map tx_num) (M.1 (p + 5)))) (p + 7) (lsR ((rps (sts ps (ps k).2.1).2 (sts ps k).2 v).map tx_num) ((rI M (p + 5) (lsR ((rps (sts ps (ps k).2.1).1 (sts ps k).1 s).map tx_num) (M.1 (p + 5)))).1 (p + 7)))) p 13 (((rps (sts ps (ps k).2.1).2 (sts ps k).2 v).length : Nat) : Int)) (p + 8) (opl (rps (sts ps (ps k).2.1).2 (sts ps k).2 v).length (rps (sts ps (ps k).2.1).1 (sts ps k).1 s).length ((sI (rI (rI M (p + 5) (lsR ((rps (sts ps (ps k).2.1).1 (sts ps k).1 s).map tx_num) (M.1 (p + 5)))) (p + 7) (lsR ((rps (sts ps (ps k).2.1).2 (sts ps k).2 v).map tx_num) ((rI M (p + 5) (lsR ((rps (sts ps (ps k).2.1).1 (sts ps k).1 s).map tx_num) (M.1 (p + 5)))).1 (p + 7)))) p 13 (((rps (sts ps (ps k).2.1).2 (sts ps k).2 v).length : Nat) : Int)).1 (p + 8)))) := Fu_trans FU3 (F6_Fu (by rw [← ep]; exact F4))
  refine c83_loop (M := (rI (sI (rI (rI M (p + 5) (lsR ((rps (sts ps (ps k).2.1).1 (sts ps k).1 s).map tx_num) (M.1 (p + 5)))) (p + 7) (lsR ((rps (sts ps (ps k).2.1).2 (sts ps k).2 v).map tx_num) ((rI M (p + 5) (lsR ((rps (sts ps (ps k).2.1).1 (sts ps k).1 s).map tx_num) (M.1 (p + 5)))).1 (p + 7)))) p 13 (((rps (sts ps (ps k).2.1).2 (sts ps k).2 v).length : Nat) : Int)) (p + 8) (opl (rps (sts ps (ps k).2.1).2 (sts ps k).2 v).length (rps (sts ps (ps k).2.1).1 (sts ps k).1 s).length ((sI (rI (rI M (p + 5) (lsR ((rps (sts ps (ps k).2.1).1 (sts ps k).1 s).map tx_num) (M.1 (p + 5)))) (p + 7) (lsR ((rps (sts ps (ps k).2.1).2 (sts ps k).2 v).map tx_num) ((rI M (p + 5) (lsR ((rps (sts ps (ps k).2.1).1 (sts ps k).1 s).map tx_num) (M.1 (p + 5)))).1 (p + 7)))) p 13 (((rps (sts ps (ps k).2.1).2 (sts ps k).2 v).length : Nat) : Int)).1 (p + 8))))) (D + 4) (n := n) (l := (ps k).2.1) hP hQ (by rw [FU4.2.2]; exact eq) (fun j hj => by omega) (deep := deep) (by omega) (sp := (rps (sts ps (ps k).2.1).1 (sts ps k).1 s)) (vp := (rps (sts ps (ps k).2.1).2 (sts ps k).2 v)) (by omega) (by omega) (fun u hu => num_lt (hspc u hu).1 (hspc u hu).2.1) (fun u hu => num_lt (hvpc u hu).1 (hvpc u hu).2.1) (fun i hi => by rw [F4.1 _ (by omega) (by omega)]; exact rs3 i hi) (fun i hi => by rw [F4.1 _ (by omega) (by omega)]; exact rv3 i hi) (by rw [F4.1 _ (by omega) (by omega)]; exact rd_eq) (o := org false ((rps (sts ps (ps k).2.1).1 (sts ps k).1 s).map (fun u => tx_num (sem_ky (pgo ps) (ps k).2.1 (sem_sh (pgo ps) (ps k).2.1 u)))) ((rps (sts ps (ps k).2.1).2 (sts ps k).2 v).map (fun u => tx_num (sem_ky (pgo ps) (ps k).2.1 u)))) ro4 (fun i j hi ho => by have := org_lt ho; rw [List.length_map] at this; exact this) (f := (fun i => match org false ((rps (sts ps (ps k).2.1).1 (sts ps k).1 s).map (fun u => tx_num (sem_ky (pgo ps) (ps k).2.1 (sem_sh (pgo ps) (ps k).2.1 u)))) ((rps (sts ps (ps k).2.1).2 (sts ps k).2 v).map (fun u => tx_num (sem_ky (pgo ps) (ps k).2.1 u))) i with | none => sem_cr (pgo ps) (ps k).2.1 (rps (sts ps (ps k).2.1).2 (sts ps k).2 v)[i]! | some o => sem_pu (pgo ps) (ps k).2.1 (rps (sts ps (ps k).2.1).1 (sts ps k).1 s)[o]! (rps (sts ps (ps k).2.1).2 (sts ps k).2 v)[i]!)) hfL ?_ ?_ ?_ _ 0 rfl (Nat.zero_le _) (rI (sI (rI (rI M (p + 5) (lsR ((rps (sts ps (ps k).2.1).1 (sts ps k).1 s).map tx_num) (M.1 (p + 5)))) (p + 7) (lsR ((rps (sts ps (ps k).2.1).2 (sts ps k).2 v).map tx_num) ((rI M (p + 5) (lsR ((rps (sts ps (ps k).2.1).1 (sts ps k).1 s).map tx_num) (M.1 (p + 5)))).1 (p + 7)))) p 13 (((rps (sts ps (ps k).2.1).2 (sts ps k).2 v).length : Nat) : Int)) (p + 8) (opl (rps (sts ps (ps k).2.1).2 (sts ps k).2 v).length (rps (sts ps (ps k).2.1).1 (sts ps k).1 s).length ((sI (rI (rI M (p + 5) (lsR ((rps (sts ps (ps k).2.1).1 (sts ps k).1 s).map tx_num) (M.1 (p + 5)))) (p + 7) (lsR ((rps (sts ps (ps k).2.1).2 (sts ps k).2 v).map tx_num) ((rI M (p + 5) (lsR ((rps (sts ps (ps k).2.1).1 (sts ps k).1 s).map tx_num) (M.1 (p + 5)))).1 (p + 7)))) p 13 (((rps (sts ps (ps k).2.1).2 (sts ps k).2 v).length : Nat) : Int)).1 (p + 8)))) (Fu_refl ..) _ _
  · intro i hi ho M' hF'
    have hcM := cls_Fu hc hk (Fu_trans FU4 (Fu_mono (by omega) hF'))
    have hu := hvpc _ (get_mem hi)
    show ab_S _ _ _ _ _ (some (zi (nz ((fun i => match org false ((rps (sts ps (ps k).2.1).1 (sts ps k).1 s).map (fun u => tx_num (sem_ky (pgo ps) (ps k).2.1 (sem_sh (pgo ps) (ps k).2.1 u)))) ((rps (sts ps (ps k).2.1).2 (sts ps k).2 v).map (fun u => tx_num (sem_ky (pgo ps) (ps k).2.1 u))) i with | none => sem_cr (pgo ps) (ps k).2.1 (rps (sts ps (ps k).2.1).2 (sts ps k).2 v)[i]! | some o => sem_pu (pgo ps) (ps k).2.1 (rps (sts ps (ps k).2.1).1 (sts ps k).1 s)[o]! (rps (sts ps (ps k).2.1).2 (sts ps k).2 v)[i]!) i)))) _
    simp only [ho]
    have q0 := c78 (L := L) (xs := xs) (es := es) hcM _ (Nat.lt_trans hlk.1 hk) (D + 6) (by omega) (deep + 1) _ (by omega) hu.1 hu.2.1 hu.2.2
    rw [← eq'] at q0; exact q0
  · intro i j hi ho M' hF'
    have hcM := cls_Fu hc hk (Fu_trans FU4 (Fu_mono (by omega) hF'))
    have hu := hvpc _ (get_mem hi)
    have hj := org_lt ho
    rw [List.length_map] at hj
    have hw := hspc _ (get_mem hj)
    show ab_Z _ _ _ _ _ _ (fun w M'' => w = some (zi (nz ((fun i => match org false ((rps (sts ps (ps k).2.1).1 (sts ps k).1 s).map (fun u => tx_num (sem_ky (pgo ps) (ps k).2.1 (sem_sh (pgo ps) (ps k).2.1 u)))) ((rps (sts ps (ps k).2.1).2 (sts ps k).2 v).map (fun u => tx_num (sem_ky (pgo ps) (ps k).2.1 u))) i with | none => sem_cr (pgo ps) (ps k).2.1 (rps (sts ps (ps k).2.1).2 (sts ps k).2 v)[i]! | some o => sem_pu (pgo ps) (ps k).2.1 (rps (sts ps (ps k).2.1).1 (sts ps k).1 s)[o]! (rps (sts ps (ps k).2.1).2 (sts ps k).2 v)[i]!) i))) ∧ _)
    simp only [ho]
    exact ihl M' hcM _ _ hw.1 hu.1 hw.2.1 hu.2.1 hw.2.2.1 hu.2.2 hw.2.2.2
  · intro M' hF'
    refine ⟨_, M', rfl, rfl, rfl, Fu_trans FU4 (Fu_mono (by omega) hF'), ?_, fun i hi => ?_⟩
    · rw [hF'.1 p (fun j hj => by omega), F4.1 _ (by omega) (by omega)]; exact rd_eq
    · rw [hF'.1 (p + 8) (fun j hj => by omega)]; exact ro4 i hi
set_option maxRecDepth 8000 in
theorem c83_8 {n : Nat} {ps : Nat → prt} {c : Nat} (hc : cls n M ps c) {k : Nat} (hk : k < c) (hK : 7 ≤ (ps k).1) (hKe : (ps k).1 = 8) {p q : Nat} (ep : p = n + 3 + 9 * k) (eq' : q = n + 3 + 9 * (ps k).2.1) {deep : Nat} (hd : deep + k ≤ 40) (D : Nat) (hD : 2 * k ≤ D) {s v : List Nat} (hs : tx_L s) (s6 : s.length ≤ 6) (hv : tx_L v) (v6 : v.length ≤ 6) (ms : (sts ps k).1 (tx_num s) = true) (mv : (sts ps k).2 (tx_num v) = true) (hsh : (sem_sh (pgo ps) k s).length ≤ 6) (ihl : ∀ M', cls n M' ps c → ∀ s' v' : List Nat, tx_L s' → tx_L v' → s'.length ≤ 6 → v'.length ≤ 6 → (sts ps (ps k).2.1).1 (tx_num s') = true → (sts ps (ps k).2.1).2 (tx_num v') = true → (sem_sh (pgo ps) (ps k).2.1 s').length ≤ 6 → ab_Z (pg_G L xs) (D + 6) 76 [.ref q, zi (tx_num s' : Nat), zi (tx_num v' : Nat), zi ((deep : Int) + 1)] M' es (fun w M'' => w = some (zi (nz (sem_pu (pgo ps) (ps k).2.1 s' v'))) ∧ Fu n (ps k).2.1 M' M'')) : ab_Z (pg_G L xs) (D + 7) 83 [.ref p, zi ((tx_num s : Nat) : Int), zi ((tx_num v : Nat) : Int), zi ((deep : Nat) : Int)] M es (fun w M' => w = some (zi (nz (sem_pu (pgo ps) k s v))) ∧ Fu n k M M' ∧ M'.1 p 13 = ((rps (sts ps (ps k).2.1).2 (sts ps k).2 v).length : Int) ∧ ∀ i, i < (rps (sts ps (ps k).2.1).2 (sts ps k).2 v).length → M'.1 (p + 8) (i : Int) = oz (org true ((rps (sts ps (ps k).2.1).1 (sts ps k).1 s).map (fun u => tx_num (sem_ky (pgo ps) (ps k).2.1 (sem_sh (pgo ps) (ps k).2.1 u)))) ((rps (sts ps (ps k).2.1).2 (sts ps k).2 v).map (fun u => tx_num (sem_ky (pgo ps) (ps k).2.1 u))) i)) := by
  have hlk := (hc.2.2.2.2 k hk).2.2.2 (by omega)
  have hG := hc.1
  have h31 := hc.2.1
  have hP : isP p := by rw [ep]; exact isP_A hG (by omega)
  have hQ : isP q := by rw [eq']; exact isP_A hG (by omega)
  have eq : M.2.2 p 3 = q := by rw [ep, eq']; exact ((hc.2.2.1 k hk).2.2 (by omega)).1
  have hk0 : M.1 p 0 = 8 := by rw [ep]; have := (hc.2.2.1 k hk).1; rw [hKe] at this; exact this
  have gds' := cls_gds hc
  have g := (gds' k hk).2
  rw [show pK (pgo ps) k = 8 from hKe] at g
  have hSB : ∀ t, (sts ps k).1 t = true ↔ rq (sts ps (ps k).2.1).1 t := g.2.2.2.2.1
  have hVB : ∀ t, (sts ps k).2 t = true ↔ rq (sts ps (ps k).2.1).2 t := g.2.2.2.2.2
  have h0S : (sts ps (ps k).2.1).1 0 = false := g.2.2.1
  have h0V : (sts ps (ps k).2.1).2 0 = false := g.2.2.2.1
  have aS : ag (sN (M.2.1 (q + 2))) (sts ps (ps k).2.1).1 := by rw [eq']; exact (hc.2.2.2.1 _ (Nat.lt_trans hlk.1 hk)).2.1
  have aV : ag (sN (M.2.1 (q + 4))) (sts ps (ps k).2.1).2 := by rw [eq']; exact (hc.2.2.2.1 _ (Nat.lt_trans hlk.1 hk)).2.2
  have aSk : ag (sN (M.2.1 (p + 2))) (sts ps k).1 := by rw [ep]; exact (hc.2.2.2.1 k hk).2.1
  have aVk : ag (sN (M.2.1 (p + 4))) (sts ps k).2 := by rw [ep]; exact (hc.2.2.2.1 k hk).2.2
  have hspm := rps_mem hSB hs ms
  have hvpm := rps_mem hVB hv mv
  have hsl := rps_len (sts ps (ps k).2.1).1 (sts ps k).1 s
  have hvl := rps_len (sts ps (ps k).2.1).2 (sts ps k).2 v
  have hspc : ∀ u ∈ (rps (sts ps (ps k).2.1).1 (sts ps k).1 s), tx_L u ∧ u.length ≤ 6 ∧ (sts ps (ps k).2.1).1 (tx_num u) = true ∧ (sem_sh (pgo ps) (ps k).2.1 u).length ≤ 6 := by
    intro u hu
    have hm := hspm u hu
    have hx : (sem_sh (pgo ps) k s).length ≤ 6 := hsh
    rw [sh_8 hKe g.2.1] at hx
    exact ⟨hm.2.1, by have := hm.2.2.2; omega, hm.1, Nat.le_trans (len_fm (g := fun u => sem_sh (pgo ps) (ps k).2.1 u) hu) hx⟩
  have hvpc : ∀ u ∈ (rps (sts ps (ps k).2.1).2 (sts ps k).2 v), tx_L u ∧ u.length ≤ 6 ∧ (sts ps (ps k).2.1).2 (tx_num u) = true := fun u hu => ⟨(hvpm u hu).2.1, by have := (hvpm u hu).2.2.2; omega, (hvpm u hu).1⟩
  have FU3 : Fu n k M (sI (rI (rI M (p + 5) (lsR ((rps (sts ps (ps k).2.1).1 (sts ps k).1 s).map tx_num) (M.1 (p + 5)))) (p + 7) (lsR ((rps (sts ps (ps k).2.1).2 (sts ps k).2 v).map tx_num) ((rI M (p + 5) (lsR ((rps (sts ps (ps k).2.1).1 (sts ps k).1 s).map tx_num) (M.1 (p + 5)))).1 (p + 7)))) p 13 (((rps (sts ps (ps k).2.1).2 (sts ps k).2 v).length : Nat) : Int)) := Fu_trans (Fu_trans (Fu_row (a := p + 5) (by omega)) (Fu_row (a := p + 7) (by omega))) (by rw [ep]; exact Fu_cnt)
  have hc3 : cls n (sI (rI (rI M (p + 5) (lsR ((rps (sts ps (ps k).2.1).1 (sts ps k).1 s).map tx_num) (M.1 (p + 5)))) (p + 7) (lsR ((rps (sts ps (ps k).2.1).2 (sts ps k).2 v).map tx_num) ((rI M (p + 5) (lsR ((rps (sts ps (ps k).2.1).1 (sts ps k).1 s).map tx_num) (M.1 (p + 5)))).1 (p + 7)))) p 13 (((rps (sts ps (ps k).2.1).2 (sts ps k).2 v).length : Nat) : Int)) ps c := cls_Fu hc hk FU3
  have rs3 : ∀ i, i < (rps (sts ps (ps k).2.1).1 (sts ps k).1 s).length → (sI (rI (rI M (p + 5) (lsR ((rps (sts ps (ps k).2.1).1 (sts ps k).1 s).map tx_num) (M.1 (p + 5)))) (p + 7) (lsR ((rps (sts ps (ps k).2.1).2 (sts ps k).2 v).map tx_num) ((rI M (p + 5) (lsR ((rps (sts ps (ps k).2.1).1 (sts ps k).1 s).map tx_num) (M.1 (p + 5)))).1 (p + 7)))) p 13 (((rps (sts ps (ps k).2.1).2 (sts ps k).2 v).length : Nat) : Int)).1 (p + 5) (i : Int) = ((tx_num (rps (sts ps (ps k).2.1).1 (sts ps k).1 s)[i]! : Nat) : Int) := by
    intro i hi
    rw [sI_ne (by omega), rI_ne (by omega), rI_at, lsR_at _ _ (by rw [List.length_map]; exact hi), List.getD_eq_getElem?_getD, List.getElem?_map, List.getElem?_eq_getElem hi, getElem!_pos _ i hi]
    rfl
  have rv3 : ∀ i, i < (rps (sts ps (ps k).2.1).2 (sts ps k).2 v).length → (sI (rI (rI M (p + 5) (lsR ((rps (sts ps (ps k).2.1).1 (sts ps k).1 s).map tx_num) (M.1 (p + 5)))) (p + 7) (lsR ((rps (sts ps (ps k).2.1).2 (sts ps k).2 v).map tx_num) ((rI M (p + 5) (lsR ((rps (sts ps (ps k).2.1).1 (sts ps k).1 s).map tx_num) (M.1 (p + 5)))).1 (p + 7)))) p 13 (((rps (sts ps (ps k).2.1).2 (sts ps k).2 v).length : Nat) : Int)).1 (p + 7) (i : Int) = ((tx_num (rps (sts ps (ps k).2.1).2 (sts ps k).2 v)[i]! : Nat) : Int) := by
    intro i hi
    rw [sI_ne (by omega), rI_at, lsR_at _ _ (by rw [List.length_map]; exact hi), List.getD_eq_getElem?_getD, List.getElem?_map, List.getElem?_eq_getElem hi, getElem!_pos _ i hi]
    rfl
  have hfL : ∀ i, i < (rps (sts ps (ps k).2.1).2 (sts ps k).2 v).length → tx_L ((fun i => match org true ((rps (sts ps (ps k).2.1).1 (sts ps k).1 s).map (fun u => tx_num (sem_ky (pgo ps) (ps k).2.1 (sem_sh (pgo ps) (ps k).2.1 u)))) ((rps (sts ps (ps k).2.1).2 (sts ps k).2 v).map (fun u => tx_num (sem_ky (pgo ps) (ps k).2.1 u))) i with | none => sem_cr (pgo ps) (ps k).2.1 (rps (sts ps (ps k).2.1).2 (sts ps k).2 v)[i]! | some o => sem_pu (pgo ps) (ps k).2.1 (rps (sts ps (ps k).2.1).1 (sts ps k).1 s)[o]! (rps (sts ps (ps k).2.1).2 (sts ps k).2 v)[i]!) i) := by
    intro i hi
    have hu := hvpc _ (get_mem hi)
    show tx_L (match org true ((rps (sts ps (ps k).2.1).1 (sts ps k).1 s).map (fun u => tx_num (sem_ky (pgo ps) (ps k).2.1 (sem_sh (pgo ps) (ps k).2.1 u)))) ((rps (sts ps (ps k).2.1).2 (sts ps k).2 v).map (fun u => tx_num (sem_ky (pgo ps) (ps k).2.1 u))) i with | none => _ | some o => _)
    cases ho : org true ((rps (sts ps (ps k).2.1).1 (sts ps k).1 s).map (fun u => tx_num (sem_ky (pgo ps) (ps k).2.1 (sem_sh (pgo ps) (ps k).2.1 u)))) ((rps (sts ps (ps k).2.1).2 (sts ps k).2 v).map (fun u => tx_num (sem_ky (pgo ps) (ps k).2.1 u))) i with
    | none => exact cr_L gds' _ (Nat.lt_trans hlk.1 hk) _ hu.1
    | some j =>
      have hj := org_lt ho
      rw [List.length_map] at hj
      exact pu_L gds' _ (Nat.lt_trans hlk.1 hk) _ _ (hspc _ (get_mem hj)).1 hu.1
  rw [pu_8 hKe g.2.1]
  show ab_W (pg_G L xs) (ab_X (pg_G L xs) (D + 6)) 83 _ 0 [some (.ref p), some (zi ((tx_num s : Nat) : Int)), some (zi ((tx_num v : Nat) : Int)), some (zi ((deep : Nat) : Int)), none, none, none, none, none] [] (hp M ++ es)
  refine x_ld 0 1 2 1 rfl rfl rfl rfl rfl ?_
  refine g_P_9 hP 37 4 rfl rfl rfl ?_
  refine x_ld 1 1 0 5 rfl rfl rfl rfl rfl ?_
  refine x_ld 0 1 2 6 rfl rfl rfl rfl rfl ?_
  refine g_P_3 hP 53 9 rfl rfl eq rfl ?_
  refine g_P_5 hQ 24 12 rfl rfl rfl ?_
  refine x_ld 0 1 2 13 rfl rfl rfl rfl rfl ?_
  refine g_P_5 hP 24 16 rfl rfl rfl ?_
  refine x_cv 179 84 19 [.ref (p + 5), zi ((tx_num s : Nat) : Int), .ref (q + 1), .ref (p + 1)] rfl rfl rfl (Nat.le_of_ble_eq_true rfl) rfl rfl (Nat.le_of_ble_eq_true rfl) trivial (Nat.le_of_ble_eq_true rfl) (c84 (D + 3) (iP5 hP) (iT_P1 hQ) (iT_P1 hP) aS aSk hSB h0S hs s6 ms) rfl ?_
  refine x_st 4 2 0 21 [some (.ref p), some (zi ((tx_num s : Nat) : Int)), some (zi ((tx_num v : Nat) : Int)), some (zi ((deep : Nat) : Int)), some (zi (((rps (sts ps (ps k).2.1).1 (sts ps k).1 s).length : Nat) : Int)), none, none, none, none] rfl rfl rfl (Nat.le_of_ble_eq_true rfl) rfl rfl ?_
  refine x_ld 0 1 2 22 rfl rfl rfl rfl rfl ?_
  refine x_ld 0 1 2 23 rfl rfl rfl rfl rfl ?_
  refine g_P_11 hP 44 26 rfl rfl rfl ?_
  refine x_ld 2 1 0 27 rfl rfl rfl rfl rfl ?_
  refine x_ld 0 1 2 28 rfl rfl rfl rfl rfl ?_
  refine g_P_3 hP 53 31 rfl rfl eq rfl ?_
  refine g_P_6 hQ 28 34 rfl rfl rfl ?_
  refine x_ld 0 1 2 35 rfl rfl rfl rfl rfl ?_
  refine g_P_6 hP 28 38 rfl rfl rfl ?_
  refine x_cv 179 84 41 [.ref (p + 7), zi ((tx_num v : Nat) : Int), .ref (q + 3), .ref (p + 3)] rfl rfl rfl (Nat.le_of_ble_eq_true rfl) rfl rfl (Nat.le_of_ble_eq_true rfl) trivial (Nat.le_of_ble_eq_true rfl) (c84 (M := (rI M (p + 5) (lsR ((rps (sts ps (ps k).2.1).1 (sts ps k).1 s).map tx_num) (M.1 (p + 5))))) (D + 3) (iP7 hP) (iT_P3 hQ) (iT_P3 hP) aV aVk hVB h0V hv v6 mv) rfl ?_
  refine s_P_13 hP 50 44 rfl rfl rfl rfl rfl rfl ?_
  refine x_ld 0 1 2 45 rfl rfl rfl rfl rfl ?_
  refine g_P_0 hP 9 48 rfl rfl ((rd_nk (Ne.symm (by decide))).trans ((rd_ra (by omega)).trans ((rd_ra (by omega)).trans hk0))) rfl ?_
  refine x_cst (zi 8) 2 50 rfl rfl rfl ?_
  refine z_icne 63 53 rfl rfl rfl (rg_lit 8 rfl) (rg_lit 8 rfl) (fun c => absurd c (by decide)) (fun _ => ?_)
  refine x_ld 0 1 2 54 rfl rfl rfl rfl rfl ?_
  refine x_ld 4 2 0 56 rfl rfl rfl rfl rfl ?_
  refine x_ld 3 1 0 57 rfl rfl rfl rfl rfl ?_
  refine x_ce 183 85 60 [.ref p, zi (((rps (sts ps (ps k).2.1).1 (sts ps k).1 s).length : Nat) : Int), zi ((deep : Nat) : Int)] rfl rfl rfl (Nat.le_of_ble_eq_true rfl) rfl rfl (Nat.le_of_ble_eq_true rfl) ⟨_, _, _, rfl, oP hP⟩ (Nat.le_of_ble_eq_true rfl) (c85 (M := (sI (rI (rI M (p + 5) (lsR ((rps (sts ps (ps k).2.1).1 (sts ps k).1 s).map tx_num) (M.1 (p + 5)))) (p + 7) (lsR ((rps (sts ps (ps k).2.1).2 (sts ps k).2 v).map tx_num) ((rI M (p + 5) (lsR ((rps (sts ps (ps k).2.1).1 (sts ps k).1 s).map tx_num) (M.1 (p + 5)))).1 (p + 7)))) p 13 (((rps (sts ps (ps k).2.1).2 (sts ps k).2 v).length : Nat) : Int))) hc3 hk hK ep eq' hd D hD (sp := (rps (sts ps (ps k).2.1).1 (sts ps k).1 s)) (vp := (rps (sts ps (ps k).2.1).2 (sts ps k).2 v)) (by omega) (by omega) hspc hvpc rs3 rv3 rd_eq) rfl ?_
  rintro w4 M4 ⟨rfl, F4, ro4⟩
  refine x_go 69 rfl rfl ?_
  refine x_cst (zi 0) 1 70 rfl rfl rfl ?_
  refine x_st 5 2 0 72 [some (.ref p), some (zi ((tx_num s : Nat) : Int)), some (zi ((tx_num v : Nat) : Int)), some (zi ((deep : Nat) : Int)), some (zi (((rps (sts ps (ps k).2.1).1 (sts ps k).1 s).length : Nat) : Int)), some (zi 0), none, none, none] rfl rfl rfl (Nat.le_of_ble_eq_true rfl) rfl rfl ?_
  refine x_cst (zi 0) 1 73 rfl rfl rfl ?_
  refine x_st 6 2 0 75 [some (.ref p), some (zi ((tx_num s : Nat) : Int)), some (zi ((tx_num v : Nat) : Int)), some (zi ((deep : Nat) : Int)), some (zi (((rps (sts ps (ps k).2.1).1 (sts ps k).1 s).length : Nat) : Int)), some (zi 0), some (zi 0), none, none] rfl rfl rfl (Nat.le_of_ble_eq_true rfl) rfl rfl ?_
  have FU4 : Fu n k M M4 := Fu_trans FU3 (F6_Fu (by rw [← ep]; exact F4))
  refine c83_loop (M := M4) (D + 4) (n := n) (l := (ps k).2.1) hP hQ (by rw [FU4.2.2]; exact eq) (fun j hj => by omega) (deep := deep) (by omega) (sp := (rps (sts ps (ps k).2.1).1 (sts ps k).1 s)) (vp := (rps (sts ps (ps k).2.1).2 (sts ps k).2 v)) (by omega) (by omega) (fun u hu => num_lt (hspc u hu).1 (hspc u hu).2.1) (fun u hu => num_lt (hvpc u hu).1 (hvpc u hu).2.1) (fun i hi => by rw [F4.1 _ (by omega) (by omega)]; exact rs3 i hi) (fun i hi => by rw [F4.1 _ (by omega) (by omega)]; exact rv3 i hi) (by rw [F4.1 _ (by omega) (by omega)]; exact rd_eq) (o := org true ((rps (sts ps (ps k).2.1).1 (sts ps k).1 s).map (fun u => tx_num (sem_ky (pgo ps) (ps k).2.1 (sem_sh (pgo ps) (ps k).2.1 u)))) ((rps (sts ps (ps k).2.1).2 (sts ps k).2 v).map (fun u => tx_num (sem_ky (pgo ps) (ps k).2.1 u)))) ro4 (fun i j hi ho => by have := org_lt ho; rw [List.length_map] at this; exact this) (f := (fun i => match org true ((rps (sts ps (ps k).2.1).1 (sts ps k).1 s).map (fun u => tx_num (sem_ky (pgo ps) (ps k).2.1 (sem_sh (pgo ps) (ps k).2.1 u)))) ((rps (sts ps (ps k).2.1).2 (sts ps k).2 v).map (fun u => tx_num (sem_ky (pgo ps) (ps k).2.1 u))) i with | none => sem_cr (pgo ps) (ps k).2.1 (rps (sts ps (ps k).2.1).2 (sts ps k).2 v)[i]! | some o => sem_pu (pgo ps) (ps k).2.1 (rps (sts ps (ps k).2.1).1 (sts ps k).1 s)[o]! (rps (sts ps (ps k).2.1).2 (sts ps k).2 v)[i]!)) hfL ?_ ?_ ?_ _ 0 rfl (Nat.zero_le _) M4 (Fu_refl ..) _ _
  · intro i hi ho M' hF'
    have hcM := cls_Fu hc hk (Fu_trans FU4 (Fu_mono (by omega) hF'))
    have hu := hvpc _ (get_mem hi)
    show ab_S _ _ _ _ _ (some (zi (nz ((fun i => match org true ((rps (sts ps (ps k).2.1).1 (sts ps k).1 s).map (fun u => tx_num (sem_ky (pgo ps) (ps k).2.1 (sem_sh (pgo ps) (ps k).2.1 u)))) ((rps (sts ps (ps k).2.1).2 (sts ps k).2 v).map (fun u => tx_num (sem_ky (pgo ps) (ps k).2.1 u))) i with | none => sem_cr (pgo ps) (ps k).2.1 (rps (sts ps (ps k).2.1).2 (sts ps k).2 v)[i]! | some o => sem_pu (pgo ps) (ps k).2.1 (rps (sts ps (ps k).2.1).1 (sts ps k).1 s)[o]! (rps (sts ps (ps k).2.1).2 (sts ps k).2 v)[i]!) i)))) _
    simp only [ho]
    have q0 := c78 (L := L) (xs := xs) (es := es) hcM _ (Nat.lt_trans hlk.1 hk) (D + 6) (by omega) (deep + 1) _ (by omega) hu.1 hu.2.1 hu.2.2
    rw [← eq'] at q0; exact q0
  · intro i j hi ho M' hF'
    have hcM := cls_Fu hc hk (Fu_trans FU4 (Fu_mono (by omega) hF'))
    have hu := hvpc _ (get_mem hi)
    have hj := org_lt ho
    rw [List.length_map] at hj
    have hw := hspc _ (get_mem hj)
    show ab_Z _ _ _ _ _ _ (fun w M'' => w = some (zi (nz ((fun i => match org true ((rps (sts ps (ps k).2.1).1 (sts ps k).1 s).map (fun u => tx_num (sem_ky (pgo ps) (ps k).2.1 (sem_sh (pgo ps) (ps k).2.1 u)))) ((rps (sts ps (ps k).2.1).2 (sts ps k).2 v).map (fun u => tx_num (sem_ky (pgo ps) (ps k).2.1 u))) i with | none => sem_cr (pgo ps) (ps k).2.1 (rps (sts ps (ps k).2.1).2 (sts ps k).2 v)[i]! | some o => sem_pu (pgo ps) (ps k).2.1 (rps (sts ps (ps k).2.1).1 (sts ps k).1 s)[o]! (rps (sts ps (ps k).2.1).2 (sts ps k).2 v)[i]!) i))) ∧ _)
    simp only [ho]
    exact ihl M' hcM _ _ hw.1 hu.1 hw.2.1 hu.2.1 hw.2.2.1 hu.2.2 hw.2.2.2
  · intro M' hF'
    refine ⟨_, M', rfl, rfl, rfl, Fu_trans FU4 (Fu_mono (by omega) hF'), ?_, fun i hi => ?_⟩
    · rw [hF'.1 p (fun j hj => by omega), F4.1 _ (by omega) (by omega)]; exact rd_eq
    · rw [hF'.1 (p + 8) (fun j hj => by omega)]; exact ro4 i hi
end C16
