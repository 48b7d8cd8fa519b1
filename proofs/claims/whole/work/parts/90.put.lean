/-! OURS, printed by wip/tools/gen90.py: putInto of any part. -/
section C17
variable {L : Nat} {xs : Nat → Int32} {es : ab_H}
theorem m76_0 {M : mm} (D : Nat) {p : Nat} (h : isP p) (hk : M.1 p 0 = 0) {x y : Int} {deep : Nat} (hd : deep ≤ 40) : ab_S (pg_G L xs) (D + 1) 76 [.ref p, zi x, zi y, zi (deep : Nat)] (hp M ++ es) (some (zi y)) (hp M ++ es) := by
  show ab_W (pg_G L xs) (ab_X (pg_G L xs) D) 76 _ 0 [some (.ref p), some (zi x), some (zi y), some (zi ((deep : Nat) : Int))] [] (hp M ++ es)
  refine x_ld 3 1 0 1 rfl rfl rfl rfl rfl ?_
  refine x_cst (zi 40) 2 3 rfl rfl rfl ?_
  refine z_icle 8 6 rfl rfl rfl ⟨by omega, by omega⟩ (rg_lit 40 rfl) (fun _ => ?_) (fun c => absurd c (by omega))
  refine x_ld 0 1 2 9 rfl rfl rfl rfl rfl ?_
  refine g_P_0 h 9 12 rfl rfl hk rfl ?_
  refine x_tin 56 rfl (by decide) (by decide) rfl rfl ?_
  refine x_ld 2 1 0 57 rfl rfl rfl rfl rfl ?_
  refine x_ret rfl rfl rfl rfl ?_
  exact ⟨rfl, rfl⟩
theorem m76_1 {M : mm} (D : Nat) {p : Nat} (h : isP p) (hk : M.1 p 0 = 1) {x y : Int} {deep : Nat} (hd : deep ≤ 40) : ab_S (pg_G L xs) (D + 1) 76 [.ref p, zi x, zi y, zi (deep : Nat)] (hp M ++ es) (some (zi x)) (hp M ++ es) := by
  show ab_W (pg_G L xs) (ab_X (pg_G L xs) D) 76 _ 0 [some (.ref p), some (zi x), some (zi y), some (zi ((deep : Nat) : Int))] [] (hp M ++ es)
  refine x_ld 3 1 0 1 rfl rfl rfl rfl rfl ?_
  refine x_cst (zi 40) 2 3 rfl rfl rfl ?_
  refine z_icle 8 6 rfl rfl rfl ⟨by omega, by omega⟩ (rg_lit 40 rfl) (fun _ => ?_) (fun c => absurd c (by omega))
  refine x_ld 0 1 2 9 rfl rfl rfl rfl rfl ?_
  refine g_P_0 h 9 12 rfl rfl hk rfl ?_
  refine x_tin 58 rfl (by decide) (by decide) rfl rfl ?_
  refine x_ld 1 1 0 59 rfl rfl rfl rfl rfl ?_
  refine x_ret rfl rfl rfl rfl ?_
  exact ⟨rfl, rfl⟩
theorem m76_2 {M : mm} (D : Nat) {p : Nat} (h : isP p) (hk : M.1 p 0 = 2) {x y : Int} {deep : Nat} (hd : deep ≤ 40) : ab_S (pg_G L xs) (D + 1) 76 [.ref p, zi x, zi y, zi (deep : Nat)] (hp M ++ es) (some (zi 0)) (hp M ++ es) := by
  show ab_W (pg_G L xs) (ab_X (pg_G L xs) D) 76 _ 0 [some (.ref p), some (zi x), some (zi y), some (zi ((deep : Nat) : Int))] [] (hp M ++ es)
  refine x_ld 3 1 0 1 rfl rfl rfl rfl rfl ?_
  refine x_cst (zi 40) 2 3 rfl rfl rfl ?_
  refine z_icle 8 6 rfl rfl rfl ⟨by omega, by omega⟩ (rg_lit 40 rfl) (fun _ => ?_) (fun c => absurd c (by omega))
  refine x_ld 0 1 2 9 rfl rfl rfl rfl rfl ?_
  refine g_P_0 h 9 12 rfl rfl hk rfl ?_
  refine x_tin 60 rfl (by decide) (by decide) rfl rfl ?_
  refine x_cst (zi 0) 1 61 rfl rfl rfl ?_
  refine x_ret rfl rfl rfl rfl ?_
  exact ⟨rfl, rfl⟩
theorem m76_3 {M : mm} (D : Nat) {p q : Nat} (h : isP p) (hq : isP q) (eq : M.2.2 p 3 = q) (hk : M.1 p 0 = 3) {x y : Int} {deep : Nat} (hd : deep ≤ 40) {F : Int → mm → Prop} (c1 : ab_Z (pg_G L xs) D 76 [.ref q, zi x, zi y, zi ((deep : Int) + 1)] M es (fun w M' => ∃ x, w = some (zi x) ∧ F x M')) : ab_Z (pg_G L xs) (D + 1) 76 [.ref p, zi x, zi y, zi (deep : Nat)] M es (fun w M' => ∃ x, w = some (zi x) ∧ F x M') := by
  show ab_W (pg_G L xs) (ab_X (pg_G L xs) D) 76 _ 0 [some (.ref p), some (zi x), some (zi y), some (zi ((deep : Nat) : Int))] [] (hp M ++ es)
  refine x_ld 3 1 0 1 rfl rfl rfl rfl rfl ?_
  refine x_cst (zi 40) 2 3 rfl rfl rfl ?_
  refine z_icle 8 6 rfl rfl rfl ⟨by omega, by omega⟩ (rg_lit 40 rfl) (fun _ => ?_) (fun c => absurd c (by omega))
  refine x_ld 0 1 2 9 rfl rfl rfl rfl rfl ?_
  refine g_P_0 h 9 12 rfl rfl hk rfl ?_
  refine x_tin 62 rfl (by decide) (by decide) rfl rfl ?_
  refine x_ld 0 1 2 63 rfl rfl rfl rfl rfl ?_
  refine g_P_3 h 53 66 rfl rfl eq rfl ?_
  refine x_ld 1 1 0 67 rfl rfl rfl rfl rfl ?_
  refine x_ld 2 1 0 68 rfl rfl rfl rfl rfl ?_
  refine x_ld 3 1 0 69 rfl rfl rfl rfl rfl ?_
  refine x_cst (zi 1) 1 70 rfl rfl rfl ?_
  refine z_add 71 rfl rfl ?_
  refine x_ce 166 76 74 [.ref q, zi x, zi y, zi (((deep : Nat) : Int) + 1)] rfl rfl rfl (Nat.le_of_ble_eq_true rfl) rfl rfl (Nat.le_of_ble_eq_true rfl) ⟨_, _, _, rfl, oP hq⟩ (Nat.le_of_ble_eq_true rfl) c1 rfl ?_
  rintro w M' ⟨v, rfl, hF⟩
  refine x_ret rfl rfl rfl rfl ?_
  exact ⟨_, M', rfl, rfl, v, rfl, hF⟩
theorem m76_4 {M : mm} (D : Nat) {p : Nat} (h : isP p) (hk : M.1 p 0 = 4) {x y : Int} {deep : Nat} (hd : deep ≤ 40) {F : Int → mm → Prop} (c1 : ab_Z (pg_G L xs) D 77 [.ref p, zi x, zi y, zi (deep : Nat)] M es (fun w M' => ∃ x, w = some (zi x) ∧ F x M')) : ab_Z (pg_G L xs) (D + 1) 76 [.ref p, zi x, zi y, zi (deep : Nat)] M es (fun w M' => ∃ x, w = some (zi x) ∧ F x M') := by
  show ab_W (pg_G L xs) (ab_X (pg_G L xs) D) 76 _ 0 [some (.ref p), some (zi x), some (zi y), some (zi ((deep : Nat) : Int))] [] (hp M ++ es)
  refine x_ld 3 1 0 1 rfl rfl rfl rfl rfl ?_
  refine x_cst (zi 40) 2 3 rfl rfl rfl ?_
  refine z_icle 8 6 rfl rfl rfl ⟨by omega, by omega⟩ (rg_lit 40 rfl) (fun _ => ?_) (fun c => absurd c (by omega))
  refine x_ld 0 1 2 9 rfl rfl rfl rfl rfl ?_
  refine g_P_0 h 9 12 rfl rfl hk rfl ?_
  refine x_tin 75 rfl (by decide) (by decide) rfl rfl ?_
  refine x_ld 0 1 2 76 rfl rfl rfl rfl rfl ?_
  refine x_ld 1 1 0 77 rfl rfl rfl rfl rfl ?_
  refine x_ld 2 1 0 78 rfl rfl rfl rfl rfl ?_
  refine x_ld 3 1 0 79 rfl rfl rfl rfl rfl ?_
  refine x_ce 170 77 82 [.ref p, zi x, zi y, zi ((deep : Nat) : Int)] rfl rfl rfl (Nat.le_of_ble_eq_true rfl) rfl rfl (Nat.le_of_ble_eq_true rfl) ⟨_, _, _, rfl, oP h⟩ (Nat.le_of_ble_eq_true rfl) c1 rfl ?_
  rintro w M' ⟨v, rfl, hF⟩
  refine x_ret rfl rfl rfl rfl ?_
  exact ⟨_, M', rfl, rfl, v, rfl, hF⟩
theorem m76_5 {M : mm} (D : Nat) {p : Nat} (h : isP p) (hk : M.1 p 0 = 5) {x y : Int} {deep : Nat} (hd : deep ≤ 40) {F : Int → mm → Prop} (c1 : ab_Z (pg_G L xs) D 82 [.ref p, zi x, zi y, zi (deep : Nat)] M es (fun w M' => ∃ x, w = some (zi x) ∧ F x M')) : ab_Z (pg_G L xs) (D + 1) 76 [.ref p, zi x, zi y, zi (deep : Nat)] M es (fun w M' => ∃ x, w = some (zi x) ∧ F x M') := by
  show ab_W (pg_G L xs) (ab_X (pg_G L xs) D) 76 _ 0 [some (.ref p), some (zi x), some (zi y), some (zi ((deep : Nat) : Int))] [] (hp M ++ es)
  refine x_ld 3 1 0 1 rfl rfl rfl rfl rfl ?_
  refine x_cst (zi 40) 2 3 rfl rfl rfl ?_
  refine z_icle 8 6 rfl rfl rfl ⟨by omega, by omega⟩ (rg_lit 40 rfl) (fun _ => ?_) (fun c => absurd c (by omega))
  refine x_ld 0 1 2 9 rfl rfl rfl rfl rfl ?_
  refine g_P_0 h 9 12 rfl rfl hk rfl ?_
  refine x_tin 83 rfl (by decide) (by decide) rfl rfl ?_
  refine x_ld 0 1 2 84 rfl rfl rfl rfl rfl ?_
  refine x_ld 1 1 0 85 rfl rfl rfl rfl rfl ?_
  refine x_ld 2 1 0 86 rfl rfl rfl rfl rfl ?_
  refine x_ld 3 1 0 87 rfl rfl rfl rfl rfl ?_
  refine x_ce 173 82 90 [.ref p, zi x, zi y, zi ((deep : Nat) : Int)] rfl rfl rfl (Nat.le_of_ble_eq_true rfl) rfl rfl (Nat.le_of_ble_eq_true rfl) ⟨_, _, _, rfl, oP h⟩ (Nat.le_of_ble_eq_true rfl) c1 rfl ?_
  rintro w M' ⟨v, rfl, hF⟩
  refine x_ret rfl rfl rfl rfl ?_
  exact ⟨_, M', rfl, rfl, v, rfl, hF⟩
theorem m76_6 {M : mm} (D : Nat) {p : Nat} (h : isP p) (hk : M.1 p 0 = 6) {x y : Int} {deep : Nat} (hd : deep ≤ 40) {F : Int → mm → Prop} (c1 : ab_Z (pg_G L xs) D 82 [.ref p, zi x, zi y, zi (deep : Nat)] M es (fun w M' => ∃ x, w = some (zi x) ∧ F x M')) : ab_Z (pg_G L xs) (D + 1) 76 [.ref p, zi x, zi y, zi (deep : Nat)] M es (fun w M' => ∃ x, w = some (zi x) ∧ F x M') := by
  show ab_W (pg_G L xs) (ab_X (pg_G L xs) D) 76 _ 0 [some (.ref p), some (zi x), some (zi y), some (zi ((deep : Nat) : Int))] [] (hp M ++ es)
  refine x_ld 3 1 0 1 rfl rfl rfl rfl rfl ?_
  refine x_cst (zi 40) 2 3 rfl rfl rfl ?_
  refine z_icle 8 6 rfl rfl rfl ⟨by omega, by omega⟩ (rg_lit 40 rfl) (fun _ => ?_) (fun c => absurd c (by omega))
  refine x_ld 0 1 2 9 rfl rfl rfl rfl rfl ?_
  refine g_P_0 h 9 12 rfl rfl hk rfl ?_
  refine x_tin 83 rfl (by decide) (by decide) rfl rfl ?_
  refine x_ld 0 1 2 84 rfl rfl rfl rfl rfl ?_
  refine x_ld 1 1 0 85 rfl rfl rfl rfl rfl ?_
  refine x_ld 2 1 0 86 rfl rfl rfl rfl rfl ?_
  refine x_ld 3 1 0 87 rfl rfl rfl rfl rfl ?_
  refine x_ce 173 82 90 [.ref p, zi x, zi y, zi ((deep : Nat) : Int)] rfl rfl rfl (Nat.le_of_ble_eq_true rfl) rfl rfl (Nat.le_of_ble_eq_true rfl) ⟨_, _, _, rfl, oP h⟩ (Nat.le_of_ble_eq_true rfl) c1 rfl ?_
  rintro w M' ⟨v, rfl, hF⟩
  refine x_ret rfl rfl rfl rfl ?_
  exact ⟨_, M', rfl, rfl, v, rfl, hF⟩
theorem m76_7 {M : mm} (D : Nat) {p : Nat} (h : isP p) (hk : M.1 p 0 = 7) {x y : Int} {deep : Nat} (hd : deep ≤ 40) {F : Int → mm → Prop} (c1 : ab_Z (pg_G L xs) D 83 [.ref p, zi x, zi y, zi (deep : Nat)] M es (fun w M' => ∃ x, w = some (zi x) ∧ F x M')) : ab_Z (pg_G L xs) (D + 1) 76 [.ref p, zi x, zi y, zi (deep : Nat)] M es (fun w M' => ∃ x, w = some (zi x) ∧ F x M') := by
  show ab_W (pg_G L xs) (ab_X (pg_G L xs) D) 76 _ 0 [some (.ref p), some (zi x), some (zi y), some (zi ((deep : Nat) : Int))] [] (hp M ++ es)
  refine x_ld 3 1 0 1 rfl rfl rfl rfl rfl ?_
  refine x_cst (zi 40) 2 3 rfl rfl rfl ?_
  refine z_icle 8 6 rfl rfl rfl ⟨by omega, by omega⟩ (rg_lit 40 rfl) (fun _ => ?_) (fun c => absurd c (by omega))
  refine x_ld 0 1 2 9 rfl rfl rfl rfl rfl ?_
  refine g_P_0 h 9 12 rfl rfl hk rfl ?_
  refine x_tou 91 rfl (.inr (by decide)) rfl ?_
  refine x_ld 0 1 2 92 rfl rfl rfl rfl rfl ?_
  refine x_ld 1 1 0 93 rfl rfl rfl rfl rfl ?_
  refine x_ld 2 1 0 94 rfl rfl rfl rfl rfl ?_
  refine x_ld 3 1 0 95 rfl rfl rfl rfl rfl ?_
  refine x_ce 176 83 98 [.ref p, zi x, zi y, zi ((deep : Nat) : Int)] rfl rfl rfl (Nat.le_of_ble_eq_true rfl) rfl rfl (Nat.le_of_ble_eq_true rfl) ⟨_, _, _, rfl, oP h⟩ (Nat.le_of_ble_eq_true rfl) c1 rfl ?_
  rintro w M' ⟨v, rfl, hF⟩
  refine x_ret rfl rfl rfl rfl ?_
  exact ⟨_, M', rfl, rfl, v, rfl, hF⟩
theorem m76_8 {M : mm} (D : Nat) {p : Nat} (h : isP p) (hk : M.1 p 0 = 8) {x y : Int} {deep : Nat} (hd : deep ≤ 40) {F : Int → mm → Prop} (c1 : ab_Z (pg_G L xs) D 83 [.ref p, zi x, zi y, zi (deep : Nat)] M es (fun w M' => ∃ x, w = some (zi x) ∧ F x M')) : ab_Z (pg_G L xs) (D + 1) 76 [.ref p, zi x, zi y, zi (deep : Nat)] M es (fun w M' => ∃ x, w = some (zi x) ∧ F x M') := by
  show ab_W (pg_G L xs) (ab_X (pg_G L xs) D) 76 _ 0 [some (.ref p), some (zi x), some (zi y), some (zi ((deep : Nat) : Int))] [] (hp M ++ es)
  refine x_ld 3 1 0 1 rfl rfl rfl rfl rfl ?_
  refine x_cst (zi 40) 2 3 rfl rfl rfl ?_
  refine z_icle 8 6 rfl rfl rfl ⟨by omega, by omega⟩ (rg_lit 40 rfl) (fun _ => ?_) (fun c => absurd c (by omega))
  refine x_ld 0 1 2 9 rfl rfl rfl rfl rfl ?_
  refine g_P_0 h 9 12 rfl rfl hk rfl ?_
  refine x_tou 91 rfl (.inr (by decide)) rfl ?_
  refine x_ld 0 1 2 92 rfl rfl rfl rfl rfl ?_
  refine x_ld 1 1 0 93 rfl rfl rfl rfl rfl ?_
  refine x_ld 2 1 0 94 rfl rfl rfl rfl rfl ?_
  refine x_ld 3 1 0 95 rfl rfl rfl rfl rfl ?_
  refine x_ce 176 83 98 [.ref p, zi x, zi y, zi ((deep : Nat) : Int)] rfl rfl rfl (Nat.le_of_ble_eq_true rfl) rfl rfl (Nat.le_of_ble_eq_true rfl) ⟨_, _, _, rfl, oP h⟩ (Nat.le_of_ble_eq_true rfl) c1 rfl ?_
  rintro w M' ⟨v, rfl, hF⟩
  refine x_ret rfl rfl rfl rfl ?_
  exact ⟨_, M', rfl, rfl, v, rfl, hF⟩
theorem ab_Z_mono {G : ab_G} {d jj : Nat} {as : List Value} {M : mm} {F F' : Option Value → mm → Prop} (h : ab_Z G d jj as M es F) (hF : ∀ v M', F v M' → F' v M') : ab_Z G d jj as M es F' := ab_X_mono d _ _ _ _ _ (fun _ _ ⟨v, M', e1, e2, e3⟩ => ⟨v, M', e1, e2, hF v M' e3⟩) h
theorem c76 {n : Nat} {ps : Nat → prt} {c : Nat} : ∀ k, k < c → ∀ D, 2 * k + 8 ≤ D → ∀ M : mm, cls n M ps c → ∀ (deep : Nat) (s v : List Nat), deep + k ≤ 40 → tx_L s → tx_L v → s.length ≤ 6 → v.length ≤ 6 → (sts ps k).1 (tx_num s) = true → (sts ps k).2 (tx_num v) = true → (sem_sh (pgo ps) k s).length ≤ 6 → ab_Z (pg_G L xs) D 76 [.ref (n + 3 + 9 * k), zi ((tx_num s : Nat) : Int), zi ((tx_num v : Nat) : Int), zi ((deep : Nat) : Int)] M es (fun w M' => ∃ x, w = some (zi x) ∧ (fun x M' => x = nz (sem_pu (pgo ps) k s v) ∧ Fu n k M M' ∧ (7 ≤ (ps k).1 → M'.1 (n + 3 + 9 * k) 13 = ((rps (sts ps (ps k).2.1).2 (sts ps k).2 v).length : Int) ∧ ∀ i, i < (rps (sts ps (ps k).2.1).2 (sts ps k).2 v).length → M'.1 (n + 3 + 9 * k + 8) (i : Int) = oz (org ((ps k).1 == 8) ((rps (sts ps (ps k).2.1).1 (sts ps k).1 s).map (fun u => tx_num (sem_ky (pgo ps) (ps k).2.1 (sem_sh (pgo ps) (ps k).2.1 u)))) ((rps (sts ps (ps k).2.1).2 (sts ps k).2 v).map (fun u => tx_num (sem_ky (pgo ps) (ps k).2.1 u))) i))) x M') := by
  intro k
  induction k using Nat.strongRecOn with
  | _ k ih =>
    intro hk D hD M hc deep s v hdk hs hv s6 v6 ms mv hsh
    obtain ⟨D, rfl⟩ : ∃ d, D = d + 8 := ⟨D - 8, by omega⟩
    have hg := cls_gds hc
    have hG := hc.1
    have hc31 := hc.2.1
    have g := hg k hk
    have hwk := hc.2.2.2.2 k hk
    have hmk := hc.2.2.1 k hk
    have hP := isP_A hG (show k < 31 by omega)
    have hl := hwk.2.2.2
    have g2 := g.2
    have hcl : 3 ≤ (ps k).1 → isP (n + 3 + 9 * (ps k).2.1) ∧ isP (n + 3 + 9 * (ps k).2.2.1) := fun e => ⟨isP_A hG (by have := hl e; omega), isP_A hG (by have := hl e; omega)⟩
    have agS : ∀ j, j < c → ag (sN (M.2.1 (n + 3 + 9 * j + 2))) (sts ps j).1 := fun j hj => (hc.2.2.2.1 j hj).2.1
    have agV : ∀ j, j < c → ag (sN (M.2.1 (n + 3 + 9 * j + 4))) (sts ps j).2 := fun j hj => (hc.2.2.2.1 j hj).2.2
    have ihj : ∀ j, j < k → ∀ M' : mm, cls n M' ps c → ∀ s' v' : List Nat, tx_L s' → tx_L v' → s'.length ≤ 6 → v'.length ≤ 6 → (sts ps j).1 (tx_num s') = true → (sts ps j).2 (tx_num v') = true → (sem_sh (pgo ps) j s').length ≤ 6 → ∀ D', 2 * k + 6 ≤ D' → ab_Z (pg_G L xs) D' 76 [.ref (n + 3 + 9 * j), zi (tx_num s' : Nat), zi (tx_num v' : Nat), zi ((deep : Int) + 1)] M' es (fun w M'' => w = some (zi (nz (sem_pu (pgo ps) j s' v'))) ∧ Fu n j M' M'') := fun j hj M' hM' s' v' h1 h2 h3 h4 h5 h6 h7 D' hD' => ab_Z_mono (ih j hj (by omega) D' (by omega) M' hM' (deep + 1) s' v' (by omega) h1 h2 h3 h4 h5 h6 h7) (fun w M'' ⟨x, e1, e2, e3, _⟩ => ⟨by rw [e1, e2], e3⟩)
    have nolow : (ps k).1 < 7 → ∀ M', Fu n k M M' → (fun x M' => x = nz (sem_pu (pgo ps) k s v) ∧ Fu n k M M' ∧ (7 ≤ (ps k).1 → M'.1 (n + 3 + 9 * k) 13 = ((rps (sts ps (ps k).2.1).2 (sts ps k).2 v).length : Int) ∧ ∀ i, i < (rps (sts ps (ps k).2.1).2 (sts ps k).2 v).length → M'.1 (n + 3 + 9 * k + 8) (i : Int) = oz (org ((ps k).1 == 8) ((rps (sts ps (ps k).2.1).1 (sts ps k).1 s).map (fun u => tx_num (sem_ky (pgo ps) (ps k).2.1 (sem_sh (pgo ps) (ps k).2.1 u)))) ((rps (sts ps (ps k).2.1).2 (sts ps k).2 v).map (fun u => tx_num (sem_ky (pgo ps) (ps k).2.1 u))) i))) (nz (sem_pu (pgo ps) k s v)) M' := fun h7 M' hF => ⟨rfl, hF, fun e => absurd e (by omega)⟩
    rw [show pK (pgo ps) k = (ps k).1 from rfl] at g2
    have hK8 := hwk.1
    have hKK : ∃ K, (ps k).1 = K := ⟨_, rfl⟩
    obtain ⟨K, hK⟩ := hKK
    have hpK : pK (pgo ps) k = K := hK
    rw [hK] at g2 hK8
    have hk0 : M.1 (n + 3 + 9 * k) 0 = ((K : Nat) : Int) := by rw [← hK]; exact hmk.1
    match K, hK8, hK, hpK, hk0, g2 with
    | 0, _, hK, hpK, hk0, g2 =>
      refine ab_Z_of (m76_0 (D + 7) hP hk0 (by omega)) ⟨_, rfl, ?_⟩
      have e : nz (sem_pu (pgo ps) k s v) = ((tx_num v : Nat) : Int) := by rw [pu_0 hpK]; exact nz_le v6
      rw [← e]; exact nolow (by omega) M (Fu_refl ..)
    | 1, _, hK, hpK, hk0, g2 =>
      refine ab_Z_of (m76_1 (D + 7) hP hk0 (by omega)) ⟨_, rfl, ?_⟩
      have e : nz (sem_pu (pgo ps) k s v) = ((tx_num s : Nat) : Int) := by rw [pu_1 hpK]; exact nz_le s6
      rw [← e]; exact nolow (by omega) M (Fu_refl ..)
    | 2, _, hK, hpK, hk0, g2 =>
      refine ab_Z_of (m76_2 (D + 7) hP hk0 (by omega)) ⟨_, rfl, ?_⟩
      have e : nz (sem_pu (pgo ps) k s v) = 0 := by rw [pu_2 hpK]; exact nz_le (w := []) (by decide)
      rw [← e]; exact nolow (by omega) M (Fu_refl ..)
    | 3, _, hK, hpK, hk0, g2 =>
      refine m76_3 (D + 7) hP (hcl (by omega)).1 (hmk.2.2 (by omega)).1 hk0 (by omega) (ab_Z_mono (ihj _ (hl (by omega)).1 M hc s v hs hv s6 v6 ((g2.2.1 _).symm.trans ms) ((g2.2.2 _).symm.trans mv) (by rw [sh_3 hpK g2.1] at hsh; exact hsh) _ (by omega)) ?_)
      rintro w M' ⟨e1, e2⟩
      refine ⟨_, e1, ?_⟩
      rw [← show sem_pu (pgo ps) k s v = sem_pu (pgo ps) (ps k).2.1 s v from pu_3 hpK g2.1 s v]
      exact nolow (by omega) M' (Fu_mono (Nat.le_of_lt (hl (by omega)).1) e2)
    | 4, _, hK, hpK, hk0, g2 =>
      refine m76_4 (D + 7) hP hk0 (by omega) ?_
      have q0 := c66 (L := L) (xs := xs) (es := es) (M := M) (D + 4) hP (hcl (by omega)).1 (hcl (by omega)).2 (hmk.2.2 (by omega)).1 (hmk.2.2 (by omega)).2 hs s6
      have slt := num_lt hs s6
      have vlt := num_lt hv v6
      have a1 : M.2.1 (n + 3 + 9 * (ps k).2.1 + 2) ((tx_num s : Nat) : Int) = (sts ps (ps k).2.1).1 (tx_num s) := agS _ (Nat.lt_trans (hl (by omega)).1 hk) _ (by omega)
      have b1 : M.2.1 (n + 3 + 9 * (ps k).2.1 + 4) ((tx_num v : Nat) : Int) = (sts ps (ps k).2.1).2 (tx_num v) := agV _ (Nat.lt_trans (hl (by omega)).1 hk) _ (by omega)
      have b2 : M.2.1 (n + 3 + 9 * (ps k).2.2.1 + 4) ((tx_num v : Nat) : Int) = (sts ps (ps k).2.2.1).2 (tx_num v) := agV _ (Nat.lt_trans (hl (by omega)).2 hk) _ (by omega)
      rw [a1] at q0
      have hpu := pu_4 hpK g2.1 s v
      have hor : ((sts ps (ps k).2.1).1 (tx_num s) || (sts ps (ps k).2.2.1).1 (tx_num s)) = true := (g2.2.1 (tx_num s)).symm.trans ms
      have hov : ((sts ps (ps k).2.1).2 (tx_num v) || (sts ps (ps k).2.2.1).2 (tx_num v)) = true := (g2.2.2 (tx_num v)).symm.trans mv
      have hsh4 := sh_4 hpK g2.1 s
      rw [show pS_ (pgo ps) (pL (pgo ps) k) (tx_num s) = (sts ps (ps k).2.1).1 (tx_num s) from rfl] at hpu hsh4
      cases hb : (sts ps (ps k).2.1).1 (tx_num s) with
      | true =>
        rw [hb, cond_true] at q0 hpu hsh4
        refine c77_q (D + 5) hP (hcl (by omega)).1 (hcl (by omega)).2 (hmk.2.2 (by omega)).1 (hmk.2.2 (by omega)).2 hv v6 q0 (fun e => ?_) (fun e => ?_)
        · rw [b1] at e
          refine ab_Z_mono (ihj _ (hl (by omega)).1 M hc s v hs hv s6 v6 hb e (by rw [hsh4] at hsh; exact hsh) _ (by omega)) ?_
          rintro w M' ⟨e1, e2⟩
          refine ⟨_, e1, ?_⟩
          have hpu2 : sem_pu (pgo ps) k s v = sem_pu (pgo ps) (ps k).2.1 s v := by rw [hpu, show pV (pgo ps) (pL (pgo ps) k) (tx_num v) = true from e, cond_true]; rfl
          rw [← hpu2]
          exact nolow (by omega) M' (Fu_mono (Nat.le_of_lt (hl (by omega)).1) e2)
        · rw [b1] at e
          have q1 := c78 (L := L) (xs := xs) (es := es) hc _ (Nat.lt_trans (hl (by omega)).2 hk) (D + 6) (by have := hl (by omega); omega) (deep + 1) v (by have := hl (by omega); omega) hv v6 (by rw [e, Bool.false_or] at hov; exact hov)
          refine ab_Z_of q1 ⟨_, rfl, ?_⟩
          have hpu2 : sem_pu (pgo ps) k s v = sem_cr (pgo ps) (ps k).2.2.1 v := by rw [hpu, show pV (pgo ps) (pL (pgo ps) k) (tx_num v) = false from e, cond_false]; rfl
          rw [← hpu2]
          exact nolow (by omega) M (Fu_refl ..)
      | false =>
        rw [hb, cond_false] at q0 hpu hsh4
        rw [hb, Bool.false_or] at hor
        refine c77_r (D + 5) hP (hcl (by omega)).1 (hcl (by omega)).2 (hmk.2.2 (by omega)).1 (hmk.2.2 (by omega)).2 hv v6 q0 (fun e => ?_) (fun e => ?_)
        · rw [b2] at e
          refine ab_Z_mono (ihj _ (hl (by omega)).2 M hc s v hs hv s6 v6 hor e (by rw [hsh4] at hsh; exact hsh) _ (by omega)) ?_
          rintro w M' ⟨e1, e2⟩
          refine ⟨_, e1, ?_⟩
          have hpu2 : sem_pu (pgo ps) k s v = sem_pu (pgo ps) (ps k).2.2.1 s v := by rw [hpu, show pV (pgo ps) (pR (pgo ps) k) (tx_num v) = true from e, cond_true]; rfl
          rw [← hpu2]
          exact nolow (by omega) M' (Fu_mono (Nat.le_of_lt (hl (by omega)).2) e2)
        · rw [b2] at e
          have q1 := c78 (L := L) (xs := xs) (es := es) hc _ (Nat.lt_trans (hl (by omega)).1 hk) (D + 6) (by have := hl (by omega); omega) (deep + 1) v (by have := hl (by omega); omega) hv v6 (by rw [e, Bool.or_false] at hov; exact hov)
          refine ab_Z_of q1 ⟨_, rfl, ?_⟩
          have hpu2 : sem_pu (pgo ps) k s v = sem_cr (pgo ps) (ps k).2.1 v := by rw [hpu, show pV (pgo ps) (pR (pgo ps) k) (tx_num v) = false from e, cond_false]; rfl
          rw [← hpu2]
          exact nolow (by omega) M (Fu_refl ..)
    | 5, _, hK, hpK, hk0, g2 =>
      refine m76_5 (D + 7) hP hk0 (by omega) ?_
      have js := (g2.2.1 (tx_num s)).mp ms
      have jv := (g2.2.2 (tx_num v)).mp mv
      have cs := jn_cut hs js
      have cv := jn_cut hv jv
      have les := cut_le (sts ps (ps k).2.1).1 (sts ps (ps k).2.2.1).1 s
      have lev := cut_le (sts ps (ps k).2.1).2 (sts ps (ps k).2.2.1).2 v
      have hsh2 := hsh
      rw [sh_5 hpK g2.1, List.length_append] at hsh2
      have h1 : (sem_sh (pgo ps) (ps k).2.1 (s.take (cut (sts ps (ps k).2.1).1 (sts ps (ps k).2.2.1).1 s))).length ≤ 6 := Nat.le_trans (Nat.le_add_right _ _) hsh2
      have h2 : (sem_sh (pgo ps) (ps k).2.2.1 (s.drop (cut (sts ps (ps k).2.1).1 (sts ps (ps k).2.2.1).1 s))).length ≤ 6 := Nat.le_trans (Nat.le_add_left _ _) hsh2
      refine ab_Z_mono (c82_5 (D + 4) hP (hcl (by omega)).1 (hcl (by omega)).2 (hmk.2.2 (by omega)).1 (hmk.2.2 (by omega)).2 hk0 (agS _ (Nat.lt_trans (hl (by omega)).1 hk)) (agS _ (Nat.lt_trans (hl (by omega)).2 hk)) (agV _ (Nat.lt_trans (hl (by omega)).1 hk)) (agV _ (Nat.lt_trans (hl (by omega)).2 hk)) hs s6 hv v6 ((jn_num hs).mp js).2 ((jn_num hv).mp jv).2 (by omega) (n := n) (k := k) (u1 := sem_pu (pgo ps) (ps k).2.1 (s.take (cut (sts ps (ps k).2.1).1 (sts ps (ps k).2.2.1).1 s)) (v.take (cut (sts ps (ps k).2.1).2 (sts ps (ps k).2.2.1).2 v))) (u2 := sem_pu (pgo ps) (ps k).2.2.1 (s.drop (cut (sts ps (ps k).2.1).1 (sts ps (ps k).2.2.1).1 s)) (v.drop (cut (sts ps (ps k).2.1).2 (sts ps (ps k).2.2.1).2 v))) (pu_L hg _ (Nat.lt_trans (hl (by omega)).1 hk) _ _ (tx_L_take hs _) (tx_L_take hv _)) (pu_L hg _ (Nat.lt_trans (hl (by omega)).2 hk) _ _ (tx_L_drop hs _) (tx_L_drop hv _)) (ab_Z_mono (ihj _ (hl (by omega)).1 M hc _ _ (tx_L_take hs _) (tx_L_take hv _) (by rw [List.length_take]; omega) (by rw [List.length_take]; omega) cs.1 cv.1 h1 _ (by omega)) (fun w M' e => ⟨e.1, Fu_mono (Nat.le_of_lt (hl (by omega)).1) e.2⟩)) (fun M1 hF1 => ab_Z_mono (ihj _ (hl (by omega)).2 M1 (cls_Fu hc hk hF1) _ _ (tx_L_drop hs _) (tx_L_drop hv _) (by rw [List.length_drop]; omega) (by rw [List.length_drop]; omega) cs.2 cv.2 h2 _ (by omega)) (fun w M' e => ⟨e.1, Fu_mono (Nat.le_of_lt (hl (by omega)).2) e.2⟩))) ?_
      rintro w M' ⟨e1, e2⟩
      refine ⟨_, e1, ?_⟩
      have hpu2 := pu_5 hpK g2.1 s v
      exact ⟨(congrArg nz hpu2).symm, (nolow (by omega) M' e2).2⟩
    | 6, _, hK, hpK, hk0, g2 =>
      refine m76_6 (D + 7) hP hk0 (by omega) ?_
      have js := (g2.2.1 (tx_num s)).mp ms
      have jv := (g2.2.2 (tx_num v)).mp mv
      have cs := jn_cut hs js
      have cv := jn_cut hv jv
      have les := cut_le (sts ps (ps k).2.1).1 (sts ps (ps k).2.2.1).1 s
      have lev := cut_le (sts ps (ps k).2.2.1).2 (sts ps (ps k).2.1).2 v
      have hsh2 := hsh
      rw [sh_6 hpK g2.1, List.length_append] at hsh2
      have h1 : (sem_sh (pgo ps) (ps k).2.1 (s.take (cut (sts ps (ps k).2.1).1 (sts ps (ps k).2.2.1).1 s))).length ≤ 6 := Nat.le_trans (Nat.le_add_left _ _) hsh2
      have h2 : (sem_sh (pgo ps) (ps k).2.2.1 (s.drop (cut (sts ps (ps k).2.1).1 (sts ps (ps k).2.2.1).1 s))).length ≤ 6 := Nat.le_trans (Nat.le_add_right _ _) hsh2
      refine ab_Z_mono (c82_6 (D + 4) hP (hcl (by omega)).1 (hcl (by omega)).2 (hmk.2.2 (by omega)).1 (hmk.2.2 (by omega)).2 hk0 (agS _ (Nat.lt_trans (hl (by omega)).1 hk)) (agS _ (Nat.lt_trans (hl (by omega)).2 hk)) (agV _ (Nat.lt_trans (hl (by omega)).2 hk)) (agV _ (Nat.lt_trans (hl (by omega)).1 hk)) hs s6 hv v6 ((jn_num hs).mp js).2 ((jn_num hv).mp jv).2 (by omega) (n := n) (k := k) (u1 := sem_pu (pgo ps) (ps k).2.1 (s.take (cut (sts ps (ps k).2.1).1 (sts ps (ps k).2.2.1).1 s)) (v.drop (cut (sts ps (ps k).2.2.1).2 (sts ps (ps k).2.1).2 v))) (u2 := sem_pu (pgo ps) (ps k).2.2.1 (s.drop (cut (sts ps (ps k).2.1).1 (sts ps (ps k).2.2.1).1 s)) (v.take (cut (sts ps (ps k).2.2.1).2 (sts ps (ps k).2.1).2 v))) (pu_L hg _ (Nat.lt_trans (hl (by omega)).1 hk) _ _ (tx_L_take hs _) (tx_L_drop hv _)) (pu_L hg _ (Nat.lt_trans (hl (by omega)).2 hk) _ _ (tx_L_drop hs _) (tx_L_take hv _)) (ab_Z_mono (ihj _ (hl (by omega)).1 M hc _ _ (tx_L_take hs _) (tx_L_drop hv _) (by rw [List.length_take]; omega) (by rw [List.length_drop]; omega) cs.1 cv.2 h1 _ (by omega)) (fun w M' e => ⟨e.1, Fu_mono (Nat.le_of_lt (hl (by omega)).1) e.2⟩)) (fun M1 hF1 => ab_Z_mono (ihj _ (hl (by omega)).2 M1 (cls_Fu hc hk hF1) _ _ (tx_L_drop hs _) (tx_L_take hv _) (by rw [List.length_drop]; omega) (by rw [List.length_take]; omega) cs.2 cv.1 h2 _ (by omega)) (fun w M' e => ⟨e.1, Fu_mono (Nat.le_of_lt (hl (by omega)).2) e.2⟩))) ?_
      rintro w M' ⟨e1, e2⟩
      refine ⟨_, e1, ?_⟩
      have hpu2 := pu_6 hpK g2.1 s v
      exact ⟨(congrArg nz hpu2).symm, (nolow (by omega) M' e2).2⟩
    | 7, _, hK, hpK, hk0, g2 =>
      refine m76_7 (D + 7) hP hk0 (by omega) ?_
      refine ab_Z_mono (c83_7 hc hk (by omega) hK rfl rfl hdk D (by omega) hs s6 hv v6 ms mv hsh (fun M' hM' s' v' a1 a2 a3 a4 a5 a6 a7 => ihj _ (hl (by omega)).1 M' hM' s' v' a1 a2 a3 a4 a5 a6 a7 _ (by omega))) ?_
      rintro w M' ⟨e1, e2, e3, e4⟩
      exact ⟨_, e1, rfl, e2, fun _ => ⟨e3, by rw [hK]; exact e4⟩⟩
    | 8, _, hK, hpK, hk0, g2 =>
      refine m76_8 (D + 7) hP hk0 (by omega) ?_
      refine ab_Z_mono (c83_8 hc hk (by omega) hK rfl rfl hdk D (by omega) hs s6 hv v6 ms mv hsh (fun M' hM' s' v' a1 a2 a3 a4 a5 a6 a7 => ihj _ (hl (by omega)).1 M' hM' s' v' a1 a2 a3 a4 a5 a6 a7 _ (by omega))) ?_
      rintro w M' ⟨e1, e2, e3, e4⟩
      exact ⟨_, e1, rfl, e2, fun _ => ⟨e3, by rw [hK]; exact e4⟩⟩
    | n + 9, h9, _, _, _, _ => exact absurd h9 (by omega)
end C17
