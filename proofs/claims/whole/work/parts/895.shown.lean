/-! OURS, printed by wip/tools/gen895.py: shown, created, keyOf. -/
/-- a program in memory, settled -/
def cls (n : Nat) (M : mm) (ps : Nat → prt) (c : Nat) : Prop := isG n ∧ c ≤ 31 ∧ mPs n M ps c ∧ okS n M ps c ∧ ∀ k, k < c → wfp ps k
theorem cls_gds {n : Nat} {M : mm} {ps : Nat → prt} {c : Nat} (h : cls n M ps c) : gds (pgo ps) c := fun k hk => gd_of (h.2.2.2.2 k hk) (h.2.2.2.1 k hk).1
section C12
variable {L : Nat} {xs : Nat → Int32} {M : mm} {es : ab_H}
theorem m65_0 (D : Nat) {p : Nat} (h : isP p) (hk : M.1 p 0 = 0) {T x : Int} (hT : M.1 p 2 = T) (hT3 : 0 ≤ T ∧ T ≤ 3) {deep : Nat} (hd : deep ≤ 40) : ab_S (pg_G L xs) (D + 1) 65 [.ref p, zi x, zi (deep : Nat)] (hp M ++ es) (some (zi (x))) (hp M ++ es) := by
  show ab_W (pg_G L xs) (ab_X (pg_G L xs) D) 65 _ 0 [some (.ref p), some (zi x), some (zi ((deep : Nat) : Int))] [] (hp M ++ es)
  refine x_ld 2 1 0 1 rfl rfl rfl rfl rfl ?_
  refine x_cst (zi 40) 2 3 rfl rfl rfl ?_
  refine z_icle 8 6 rfl rfl rfl ⟨by omega, by omega⟩ (rg_lit 40 rfl) (fun _ => ?_) (fun c => absurd c (by omega))
  refine x_ld 0 1 2 9 rfl rfl rfl rfl rfl ?_
  refine g_P_0 h 9 12 rfl rfl hk rfl ?_
  refine x_tin 56 rfl (by decide) (by decide) rfl rfl ?_
  refine x_ld 1 1 0 57 rfl rfl rfl rfl rfl ?_
  refine x_ret rfl rfl rfl rfl ?_
  exact ⟨rfl, rfl⟩
theorem m65_1 (D : Nat) {p : Nat} (h : isP p) (hk : M.1 p 0 = 1) {T x : Int} (hT : M.1 p 2 = T) (hT3 : 0 ≤ T ∧ T ≤ 3) {deep : Nat} (hd : deep ≤ 40) : ab_S (pg_G L xs) (D + 1) 65 [.ref p, zi x, zi (deep : Nat)] (hp M ++ es) (some (zi (0))) (hp M ++ es) := by
  show ab_W (pg_G L xs) (ab_X (pg_G L xs) D) 65 _ 0 [some (.ref p), some (zi x), some (zi ((deep : Nat) : Int))] [] (hp M ++ es)
  refine x_ld 2 1 0 1 rfl rfl rfl rfl rfl ?_
  refine x_cst (zi 40) 2 3 rfl rfl rfl ?_
  refine z_icle 8 6 rfl rfl rfl ⟨by omega, by omega⟩ (rg_lit 40 rfl) (fun _ => ?_) (fun c => absurd c (by omega))
  refine x_ld 0 1 2 9 rfl rfl rfl rfl rfl ?_
  refine g_P_0 h 9 12 rfl rfl hk rfl ?_
  refine x_tin 58 rfl (by decide) (by decide) rfl rfl ?_
  refine x_cst (zi 0) 1 59 rfl rfl rfl ?_
  refine x_ret rfl rfl rfl rfl ?_
  exact ⟨rfl, rfl⟩
theorem m65_2 (D : Nat) {p : Nat} (h : isP p) (hk : M.1 p 0 = 2) {T x : Int} (hT : M.1 p 2 = T) (hT3 : 0 ≤ T ∧ T ≤ 3) {deep : Nat} (hd : deep ≤ 40) : ab_S (pg_G L xs) (D + 1) 65 [.ref p, zi x, zi (deep : Nat)] (hp M ++ es) (some (zi (T))) (hp M ++ es) := by
  show ab_W (pg_G L xs) (ab_X (pg_G L xs) D) 65 _ 0 [some (.ref p), some (zi x), some (zi ((deep : Nat) : Int))] [] (hp M ++ es)
  refine x_ld 2 1 0 1 rfl rfl rfl rfl rfl ?_
  refine x_cst (zi 40) 2 3 rfl rfl rfl ?_
  refine z_icle 8 6 rfl rfl rfl ⟨by omega, by omega⟩ (rg_lit 40 rfl) (fun _ => ?_) (fun c => absurd c (by omega))
  refine x_ld 0 1 2 9 rfl rfl rfl rfl rfl ?_
  refine g_P_0 h 9 12 rfl rfl hk rfl ?_
  refine x_tin 60 rfl (by decide) (by decide) rfl rfl ?_
  refine x_ld 0 1 2 61 rfl rfl rfl rfl rfl ?_
  refine g_P_2 h 18 64 rfl rfl hT rfl ?_
  refine x_ret rfl rfl rfl rfl ?_
  exact ⟨rfl, rfl⟩
theorem m65_3 (D : Nat) {p q : Nat} (h : isP p) (hq : isP q) (eq : M.2.2 p 3 = q) (hk : M.1 p 0 = 3) {x v : Int} {deep : Nat} (hd : deep ≤ 40) (c1 : ab_S (pg_G L xs) D 65 [.ref q, zi x, zi ((deep : Int) + 1)] (hp M ++ es) (some (zi v)) (hp M ++ es)) : ab_S (pg_G L xs) (D + 1) 65 [.ref p, zi x, zi (deep : Nat)] (hp M ++ es) (some (zi v)) (hp M ++ es) := by
  show ab_W (pg_G L xs) (ab_X (pg_G L xs) D) 65 _ 0 [some (.ref p), some (zi x), some (zi ((deep : Nat) : Int))] [] (hp M ++ es)
  refine x_ld 2 1 0 1 rfl rfl rfl rfl rfl ?_
  refine x_cst (zi 40) 2 3 rfl rfl rfl ?_
  refine z_icle 8 6 rfl rfl rfl ⟨by omega, by omega⟩ (rg_lit 40 rfl) (fun _ => ?_) (fun c => absurd c (by omega))
  refine x_ld 0 1 2 9 rfl rfl rfl rfl rfl ?_
  refine g_P_0 h 9 12 rfl rfl hk rfl ?_
  refine x_tin 65 rfl (by decide) (by decide) rfl rfl ?_
  refine x_ld 0 1 2 66 rfl rfl rfl rfl rfl ?_
  refine g_P_3 h 53 69 rfl rfl eq rfl ?_
  refine x_ld 1 1 0 70 rfl rfl rfl rfl rfl ?_
  refine x_ld 2 1 0 71 rfl rfl rfl rfl rfl ?_
  refine x_cst (zi 1) 1 72 rfl rfl rfl ?_
  refine z_add 73 rfl rfl ?_
  refine x_cv 119 65 76 [.ref q, zi x, zi (((deep : Nat) : Int) + 1)] rfl rfl rfl (Nat.le_of_ble_eq_true rfl) rfl rfl (Nat.le_of_ble_eq_true rfl) ⟨_, _, _, rfl, oP hq⟩ (Nat.le_of_ble_eq_true rfl) c1 rfl ?_
  refine x_ret rfl rfl rfl rfl ?_
  exact ⟨rfl, rfl⟩
theorem m65_4 (D : Nat) {p q : Nat} (h : isP p) (hq : isP q) (hk : M.1 p 0 = 4) {x v : Int} {deep : Nat} (hd : deep ≤ 40) (c0 : ab_S (pg_G L xs) D 66 [.ref p, zi x] (hp M ++ es) (some (.ref q)) (hp M ++ es)) (c1 : ab_S (pg_G L xs) D 65 [.ref q, zi x, zi ((deep : Int) + 1)] (hp M ++ es) (some (zi v)) (hp M ++ es)) : ab_S (pg_G L xs) (D + 1) 65 [.ref p, zi x, zi (deep : Nat)] (hp M ++ es) (some (zi v)) (hp M ++ es) := by
  show ab_W (pg_G L xs) (ab_X (pg_G L xs) D) 65 _ 0 [some (.ref p), some (zi x), some (zi ((deep : Nat) : Int))] [] (hp M ++ es)
  refine x_ld 2 1 0 1 rfl rfl rfl rfl rfl ?_
  refine x_cst (zi 40) 2 3 rfl rfl rfl ?_
  refine z_icle 8 6 rfl rfl rfl ⟨by omega, by omega⟩ (rg_lit 40 rfl) (fun _ => ?_) (fun c => absurd c (by omega))
  refine x_ld 0 1 2 9 rfl rfl rfl rfl rfl ?_
  refine g_P_0 h 9 12 rfl rfl hk rfl ?_
  refine x_tin 77 rfl (by decide) (by decide) rfl rfl ?_
  refine x_ld 0 1 2 78 rfl rfl rfl rfl rfl ?_
  refine x_ld 1 1 0 79 rfl rfl rfl rfl rfl ?_
  refine x_cv 123 66 82 [.ref p, zi x] rfl rfl rfl (Nat.le_of_ble_eq_true rfl) rfl rfl (Nat.le_of_ble_eq_true rfl) ⟨_, _, _, rfl, oP h⟩ (Nat.le_of_ble_eq_true rfl) c0 rfl ?_
  refine x_ld 1 1 0 83 rfl rfl rfl rfl rfl ?_
  refine x_ld 2 1 0 84 rfl rfl rfl rfl rfl ?_
  refine x_cst (zi 1) 1 85 rfl rfl rfl ?_
  refine z_add 86 rfl rfl ?_
  refine x_cv 119 65 89 [.ref q, zi x, zi (((deep : Nat) : Int) + 1)] rfl rfl rfl (Nat.le_of_ble_eq_true rfl) rfl rfl (Nat.le_of_ble_eq_true rfl) ⟨_, _, _, rfl, oP hq⟩ (Nat.le_of_ble_eq_true rfl) c1 rfl ?_
  refine x_ret rfl rfl rfl rfl ?_
  exact ⟨rfl, rfl⟩
theorem m65_5 (D : Nat) {p : Nat} (h : isP p) (hk : M.1 p 0 = 5) {x v : Int} {deep : Nat} (hd : deep ≤ 40) (c1 : ab_S (pg_G L xs) D 67 [.ref p, zi x, zi (deep : Nat)] (hp M ++ es) (some (zi v)) (hp M ++ es)) : ab_S (pg_G L xs) (D + 1) 65 [.ref p, zi x, zi (deep : Nat)] (hp M ++ es) (some (zi v)) (hp M ++ es) := by
  show ab_W (pg_G L xs) (ab_X (pg_G L xs) D) 65 _ 0 [some (.ref p), some (zi x), some (zi ((deep : Nat) : Int))] [] (hp M ++ es)
  refine x_ld 2 1 0 1 rfl rfl rfl rfl rfl ?_
  refine x_cst (zi 40) 2 3 rfl rfl rfl ?_
  refine z_icle 8 6 rfl rfl rfl ⟨by omega, by omega⟩ (rg_lit 40 rfl) (fun _ => ?_) (fun c => absurd c (by omega))
  refine x_ld 0 1 2 9 rfl rfl rfl rfl rfl ?_
  refine g_P_0 h 9 12 rfl rfl hk rfl ?_
  refine x_tin 90 rfl (by decide) (by decide) rfl rfl ?_
  refine x_ld 0 1 2 91 rfl rfl rfl rfl rfl ?_
  refine x_ld 1 1 0 92 rfl rfl rfl rfl rfl ?_
  refine x_ld 2 1 0 93 rfl rfl rfl rfl rfl ?_
  refine x_cv 127 67 96 [.ref p, zi x, zi ((deep : Nat) : Int)] rfl rfl rfl (Nat.le_of_ble_eq_true rfl) rfl rfl (Nat.le_of_ble_eq_true rfl) ⟨_, _, _, rfl, oP h⟩ (Nat.le_of_ble_eq_true rfl) c1 rfl ?_
  refine x_ret rfl rfl rfl rfl ?_
  exact ⟨rfl, rfl⟩
theorem m65_6 (D : Nat) {p : Nat} (h : isP p) (hk : M.1 p 0 = 6) {x v : Int} {deep : Nat} (hd : deep ≤ 40) (c1 : ab_S (pg_G L xs) D 67 [.ref p, zi x, zi (deep : Nat)] (hp M ++ es) (some (zi v)) (hp M ++ es)) : ab_S (pg_G L xs) (D + 1) 65 [.ref p, zi x, zi (deep : Nat)] (hp M ++ es) (some (zi v)) (hp M ++ es) := by
  show ab_W (pg_G L xs) (ab_X (pg_G L xs) D) 65 _ 0 [some (.ref p), some (zi x), some (zi ((deep : Nat) : Int))] [] (hp M ++ es)
  refine x_ld 2 1 0 1 rfl rfl rfl rfl rfl ?_
  refine x_cst (zi 40) 2 3 rfl rfl rfl ?_
  refine z_icle 8 6 rfl rfl rfl ⟨by omega, by omega⟩ (rg_lit 40 rfl) (fun _ => ?_) (fun c => absurd c (by omega))
  refine x_ld 0 1 2 9 rfl rfl rfl rfl rfl ?_
  refine g_P_0 h 9 12 rfl rfl hk rfl ?_
  refine x_tin 90 rfl (by decide) (by decide) rfl rfl ?_
  refine x_ld 0 1 2 91 rfl rfl rfl rfl rfl ?_
  refine x_ld 1 1 0 92 rfl rfl rfl rfl rfl ?_
  refine x_ld 2 1 0 93 rfl rfl rfl rfl rfl ?_
  refine x_cv 127 67 96 [.ref p, zi x, zi ((deep : Nat) : Int)] rfl rfl rfl (Nat.le_of_ble_eq_true rfl) rfl rfl (Nat.le_of_ble_eq_true rfl) ⟨_, _, _, rfl, oP h⟩ (Nat.le_of_ble_eq_true rfl) c1 rfl ?_
  refine x_ret rfl rfl rfl rfl ?_
  exact ⟨rfl, rfl⟩
theorem m65_7 (D : Nat) {p : Nat} (h : isP p) (hk : M.1 p 0 = 7) {x v : Int} {deep : Nat} (hd : deep ≤ 40) (c1 : ab_S (pg_G L xs) D 71 [.ref p, zi x, zi (deep : Nat)] (hp M ++ es) (some (zi v)) (hp M ++ es)) : ab_S (pg_G L xs) (D + 1) 65 [.ref p, zi x, zi (deep : Nat)] (hp M ++ es) (some (zi v)) (hp M ++ es) := by
  show ab_W (pg_G L xs) (ab_X (pg_G L xs) D) 65 _ 0 [some (.ref p), some (zi x), some (zi ((deep : Nat) : Int))] [] (hp M ++ es)
  refine x_ld 2 1 0 1 rfl rfl rfl rfl rfl ?_
  refine x_cst (zi 40) 2 3 rfl rfl rfl ?_
  refine z_icle 8 6 rfl rfl rfl ⟨by omega, by omega⟩ (rg_lit 40 rfl) (fun _ => ?_) (fun c => absurd c (by omega))
  refine x_ld 0 1 2 9 rfl rfl rfl rfl rfl ?_
  refine g_P_0 h 9 12 rfl rfl hk rfl ?_
  refine x_tou 97 rfl (.inr (by decide)) rfl ?_
  refine x_ld 0 1 2 98 rfl rfl rfl rfl rfl ?_
  refine x_ld 1 1 0 99 rfl rfl rfl rfl rfl ?_
  refine x_ld 2 1 0 100 rfl rfl rfl rfl rfl ?_
  refine x_cv 130 71 103 [.ref p, zi x, zi ((deep : Nat) : Int)] rfl rfl rfl (Nat.le_of_ble_eq_true rfl) rfl rfl (Nat.le_of_ble_eq_true rfl) ⟨_, _, _, rfl, oP h⟩ (Nat.le_of_ble_eq_true rfl) c1 rfl ?_
  refine x_ret rfl rfl rfl rfl ?_
  exact ⟨rfl, rfl⟩
theorem m65_8 (D : Nat) {p : Nat} (h : isP p) (hk : M.1 p 0 = 8) {x v : Int} {deep : Nat} (hd : deep ≤ 40) (c1 : ab_S (pg_G L xs) D 71 [.ref p, zi x, zi (deep : Nat)] (hp M ++ es) (some (zi v)) (hp M ++ es)) : ab_S (pg_G L xs) (D + 1) 65 [.ref p, zi x, zi (deep : Nat)] (hp M ++ es) (some (zi v)) (hp M ++ es) := by
  show ab_W (pg_G L xs) (ab_X (pg_G L xs) D) 65 _ 0 [some (.ref p), some (zi x), some (zi ((deep : Nat) : Int))] [] (hp M ++ es)
  refine x_ld 2 1 0 1 rfl rfl rfl rfl rfl ?_
  refine x_cst (zi 40) 2 3 rfl rfl rfl ?_
  refine z_icle 8 6 rfl rfl rfl ⟨by omega, by omega⟩ (rg_lit 40 rfl) (fun _ => ?_) (fun c => absurd c (by omega))
  refine x_ld 0 1 2 9 rfl rfl rfl rfl rfl ?_
  refine g_P_0 h 9 12 rfl rfl hk rfl ?_
  refine x_tou 97 rfl (.inr (by decide)) rfl ?_
  refine x_ld 0 1 2 98 rfl rfl rfl rfl rfl ?_
  refine x_ld 1 1 0 99 rfl rfl rfl rfl rfl ?_
  refine x_ld 2 1 0 100 rfl rfl rfl rfl rfl ?_
  refine x_cv 130 71 103 [.ref p, zi x, zi ((deep : Nat) : Int)] rfl rfl rfl (Nat.le_of_ble_eq_true rfl) rfl rfl (Nat.le_of_ble_eq_true rfl) ⟨_, _, _, rfl, oP h⟩ (Nat.le_of_ble_eq_true rfl) c1 rfl ?_
  refine x_ret rfl rfl rfl rfl ?_
  exact ⟨rfl, rfl⟩
theorem c65 {n : Nat} {ps : Nat → prt} {c : Nat} (hc : cls n M ps c) : ∀ k, k < c → ∀ D, 2 * k + 5 ≤ D → ∀ (deep : Nat) (w : List Nat), deep + k ≤ 40 → tx_L w → w.length ≤ 6 → (sts ps k).1 (tx_num w) = true → ab_S (pg_G L xs) D 65 [.ref (n + 3 + 9 * k), zi (tx_num w : Nat), zi (deep : Nat)] (hp M ++ es) (some (zi (nz (sem_sh (pgo ps) k w)))) (hp M ++ es) := by
  have hg := cls_gds hc
  have hL := sh_L hg
  obtain ⟨hG, hc31, hm, hS, hwf⟩ := hc
  intro k
  induction k using Nat.strongRecOn with
  | _ k ih =>
    intro hk D hD deep w hdk hw h6 hx
    obtain ⟨D, rfl⟩ : ∃ d, D = d + 5 := ⟨D - 5, by omega⟩
    have g := hg k hk
    have hwk := hwf k hk
    have hmk := hm k hk
    have hP := isP_A hG (show k < 31 by omega)
    have gT := g.1
    have hl := hwk.2.2.2
    have g2 := g.2
    have hcl : 3 ≤ (ps k).1 → isP (n + 3 + 9 * (ps k).2.1) ∧ isP (n + 3 + 9 * (ps k).2.2.1) := fun e => ⟨isP_A hG (by have := hl e; omega), isP_A hG (by have := hl e; omega)⟩
    have agS : ∀ j, j < c → ag (sN (M.2.1 (n + 3 + 9 * j + 2))) (sts ps j).1 := fun j hj => (hS j hj).2.1
    have ihl : 3 ≤ (ps k).1 → ∀ u, tx_L u → u.length ≤ 6 → (sts ps (ps k).2.1).1 (tx_num u) = true → ∀ D', 2 * k + 3 ≤ D' → ab_S (pg_G L xs) D' 65 [.ref (n + 3 + 9 * (ps k).2.1), zi (tx_num u : Nat), zi ((deep : Int) + 1)] (hp M ++ es) (some (zi (nz (sem_sh (pgo ps) (ps k).2.1 u)))) (hp M ++ es) := fun e u h1 h2 h3 D' hD' => ih _ (hl e).1 (Nat.lt_trans (hl e).1 hk) D' (by have := (hl e).1; omega) (deep + 1) u (by have := (hl e).1; omega) h1 h2 h3
    have ihr : 3 ≤ (ps k).1 → ∀ u, tx_L u → u.length ≤ 6 → (sts ps (ps k).2.2.1).1 (tx_num u) = true → ∀ D', 2 * k + 3 ≤ D' → ab_S (pg_G L xs) D' 65 [.ref (n + 3 + 9 * (ps k).2.2.1), zi (tx_num u : Nat), zi ((deep : Int) + 1)] (hp M ++ es) (some (zi (nz (sem_sh (pgo ps) (ps k).2.2.1 u)))) (hp M ++ es) := fun e u h1 h2 h3 D' hD' => ih _ (hl e).2 (Nat.lt_trans (hl e).2 hk) D' (by have := (hl e).2; omega) (deep + 1) u (by have := (hl e).2; omega) h1 h2 h3
    rw [show pK (pgo ps) k = (ps k).1 from rfl] at g2
    have hK8 := hwk.1
    generalize hK : (ps k).1 = K at *
    have hpK : pK (pgo ps) k = K := hK
    match K, hK8 with
    | 0, _ =>
      have hT := hmk.2.1 (by decide)
      have q := m65_0 (L := L) (xs := xs) (es := es) (M := M) (D + 4) hP hmk.1 (x := ((tx_num w : Nat) : Int)) hT ⟨by omega, by have := hwk.2.1; omega⟩ (deep := deep) (by omega)
      rw [sh_0 hpK]
      rw [nz_le h6]; exact q
    | 1, _ =>
      have hT := hmk.2.1 (by decide)
      have q := m65_1 (L := L) (xs := xs) (es := es) (M := M) (D + 4) hP hmk.1 (x := ((tx_num w : Nat) : Int)) hT ⟨by omega, by have := hwk.2.1; omega⟩ (deep := deep) (by omega)
      rw [sh_1 hpK]
      rw [nz_le (show ([] : List Nat).length ≤ 6 from by decide), tx_num_nil]; exact q
    | 2, _ =>
      have hT := hmk.2.1 (by decide)
      have q := m65_2 (L := L) (xs := xs) (es := es) (M := M) (D + 4) hP hmk.1 (x := ((tx_num w : Nat) : Int)) hT ⟨by omega, by have := hwk.2.1; omega⟩ (deep := deep) (by omega)
      rw [sh_2 hpK]
      rw [nz_le (show [pT (pgo ps) k - 1].length ≤ 6 from Nat.le_of_ble_eq_true rfl), tx_num_one, show pT (pgo ps) k - 1 + 1 = (ps k).2.2.2 from Nat.sub_add_cancel (hwk.2.2.1 hK)]; exact q
    | 3, _ =>
      rw [sh_3 hpK g2.1]
      exact m65_3 (D + 4) hP (hcl (by decide)).1 (hmk.2.2 (by decide)).1 hmk.1 (by omega) (ihl (by decide) w hw h6 ((g2.2.1 _).symm.trans hx) _ (by omega))
    | 4, _ =>
      have q0 := c66 (L := L) (xs := xs) (es := es) (M := M) (D + 2) hP (hcl (by decide)).1 (hcl (by decide)).2 (hmk.2.2 (by decide)).1 (hmk.2.2 (by decide)).2 hw h6
      have hlt := num_lt hw h6
      have hag := agS (ps k).2.1 (Nat.lt_trans (hl (by decide)).1 hk) (tx_num w) (by omega)
      rw [show M.2.1 (n + 3 + 9 * (ps k).2.1 + 2) ((tx_num w : Nat) : Int) = (sts ps (ps k).2.1).1 (tx_num w) from hag] at q0
      rw [sh_4 hpK g2.1]
      have hor := (g2.2.1 (tx_num w)).symm.trans hx
      show ab_S _ _ _ _ _ (some (zi (nz (bif (sts ps (ps k).2.1).1 (tx_num w) then sem_sh (pgo ps) (ps k).2.1 w else sem_sh (pgo ps) (ps k).2.2.1 w)))) _
      cases hb : (sts ps (ps k).2.1).1 (tx_num w) with
      | true =>
        rw [hb, cond_true] at q0; rw [cond_true]
        exact m65_4 (D + 4) hP (hcl (by decide)).1 hmk.1 (by omega) q0 (ihl (by decide) w hw h6 hb _ (by omega))
      | false =>
        rw [hb, cond_false] at q0; rw [cond_false]
        have hor2 : ((sts ps (ps k).2.1).1 (tx_num w) || (sts ps (ps k).2.2.1).1 (tx_num w)) = true := hor
        rw [hb, Bool.false_or] at hor2
        exact m65_4 (D + 4) hP (hcl (by decide)).2 hmk.1 (by omega) q0 (ihr (by decide) w hw h6 hor2 _ (by omega))
    | 5, _ =>
      have hjn := (g2.2.1 (tx_num w)).mp hx
      have hcu := jn_cut hw hjn
      have hle := cut_le (sts ps (ps k).2.1).1 (sts ps (ps k).2.2.1).1 w
      rw [sh_5 hpK g2.1]
      refine m65_5 (D + 4) hP hmk.1 (by omega) ?_
      exact c67_5 D hP (hcl (by decide)).1 (hcl (by decide)).2 (hmk.2.2 (by decide)).1 (hmk.2.2 (by decide)).2 hmk.1 (agS _ (Nat.lt_trans (hl (by decide)).1 hk)) (agS _ (Nat.lt_trans (hl (by decide)).2 hk)) hw h6 ((jn_num hw).mp hjn).2 (by omega) (hL _ (Nat.lt_trans (hl (by decide)).1 hk) _ (tx_L_take hw _)) (hL _ (Nat.lt_trans (hl (by decide)).2 hk) _ (tx_L_drop hw _)) (ihl (by decide) _ (tx_L_take hw _) (by rw [List.length_take]; omega) hcu.1 _ (by omega)) (ihr (by decide) _ (tx_L_drop hw _) (by rw [List.length_drop]; omega) hcu.2 _ (by omega))
    | 6, _ =>
      have hjn := (g2.2.1 (tx_num w)).mp hx
      have hcu := jn_cut hw hjn
      have hle := cut_le (sts ps (ps k).2.1).1 (sts ps (ps k).2.2.1).1 w
      rw [sh_6 hpK g2.1]
      refine m65_6 (D + 4) hP hmk.1 (by omega) ?_
      exact c67_6 D hP (hcl (by decide)).1 (hcl (by decide)).2 (hmk.2.2 (by decide)).1 (hmk.2.2 (by decide)).2 hmk.1 (agS _ (Nat.lt_trans (hl (by decide)).1 hk)) (agS _ (Nat.lt_trans (hl (by decide)).2 hk)) hw h6 ((jn_num hw).mp hjn).2 (by omega) (hL _ (Nat.lt_trans (hl (by decide)).1 hk) _ (tx_L_take hw _)) (hL _ (Nat.lt_trans (hl (by decide)).2 hk) _ (tx_L_drop hw _)) (ihl (by decide) _ (tx_L_take hw _) (by rw [List.length_take]; omega) hcu.1 _ (by omega)) (ihr (by decide) _ (tx_L_drop hw _) (by rw [List.length_drop]; omega) hcu.2 _ (by omega))
    | 7, _ =>
      rw [sh_7 hpK g2.2.1]
      refine m65_7 (D + 4) hP hmk.1 (by omega) ?_
      refine c71 D hP (hcl (by decide)).1 (hmk.2.2 (by decide)).1 (agS _ (Nat.lt_trans (hl (by decide)).1 hk)) (agS k hk) g2.2.2.2.2.1 g2.2.2.1 (by omega) hw h6 hx (fun u hu => ?_)
      have hmu := rps_mem g2.2.2.2.2.1 hw hx u hu
      exact ⟨hL _ (Nat.lt_trans (hl (by decide)).1 hk) _ hmu.2.1, ihl (by decide) u hmu.2.1 (by have := hmu.2.2.2; omega) hmu.1 _ (by omega)⟩
    | 8, _ =>
      rw [sh_8 hpK g2.2.1]
      refine m65_8 (D + 4) hP hmk.1 (by omega) ?_
      refine c71 D hP (hcl (by decide)).1 (hmk.2.2 (by decide)).1 (agS _ (Nat.lt_trans (hl (by decide)).1 hk)) (agS k hk) g2.2.2.2.2.1 g2.2.2.1 (by omega) hw h6 hx (fun u hu => ?_)
      have hmu := rps_mem g2.2.2.2.2.1 hw hx u hu
      exact ⟨hL _ (Nat.lt_trans (hl (by decide)).1 hk) _ hmu.2.1, ihl (by decide) u hmu.2.1 (by have := hmu.2.2.2; omega) hmu.1 _ (by omega)⟩
    | n + 9, h9 => exact absurd h9 (by omega)
theorem m78_0 (D : Nat) {p : Nat} (h : isP p) (hk : M.1 p 0 = 0) {T x : Int} (hT : M.1 p 2 = T) (hT3 : 0 ≤ T ∧ T ≤ 3) {deep : Nat} (hd : deep ≤ 40) : ab_S (pg_G L xs) (D + 1) 78 [.ref p, zi x, zi (deep : Nat)] (hp M ++ es) (some (zi (x))) (hp M ++ es) := by
  show ab_W (pg_G L xs) (ab_X (pg_G L xs) D) 78 _ 0 [some (.ref p), some (zi x), some (zi ((deep : Nat) : Int))] [] (hp M ++ es)
  refine x_ld 2 1 0 1 rfl rfl rfl rfl rfl ?_
  refine x_cst (zi 40) 2 3 rfl rfl rfl ?_
  refine z_icle 8 6 rfl rfl rfl ⟨by omega, by omega⟩ (rg_lit 40 rfl) (fun _ => ?_) (fun c => absurd c (by omega))
  refine x_ld 0 1 2 9 rfl rfl rfl rfl rfl ?_
  refine g_P_0 h 9 12 rfl rfl hk rfl ?_
  refine x_tin 56 rfl (by decide) (by decide) rfl rfl ?_
  refine x_ld 1 1 0 57 rfl rfl rfl rfl rfl ?_
  refine x_ret rfl rfl rfl rfl ?_
  exact ⟨rfl, rfl⟩
theorem m78_1 (D : Nat) {p : Nat} (h : isP p) (hk : M.1 p 0 = 1) {T x : Int} (hT : M.1 p 2 = T) (hT3 : 0 ≤ T ∧ T ≤ 3) {deep : Nat} (hd : deep ≤ 40) : ab_S (pg_G L xs) (D + 1) 78 [.ref p, zi x, zi (deep : Nat)] (hp M ++ es) (some (zi (if T = 0 then 1 else T))) (hp M ++ es) := by
  show ab_W (pg_G L xs) (ab_X (pg_G L xs) D) 78 _ 0 [some (.ref p), some (zi x), some (zi ((deep : Nat) : Int))] [] (hp M ++ es)
  refine x_ld 2 1 0 1 rfl rfl rfl rfl rfl ?_
  refine x_cst (zi 40) 2 3 rfl rfl rfl ?_
  refine z_icle 8 6 rfl rfl rfl ⟨by omega, by omega⟩ (rg_lit 40 rfl) (fun _ => ?_) (fun c => absurd c (by omega))
  refine x_ld 0 1 2 9 rfl rfl rfl rfl rfl ?_
  refine g_P_0 h 9 12 rfl rfl hk rfl ?_
  refine x_tin 58 rfl (by decide) (by decide) rfl rfl ?_
  refine x_ld 0 1 2 59 rfl rfl rfl rfl rfl ?_
  refine g_P_2 h 18 62 rfl rfl hT rfl ?_
  refine z_ifne 69 65 rfl rfl rfl ⟨by omega, by omega⟩ (fun c62 => ?_) (fun c62 => ?_)
  · refine x_ld 0 1 2 70 rfl rfl rfl rfl rfl ?_
    refine g_P_2 h 18 73 rfl rfl hT rfl ?_
    refine x_ret rfl rfl rfl rfl ?_
    exact ⟨by rw [if_neg c62], rfl⟩
  · refine x_cst (zi 1) 1 66 rfl rfl rfl ?_
    refine x_go 73 rfl rfl ?_
    refine x_ret rfl rfl rfl rfl ?_
    exact ⟨by rw [if_pos c62], rfl⟩
theorem m78_2 (D : Nat) {p : Nat} (h : isP p) (hk : M.1 p 0 = 2) {T x : Int} (hT : M.1 p 2 = T) (hT3 : 0 ≤ T ∧ T ≤ 3) {deep : Nat} (hd : deep ≤ 40) : ab_S (pg_G L xs) (D + 1) 78 [.ref p, zi x, zi (deep : Nat)] (hp M ++ es) (some (zi (0))) (hp M ++ es) := by
  show ab_W (pg_G L xs) (ab_X (pg_G L xs) D) 78 _ 0 [some (.ref p), some (zi x), some (zi ((deep : Nat) : Int))] [] (hp M ++ es)
  refine x_ld 2 1 0 1 rfl rfl rfl rfl rfl ?_
  refine x_cst (zi 40) 2 3 rfl rfl rfl ?_
  refine z_icle 8 6 rfl rfl rfl ⟨by omega, by omega⟩ (rg_lit 40 rfl) (fun _ => ?_) (fun c => absurd c (by omega))
  refine x_ld 0 1 2 9 rfl rfl rfl rfl rfl ?_
  refine g_P_0 h 9 12 rfl rfl hk rfl ?_
  refine x_tin 74 rfl (by decide) (by decide) rfl rfl ?_
  refine x_cst (zi 0) 1 75 rfl rfl rfl ?_
  refine x_ret rfl rfl rfl rfl ?_
  exact ⟨rfl, rfl⟩
theorem m78_3 (D : Nat) {p q : Nat} (h : isP p) (hq : isP q) (eq : M.2.2 p 3 = q) (hk : M.1 p 0 = 3) {x v : Int} {deep : Nat} (hd : deep ≤ 40) (c1 : ab_S (pg_G L xs) D 78 [.ref q, zi x, zi ((deep : Int) + 1)] (hp M ++ es) (some (zi v)) (hp M ++ es)) : ab_S (pg_G L xs) (D + 1) 78 [.ref p, zi x, zi (deep : Nat)] (hp M ++ es) (some (zi v)) (hp M ++ es) := by
  show ab_W (pg_G L xs) (ab_X (pg_G L xs) D) 78 _ 0 [some (.ref p), some (zi x), some (zi ((deep : Nat) : Int))] [] (hp M ++ es)
  refine x_ld 2 1 0 1 rfl rfl rfl rfl rfl ?_
  refine x_cst (zi 40) 2 3 rfl rfl rfl ?_
  refine z_icle 8 6 rfl rfl rfl ⟨by omega, by omega⟩ (rg_lit 40 rfl) (fun _ => ?_) (fun c => absurd c (by omega))
  refine x_ld 0 1 2 9 rfl rfl rfl rfl rfl ?_
  refine g_P_0 h 9 12 rfl rfl hk rfl ?_
  refine x_tin 76 rfl (by decide) (by decide) rfl rfl ?_
  refine x_ld 0 1 2 77 rfl rfl rfl rfl rfl ?_
  refine g_P_3 h 53 80 rfl rfl eq rfl ?_
  refine x_ld 1 1 0 81 rfl rfl rfl rfl rfl ?_
  refine x_ld 2 1 0 82 rfl rfl rfl rfl rfl ?_
  refine x_cst (zi 1) 1 83 rfl rfl rfl ?_
  refine z_add 84 rfl rfl ?_
  refine x_cv 145 78 87 [.ref q, zi x, zi (((deep : Nat) : Int) + 1)] rfl rfl rfl (Nat.le_of_ble_eq_true rfl) rfl rfl (Nat.le_of_ble_eq_true rfl) ⟨_, _, _, rfl, oP hq⟩ (Nat.le_of_ble_eq_true rfl) c1 rfl ?_
  refine x_ret rfl rfl rfl rfl ?_
  exact ⟨rfl, rfl⟩
theorem m78_4 (D : Nat) {p q : Nat} (h : isP p) (hq : isP q) (hk : M.1 p 0 = 4) {x v : Int} {deep : Nat} (hd : deep ≤ 40) (c0 : ab_S (pg_G L xs) D 79 [.ref p, zi x] (hp M ++ es) (some (.ref q)) (hp M ++ es)) (c1 : ab_S (pg_G L xs) D 78 [.ref q, zi x, zi ((deep : Int) + 1)] (hp M ++ es) (some (zi v)) (hp M ++ es)) : ab_S (pg_G L xs) (D + 1) 78 [.ref p, zi x, zi (deep : Nat)] (hp M ++ es) (some (zi v)) (hp M ++ es) := by
  show ab_W (pg_G L xs) (ab_X (pg_G L xs) D) 78 _ 0 [some (.ref p), some (zi x), some (zi ((deep : Nat) : Int))] [] (hp M ++ es)
  refine x_ld 2 1 0 1 rfl rfl rfl rfl rfl ?_
  refine x_cst (zi 40) 2 3 rfl rfl rfl ?_
  refine z_icle 8 6 rfl rfl rfl ⟨by omega, by omega⟩ (rg_lit 40 rfl) (fun _ => ?_) (fun c => absurd c (by omega))
  refine x_ld 0 1 2 9 rfl rfl rfl rfl rfl ?_
  refine g_P_0 h 9 12 rfl rfl hk rfl ?_
  refine x_tin 88 rfl (by decide) (by decide) rfl rfl ?_
  refine x_ld 0 1 2 89 rfl rfl rfl rfl rfl ?_
  refine x_ld 1 1 0 90 rfl rfl rfl rfl rfl ?_
  refine x_cv 148 79 93 [.ref p, zi x] rfl rfl rfl (Nat.le_of_ble_eq_true rfl) rfl rfl (Nat.le_of_ble_eq_true rfl) ⟨_, _, _, rfl, oP h⟩ (Nat.le_of_ble_eq_true rfl) c0 rfl ?_
  refine x_ld 1 1 0 94 rfl rfl rfl rfl rfl ?_
  refine x_ld 2 1 0 95 rfl rfl rfl rfl rfl ?_
  refine x_cst (zi 1) 1 96 rfl rfl rfl ?_
  refine z_add 97 rfl rfl ?_
  refine x_cv 145 78 100 [.ref q, zi x, zi (((deep : Nat) : Int) + 1)] rfl rfl rfl (Nat.le_of_ble_eq_true rfl) rfl rfl (Nat.le_of_ble_eq_true rfl) ⟨_, _, _, rfl, oP hq⟩ (Nat.le_of_ble_eq_true rfl) c1 rfl ?_
  refine x_ret rfl rfl rfl rfl ?_
  exact ⟨rfl, rfl⟩
theorem m78_5 (D : Nat) {p : Nat} (h : isP p) (hk : M.1 p 0 = 5) {x v : Int} {deep : Nat} (hd : deep ≤ 40) (c1 : ab_S (pg_G L xs) D 80 [.ref p, zi x, zi (deep : Nat)] (hp M ++ es) (some (zi v)) (hp M ++ es)) : ab_S (pg_G L xs) (D + 1) 78 [.ref p, zi x, zi (deep : Nat)] (hp M ++ es) (some (zi v)) (hp M ++ es) := by
  show ab_W (pg_G L xs) (ab_X (pg_G L xs) D) 78 _ 0 [some (.ref p), some (zi x), some (zi ((deep : Nat) : Int))] [] (hp M ++ es)
  refine x_ld 2 1 0 1 rfl rfl rfl rfl rfl ?_
  refine x_cst (zi 40) 2 3 rfl rfl rfl ?_
  refine z_icle 8 6 rfl rfl rfl ⟨by omega, by omega⟩ (rg_lit 40 rfl) (fun _ => ?_) (fun c => absurd c (by omega))
  refine x_ld 0 1 2 9 rfl rfl rfl rfl rfl ?_
  refine g_P_0 h 9 12 rfl rfl hk rfl ?_
  refine x_tin 101 rfl (by decide) (by decide) rfl rfl ?_
  refine x_ld 0 1 2 102 rfl rfl rfl rfl rfl ?_
  refine x_ld 1 1 0 103 rfl rfl rfl rfl rfl ?_
  refine x_ld 2 1 0 104 rfl rfl rfl rfl rfl ?_
  refine x_cv 151 80 107 [.ref p, zi x, zi ((deep : Nat) : Int)] rfl rfl rfl (Nat.le_of_ble_eq_true rfl) rfl rfl (Nat.le_of_ble_eq_true rfl) ⟨_, _, _, rfl, oP h⟩ (Nat.le_of_ble_eq_true rfl) c1 rfl ?_
  refine x_ret rfl rfl rfl rfl ?_
  exact ⟨rfl, rfl⟩
theorem m78_6 (D : Nat) {p : Nat} (h : isP p) (hk : M.1 p 0 = 6) {x v : Int} {deep : Nat} (hd : deep ≤ 40) (c1 : ab_S (pg_G L xs) D 80 [.ref p, zi x, zi (deep : Nat)] (hp M ++ es) (some (zi v)) (hp M ++ es)) : ab_S (pg_G L xs) (D + 1) 78 [.ref p, zi x, zi (deep : Nat)] (hp M ++ es) (some (zi v)) (hp M ++ es) := by
  show ab_W (pg_G L xs) (ab_X (pg_G L xs) D) 78 _ 0 [some (.ref p), some (zi x), some (zi ((deep : Nat) : Int))] [] (hp M ++ es)
  refine x_ld 2 1 0 1 rfl rfl rfl rfl rfl ?_
  refine x_cst (zi 40) 2 3 rfl rfl rfl ?_
  refine z_icle 8 6 rfl rfl rfl ⟨by omega, by omega⟩ (rg_lit 40 rfl) (fun _ => ?_) (fun c => absurd c (by omega))
  refine x_ld 0 1 2 9 rfl rfl rfl rfl rfl ?_
  refine g_P_0 h 9 12 rfl rfl hk rfl ?_
  refine x_tin 101 rfl (by decide) (by decide) rfl rfl ?_
  refine x_ld 0 1 2 102 rfl rfl rfl rfl rfl ?_
  refine x_ld 1 1 0 103 rfl rfl rfl rfl rfl ?_
  refine x_ld 2 1 0 104 rfl rfl rfl rfl rfl ?_
  refine x_cv 151 80 107 [.ref p, zi x, zi ((deep : Nat) : Int)] rfl rfl rfl (Nat.le_of_ble_eq_true rfl) rfl rfl (Nat.le_of_ble_eq_true rfl) ⟨_, _, _, rfl, oP h⟩ (Nat.le_of_ble_eq_true rfl) c1 rfl ?_
  refine x_ret rfl rfl rfl rfl ?_
  exact ⟨rfl, rfl⟩
theorem m78_7 (D : Nat) {p : Nat} (h : isP p) (hk : M.1 p 0 = 7) {x v : Int} {deep : Nat} (hd : deep ≤ 40) (c1 : ab_S (pg_G L xs) D 81 [.ref p, zi x, zi (deep : Nat)] (hp M ++ es) (some (zi v)) (hp M ++ es)) : ab_S (pg_G L xs) (D + 1) 78 [.ref p, zi x, zi (deep : Nat)] (hp M ++ es) (some (zi v)) (hp M ++ es) := by
  show ab_W (pg_G L xs) (ab_X (pg_G L xs) D) 78 _ 0 [some (.ref p), some (zi x), some (zi ((deep : Nat) : Int))] [] (hp M ++ es)
  refine x_ld 2 1 0 1 rfl rfl rfl rfl rfl ?_
  refine x_cst (zi 40) 2 3 rfl rfl rfl ?_
  refine z_icle 8 6 rfl rfl rfl ⟨by omega, by omega⟩ (rg_lit 40 rfl) (fun _ => ?_) (fun c => absurd c (by omega))
  refine x_ld 0 1 2 9 rfl rfl rfl rfl rfl ?_
  refine g_P_0 h 9 12 rfl rfl hk rfl ?_
  refine x_tou 108 rfl (.inr (by decide)) rfl ?_
  refine x_ld 0 1 2 109 rfl rfl rfl rfl rfl ?_
  refine x_ld 1 1 0 110 rfl rfl rfl rfl rfl ?_
  refine x_ld 2 1 0 111 rfl rfl rfl rfl rfl ?_
  refine x_cv 154 81 114 [.ref p, zi x, zi ((deep : Nat) : Int)] rfl rfl rfl (Nat.le_of_ble_eq_true rfl) rfl rfl (Nat.le_of_ble_eq_true rfl) ⟨_, _, _, rfl, oP h⟩ (Nat.le_of_ble_eq_true rfl) c1 rfl ?_
  refine x_ret rfl rfl rfl rfl ?_
  exact ⟨rfl, rfl⟩
theorem m78_8 (D : Nat) {p : Nat} (h : isP p) (hk : M.1 p 0 = 8) {x v : Int} {deep : Nat} (hd : deep ≤ 40) (c1 : ab_S (pg_G L xs) D 81 [.ref p, zi x, zi (deep : Nat)] (hp M ++ es) (some (zi v)) (hp M ++ es)) : ab_S (pg_G L xs) (D + 1) 78 [.ref p, zi x, zi (deep : Nat)] (hp M ++ es) (some (zi v)) (hp M ++ es) := by
  show ab_W (pg_G L xs) (ab_X (pg_G L xs) D) 78 _ 0 [some (.ref p), some (zi x), some (zi ((deep : Nat) : Int))] [] (hp M ++ es)
  refine x_ld 2 1 0 1 rfl rfl rfl rfl rfl ?_
  refine x_cst (zi 40) 2 3 rfl rfl rfl ?_
  refine z_icle 8 6 rfl rfl rfl ⟨by omega, by omega⟩ (rg_lit 40 rfl) (fun _ => ?_) (fun c => absurd c (by omega))
  refine x_ld 0 1 2 9 rfl rfl rfl rfl rfl ?_
  refine g_P_0 h 9 12 rfl rfl hk rfl ?_
  refine x_tou 108 rfl (.inr (by decide)) rfl ?_
  refine x_ld 0 1 2 109 rfl rfl rfl rfl rfl ?_
  refine x_ld 1 1 0 110 rfl rfl rfl rfl rfl ?_
  refine x_ld 2 1 0 111 rfl rfl rfl rfl rfl ?_
  refine x_cv 154 81 114 [.ref p, zi x, zi ((deep : Nat) : Int)] rfl rfl rfl (Nat.le_of_ble_eq_true rfl) rfl rfl (Nat.le_of_ble_eq_true rfl) ⟨_, _, _, rfl, oP h⟩ (Nat.le_of_ble_eq_true rfl) c1 rfl ?_
  refine x_ret rfl rfl rfl rfl ?_
  exact ⟨rfl, rfl⟩
theorem c78 {n : Nat} {ps : Nat → prt} {c : Nat} (hc : cls n M ps c) : ∀ k, k < c → ∀ D, 2 * k + 5 ≤ D → ∀ (deep : Nat) (w : List Nat), deep + k ≤ 40 → tx_L w → w.length ≤ 6 → (sts ps k).2 (tx_num w) = true → ab_S (pg_G L xs) D 78 [.ref (n + 3 + 9 * k), zi (tx_num w : Nat), zi (deep : Nat)] (hp M ++ es) (some (zi (nz (sem_cr (pgo ps) k w)))) (hp M ++ es) := by
  have hg := cls_gds hc
  have hL := cr_L hg
  obtain ⟨hG, hc31, hm, hS, hwf⟩ := hc
  intro k
  induction k using Nat.strongRecOn with
  | _ k ih =>
    intro hk D hD deep w hdk hw h6 hx
    obtain ⟨D, rfl⟩ : ∃ d, D = d + 5 := ⟨D - 5, by omega⟩
    have g := hg k hk
    have hwk := hwf k hk
    have hmk := hm k hk
    have hP := isP_A hG (show k < 31 by omega)
    have gT := g.1
    have hl := hwk.2.2.2
    have g2 := g.2
    have hcl : 3 ≤ (ps k).1 → isP (n + 3 + 9 * (ps k).2.1) ∧ isP (n + 3 + 9 * (ps k).2.2.1) := fun e => ⟨isP_A hG (by have := hl e; omega), isP_A hG (by have := hl e; omega)⟩
    have agS : ∀ j, j < c → ag (sN (M.2.1 (n + 3 + 9 * j + 4))) (sts ps j).2 := fun j hj => (hS j hj).2.2
    have ihl : 3 ≤ (ps k).1 → ∀ u, tx_L u → u.length ≤ 6 → (sts ps (ps k).2.1).2 (tx_num u) = true → ∀ D', 2 * k + 3 ≤ D' → ab_S (pg_G L xs) D' 78 [.ref (n + 3 + 9 * (ps k).2.1), zi (tx_num u : Nat), zi ((deep : Int) + 1)] (hp M ++ es) (some (zi (nz (sem_cr (pgo ps) (ps k).2.1 u)))) (hp M ++ es) := fun e u h1 h2 h3 D' hD' => ih _ (hl e).1 (Nat.lt_trans (hl e).1 hk) D' (by have := (hl e).1; omega) (deep + 1) u (by have := (hl e).1; omega) h1 h2 h3
    have ihr : 3 ≤ (ps k).1 → ∀ u, tx_L u → u.length ≤ 6 → (sts ps (ps k).2.2.1).2 (tx_num u) = true → ∀ D', 2 * k + 3 ≤ D' → ab_S (pg_G L xs) D' 78 [.ref (n + 3 + 9 * (ps k).2.2.1), zi (tx_num u : Nat), zi ((deep : Int) + 1)] (hp M ++ es) (some (zi (nz (sem_cr (pgo ps) (ps k).2.2.1 u)))) (hp M ++ es) := fun e u h1 h2 h3 D' hD' => ih _ (hl e).2 (Nat.lt_trans (hl e).2 hk) D' (by have := (hl e).2; omega) (deep + 1) u (by have := (hl e).2; omega) h1 h2 h3
    rw [show pK (pgo ps) k = (ps k).1 from rfl] at g2
    have hK8 := hwk.1
    generalize hK : (ps k).1 = K at *
    have hpK : pK (pgo ps) k = K := hK
    match K, hK8 with
    | 0, _ =>
      have hT := hmk.2.1 (by decide)
      have q := m78_0 (L := L) (xs := xs) (es := es) (M := M) (D + 4) hP hmk.1 (x := ((tx_num w : Nat) : Int)) hT ⟨by omega, by have := hwk.2.1; omega⟩ (deep := deep) (by omega)
      rw [cr_0 hpK]
      rw [nz_le h6]; exact q
    | 1, _ =>
      have hT := hmk.2.1 (by decide)
      have q := m78_1 (L := L) (xs := xs) (es := es) (M := M) (D + 4) hP hmk.1 (x := ((tx_num w : Nat) : Int)) hT ⟨by omega, by have := hwk.2.1; omega⟩ (deep := deep) (by omega)
      rw [cr_1 hpK]
      rw [nz_le (show [pT (pgo ps) k - 1].length ≤ 6 from Nat.le_of_ble_eq_true rfl), tx_num_one]
      have e : (if (((ps k).2.2.2 : Nat) : Int) = 0 then (1 : Int) else (((ps k).2.2.2 : Nat) : Int)) = ((pT (pgo ps) k - 1 + 1 : Nat) : Int) := by
        show _ = (((ps k).2.2.2 - 1 + 1 : Nat) : Int)
        split <;> omega
      rw [← e]; exact q
    | 2, _ =>
      have hT := hmk.2.1 (by decide)
      have q := m78_2 (L := L) (xs := xs) (es := es) (M := M) (D + 4) hP hmk.1 (x := ((tx_num w : Nat) : Int)) hT ⟨by omega, by have := hwk.2.1; omega⟩ (deep := deep) (by omega)
      rw [cr_2 hpK]
      rw [nz_le (show ([] : List Nat).length ≤ 6 from by decide), tx_num_nil]; exact q
    | 3, _ =>
      rw [cr_3 hpK g2.1]
      exact m78_3 (D + 4) hP (hcl (by decide)).1 (hmk.2.2 (by decide)).1 hmk.1 (by omega) (ihl (by decide) w hw h6 ((g2.2.2 _).symm.trans hx) _ (by omega))
    | 4, _ =>
      have q0 := c79 (L := L) (xs := xs) (es := es) (M := M) (D + 2) hP (hcl (by decide)).1 (hcl (by decide)).2 (hmk.2.2 (by decide)).1 (hmk.2.2 (by decide)).2 hw h6
      have hlt := num_lt hw h6
      have hag := agS (ps k).2.1 (Nat.lt_trans (hl (by decide)).1 hk) (tx_num w) (by omega)
      rw [show M.2.1 (n + 3 + 9 * (ps k).2.1 + 4) ((tx_num w : Nat) : Int) = (sts ps (ps k).2.1).2 (tx_num w) from hag] at q0
      rw [cr_4 hpK g2.1]
      have hor := (g2.2.2 (tx_num w)).symm.trans hx
      show ab_S _ _ _ _ _ (some (zi (nz (bif (sts ps (ps k).2.1).2 (tx_num w) then sem_cr (pgo ps) (ps k).2.1 w else sem_cr (pgo ps) (ps k).2.2.1 w)))) _
      cases hb : (sts ps (ps k).2.1).2 (tx_num w) with
      | true =>
        rw [hb, cond_true] at q0; rw [cond_true]
        exact m78_4 (D + 4) hP (hcl (by decide)).1 hmk.1 (by omega) q0 (ihl (by decide) w hw h6 hb _ (by omega))
      | false =>
        rw [hb, cond_false] at q0; rw [cond_false]
        have hor2 : ((sts ps (ps k).2.1).2 (tx_num w) || (sts ps (ps k).2.2.1).2 (tx_num w)) = true := hor
        rw [hb, Bool.false_or] at hor2
        exact m78_4 (D + 4) hP (hcl (by decide)).2 hmk.1 (by omega) q0 (ihr (by decide) w hw h6 hor2 _ (by omega))
    | 5, _ =>
      have hjn := (g2.2.2 (tx_num w)).mp hx
      have hcu := jn_cut hw hjn
      have hle := cut_le (sts ps (ps k).2.1).2 (sts ps (ps k).2.2.1).2 w
      rw [cr_5 hpK g2.1]
      refine m78_5 (D + 4) hP hmk.1 (by omega) ?_
      exact c80_5 D hP (hcl (by decide)).1 (hcl (by decide)).2 (hmk.2.2 (by decide)).1 (hmk.2.2 (by decide)).2 hmk.1 (agS _ (Nat.lt_trans (hl (by decide)).1 hk)) (agS _ (Nat.lt_trans (hl (by decide)).2 hk)) hw h6 ((jn_num hw).mp hjn).2 (by omega) (hL _ (Nat.lt_trans (hl (by decide)).1 hk) _ (tx_L_take hw _)) (hL _ (Nat.lt_trans (hl (by decide)).2 hk) _ (tx_L_drop hw _)) (ihl (by decide) _ (tx_L_take hw _) (by rw [List.length_take]; omega) hcu.1 _ (by omega)) (ihr (by decide) _ (tx_L_drop hw _) (by rw [List.length_drop]; omega) hcu.2 _ (by omega))
    | 6, _ =>
      have hjn := (g2.2.2 (tx_num w)).mp hx
      have hcu := jn_cut hw hjn
      have hle := cut_le (sts ps (ps k).2.2.1).2 (sts ps (ps k).2.1).2 w
      rw [cr_6 hpK g2.1]
      refine m78_6 (D + 4) hP hmk.1 (by omega) ?_
      exact c80_6 D hP (hcl (by decide)).1 (hcl (by decide)).2 (hmk.2.2 (by decide)).1 (hmk.2.2 (by decide)).2 hmk.1 (agS _ (Nat.lt_trans (hl (by decide)).2 hk)) (agS _ (Nat.lt_trans (hl (by decide)).1 hk)) hw h6 ((jn_num hw).mp hjn).2 (by omega) (hL _ (Nat.lt_trans (hl (by decide)).2 hk) _ (tx_L_take hw _)) (hL _ (Nat.lt_trans (hl (by decide)).1 hk) _ (tx_L_drop hw _)) (ihr (by decide) _ (tx_L_take hw _) (by rw [List.length_take]; omega) hcu.1 _ (by omega)) (ihl (by decide) _ (tx_L_drop hw _) (by rw [List.length_drop]; omega) hcu.2 _ (by omega))
    | 7, _ =>
      rw [cr_7 hpK g2.2.1]
      refine m78_7 (D + 4) hP hmk.1 (by omega) ?_
      refine c81 D hP (hcl (by decide)).1 (hmk.2.2 (by decide)).1 (agS _ (Nat.lt_trans (hl (by decide)).1 hk)) (agS k hk) g2.2.2.2.2.2 g2.2.2.2.1 (by omega) hw h6 hx (fun u hu => ?_)
      have hmu := rps_mem g2.2.2.2.2.2 hw hx u hu
      exact ⟨hL _ (Nat.lt_trans (hl (by decide)).1 hk) _ hmu.2.1, ihl (by decide) u hmu.2.1 (by have := hmu.2.2.2; omega) hmu.1 _ (by omega)⟩
    | 8, _ =>
      rw [cr_8 hpK g2.2.1]
      refine m78_8 (D + 4) hP hmk.1 (by omega) ?_
      refine c81 D hP (hcl (by decide)).1 (hmk.2.2 (by decide)).1 (agS _ (Nat.lt_trans (hl (by decide)).1 hk)) (agS k hk) g2.2.2.2.2.2 g2.2.2.2.1 (by omega) hw h6 hx (fun u hu => ?_)
      have hmu := rps_mem g2.2.2.2.2.2 hw hx u hu
      exact ⟨hL _ (Nat.lt_trans (hl (by decide)).1 hk) _ hmu.2.1, ihl (by decide) u hmu.2.1 (by have := hmu.2.2.2; omega) hmu.1 _ (by omega)⟩
    | n + 9, h9 => exact absurd h9 (by omega)
theorem m86_0 (D : Nat) {p : Nat} (h : isP p) (hk : M.1 p 0 = 0) {T x : Int} (hT : M.1 p 2 = T) (hT3 : 0 ≤ T ∧ T ≤ 3) {deep : Nat} (hd : deep ≤ 40) : ab_S (pg_G L xs) (D + 1) 86 [.ref p, zi x, zi (deep : Nat)] (hp M ++ es) (some (zi (0))) (hp M ++ es) := by
  show ab_W (pg_G L xs) (ab_X (pg_G L xs) D) 86 _ 0 [some (.ref p), some (zi x), some (zi ((deep : Nat) : Int))] [] (hp M ++ es)
  refine x_ld 2 1 0 1 rfl rfl rfl rfl rfl ?_
  refine x_cst (zi 40) 2 3 rfl rfl rfl ?_
  refine z_icle 8 6 rfl rfl rfl ⟨by omega, by omega⟩ (rg_lit 40 rfl) (fun _ => ?_) (fun c => absurd c (by omega))
  refine x_ld 0 1 2 9 rfl rfl rfl rfl rfl ?_
  refine g_P_0 h 9 12 rfl rfl hk rfl ?_
  refine x_tou 81 rfl (.inl (by decide)) rfl ?_
  refine x_cst (zi 0) 1 82 rfl rfl rfl ?_
  refine x_ret rfl rfl rfl rfl ?_
  exact ⟨rfl, rfl⟩
theorem m86_1 (D : Nat) {p : Nat} (h : isP p) (hk : M.1 p 0 = 1) {T x : Int} (hT : M.1 p 2 = T) (hT3 : 0 ≤ T ∧ T ≤ 3) {deep : Nat} (hd : deep ≤ 40) : ab_S (pg_G L xs) (D + 1) 86 [.ref p, zi x, zi (deep : Nat)] (hp M ++ es) (some (zi (0))) (hp M ++ es) := by
  show ab_W (pg_G L xs) (ab_X (pg_G L xs) D) 86 _ 0 [some (.ref p), some (zi x), some (zi ((deep : Nat) : Int))] [] (hp M ++ es)
  refine x_ld 2 1 0 1 rfl rfl rfl rfl rfl ?_
  refine x_cst (zi 40) 2 3 rfl rfl rfl ?_
  refine z_icle 8 6 rfl rfl rfl ⟨by omega, by omega⟩ (rg_lit 40 rfl) (fun _ => ?_) (fun c => absurd c (by omega))
  refine x_ld 0 1 2 9 rfl rfl rfl rfl rfl ?_
  refine g_P_0 h 9 12 rfl rfl hk rfl ?_
  refine x_tou 81 rfl (.inl (by decide)) rfl ?_
  refine x_cst (zi 0) 1 82 rfl rfl rfl ?_
  refine x_ret rfl rfl rfl rfl ?_
  exact ⟨rfl, rfl⟩
theorem m86_2 (D : Nat) {p : Nat} (h : isP p) (hk : M.1 p 0 = 2) {T x : Int} (hT : M.1 p 2 = T) (hT3 : 0 ≤ T ∧ T ≤ 3) {deep : Nat} (hd : deep ≤ 40) : ab_S (pg_G L xs) (D + 1) 86 [.ref p, zi x, zi (deep : Nat)] (hp M ++ es) (some (zi (0))) (hp M ++ es) := by
  show ab_W (pg_G L xs) (ab_X (pg_G L xs) D) 86 _ 0 [some (.ref p), some (zi x), some (zi ((deep : Nat) : Int))] [] (hp M ++ es)
  refine x_ld 2 1 0 1 rfl rfl rfl rfl rfl ?_
  refine x_cst (zi 40) 2 3 rfl rfl rfl ?_
  refine z_icle 8 6 rfl rfl rfl ⟨by omega, by omega⟩ (rg_lit 40 rfl) (fun _ => ?_) (fun c => absurd c (by omega))
  refine x_ld 0 1 2 9 rfl rfl rfl rfl rfl ?_
  refine g_P_0 h 9 12 rfl rfl hk rfl ?_
  refine x_tou 81 rfl (.inl (by decide)) rfl ?_
  refine x_cst (zi 0) 1 82 rfl rfl rfl ?_
  refine x_ret rfl rfl rfl rfl ?_
  exact ⟨rfl, rfl⟩
theorem m86_3 (D : Nat) {p : Nat} (h : isP p) (hk : M.1 p 0 = 3) {x : Int} {deep : Nat} (hd : deep ≤ 40) : ab_S (pg_G L xs) (D + 1) 86 [.ref p, zi x, zi (deep : Nat)] (hp M ++ es) (some (zi x)) (hp M ++ es) := by
  show ab_W (pg_G L xs) (ab_X (pg_G L xs) D) 86 _ 0 [some (.ref p), some (zi x), some (zi ((deep : Nat) : Int))] [] (hp M ++ es)
  refine x_ld 2 1 0 1 rfl rfl rfl rfl rfl ?_
  refine x_cst (zi 40) 2 3 rfl rfl rfl ?_
  refine z_icle 8 6 rfl rfl rfl ⟨by omega, by omega⟩ (rg_lit 40 rfl) (fun _ => ?_) (fun c => absurd c (by omega))
  refine x_ld 0 1 2 9 rfl rfl rfl rfl rfl ?_
  refine g_P_0 h 9 12 rfl rfl hk rfl ?_
  refine x_tin 52 rfl (by decide) (by decide) rfl rfl ?_
  refine x_ld 1 1 0 53 rfl rfl rfl rfl rfl ?_
  refine x_ret rfl rfl rfl rfl ?_
  exact ⟨rfl, rfl⟩
theorem m86_4 (D : Nat) {p q : Nat} (h : isP p) (hq : isP q) (hk : M.1 p 0 = 4) {x v : Int} {deep : Nat} (hd : deep ≤ 40) (c0 : ab_S (pg_G L xs) D 79 [.ref p, zi x] (hp M ++ es) (some (.ref q)) (hp M ++ es)) (c1 : ab_S (pg_G L xs) D 86 [.ref q, zi x, zi ((deep : Int) + 1)] (hp M ++ es) (some (zi v)) (hp M ++ es)) : ab_S (pg_G L xs) (D + 1) 86 [.ref p, zi x, zi (deep : Nat)] (hp M ++ es) (some (zi v)) (hp M ++ es) := by
  show ab_W (pg_G L xs) (ab_X (pg_G L xs) D) 86 _ 0 [some (.ref p), some (zi x), some (zi ((deep : Nat) : Int))] [] (hp M ++ es)
  refine x_ld 2 1 0 1 rfl rfl rfl rfl rfl ?_
  refine x_cst (zi 40) 2 3 rfl rfl rfl ?_
  refine z_icle 8 6 rfl rfl rfl ⟨by omega, by omega⟩ (rg_lit 40 rfl) (fun _ => ?_) (fun c => absurd c (by omega))
  refine x_ld 0 1 2 9 rfl rfl rfl rfl rfl ?_
  refine g_P_0 h 9 12 rfl rfl hk rfl ?_
  refine x_tin 54 rfl (by decide) (by decide) rfl rfl ?_
  refine x_ld 0 1 2 55 rfl rfl rfl rfl rfl ?_
  refine x_ld 1 1 0 56 rfl rfl rfl rfl rfl ?_
  refine x_cv 148 79 59 [.ref p, zi x] rfl rfl rfl (Nat.le_of_ble_eq_true rfl) rfl rfl (Nat.le_of_ble_eq_true rfl) ⟨_, _, _, rfl, oP h⟩ (Nat.le_of_ble_eq_true rfl) c0 rfl ?_
  refine x_ld 1 1 0 60 rfl rfl rfl rfl rfl ?_
  refine x_ld 2 1 0 61 rfl rfl rfl rfl rfl ?_
  refine x_cst (zi 1) 1 62 rfl rfl rfl ?_
  refine z_add 63 rfl rfl ?_
  refine x_cv 157 86 66 [.ref q, zi x, zi (((deep : Nat) : Int) + 1)] rfl rfl rfl (Nat.le_of_ble_eq_true rfl) rfl rfl (Nat.le_of_ble_eq_true rfl) ⟨_, _, _, rfl, oP hq⟩ (Nat.le_of_ble_eq_true rfl) c1 rfl ?_
  refine x_ret rfl rfl rfl rfl ?_
  exact ⟨rfl, rfl⟩
theorem m86_5 (D : Nat) {p : Nat} (h : isP p) (hk : M.1 p 0 = 5) {x v : Int} {deep : Nat} (hd : deep ≤ 40) (c1 : ab_S (pg_G L xs) D 87 [.ref p, zi x, zi (deep : Nat)] (hp M ++ es) (some (zi v)) (hp M ++ es)) : ab_S (pg_G L xs) (D + 1) 86 [.ref p, zi x, zi (deep : Nat)] (hp M ++ es) (some (zi v)) (hp M ++ es) := by
  show ab_W (pg_G L xs) (ab_X (pg_G L xs) D) 86 _ 0 [some (.ref p), some (zi x), some (zi ((deep : Nat) : Int))] [] (hp M ++ es)
  refine x_ld 2 1 0 1 rfl rfl rfl rfl rfl ?_
  refine x_cst (zi 40) 2 3 rfl rfl rfl ?_
  refine z_icle 8 6 rfl rfl rfl ⟨by omega, by omega⟩ (rg_lit 40 rfl) (fun _ => ?_) (fun c => absurd c (by omega))
  refine x_ld 0 1 2 9 rfl rfl rfl rfl rfl ?_
  refine g_P_0 h 9 12 rfl rfl hk rfl ?_
  refine x_tin 67 rfl (by decide) (by decide) rfl rfl ?_
  refine x_ld 0 1 2 68 rfl rfl rfl rfl rfl ?_
  refine x_ld 1 1 0 69 rfl rfl rfl rfl rfl ?_
  refine x_ld 2 1 0 70 rfl rfl rfl rfl rfl ?_
  refine x_cv 160 87 73 [.ref p, zi x, zi ((deep : Nat) : Int)] rfl rfl rfl (Nat.le_of_ble_eq_true rfl) rfl rfl (Nat.le_of_ble_eq_true rfl) ⟨_, _, _, rfl, oP h⟩ (Nat.le_of_ble_eq_true rfl) c1 rfl ?_
  refine x_ret rfl rfl rfl rfl ?_
  exact ⟨rfl, rfl⟩
theorem m86_6 (D : Nat) {p : Nat} (h : isP p) (hk : M.1 p 0 = 6) {x v : Int} {deep : Nat} (hd : deep ≤ 40) (c1 : ab_S (pg_G L xs) D 87 [.ref p, zi x, zi (deep : Nat)] (hp M ++ es) (some (zi v)) (hp M ++ es)) : ab_S (pg_G L xs) (D + 1) 86 [.ref p, zi x, zi (deep : Nat)] (hp M ++ es) (some (zi v)) (hp M ++ es) := by
  show ab_W (pg_G L xs) (ab_X (pg_G L xs) D) 86 _ 0 [some (.ref p), some (zi x), some (zi ((deep : Nat) : Int))] [] (hp M ++ es)
  refine x_ld 2 1 0 1 rfl rfl rfl rfl rfl ?_
  refine x_cst (zi 40) 2 3 rfl rfl rfl ?_
  refine z_icle 8 6 rfl rfl rfl ⟨by omega, by omega⟩ (rg_lit 40 rfl) (fun _ => ?_) (fun c => absurd c (by omega))
  refine x_ld 0 1 2 9 rfl rfl rfl rfl rfl ?_
  refine g_P_0 h 9 12 rfl rfl hk rfl ?_
  refine x_tin 67 rfl (by decide) (by decide) rfl rfl ?_
  refine x_ld 0 1 2 68 rfl rfl rfl rfl rfl ?_
  refine x_ld 1 1 0 69 rfl rfl rfl rfl rfl ?_
  refine x_ld 2 1 0 70 rfl rfl rfl rfl rfl ?_
  refine x_cv 160 87 73 [.ref p, zi x, zi ((deep : Nat) : Int)] rfl rfl rfl (Nat.le_of_ble_eq_true rfl) rfl rfl (Nat.le_of_ble_eq_true rfl) ⟨_, _, _, rfl, oP h⟩ (Nat.le_of_ble_eq_true rfl) c1 rfl ?_
  refine x_ret rfl rfl rfl rfl ?_
  exact ⟨rfl, rfl⟩
theorem m86_7 (D : Nat) {p : Nat} (h : isP p) (hk : M.1 p 0 = 7) {x v : Int} {deep : Nat} (hd : deep ≤ 40) (c1 : ab_S (pg_G L xs) D 88 [.ref p, zi x, zi (deep : Nat)] (hp M ++ es) (some (zi v)) (hp M ++ es)) : ab_S (pg_G L xs) (D + 1) 86 [.ref p, zi x, zi (deep : Nat)] (hp M ++ es) (some (zi v)) (hp M ++ es) := by
  show ab_W (pg_G L xs) (ab_X (pg_G L xs) D) 86 _ 0 [some (.ref p), some (zi x), some (zi ((deep : Nat) : Int))] [] (hp M ++ es)
  refine x_ld 2 1 0 1 rfl rfl rfl rfl rfl ?_
  refine x_cst (zi 40) 2 3 rfl rfl rfl ?_
  refine z_icle 8 6 rfl rfl rfl ⟨by omega, by omega⟩ (rg_lit 40 rfl) (fun _ => ?_) (fun c => absurd c (by omega))
  refine x_ld 0 1 2 9 rfl rfl rfl rfl rfl ?_
  refine g_P_0 h 9 12 rfl rfl hk rfl ?_
  refine x_tin 74 rfl (by decide) (by decide) rfl rfl ?_
  refine x_ld 0 1 2 75 rfl rfl rfl rfl rfl ?_
  refine x_ld 1 1 0 76 rfl rfl rfl rfl rfl ?_
  refine x_ld 2 1 0 77 rfl rfl rfl rfl rfl ?_
  refine x_cv 163 88 80 [.ref p, zi x, zi ((deep : Nat) : Int)] rfl rfl rfl (Nat.le_of_ble_eq_true rfl) rfl rfl (Nat.le_of_ble_eq_true rfl) ⟨_, _, _, rfl, oP h⟩ (Nat.le_of_ble_eq_true rfl) c1 rfl ?_
  refine x_ret rfl rfl rfl rfl ?_
  exact ⟨rfl, rfl⟩
theorem m86_8 (D : Nat) {p : Nat} (h : isP p) (hk : M.1 p 0 = 8) {x v : Int} {deep : Nat} (hd : deep ≤ 40) (c1 : ab_S (pg_G L xs) D 88 [.ref p, zi x, zi (deep : Nat)] (hp M ++ es) (some (zi v)) (hp M ++ es)) : ab_S (pg_G L xs) (D + 1) 86 [.ref p, zi x, zi (deep : Nat)] (hp M ++ es) (some (zi v)) (hp M ++ es) := by
  show ab_W (pg_G L xs) (ab_X (pg_G L xs) D) 86 _ 0 [some (.ref p), some (zi x), some (zi ((deep : Nat) : Int))] [] (hp M ++ es)
  refine x_ld 2 1 0 1 rfl rfl rfl rfl rfl ?_
  refine x_cst (zi 40) 2 3 rfl rfl rfl ?_
  refine z_icle 8 6 rfl rfl rfl ⟨by omega, by omega⟩ (rg_lit 40 rfl) (fun _ => ?_) (fun c => absurd c (by omega))
  refine x_ld 0 1 2 9 rfl rfl rfl rfl rfl ?_
  refine g_P_0 h 9 12 rfl rfl hk rfl ?_
  refine x_tin 74 rfl (by decide) (by decide) rfl rfl ?_
  refine x_ld 0 1 2 75 rfl rfl rfl rfl rfl ?_
  refine x_ld 1 1 0 76 rfl rfl rfl rfl rfl ?_
  refine x_ld 2 1 0 77 rfl rfl rfl rfl rfl ?_
  refine x_cv 163 88 80 [.ref p, zi x, zi ((deep : Nat) : Int)] rfl rfl rfl (Nat.le_of_ble_eq_true rfl) rfl rfl (Nat.le_of_ble_eq_true rfl) ⟨_, _, _, rfl, oP h⟩ (Nat.le_of_ble_eq_true rfl) c1 rfl ?_
  refine x_ret rfl rfl rfl rfl ?_
  exact ⟨rfl, rfl⟩
theorem c86 {n : Nat} {ps : Nat → prt} {c : Nat} (hc : cls n M ps c) : ∀ k, k < c → ∀ D, 2 * k + 5 ≤ D → ∀ (deep : Nat) (w : List Nat), deep + k ≤ 40 → tx_L w → w.length ≤ 6 → (sts ps k).2 (tx_num w) = true → ab_S (pg_G L xs) D 86 [.ref (n + 3 + 9 * k), zi (tx_num w : Nat), zi (deep : Nat)] (hp M ++ es) (some (zi (nz (sem_ky (pgo ps) k w)))) (hp M ++ es) := by
  have hg := cls_gds hc
  have hL := ky_L hg
  obtain ⟨hG, hc31, hm, hS, hwf⟩ := hc
  intro k
  induction k using Nat.strongRecOn with
  | _ k ih =>
    intro hk D hD deep w hdk hw h6 hx
    obtain ⟨D, rfl⟩ : ∃ d, D = d + 5 := ⟨D - 5, by omega⟩
    have g := hg k hk
    have hwk := hwf k hk
    have hmk := hm k hk
    have hP := isP_A hG (show k < 31 by omega)
    have gT := g.1
    have hl := hwk.2.2.2
    have g2 := g.2
    have hcl : 3 ≤ (ps k).1 → isP (n + 3 + 9 * (ps k).2.1) ∧ isP (n + 3 + 9 * (ps k).2.2.1) := fun e => ⟨isP_A hG (by have := hl e; omega), isP_A hG (by have := hl e; omega)⟩
    have agS : ∀ j, j < c → ag (sN (M.2.1 (n + 3 + 9 * j + 4))) (sts ps j).2 := fun j hj => (hS j hj).2.2
    have ihl : 3 ≤ (ps k).1 → ∀ u, tx_L u → u.length ≤ 6 → (sts ps (ps k).2.1).2 (tx_num u) = true → ∀ D', 2 * k + 3 ≤ D' → ab_S (pg_G L xs) D' 86 [.ref (n + 3 + 9 * (ps k).2.1), zi (tx_num u : Nat), zi ((deep : Int) + 1)] (hp M ++ es) (some (zi (nz (sem_ky (pgo ps) (ps k).2.1 u)))) (hp M ++ es) := fun e u h1 h2 h3 D' hD' => ih _ (hl e).1 (Nat.lt_trans (hl e).1 hk) D' (by have := (hl e).1; omega) (deep + 1) u (by have := (hl e).1; omega) h1 h2 h3
    have ihr : 3 ≤ (ps k).1 → ∀ u, tx_L u → u.length ≤ 6 → (sts ps (ps k).2.2.1).2 (tx_num u) = true → ∀ D', 2 * k + 3 ≤ D' → ab_S (pg_G L xs) D' 86 [.ref (n + 3 + 9 * (ps k).2.2.1), zi (tx_num u : Nat), zi ((deep : Int) + 1)] (hp M ++ es) (some (zi (nz (sem_ky (pgo ps) (ps k).2.2.1 u)))) (hp M ++ es) := fun e u h1 h2 h3 D' hD' => ih _ (hl e).2 (Nat.lt_trans (hl e).2 hk) D' (by have := (hl e).2; omega) (deep + 1) u (by have := (hl e).2; omega) h1 h2 h3
    rw [show pK (pgo ps) k = (ps k).1 from rfl] at g2
    have hK8 := hwk.1
    generalize hK : (ps k).1 = K at *
    have hpK : pK (pgo ps) k = K := hK
    match K, hK8 with
    | 0, _ =>
      have hT := hmk.2.1 (by decide)
      have q := m86_0 (L := L) (xs := xs) (es := es) (M := M) (D + 4) hP hmk.1 (x := ((tx_num w : Nat) : Int)) hT ⟨by omega, by have := hwk.2.1; omega⟩ (deep := deep) (by omega)
      rw [ky_0 hpK]
      rw [nz_le (show ([] : List Nat).length ≤ 6 from by decide), tx_num_nil]; exact q
    | 1, _ =>
      have hT := hmk.2.1 (by decide)
      have q := m86_1 (L := L) (xs := xs) (es := es) (M := M) (D + 4) hP hmk.1 (x := ((tx_num w : Nat) : Int)) hT ⟨by omega, by have := hwk.2.1; omega⟩ (deep := deep) (by omega)
      rw [ky_1 hpK]
      rw [nz_le (show ([] : List Nat).length ≤ 6 from by decide), tx_num_nil]; exact q
    | 2, _ =>
      have hT := hmk.2.1 (by decide)
      have q := m86_2 (L := L) (xs := xs) (es := es) (M := M) (D + 4) hP hmk.1 (x := ((tx_num w : Nat) : Int)) hT ⟨by omega, by have := hwk.2.1; omega⟩ (deep := deep) (by omega)
      rw [ky_2 hpK]
      rw [nz_le (show ([] : List Nat).length ≤ 6 from by decide), tx_num_nil]; exact q
    | 3, _ =>
      rw [ky_3 hpK g2.1, nz_le h6]; exact m86_3 (D + 4) hP hmk.1 (by omega)
    | 4, _ =>
      have q0 := c79 (L := L) (xs := xs) (es := es) (M := M) (D + 2) hP (hcl (by decide)).1 (hcl (by decide)).2 (hmk.2.2 (by decide)).1 (hmk.2.2 (by decide)).2 hw h6
      have hlt := num_lt hw h6
      have hag := agS (ps k).2.1 (Nat.lt_trans (hl (by decide)).1 hk) (tx_num w) (by omega)
      rw [show M.2.1 (n + 3 + 9 * (ps k).2.1 + 4) ((tx_num w : Nat) : Int) = (sts ps (ps k).2.1).2 (tx_num w) from hag] at q0
      rw [ky_4 hpK g2.1]
      have hor := (g2.2.2 (tx_num w)).symm.trans hx
      show ab_S _ _ _ _ _ (some (zi (nz (bif (sts ps (ps k).2.1).2 (tx_num w) then sem_ky (pgo ps) (ps k).2.1 w else sem_ky (pgo ps) (ps k).2.2.1 w)))) _
      cases hb : (sts ps (ps k).2.1).2 (tx_num w) with
      | true =>
        rw [hb, cond_true] at q0; rw [cond_true]
        exact m86_4 (D + 4) hP (hcl (by decide)).1 hmk.1 (by omega) q0 (ihl (by decide) w hw h6 hb _ (by omega))
      | false =>
        rw [hb, cond_false] at q0; rw [cond_false]
        have hor2 : ((sts ps (ps k).2.1).2 (tx_num w) || (sts ps (ps k).2.2.1).2 (tx_num w)) = true := hor
        rw [hb, Bool.false_or] at hor2
        exact m86_4 (D + 4) hP (hcl (by decide)).2 hmk.1 (by omega) q0 (ihr (by decide) w hw h6 hor2 _ (by omega))
    | 5, _ =>
      have hjn := (g2.2.2 (tx_num w)).mp hx
      have hcu := jn_cut hw hjn
      have hle := cut_le (sts ps (ps k).2.1).2 (sts ps (ps k).2.2.1).2 w
      rw [ky_5 hpK g2.1]
      refine m86_5 (D + 4) hP hmk.1 (by omega) ?_
      exact c87_5 D hP (hcl (by decide)).1 (hcl (by decide)).2 (hmk.2.2 (by decide)).1 (hmk.2.2 (by decide)).2 hmk.1 (agS _ (Nat.lt_trans (hl (by decide)).1 hk)) (agS _ (Nat.lt_trans (hl (by decide)).2 hk)) hw h6 ((jn_num hw).mp hjn).2 (by omega) (hL _ (Nat.lt_trans (hl (by decide)).1 hk) _ (tx_L_take hw _)) (hL _ (Nat.lt_trans (hl (by decide)).2 hk) _ (tx_L_drop hw _)) (ihl (by decide) _ (tx_L_take hw _) (by rw [List.length_take]; omega) hcu.1 _ (by omega)) (ihr (by decide) _ (tx_L_drop hw _) (by rw [List.length_drop]; omega) hcu.2 _ (by omega))
    | 6, _ =>
      have hjn := (g2.2.2 (tx_num w)).mp hx
      have hcu := jn_cut hw hjn
      have hle := cut_le (sts ps (ps k).2.2.1).2 (sts ps (ps k).2.1).2 w
      rw [ky_6 hpK g2.1]
      refine m86_6 (D + 4) hP hmk.1 (by omega) ?_
      exact c87_6 D hP (hcl (by decide)).1 (hcl (by decide)).2 (hmk.2.2 (by decide)).1 (hmk.2.2 (by decide)).2 hmk.1 (agS _ (Nat.lt_trans (hl (by decide)).2 hk)) (agS _ (Nat.lt_trans (hl (by decide)).1 hk)) hw h6 ((jn_num hw).mp hjn).2 (by omega) (hL _ (Nat.lt_trans (hl (by decide)).2 hk) _ (tx_L_take hw _)) (hL _ (Nat.lt_trans (hl (by decide)).1 hk) _ (tx_L_drop hw _)) (ihr (by decide) _ (tx_L_take hw _) (by rw [List.length_take]; omega) hcu.1 _ (by omega)) (ihl (by decide) _ (tx_L_drop hw _) (by rw [List.length_drop]; omega) hcu.2 _ (by omega))
    | 7, _ =>
      rw [ky_7 hpK g2.2.1]
      refine m86_7 (D + 4) hP hmk.1 (by omega) ?_
      refine c88 D hP (hcl (by decide)).1 (hmk.2.2 (by decide)).1 (agS _ (Nat.lt_trans (hl (by decide)).1 hk)) (agS k hk) g2.2.2.2.2.2 g2.2.2.2.1 (by omega) hw h6 hx (fun u hu => ?_)
      have hmu := rps_mem g2.2.2.2.2.2 hw hx u hu
      exact ⟨hL _ (Nat.lt_trans (hl (by decide)).1 hk) _ hmu.2.1, ihl (by decide) u hmu.2.1 (by have := hmu.2.2.2; omega) hmu.1 _ (by omega)⟩
    | 8, _ =>
      rw [ky_8 hpK g2.2.1]
      refine m86_8 (D + 4) hP hmk.1 (by omega) ?_
      refine c88 D hP (hcl (by decide)).1 (hmk.2.2 (by decide)).1 (agS _ (Nat.lt_trans (hl (by decide)).1 hk)) (agS k hk) g2.2.2.2.2.2 g2.2.2.2.1 (by omega) hw h6 hx (fun u hu => ?_)
      have hmu := rps_mem g2.2.2.2.2.2 hw hx u hu
      exact ⟨hL _ (Nat.lt_trans (hl (by decide)).1 hk) _ hmu.2.1, ihl (by decide) u hmu.2.1 (by have := hmu.2.2.2; omega) hmu.1 _ (by omega)⟩
    | n + 9, h9 => exact absurd h9 (by omega)
end C12
