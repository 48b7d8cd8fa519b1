/-! OURS, printed by wip/tools/gen897.py: putting leaves all but rows as it was; origins by key. -/
def Fu (n k : Nat) (M M' : mm) : Prop := (∀ a, (∀ j, j ≤ k → a ≠ n + 3 + 9 * j ∧ ¬ (n + 3 + 9 * j + 5 ≤ a ∧ a ≤ n + 3 + 9 * j + 8)) → M'.1 a = M.1 a) ∧ (∀ j, j ≤ k → ∀ i, i ≠ 13 → M'.1 (n + 3 + 9 * j) i = M.1 (n + 3 + 9 * j) i) ∧ M'.2 = M.2
theorem Fu_refl (n k : Nat) (M : mm) : Fu n k M M := ⟨fun _ _ => rfl, fun _ _ _ _ => rfl, rfl⟩
theorem Fu_trans {n k : Nat} {M M' M'' : mm} (h : Fu n k M M') (g : Fu n k M' M'') : Fu n k M M'' := ⟨fun a ha => (g.1 a ha).trans (h.1 a ha), fun j hj i hi => (g.2.1 j hj i hi).trans (h.2.1 j hj i hi), g.2.2.trans h.2.2⟩
theorem Fu_mono {n k l : Nat} (hl : l ≤ k) {M M' : mm} (h : Fu n l M M') : Fu n k M M' := by
  refine ⟨fun a ha => h.1 a (fun j hj => ha j (by omega)), fun j hj i hi => ?_, h.2.2⟩
  rcases Nat.lt_or_ge l j with q | q
  · rw [h.1 (n + 3 + 9 * j) (fun j' hj' => by omega)]
  · exact h.2.1 j q i hi
theorem Fu_row {n k : Nat} {M : mm} {a : Nat} {f : Int → Int} (ha : n + 3 + 9 * k + 5 ≤ a ∧ a ≤ n + 3 + 9 * k + 8) : Fu n k M (rI M a f) := by
  refine ⟨fun b hb => rI_ne ?_, fun j hj i hi => rd_ra (by omega), rfl⟩
  have := hb k (Nat.le_refl _)
  intro e; subst e; exact this.2 ha
theorem Fu_cnt {n k : Nat} {M : mm} {x : Int} : Fu n k M (sI M (n + 3 + 9 * k) 13 x) := by
  refine ⟨fun b hb => sI_ne (hb k (Nat.le_refl _)).1, fun j hj i hi => rd_nk hi, rfl⟩
theorem cls_Fu {n k : Nat} {M M' : mm} {ps : Nat → prt} {c : Nat} (h : cls n M ps c) (hk : k < c) (hF : Fu n k M M') : cls n M' ps c := by
  obtain ⟨hG, hc, hm, hS, hw⟩ := h
  have h21 : M'.2.1 = M.2.1 := by rw [hF.2.2]
  have h22 : M'.2.2 = M.2.2 := by rw [hF.2.2]
  have hF' := Fu_mono (show k ≤ 30 by omega) hF
  refine ⟨hG, hc, fun j hj => ?_, fun j hj => ?_, hw⟩
  · have := hm j hj
    rw [hF'.2.1 j (by omega) 0 (by decide), hF'.2.1 j (by omega) 2 (by decide), h22]
    exact this
  · have := hS j hj
    rw [h21]; exact this
/-- only two rows of a part have changed -/
def F6 (p : Nat) (M M' : mm) : Prop := (∀ a, a ≠ p + 6 → a ≠ p + 8 → M'.1 a = M.1 a) ∧ M'.2 = M.2
theorem F6_Fu {n k : Nat} {M M' : mm} (h : F6 (n + 3 + 9 * k) M M') : Fu n k M M' := by
  refine ⟨fun a ha => ?_, fun j hj i hi => ?_, h.2⟩
  · have := ha k (Nat.le_refl _)
    exact h.1 a (fun e => this.2 (by omega)) (fun e => this.2 (by omega))
  · rw [h.1 _ (by omega) (by omega)]
theorem lfI_idem (sk vs us : List Nat) (f : Int → Int) : lfI sk us (lfI sk vs f) = lfI sk us f := by
  funext j
  unfold lfI
  by_cases h : 0 ≤ j ∧ j < (sk.length : Int)
  · rw [if_pos h, if_pos h]
  · rw [if_neg h, if_neg h, if_neg h]
theorem lfI_nil (sk : List Nat) (f : Int → Int) : lsR sk f = lfI sk [] f := by
  funext j
  unfold lfI lsR
  by_cases h : 0 ≤ j ∧ j < (sk.length : Int)
  · rw [if_pos h, if_pos h]
    have : lft sk [] j.toNat = true := by unfold lft; exact decide_eq_true (Nat.zero_le _)
    rw [this, cond_true, List.getD_eq_getElem?_getD, getElem!_pos sk j.toNat (by omega), List.getElem?_eq_getElem (by omega)]
    rfl
  · rw [if_neg h, if_neg h]
theorem getE {α : Type} [Inhabited α] {β : Type} [Inhabited β] (f : α → β) {l : List α} {i : Nat} (h : i < l.length) : (l.map f)[i]! = f l[i]! := by
  rw [getElem!_pos (l.map f) i (by rw [List.length_map]; exact h), getElem!_pos l i h, List.getElem_map]
section C14
variable {L : Nat} {xs : Nat → Int32} {M : mm} {es : ab_H}
theorem c85_one {n : Nat} {ps : Nat → prt} {c : Nat} (hc : cls n M ps c) {k : Nat} (hk : k < c) (hK : 7 ≤ (ps k).1) {p q : Nat} (ep : p = n + 3 + 9 * k) (eq' : q = n + 3 + 9 * (ps k).2.1) {deep : Nat} (hd : deep + k ≤ 40) (D : Nat) (hD : 2 * k ≤ D) {sp vp : List (List Nat)} (hs6 : sp.length ≤ 6) (hv6 : vp.length ≤ 6) (hsp : ∀ u ∈ sp, tx_L u ∧ u.length ≤ 6 ∧ (sts ps (ps k).2.1).1 (tx_num u) = true ∧ (sem_sh (pgo ps) (ps k).2.1 u).length ≤ 6) (hvp : ∀ u ∈ vp, tx_L u ∧ u.length ≤ 6 ∧ (sts ps (ps k).2.1).2 (tx_num u) = true) (rs : ∀ i, i < sp.length → M.1 (p + 5) (i : Int) = ((tx_num sp[i]! : Nat) : Int)) (rv : ∀ i, i < vp.length → M.1 (p + 7) (i : Int) = ((tx_num vp[i]! : Nat) : Int)) (hvc : M.1 p 13 = (vp.length : Int)) {Q : ab_Q} (kk : ab_W (pg_G L xs) (ab_X (pg_G L xs) (D + 5)) 85 Q 45 [some (.ref p), some (zi (sp.length : Nat)), some (zi (deep : Nat)), some (zi (sp.length : Nat))] [] (hp (rI M (p + 6) (lsR (sp.map (fun u => tx_num (sem_ky (pgo ps) (ps k).2.1 (sem_sh (pgo ps) (ps k).2.1 u)))) (M.1 (p + 6)))) ++ es)) : ∀ m i : Nat, sp.length - i = m → i ≤ sp.length → ab_W (pg_G L xs) (ab_X (pg_G L xs) (D + 5)) 85 Q 2 [some (.ref p), some (zi (sp.length : Nat)), some (zi (deep : Nat)), some (zi (i : Nat))] [] (hp (rI M (p + 6) (lsR ((sp.map (fun u => tx_num (sem_ky (pgo ps) (ps k).2.1 (sem_sh (pgo ps) (ps k).2.1 u)))).take i) (M.1 (p + 6)))) ++ es) := by
  have hlk := (hc.2.2.2.2 k hk).2.2.2 (by omega)
  have hG := hc.1
  have h31 := hc.2.1
  have hP : isP p := by rw [ep]; exact isP_A hG (by omega)
  have hQ : isP q := by rw [eq']; exact isP_A hG (by omega)
  have eq : M.2.2 p 3 = q := by rw [ep, eq']; exact ((hc.2.2.1 k hk).2.2 (by omega)).1
  have gds' := cls_gds hc
  intro m
  induction m using Nat.strongRecOn with
  | _ m ih =>
    intro i hm hi
    have hcM : cls n (rI M (p + 6) (lsR ((sp.map (fun u => tx_num (sem_ky (pgo ps) (ps k).2.1 (sem_sh (pgo ps) (ps k).2.1 u)))).take i) (M.1 (p + 6)))) ps c := cls_Fu hc hk (Fu_row (by omega))
    refine x_ld 3 1 0 3 rfl rfl rfl rfl rfl ?_
    refine x_ld 1 1 0 4 rfl rfl rfl rfl rfl ?_
    refine z_icge 45 7 rfl rfl rfl ⟨by omega, by omega⟩ ⟨by omega, by omega⟩ (fun c4 => ?_) (fun c4 => ?_)
    · have e : i = sp.length := by omega
      subst e
      rw [show (sp.map (fun u => tx_num (sem_ky (pgo ps) (ps k).2.1 (sem_sh (pgo ps) (ps k).2.1 u)))).take sp.length = (sp.map (fun u => tx_num (sem_ky (pgo ps) (ps k).2.1 (sem_sh (pgo ps) (ps k).2.1 u)))) from List.take_of_length_le (by rw [List.length_map]; exact Nat.le_refl _)]
      exact kk
    · have hil : i < sp.length := by omega
      have hu := hsp _ (get_mem hil)
      have rs' : (rI M (p + 6) (lsR ((sp.map (fun u => tx_num (sem_ky (pgo ps) (ps k).2.1 (sem_sh (pgo ps) (ps k).2.1 u)))).take i) (M.1 (p + 6)))).1 (p + 5) (i : Int) = ((tx_num sp[i]! : Nat) : Int) := (rd_ra (by omega)).trans (rs i hil)
      have hsL := sh_L gds' _ (Nat.lt_trans hlk.1 hk) _ hu.1
      have hsV := sh_V gds' _ (Nat.lt_trans hlk.1 hk) _ hu.1 hu.2.2.1 hu.2.2.2
      refine x_ld 0 1 2 8 rfl rfl rfl rfl rfl ?_
      refine g_P_10 hP 41 11 rfl rfl rfl ?_
      refine x_ld 3 1 0 12 rfl rfl rfl rfl rfl ?_
      refine x_ld 0 1 2 13 rfl rfl rfl rfl rfl ?_
      refine g_P_3 hP 53 16 rfl rfl eq rfl ?_
      refine x_ld 0 1 2 17 rfl rfl rfl rfl rfl ?_
      refine g_P_3 hP 53 20 rfl rfl eq rfl ?_
      refine x_ld 0 1 2 21 rfl rfl rfl rfl rfl ?_
      refine g_P_9 hP 37 24 rfl rfl rfl ?_
      refine x_ld 3 1 0 25 rfl rfl rfl rfl rfl ?_
      refine z_ild ((tx_num sp[i]! : Nat) : Int) 26 rfl (iP5 hP) rfl ⟨by omega, by omega⟩ rs' rfl ?_
      refine x_ld 2 1 0 27 rfl rfl rfl rfl rfl ?_
      refine x_cst (zi 1) 1 28 rfl rfl rfl ?_
      refine z_add 29 rfl rfl ?_
      refine x_cv 119 65 32 [.ref q, zi ((tx_num sp[i]! : Nat) : Int), zi (((deep : Nat) : Int) + 1)] rfl rfl rfl (Nat.le_of_ble_eq_true rfl) rfl rfl (Nat.le_of_ble_eq_true rfl) ⟨_, _, _, rfl, oP hQ⟩ (Nat.le_of_ble_eq_true rfl) (by have q0 := c65 (L := L) (xs := xs) (es := es) hcM _ (Nat.lt_trans hlk.1 hk) (D + 5) (by omega) (deep + 1) sp[i]! (by omega) hu.1 hu.2.1 hu.2.2.1; rw [← eq', nz_le hu.2.2.2] at q0; exact q0) rfl ?_
      refine x_ld 2 1 0 33 rfl rfl rfl rfl rfl ?_
      refine x_cst (zi 1) 1 34 rfl rfl rfl ?_
      refine z_add 35 rfl rfl ?_
      refine x_cv 157 86 38 [.ref q, zi ((tx_num (sem_sh (pgo ps) (ps k).2.1 sp[i]!) : Nat) : Int), zi (((deep : Nat) : Int) + 1)] rfl rfl rfl (Nat.le_of_ble_eq_true rfl) rfl rfl (Nat.le_of_ble_eq_true rfl) ⟨_, _, _, rfl, oP hQ⟩ (Nat.le_of_ble_eq_true rfl) (by have q0 := c86 (L := L) (xs := xs) (es := es) hcM _ (Nat.lt_trans hlk.1 hk) (D + 5) (by omega) (deep + 1) (sem_sh (pgo ps) (ps k).2.1 sp[i]!) (by omega) hsL hu.2.2.2 hsV; rw [← eq', nz_le (Nat.le_trans (ky_len gds' _ (Nat.lt_trans hlk.1 hk) _) hu.2.2.2)] at q0; exact q0) rfl ?_
      refine z_ist 39 rfl (iP6 hP) rfl ⟨by omega, by omega⟩ rfl ?_
      refine z_inc 3 42 [some (.ref p), some (zi ((sp.length : Nat) : Int)), some (zi ((deep : Nat) : Int)), some (zi (((i : Nat) : Int) + 1))] rfl rfl (Nat.le_of_ble_eq_true rfl) rfl rfl ?_
      refine x_go 2 rfl rfl ?_
      have hsi : i < (sp.map (fun u => tx_num (sem_ky (pgo ps) (ps k).2.1 (sem_sh (pgo ps) (ps k).2.1 u)))).length := by rw [List.length_map]; exact hil
      have hts := take_snoc (sp.map (fun u => tx_num (sem_ky (pgo ps) (ps k).2.1 (sem_sh (pgo ps) (ps k).2.1 u)))) hsi
      have hg : (sp.map (fun u => tx_num (sem_ky (pgo ps) (ps k).2.1 (sem_sh (pgo ps) (ps k).2.1 u)))).getD i 0 = tx_num (sem_ky (pgo ps) (ps k).2.1 (sem_sh (pgo ps) (ps k).2.1 sp[i]!)) := by rw [List.getD_eq_getElem?_getD, List.getElem?_map, List.getElem?_eq_getElem hil, getElem!_pos sp i hil]; rfl
      rw [hg] at hts
      have hlt : (((sp.map (fun u => tx_num (sem_ky (pgo ps) (ps k).2.1 (sem_sh (pgo ps) (ps k).2.1 u)))).take i).length : Nat) = i := by rw [List.length_take]; omega
      have hme := sI_lsR M (p + 6) ((sp.map (fun u => tx_num (sem_ky (pgo ps) (ps k).2.1 (sem_sh (pgo ps) (ps k).2.1 u)))).take i) (tx_num (sem_ky (pgo ps) (ps k).2.1 (sem_sh (pgo ps) (ps k).2.1 sp[i]!)))
      rw [hlt, ← hts] at hme
      rw [hme]
      exact ih (sp.length - (i + 1)) (by omega) (i + 1) rfl (by omega)
theorem c85_two {n : Nat} {ps : Nat → prt} {c : Nat} (hc : cls n M ps c) {k : Nat} (hk : k < c) (hK : 7 ≤ (ps k).1) {p q : Nat} (ep : p = n + 3 + 9 * k) (eq' : q = n + 3 + 9 * (ps k).2.1) {deep : Nat} (hd : deep + k ≤ 40) (D : Nat) (hD : 2 * k ≤ D) {sp vp : List (List Nat)} (hs6 : sp.length ≤ 6) (hv6 : vp.length ≤ 6) (hsp : ∀ u ∈ sp, tx_L u ∧ u.length ≤ 6 ∧ (sts ps (ps k).2.1).1 (tx_num u) = true ∧ (sem_sh (pgo ps) (ps k).2.1 u).length ≤ 6) (hvp : ∀ u ∈ vp, tx_L u ∧ u.length ≤ 6 ∧ (sts ps (ps k).2.1).2 (tx_num u) = true) (rs : ∀ i, i < sp.length → M.1 (p + 5) (i : Int) = ((tx_num sp[i]! : Nat) : Int)) (rv : ∀ i, i < vp.length → M.1 (p + 7) (i : Int) = ((tx_num vp[i]! : Nat) : Int)) (hvc : M.1 p 13 = (vp.length : Int)) {Q : ab_Q} (kk : ∀ M', F6 p M M' → (∀ i, i < vp.length → M'.1 (p + 8) (i : Int) = oz (org true (sp.map (fun u => tx_num (sem_ky (pgo ps) (ps k).2.1 (sem_sh (pgo ps) (ps k).2.1 u)))) (vp.map (fun u => tx_num (sem_ky (pgo ps) (ps k).2.1 u))) i)) → Q (.inl none) (hp M' ++ es)) : ∀ m i : Nat, vp.length - i = m → i ≤ vp.length → ∀ M', F6 p M M' → M'.1 (p + 6) = lfI (sp.map (fun u => tx_num (sem_ky (pgo ps) (ps k).2.1 (sem_sh (pgo ps) (ps k).2.1 u)))) ((vp.map (fun u => tx_num (sem_ky (pgo ps) (ps k).2.1 u))).take i) (M.1 (p + 6)) → (∀ j, j < i → M'.1 (p + 8) (j : Int) = oz (org true (sp.map (fun u => tx_num (sem_ky (pgo ps) (ps k).2.1 (sem_sh (pgo ps) (ps k).2.1 u)))) (vp.map (fun u => tx_num (sem_ky (pgo ps) (ps k).2.1 u))) j)) → ab_W (pg_G L xs) (ab_X (pg_G L xs) (D + 5)) 85 Q 47 [some (.ref p), some (zi (sp.length : Nat)), some (zi (deep : Nat)), some (zi (i : Nat))] [] (hp M' ++ es) := by
  have hlk := (hc.2.2.2.2 k hk).2.2.2 (by omega)
  have hG := hc.1
  have h31 := hc.2.1
  have hP : isP p := by rw [ep]; exact isP_A hG (by omega)
  have hQ : isP q := by rw [eq']; exact isP_A hG (by omega)
  have eq : M.2.2 p 3 = q := by rw [ep, eq']; exact ((hc.2.2.1 k hk).2.2 (by omega)).1
  have gds' := cls_gds hc
  intro m
  induction m using Nat.strongRecOn with
  | _ m ih =>
    intro i hm hi M' hF h6r h8r
    have hcM : cls n M' ps c := cls_Fu hc hk (F6_Fu (by rw [← ep]; exact hF))
    have eqM : M'.2.2 p 3 = q := by rw [hF.2]; exact eq
    have hvcM : M'.1 p 13 = (vp.length : Int) := by rw [hF.1 p (by omega) (by omega)]; exact hvc
    refine x_ld 3 1 0 48 rfl rfl rfl rfl rfl ?_
    refine x_ld 0 1 2 49 rfl rfl rfl rfl rfl ?_
    refine g_P_13 hP 50 52 rfl rfl hvcM rfl ?_
    refine z_icge 88 55 rfl rfl rfl ⟨by omega, by omega⟩ ⟨by omega, by omega⟩ (fun c52 => ?_) (fun c52 => ?_)
    · refine x_rtv rfl rfl ?_
      have e : i = vp.length := by omega
      subst e; exact kk M' hF h8r
    · have hil : i < vp.length := by omega
      have hu := hvp _ (get_mem hil)
      have rv' : M'.1 (p + 7) (i : Int) = ((tx_num vp[i]! : Nat) : Int) := by rw [hF.1 _ (by omega) (by omega)]; exact rv i hil
      have hkl := ky_len gds' _ (Nat.lt_trans hlk.1 hk) vp[i]!
      have hkL := ky_L gds' _ (Nat.lt_trans hlk.1 hk) _ hu.1
      have hkx := num_lt hkL (by have := hu.2.1; omega)
      refine x_ld 0 1 2 56 rfl rfl rfl rfl rfl ?_
      refine g_P_12 hP 47 59 rfl rfl rfl ?_
      refine x_ld 3 1 0 60 rfl rfl rfl rfl rfl ?_
      refine x_ld 0 1 2 61 rfl rfl rfl rfl rfl ?_
      refine x_ld 0 1 2 62 rfl rfl rfl rfl rfl ?_
      refine g_P_3 hP 53 65 rfl rfl eqM rfl ?_
      refine x_ld 0 1 2 66 rfl rfl rfl rfl rfl ?_
      refine g_P_11 hP 44 69 rfl rfl rfl ?_
      refine x_ld 3 1 0 70 rfl rfl rfl rfl rfl ?_
      refine z_ild ((tx_num vp[i]! : Nat) : Int) 71 rfl (iP7 hP) rfl ⟨by omega, by omega⟩ rv' rfl ?_
      refine x_ld 2 1 0 72 rfl rfl rfl rfl rfl ?_
      refine x_cst (zi 1) 1 73 rfl rfl rfl ?_
      refine z_add 74 rfl rfl ?_
      refine x_cv 157 86 77 [.ref q, zi ((tx_num vp[i]! : Nat) : Int), zi (((deep : Nat) : Int) + 1)] rfl rfl rfl (Nat.le_of_ble_eq_true rfl) rfl rfl (Nat.le_of_ble_eq_true rfl) ⟨_, _, _, rfl, oP hQ⟩ (Nat.le_of_ble_eq_true rfl) (by have q0 := c86 (L := L) (xs := xs) (es := es) hcM _ (Nat.lt_trans hlk.1 hk) (D + 5) (by omega) (deep + 1) vp[i]! (by omega) hu.1 hu.2.1 hu.2.2; rw [← eq', nz_le (Nat.le_trans hkl hu.2.1)] at q0; exact q0) rfl ?_
      refine x_ld 1 1 0 78 rfl rfl rfl rfl rfl ?_
      refine x_cv 189 89 81 [.ref p, zi ((tx_num (sem_ky (pgo ps) (ps k).2.1 vp[i]!) : Nat) : Int), zi ((sp.length : Nat) : Int)] rfl rfl rfl (Nat.le_of_ble_eq_true rfl) rfl rfl (Nat.le_of_ble_eq_true rfl) ⟨_, _, _, rfl, oP hP⟩ (Nat.le_of_ble_eq_true rfl) (by have q0 := c89 (L := L) (xs := xs) (es := es) (M := M') (D + 4) hP (sk := (sp.map (fun u => tx_num (sem_ky (pgo ps) (ps k).2.1 (sem_sh (pgo ps) (ps k).2.1 u))))) (vs := (vp.map (fun u => tx_num (sem_ky (pgo ps) (ps k).2.1 u))).take i) (by rw [List.length_map]; exact hs6) (fun j hj => by rw [List.length_map] at hj; have hm := hsp _ (get_mem hj); rw [getE _ hj]; exact num_lt (ky_L gds' _ (Nat.lt_trans hlk.1 hk) _ (sh_L gds' _ (Nat.lt_trans hlk.1 hk) _ hm.1)) (Nat.le_trans (ky_len gds' _ (Nat.lt_trans hlk.1 hk) _) hm.2.2.2)) (x := tx_num (sem_ky (pgo ps) (ps k).2.1 vp[i]!)) hkx (by rw [h6r, lfI_idem]); rw [List.length_map] at q0; exact q0) rfl ?_
      refine z_ist 82 rfl (iP8 hP) rfl ⟨by omega, by omega⟩ rfl ?_
      refine z_inc 3 85 [some (.ref p), some (zi ((sp.length : Nat) : Int)), some (zi ((deep : Nat) : Int)), some (zi (((i : Nat) : Int) + 1))] rfl rfl (Nat.le_of_ble_eq_true rfl) rfl rfl ?_
      refine x_go 47 rfl rfl ?_
      have hvi : i < (vp.map (fun u => tx_num (sem_ky (pgo ps) (ps k).2.1 u))).length := by rw [List.length_map]; exact hil
      have hts := take_snoc (vp.map (fun u => tx_num (sem_ky (pgo ps) (ps k).2.1 u))) hvi
      have hg : (vp.map (fun u => tx_num (sem_ky (pgo ps) (ps k).2.1 u))).getD i 0 = tx_num (sem_ky (pgo ps) (ps k).2.1 vp[i]!) := by rw [List.getD_eq_getElem?_getD, List.getElem?_map, List.getElem?_eq_getElem hil, getElem!_pos vp i hil]; rfl
      have hg2 : (vp.map (fun u => tx_num (sem_ky (pgo ps) (ps k).2.1 u)))[i]! = tx_num (sem_ky (pgo ps) (ps k).2.1 vp[i]!) := getE _ hil
      rw [hg] at hts
      refine ih (vp.length - (i + 1)) (by omega) (i + 1) rfl (by omega) _ ?_ ?_ ?_
      · refine ⟨fun a h1 h2 => ?_, hF.2⟩
        rw [sI_ne h2, rI_ne h1]; exact hF.1 a h1 h2
      · rw [sI_ne (by omega), rI_at, h6r, lfI_idem, ← hts]
      · intro j hj
        rcases Nat.eq_or_lt_of_le (Nat.le_of_lt_succ hj) with e | e
        · subst e
          rw [rd_eq]
          unfold org
          rw [cond_true, hg2]
        · rw [rd_nk (by omega), rd_ra (by omega)]; exact h8r j e
theorem c85 {n : Nat} {ps : Nat → prt} {c : Nat} (hc : cls n M ps c) {k : Nat} (hk : k < c) (hK : 7 ≤ (ps k).1) {p q : Nat} (ep : p = n + 3 + 9 * k) (eq' : q = n + 3 + 9 * (ps k).2.1) {deep : Nat} (hd : deep + k ≤ 40) (D : Nat) (hD : 2 * k ≤ D) {sp vp : List (List Nat)} (hs6 : sp.length ≤ 6) (hv6 : vp.length ≤ 6) (hsp : ∀ u ∈ sp, tx_L u ∧ u.length ≤ 6 ∧ (sts ps (ps k).2.1).1 (tx_num u) = true ∧ (sem_sh (pgo ps) (ps k).2.1 u).length ≤ 6) (hvp : ∀ u ∈ vp, tx_L u ∧ u.length ≤ 6 ∧ (sts ps (ps k).2.1).2 (tx_num u) = true) (rs : ∀ i, i < sp.length → M.1 (p + 5) (i : Int) = ((tx_num sp[i]! : Nat) : Int)) (rv : ∀ i, i < vp.length → M.1 (p + 7) (i : Int) = ((tx_num vp[i]! : Nat) : Int)) (hvc : M.1 p 13 = (vp.length : Int)) : ab_Z (pg_G L xs) (D + 6) 85 [.ref p, zi (sp.length : Nat), zi (deep : Nat)] M es (fun v M' => v = none ∧ F6 p M M' ∧ ∀ i, i < vp.length → M'.1 (p + 8) (i : Int) = oz (org true (sp.map (fun u => tx_num (sem_ky (pgo ps) (ps k).2.1 (sem_sh (pgo ps) (ps k).2.1 u)))) (vp.map (fun u => tx_num (sem_ky (pgo ps) (ps k).2.1 u))) i)) := by
  show ab_W (pg_G L xs) (ab_X (pg_G L xs) (D + 5)) 85 _ 0 [some (.ref p), some (zi ((sp.length : Nat) : Int)), some (zi ((deep : Nat) : Int)), none] [] (hp M ++ es)
  refine x_cst (zi 0) 1 1 rfl rfl rfl ?_
  refine x_st 3 1 0 2 [some (.ref p), some (zi ((sp.length : Nat) : Int)), some (zi ((deep : Nat) : Int)), some (zi 0)] rfl rfl rfl (Nat.le_of_ble_eq_true rfl) rfl rfl ?_
  have q0 := c85_one (L := L) (xs := xs) (es := es) hc hk hK ep eq' hd D hD hs6 hv6 hsp hvp rs rv hvc (Q := fun r h' => ∃ v M', r = .inl v ∧ h' = hp M' ++ es ∧ v = none ∧ F6 p M M' ∧ ∀ i, i < vp.length → M'.1 (p + 8) (i : Int) = oz (org true (sp.map (fun u => tx_num (sem_ky (pgo ps) (ps k).2.1 (sem_sh (pgo ps) (ps k).2.1 u)))) (vp.map (fun u => tx_num (sem_ky (pgo ps) (ps k).2.1 u))) i)) ?_ _ 0 rfl (Nat.zero_le _)
  · rw [List.take_zero, lsR_nil, rI_self] at q0; exact q0
  · refine x_cst (zi 0) 1 46 rfl rfl rfl ?_
    refine x_st 3 1 0 47 [some (.ref p), some (zi (sp.length : Nat)), some (zi (deep : Nat)), some (zi ((0 : Nat) : Int))] rfl rfl rfl (Nat.le_of_ble_eq_true rfl) rfl rfl ?_
    exact c85_two hc hk hK ep eq' hd D hD hs6 hv6 hsp hvp rs rv hvc (fun M' a b => ⟨none, M', rfl, rfl, rfl, a, b⟩) _ 0 rfl (Nat.zero_le _) _ ⟨fun a h1 _ => rI_ne h1, rfl⟩ (by rw [rI_at, List.take_zero, lfI_nil]) (fun j hj => absurd hj (Nat.not_lt_zero j))
end C14
