/-! OURS, printed by wip/tools/gen92.py: the reference lays joined and repeated sets. -/
def Fm (a k : Nat) (M M' : mm) : Prop := (∀ b, b ≠ 589 → M'.1 b = M.1 b) ∧ M'.2.2 = M.2.2 ∧ (∀ b, b ≠ a → M'.2.1 b = M.2.1 b) ∧ (∀ j : Int, (j < 1152 * (k : Int) ∨ 1152 * (k : Int) + 1152 ≤ j) → M'.2.1 a j = M.2.1 a j)
theorem Fm_refl (a k : Nat) (M : mm) : Fm a k M M := ⟨fun _ _ => rfl, rfl, fun _ _ => rfl, fun _ _ => rfl⟩
theorem Fm_trans {a k : Nat} {M M' M'' : mm} (h : Fm a k M M') (g : Fm a k M' M'') : Fm a k M M'' := ⟨fun b hb => (g.1 b hb).trans (h.1 b hb), g.2.1.trans h.2.1, fun b hb => (g.2.2.1 b hb).trans (h.2.2.1 b hb), fun j hj => (g.2.2.2 j hj).trans (h.2.2.2 j hj)⟩
theorem Fm_add {a k t : Nat} (M : mm) (ht : t < 1152) : Fm a k M (rB M a (adB (M.2.1 a) (1152 * (k : Int) + (t : Int)))) := by
  refine ⟨fun _ _ => rfl, rfl, fun b hb => rB_ne hb, fun j hj => ?_⟩
  rw [rB_at]
  unfold adB
  rw [decide_eq_false (by omega), Bool.or_false]
theorem Fm_ag {a k f : Nat} {M M' : mm} (h : Fm a k M M') (hf : f ≠ k) : ag (mS (M'.2.1 a) f) (mS (M.2.1 a) f) := by
  intro t ht
  show M'.2.1 a (1152 * (f : Int) + (t : Int)) = _
  exact h.2.2.2 _ (by omega)
/-- bits of a part below t -/
def bS (a k t : Nat) (M : mm) (R : Nat → Prop) : Prop := ∀ u : Nat, u < 1152 → (M.2.1 a (1152 * (k : Int) + (u : Int)) = true ↔ u < t ∧ R u)
theorem bS_add {a k t : Nat} {M : mm} {R : Nat → Prop} (h : bS a k t M R) (hR : R t) : bS a k (t + 1) (rB M a (adB (M.2.1 a) (1152 * (k : Int) + (t : Int)))) R := by
  intro u hu
  rw [rB_at]
  unfold adB
  rw [Bool.or_eq_true, decide_eq_true_eq, h u hu]
  constructor
  · rintro (⟨e1, e2⟩ | e)
    · exact ⟨by omega, e2⟩
    · have : u = t := by omega
      subst this; exact ⟨by omega, hR⟩
  · rintro ⟨e1, e2⟩
    rcases Nat.eq_or_lt_of_le (Nat.le_of_lt_succ e1) with e | e
    · exact .inr (by omega)
    · exact .inl ⟨e, e2⟩
theorem bS_no {a k t : Nat} {M : mm} {R : Nat → Prop} (h : bS a k t M R) (hR : ¬ R t) : bS a k (t + 1) M R := by
  intro u hu
  rw [h u hu]
  constructor
  · rintro ⟨e1, e2⟩; exact ⟨by omega, e2⟩
  · rintro ⟨e1, e2⟩
    rcases Nat.eq_or_lt_of_le (Nat.le_of_lt_succ e1) with e | e
    · subst e; exact absurd e2 hR
    · exact ⟨e, e2⟩
theorem lst_step {D : Nat → Prop} {t : Nat} {x : Int} (h : lst (fun u => u < t ∧ D u) x) : lst (fun u => u < t + 1 ∧ D u) (if x < 0 then (if dcd (D t) = true then (t : Int) else x) else x) := by
  rcases h with ⟨e1, e2⟩ | ⟨u, e1, e2, e3⟩
  · rw [if_pos (by omega)]
    by_cases hd : D t
    · rw [if_pos (dcd_iff.mpr hd)]
      exact .inr ⟨t, rfl, ⟨by omega, hd⟩, fun s hs e => e2 s ⟨hs, e.2⟩⟩
    · rw [if_neg (fun e => hd (dcd_iff.mp e))]
      refine .inl ⟨e1, fun s e => ?_⟩
      rcases Nat.eq_or_lt_of_le (Nat.le_of_lt_succ e.1) with q | q
      · subst q; exact hd e.2
      · exact e2 s ⟨q, e.2⟩
  · rw [if_neg (by omega)]
    exact .inr ⟨u, e1, ⟨by have := e2.1; omega, e2.2⟩, fun s hs e => e3 s hs ⟨by have := e2.1; omega, e.2⟩⟩
theorem lst_end {D : Nat → Prop} {n : Nat} {x : Int} (h : lst (fun u => u < n ∧ D u) x) (hn : ∀ u, D u → u < n) : lst D x := lst_congr (fun u => ⟨fun e => e.2, fun e => ⟨hn u e, e⟩⟩) h
section D2
variable {L : Nat} {xs : Nat → Int32} {M : mm} {es : ab_H}
theorem c128_in (d : Nat) {a N k f g : Nat} (h : isL a N) (hk : 18 * k + 18 ≤ N) (hf : 18 * f + 18 ≤ N) (hg : 18 * g + 18 ≤ N) {t : Nat} (ht : t < 1093) {x : Int} {Q : ab_Q} (kk : ab_W (pg_G L xs) (ab_X (pg_G L xs) (d + 2)) 128 Q 81 [some (.ref 572), some (.ref a), some (zi (k : Nat)), some (zi (f : Nat)), some (zi (g : Nat)), some (zi x), some (zi (t : Nat)), some (zi ((cnt (cp (mS (M.2.1 a) f) (mS (M.2.1 a) g) (tx_let t)) ((tx_let t).length + 1) : Nat) : Int)), some (zi (((tx_let t).length + 1 : Nat) : Int))] [] (hp M ++ es)) : ∀ m i : Nat, (tx_let t).length + 1 - i = m → i ≤ (tx_let t).length + 1 → ab_W (pg_G L xs) (ab_X (pg_G L xs) (d + 2)) 128 Q 20 [some (.ref 572), some (.ref a), some (zi (k : Nat)), some (zi (f : Nat)), some (zi (g : Nat)), some (zi x), some (zi (t : Nat)), some (zi (((cnt (cp (mS (M.2.1 a) f) (mS (M.2.1 a) g) (tx_let t)) i) : Nat) : Int)), some (zi (i : Nat))] [] (hp M ++ es) := by
  have h6 := (tx_let_len t 6).mpr (by rw [tx_st_7]; exact ht)
  have hN := h.2.1
  intro m
  induction m using Nat.strongRecOn with
  | _ m ih =>
    intro i hm hi
    refine x_ld 8 2 0 22 rfl rfl rfl rfl rfl ?_
    refine x_ld 0 1 2 23 rfl rfl rfl rfl rfl ?_
    refine x_ld 6 2 0 25 rfl rfl rfl rfl rfl ?_
    refine x_cv 221 125 28 [.ref 572, zi ((t : Nat) : Int)] rfl rfl rfl (Nat.le_of_ble_eq_true rfl) rfl rfl (Nat.le_of_ble_eq_true rfl) ⟨_, _, _, rfl, o_572⟩ (Nat.le_of_ble_eq_true rfl) (by have q := c125 (L := L) (xs := xs) (es := es) (M := M) (d + 1) (w := tx_let t) (tx_let_L t) h6; rw [tx_num_let] at q; exact q) rfl ?_
    refine z_icgt 81 31 rfl rfl rfl ⟨by omega, by omega⟩ ⟨by omega, by omega⟩ (fun c28 => ?_) (fun c28 => ?_)
    · have e : i = (tx_let t).length + 1 := by omega
      subst e; exact kk
    · have l1 := num_lt (tx_L_take (tx_let_L t) i) (by rw [List.length_take]; omega)
      have l2 := num_lt (tx_L_drop (tx_let_L t) i) (by rw [List.length_drop]; omega)
      refine x_ld 1 1 2 32 rfl rfl rfl rfl rfl ?_
      refine x_ld 3 1 0 33 rfl rfl rfl rfl rfl ?_
      refine x_ld 0 1 2 34 rfl rfl rfl rfl rfl ?_
      refine x_ld 6 2 0 36 rfl rfl rfl rfl rfl ?_
      refine x_ld 8 2 0 38 rfl rfl rfl rfl rfl ?_
      refine x_cv 224 126 41 [.ref 572, zi ((t : Nat) : Int), zi ((i : Nat) : Int)] rfl rfl rfl (Nat.le_of_ble_eq_true rfl) rfl rfl (Nat.le_of_ble_eq_true rfl) ⟨_, _, _, rfl, o_572⟩ (Nat.le_of_ble_eq_true rfl) (by have q := c126 (L := L) (xs := xs) (es := es) (M := M) d (w := tx_let t) (tx_let_L t) h6 (i := i) (by omega); rw [tx_num_let] at q; exact q) rfl ?_
      refine x_cv 228 123 44 [.ref a, zi ((f : Nat) : Int), zi ((tx_num ((tx_let t).take i) : Nat) : Int)] rfl rfl rfl (Nat.le_of_ble_eq_true rfl) rfl rfl (Nat.le_of_ble_eq_true rfl) trivial (Nat.le_of_ble_eq_true rfl) (c123 (d + 1) h (k := f) (t := (tx_num ((tx_let t).take i))) (by omega) hf) rfl ?_
      rcases Bool.eq_false_or_eq_true (M.2.1 a (1152 * ((f : Nat) : Int) + (((tx_num ((tx_let t).take i)) : Nat) : Int))) with hb1 | hb1
      · rw [hb1]
        refine z_ifeq 71 47 rfl rfl rfl (rg_lit 1 rfl) (fun c => absurd c (by decide)) (fun _ => ?_)
        refine x_ld 1 1 2 48 rfl rfl rfl rfl rfl ?_
        refine x_ld 4 2 0 50 rfl rfl rfl rfl rfl ?_
        refine x_ld 0 1 2 51 rfl rfl rfl rfl rfl ?_
        refine x_ld 6 2 0 53 rfl rfl rfl rfl rfl ?_
        refine x_ld 8 2 0 55 rfl rfl rfl rfl rfl ?_
        refine x_cv 232 127 58 [.ref 572, zi ((t : Nat) : Int), zi ((i : Nat) : Int)] rfl rfl rfl (Nat.le_of_ble_eq_true rfl) rfl rfl (Nat.le_of_ble_eq_true rfl) ⟨_, _, _, rfl, o_572⟩ (Nat.le_of_ble_eq_true rfl) (by have q := c127 (L := L) (xs := xs) (es := es) (M := M) d (w := tx_let t) (tx_let_L t) h6 (i := i) (by omega); rw [tx_num_let] at q; exact q) rfl ?_
        refine x_cv 228 123 61 [.ref a, zi ((g : Nat) : Int), zi ((tx_num ((tx_let t).drop i) : Nat) : Int)] rfl rfl rfl (Nat.le_of_ble_eq_true rfl) rfl rfl (Nat.le_of_ble_eq_true rfl) trivial (Nat.le_of_ble_eq_true rfl) (c123 (d + 1) h (k := g) (t := (tx_num ((tx_let t).drop i))) (by omega) hg) rfl ?_
        rcases Bool.eq_false_or_eq_true (M.2.1 a (1152 * ((g : Nat) : Int) + (((tx_num ((tx_let t).drop i)) : Nat) : Int))) with hb2 | hb2
        · rw [hb2]
          refine z_ifeq 71 64 rfl rfl rfl (rg_lit 1 rfl) (fun c => absurd c (by decide)) (fun _ => ?_)
          refine x_ld 7 2 0 66 rfl rfl rfl rfl rfl ?_
          refine x_cst (zi 1) 1 67 rfl rfl rfl ?_
          refine z_add 68 rfl rfl ?_
          refine x_go 73 rfl rfl ?_
          refine x_st 7 2 0 75 [some (.ref 572), some (.ref a), some (zi ((k : Nat) : Int)), some (zi ((f : Nat) : Int)), some (zi ((g : Nat) : Int)), some (zi x), some (zi ((t : Nat) : Int)), some (zi ((((cnt (cp (mS (M.2.1 a) f) (mS (M.2.1 a) g) (tx_let t)) i) : Nat) : Int) + 1)), some (zi ((i : Nat) : Int))] rfl rfl rfl (Nat.le_of_ble_eq_true rfl) rfl rfl ?_
          refine z_inc 8 78 [some (.ref 572), some (.ref a), some (zi ((k : Nat) : Int)), some (zi ((f : Nat) : Int)), some (zi ((g : Nat) : Int)), some (zi x), some (zi ((t : Nat) : Int)), some (zi ((((cnt (cp (mS (M.2.1 a) f) (mS (M.2.1 a) g) (tx_let t)) i) : Nat) : Int) + 1)), some (zi (((i : Nat) : Int) + 1))] rfl rfl (Nat.le_of_ble_eq_true rfl) rfl rfl ?_
          refine x_go 20 rfl rfl ?_
          have hcp : cp (mS (M.2.1 a) f) (mS (M.2.1 a) g) (tx_let t) i = true := by unfold cp; show (M.2.1 a _ && M.2.1 a _) = _; first | (rw [hb1]; rfl) | (rw [hb1, hb2]; rfl)
          have hcn : cnt (cp (mS (M.2.1 a) f) (mS (M.2.1 a) g) (tx_let t)) (i + 1) = (cnt (cp (mS (M.2.1 a) f) (mS (M.2.1 a) g) (tx_let t)) i) + 1 := by simp only [cnt]; rw [hcp]; rfl
          rw [show (((cnt (cp (mS (M.2.1 a) f) (mS (M.2.1 a) g) (tx_let t)) i) : Nat) : Int) + 1 = ((cnt (cp (mS (M.2.1 a) f) (mS (M.2.1 a) g) (tx_let t)) (i + 1) : Nat) : Int) by rw [hcn]; rfl]
          exact ih ((tx_let t).length + 1 - (i + 1)) (by omega) (i + 1) rfl (by omega)
        · rw [hb2]
          refine z_ifeq 71 64 rfl rfl rfl (rg_lit 0 rfl) (fun _ => ?_) (fun c => absurd c (by decide))
          refine x_ld 7 2 0 73 rfl rfl rfl rfl rfl ?_
          refine x_st 7 2 0 75 [some (.ref 572), some (.ref a), some (zi ((k : Nat) : Int)), some (zi ((f : Nat) : Int)), some (zi ((g : Nat) : Int)), some (zi x), some (zi ((t : Nat) : Int)), some (zi (((cnt (cp (mS (M.2.1 a) f) (mS (M.2.1 a) g) (tx_let t)) i) : Nat) : Int)), some (zi ((i : Nat) : Int))] rfl rfl rfl (Nat.le_of_ble_eq_true rfl) rfl rfl ?_
          refine z_inc 8 78 [some (.ref 572), some (.ref a), some (zi ((k : Nat) : Int)), some (zi ((f : Nat) : Int)), some (zi ((g : Nat) : Int)), some (zi x), some (zi ((t : Nat) : Int)), some (zi (((cnt (cp (mS (M.2.1 a) f) (mS (M.2.1 a) g) (tx_let t)) i) : Nat) : Int)), some (zi (((i : Nat) : Int) + 1))] rfl rfl (Nat.le_of_ble_eq_true rfl) rfl rfl ?_
          refine x_go 20 rfl rfl ?_
          have hcp : cp (mS (M.2.1 a) f) (mS (M.2.1 a) g) (tx_let t) i = false := by unfold cp; show (M.2.1 a _ && M.2.1 a _) = _; first | (rw [hb1]; rfl) | (rw [hb1, hb2]; rfl)
          have hcn : cnt (cp (mS (M.2.1 a) f) (mS (M.2.1 a) g) (tx_let t)) (i + 1) = (cnt (cp (mS (M.2.1 a) f) (mS (M.2.1 a) g) (tx_let t)) i) + 0 := by simp only [cnt]; rw [hcp]; rfl
          rw [show (((cnt (cp (mS (M.2.1 a) f) (mS (M.2.1 a) g) (tx_let t)) i) : Nat) : Int) = ((cnt (cp (mS (M.2.1 a) f) (mS (M.2.1 a) g) (tx_let t)) (i + 1) : Nat) : Int) by rw [hcn]; rfl]
          exact ih ((tx_let t).length + 1 - (i + 1)) (by omega) (i + 1) rfl (by omega)
      · rw [hb1]
        refine z_ifeq 71 47 rfl rfl rfl (rg_lit 0 rfl) (fun _ => ?_) (fun c => absurd c (by decide))
        refine x_ld 7 2 0 73 rfl rfl rfl rfl rfl ?_
        refine x_st 7 2 0 75 [some (.ref 572), some (.ref a), some (zi ((k : Nat) : Int)), some (zi ((f : Nat) : Int)), some (zi ((g : Nat) : Int)), some (zi x), some (zi ((t : Nat) : Int)), some (zi (((cnt (cp (mS (M.2.1 a) f) (mS (M.2.1 a) g) (tx_let t)) i) : Nat) : Int)), some (zi ((i : Nat) : Int))] rfl rfl rfl (Nat.le_of_ble_eq_true rfl) rfl rfl ?_
        refine z_inc 8 78 [some (.ref 572), some (.ref a), some (zi ((k : Nat) : Int)), some (zi ((f : Nat) : Int)), some (zi ((g : Nat) : Int)), some (zi x), some (zi ((t : Nat) : Int)), some (zi (((cnt (cp (mS (M.2.1 a) f) (mS (M.2.1 a) g) (tx_let t)) i) : Nat) : Int)), some (zi (((i : Nat) : Int) + 1))] rfl rfl (Nat.le_of_ble_eq_true rfl) rfl rfl ?_
        refine x_go 20 rfl rfl ?_
        have hcp : cp (mS (M.2.1 a) f) (mS (M.2.1 a) g) (tx_let t) i = false := by unfold cp; show (M.2.1 a _ && M.2.1 a _) = _; first | (rw [hb1]; rfl) | (rw [hb1, hb2]; rfl)
        have hcn : cnt (cp (mS (M.2.1 a) f) (mS (M.2.1 a) g) (tx_let t)) (i + 1) = (cnt (cp (mS (M.2.1 a) f) (mS (M.2.1 a) g) (tx_let t)) i) + 0 := by simp only [cnt]; rw [hcp]; rfl
        rw [show (((cnt (cp (mS (M.2.1 a) f) (mS (M.2.1 a) g) (tx_let t)) i) : Nat) : Int) = ((cnt (cp (mS (M.2.1 a) f) (mS (M.2.1 a) g) (tx_let t)) (i + 1) : Nat) : Int) by rw [hcn]; rfl]
        exact ih ((tx_let t).length + 1 - (i + 1)) (by omega) (i + 1) rfl (by omega)
theorem c128_out (d : Nat) {a N k f g : Nat} (h : isL a N) (hk : 18 * k + 18 ≤ N) (hf : 18 * f + 18 ≤ N) (hg : 18 * g + 18 ≤ N) (fk : f ≠ k) (gk : g ≠ k) {Q : ab_Q} (kk : ∀ x M', Fm a k M M' → M'.1 589 = M.1 589 → bS a k 1093 M' (jn (mS (M.2.1 a) f) (mS (M.2.1 a) g)) → lst (fun u => u < 1093 ∧ jn2 (mS (M.2.1 a) f) (mS (M.2.1 a) g) u) x → Q (.inl (some (zi x))) (hp M' ++ es)) : ∀ m t : Nat, 1093 - t = m → t ≤ 1093 → ∀ M' x, Fm a k M M' → M'.1 589 = M.1 589 → bS a k t M' (jn (mS (M.2.1 a) f) (mS (M.2.1 a) g)) → lst (fun u => u < t ∧ jn2 (mS (M.2.1 a) f) (mS (M.2.1 a) g) u) x → ∀ o7 o8, ab_W (pg_G L xs) (ab_X (pg_G L xs) (d + 2)) 128 Q 6 [some (.ref 572), some (.ref a), some (zi (k : Nat)), some (zi (f : Nat)), some (zi (g : Nat)), some (zi x), some (zi (t : Nat)), o7, o8] [] (hp M' ++ es) := by
  have hN := h.2.1
  intro m
  induction m using Nat.strongRecOn with
  | _ m ih =>
    intro t hm ht M' x hF h9 hS hx o7 o8
    have hxr : -1 ≤ x ∧ x < 1093 := by
      rcases hx with ⟨e, _⟩ | ⟨u, e, e2, _⟩
      · omega
      · have := e2.1; omega
    refine x_ld 6 2 0 8 rfl rfl rfl rfl rfl ?_
    refine x_cst (zi 1093) 3 11 rfl rfl rfl ?_
    refine z_icge 119 14 rfl rfl rfl ⟨by omega, by omega⟩ (rg_lit 1093 rfl) (fun c11 => ?_) (fun c11 => ?_)
    · refine x_ld 5 2 0 121 rfl rfl rfl rfl rfl ?_
      refine x_ret rfl rfl rfl rfl ?_
      have e : t = 1093 := by omega
      subst e; exact kk x M' hF h9 hS hx
    · refine x_cst (zi 0) 1 15 rfl rfl rfl ?_
      refine x_st 7 2 0 17 [some (.ref 572), some (.ref a), some (zi ((k : Nat) : Int)), some (zi ((f : Nat) : Int)), some (zi ((g : Nat) : Int)), some (zi x), some (zi ((t : Nat) : Int)), some (zi 0), o8] rfl rfl rfl (Nat.le_of_ble_eq_true rfl) rfl rfl ?_
      refine x_cst (zi 0) 1 18 rfl rfl rfl ?_
      refine x_st 8 2 0 20 [some (.ref 572), some (.ref a), some (zi ((k : Nat) : Int)), some (zi ((f : Nat) : Int)), some (zi ((g : Nat) : Int)), some (zi x), some (zi ((t : Nat) : Int)), some (zi 0), some (zi 0)] rfl rfl rfl (Nat.le_of_ble_eq_true rfl) rfl rfl ?_
      refine c128_in (M := M') d h hk hf hg (t := t) (by omega) ?_ _ 0 rfl (Nat.zero_le _)
      have h6 := (tx_let_len t 6).mpr (by rw [tx_st_7]; omega)
      have e0 : (cnt (cp (mS (M'.2.1 a) f) (mS (M'.2.1 a) g) (tx_let t)) ((tx_let t).length + 1)) = cnt (cp (mS (M.2.1 a) f) (mS (M.2.1 a) g) (tx_let t)) ((tx_let t).length + 1) := by
        congr 1
        funext i
        exact cp_agw (Fm_ag hF fk) (Fm_ag hF gk) (tx_let_L t) h6 i
      have p1 : 0 < (cnt (cp (mS (M'.2.1 a) f) (mS (M'.2.1 a) g) (tx_let t)) ((tx_let t).length + 1)) ↔ jn (mS (M.2.1 a) f) (mS (M.2.1 a) g) t := by
        rw [e0, cnt_pos]
        exact ⟨fun ⟨i, a1, a2⟩ => ⟨by omega, i, by omega, a2⟩, fun ⟨_, i, a1, a2⟩ => ⟨i, by omega, a2⟩⟩
      have p2 : 1 < (cnt (cp (mS (M'.2.1 a) f) (mS (M'.2.1 a) g) (tx_let t)) ((tx_let t).length + 1)) ↔ jn2 (mS (M.2.1 a) f) (mS (M.2.1 a) g) t := by
        rw [e0, cnt_two]
        exact ⟨fun ⟨i, j, a1, a2, a3, a4⟩ => ⟨by omega, i, j, a1, by omega, a3, a4⟩, fun ⟨_, i, j, a1, a2, a3, a4⟩ => ⟨i, j, a1, by omega, a3, a4⟩⟩
      have hnb : (cnt (cp (mS (M'.2.1 a) f) (mS (M'.2.1 a) g) (tx_let t)) ((tx_let t).length + 1)) ≤ 8 := by
        have hcl : ∀ m, cnt (cp (mS (M'.2.1 a) f) (mS (M'.2.1 a) g) (tx_let t)) m ≤ m := fun m => by
          induction m with
          | zero => exact Nat.le_refl _
          | succ m im => simp only [cnt]; have := Bool.toNat_lt (cp (mS (M'.2.1 a) f) (mS (M'.2.1 a) g) (tx_let t) m); omega
        have := hcl ((tx_let t).length + 1)
        omega
      have hst := lst_step hx
      generalize hNN : (cnt (cp (mS (M'.2.1 a) f) (mS (M'.2.1 a) g) (tx_let t)) ((tx_let t).length + 1)) = nn at *
      refine x_ld 7 2 0 83 rfl rfl rfl rfl rfl ?_
      refine z_ifle 93 86 rfl rfl rfl ⟨by omega, by omega⟩ (fun c83 => ?_) (fun c83 => ?_)
      · refine x_ld 7 2 0 95 rfl rfl rfl rfl rfl ?_
        refine x_cst (zi 1) 1 96 rfl rfl rfl ?_
        refine z_icle 109 99 rfl rfl rfl ⟨by omega, by omega⟩ (rg_lit 1 rfl) (fun c96 => ?_) (fun c96 => ?_)
        · refine x_ld 5 2 0 111 rfl rfl rfl rfl rfl ?_
          refine x_st 5 2 0 113 [some (.ref 572), some (.ref a), some (zi ((k : Nat) : Int)), some (zi ((f : Nat) : Int)), some (zi ((g : Nat) : Int)), some (zi x), some (zi ((t : Nat) : Int)), some (zi ((nn : Nat) : Int)), some (zi (((tx_let t).length + 1 : Nat) : Int))] rfl rfl rfl (Nat.le_of_ble_eq_true rfl) rfl rfl ?_
          refine z_inc 6 116 [some (.ref 572), some (.ref a), some (zi ((k : Nat) : Int)), some (zi ((f : Nat) : Int)), some (zi ((g : Nat) : Int)), some (zi x), some (zi (((t : Nat) : Int) + 1)), some (zi ((nn : Nat) : Int)), some (zi (((tx_let t).length + 1 : Nat) : Int))] rfl rfl (Nat.le_of_ble_eq_true rfl) rfl rfl ?_
          refine x_go 6 rfl rfl ?_
          exact ih (1093 - (t + 1)) (by omega) (t + 1) rfl (by omega) _ _ hF h9 (bS_no hS (fun e => by have := p1.mpr e; omega)) (by by_cases q : x < 0; (· rw [if_pos q, if_neg (fun e => by have := p2.mpr (dcd_iff.mp e); omega)] at hst; exact hst); (· rw [if_neg q] at hst; exact hst)) _ _
        · refine x_ld 5 2 0 101 rfl rfl rfl rfl rfl ?_
          refine z_ifge 109 104 rfl rfl rfl ⟨by omega, by omega⟩ (fun c101 => ?_) (fun c101 => ?_)
          · refine x_ld 5 2 0 111 rfl rfl rfl rfl rfl ?_
            refine x_st 5 2 0 113 [some (.ref 572), some (.ref a), some (zi ((k : Nat) : Int)), some (zi ((f : Nat) : Int)), some (zi ((g : Nat) : Int)), some (zi x), some (zi ((t : Nat) : Int)), some (zi ((nn : Nat) : Int)), some (zi (((tx_let t).length + 1 : Nat) : Int))] rfl rfl rfl (Nat.le_of_ble_eq_true rfl) rfl rfl ?_
            refine z_inc 6 116 [some (.ref 572), some (.ref a), some (zi ((k : Nat) : Int)), some (zi ((f : Nat) : Int)), some (zi ((g : Nat) : Int)), some (zi x), some (zi (((t : Nat) : Int) + 1)), some (zi ((nn : Nat) : Int)), some (zi (((tx_let t).length + 1 : Nat) : Int))] rfl rfl (Nat.le_of_ble_eq_true rfl) rfl rfl ?_
            refine x_go 6 rfl rfl ?_
            exact ih (1093 - (t + 1)) (by omega) (t + 1) rfl (by omega) _ _ hF h9 (bS_no hS (fun e => by have := p1.mpr e; omega)) (by rw [if_neg (by omega)] at hst; exact hst) _ _
          · refine x_ld 6 2 0 106 rfl rfl rfl rfl rfl ?_
            refine x_go 111 rfl rfl ?_
            refine x_st 5 2 0 113 [some (.ref 572), some (.ref a), some (zi ((k : Nat) : Int)), some (zi ((f : Nat) : Int)), some (zi ((g : Nat) : Int)), some (zi ((t : Nat) : Int)), some (zi ((t : Nat) : Int)), some (zi ((nn : Nat) : Int)), some (zi (((tx_let t).length + 1 : Nat) : Int))] rfl rfl rfl (Nat.le_of_ble_eq_true rfl) rfl rfl ?_
            refine z_inc 6 116 [some (.ref 572), some (.ref a), some (zi ((k : Nat) : Int)), some (zi ((f : Nat) : Int)), some (zi ((g : Nat) : Int)), some (zi ((t : Nat) : Int)), some (zi (((t : Nat) : Int) + 1)), some (zi ((nn : Nat) : Int)), some (zi (((tx_let t).length + 1 : Nat) : Int))] rfl rfl (Nat.le_of_ble_eq_true rfl) rfl rfl ?_
            refine x_go 6 rfl rfl ?_
            exact ih (1093 - (t + 1)) (by omega) (t + 1) rfl (by omega) _ _ hF h9 (bS_no hS (fun e => by have := p1.mpr e; omega)) (by rw [if_pos (by omega), if_pos (dcd_iff.mpr (p2.mp (by omega)))] at hst; exact hst) _ _
      · refine x_ld 1 1 2 87 rfl rfl rfl rfl rfl ?_
        refine x_ld 2 1 0 88 rfl rfl rfl rfl rfl ?_
        refine x_ld 6 2 0 90 rfl rfl rfl rfl rfl ?_
        refine x_cv 235 121 93 [.ref a, zi ((k : Nat) : Int), zi ((t : Nat) : Int)] rfl rfl rfl (Nat.le_of_ble_eq_true rfl) rfl rfl (Nat.le_of_ble_eq_true rfl) trivial (Nat.le_of_ble_eq_true rfl) (c121 (M := M') (d + 1) h (k := k) (t := t) (by omega) hk) rfl ?_
        refine x_ld 7 2 0 95 rfl rfl rfl rfl rfl ?_
        refine x_cst (zi 1) 1 96 rfl rfl rfl ?_
        refine z_icle 109 99 rfl rfl rfl ⟨by omega, by omega⟩ (rg_lit 1 rfl) (fun c96 => ?_) (fun c96 => ?_)
        · refine x_ld 5 2 0 111 rfl rfl rfl rfl rfl ?_
          refine x_st 5 2 0 113 [some (.ref 572), some (.ref a), some (zi ((k : Nat) : Int)), some (zi ((f : Nat) : Int)), some (zi ((g : Nat) : Int)), some (zi x), some (zi ((t : Nat) : Int)), some (zi ((nn : Nat) : Int)), some (zi (((tx_let t).length + 1 : Nat) : Int))] rfl rfl rfl (Nat.le_of_ble_eq_true rfl) rfl rfl ?_
          refine z_inc 6 116 [some (.ref 572), some (.ref a), some (zi ((k : Nat) : Int)), some (zi ((f : Nat) : Int)), some (zi ((g : Nat) : Int)), some (zi x), some (zi (((t : Nat) : Int) + 1)), some (zi ((nn : Nat) : Int)), some (zi (((tx_let t).length + 1 : Nat) : Int))] rfl rfl (Nat.le_of_ble_eq_true rfl) rfl rfl ?_
          refine x_go 6 rfl rfl ?_
          exact ih (1093 - (t + 1)) (by omega) (t + 1) rfl (by omega) _ _ (Fm_trans hF (Fm_add M' (by omega))) h9 (bS_add hS (p1.mp (by omega))) (by by_cases q : x < 0; (· rw [if_pos q, if_neg (fun e => by have := p2.mpr (dcd_iff.mp e); omega)] at hst; exact hst); (· rw [if_neg q] at hst; exact hst)) _ _
        · refine x_ld 5 2 0 101 rfl rfl rfl rfl rfl ?_
          refine z_ifge 109 104 rfl rfl rfl ⟨by omega, by omega⟩ (fun c101 => ?_) (fun c101 => ?_)
          · refine x_ld 5 2 0 111 rfl rfl rfl rfl rfl ?_
            refine x_st 5 2 0 113 [some (.ref 572), some (.ref a), some (zi ((k : Nat) : Int)), some (zi ((f : Nat) : Int)), some (zi ((g : Nat) : Int)), some (zi x), some (zi ((t : Nat) : Int)), some (zi ((nn : Nat) : Int)), some (zi (((tx_let t).length + 1 : Nat) : Int))] rfl rfl rfl (Nat.le_of_ble_eq_true rfl) rfl rfl ?_
            refine z_inc 6 116 [some (.ref 572), some (.ref a), some (zi ((k : Nat) : Int)), some (zi ((f : Nat) : Int)), some (zi ((g : Nat) : Int)), some (zi x), some (zi (((t : Nat) : Int) + 1)), some (zi ((nn : Nat) : Int)), some (zi (((tx_let t).length + 1 : Nat) : Int))] rfl rfl (Nat.le_of_ble_eq_true rfl) rfl rfl ?_
            refine x_go 6 rfl rfl ?_
            exact ih (1093 - (t + 1)) (by omega) (t + 1) rfl (by omega) _ _ (Fm_trans hF (Fm_add M' (by omega))) h9 (bS_add hS (p1.mp (by omega))) (by rw [if_neg (by omega)] at hst; exact hst) _ _
          · refine x_ld 6 2 0 106 rfl rfl rfl rfl rfl ?_
            refine x_go 111 rfl rfl ?_
            refine x_st 5 2 0 113 [some (.ref 572), some (.ref a), some (zi ((k : Nat) : Int)), some (zi ((f : Nat) : Int)), some (zi ((g : Nat) : Int)), some (zi ((t : Nat) : Int)), some (zi ((t : Nat) : Int)), some (zi ((nn : Nat) : Int)), some (zi (((tx_let t).length + 1 : Nat) : Int))] rfl rfl rfl (Nat.le_of_ble_eq_true rfl) rfl rfl ?_
            refine z_inc 6 116 [some (.ref 572), some (.ref a), some (zi ((k : Nat) : Int)), some (zi ((f : Nat) : Int)), some (zi ((g : Nat) : Int)), some (zi ((t : Nat) : Int)), some (zi (((t : Nat) : Int) + 1)), some (zi ((nn : Nat) : Int)), some (zi (((tx_let t).length + 1 : Nat) : Int))] rfl rfl (Nat.le_of_ble_eq_true rfl) rfl rfl ?_
            refine x_go 6 rfl rfl ?_
            exact ih (1093 - (t + 1)) (by omega) (t + 1) rfl (by omega) _ _ (Fm_trans hF (Fm_add M' (by omega))) h9 (bS_add hS (p1.mp (by omega))) (by rw [if_pos (by omega), if_pos (dcd_iff.mpr (p2.mp (by omega)))] at hst; exact hst) _ _
theorem c128 (d : Nat) {a N k f g : Nat} (h : isL a N) (hk : 18 * k + 18 ≤ N) (hf : 18 * f + 18 ≤ N) (hg : 18 * g + 18 ≤ N) (fk : f ≠ k) (gk : g ≠ k) (hcl : ∀ u : Nat, u < 1152 → M.2.1 a (1152 * (k : Int) + (u : Int)) = false) : ab_Z (pg_G L xs) (d + 3) 128 [.ref 572, .ref a, zi (k : Nat), zi (f : Nat), zi (g : Nat)] M es (fun v M' => ∃ x, v = some (zi x) ∧ Fm a k M M' ∧ lst (jn2 (mS (M.2.1 a) f) (mS (M.2.1 a) g)) x ∧ ∀ u : Nat, u < 1152 → (M'.2.1 a (1152 * (k : Int) + (u : Int)) = true ↔ jn (mS (M.2.1 a) f) (mS (M.2.1 a) g) u)) := by
  show ab_W (pg_G L xs) (ab_X (pg_G L xs) (d + 2)) 128 _ 0 [some (.ref 572), some (.ref a), some (zi ((k : Nat) : Int)), some (zi ((f : Nat) : Int)), some (zi ((g : Nat) : Int)), none, none, none, none] [] (hp M ++ es)
  refine x_cst (zi (-1)) 1 1 rfl rfl rfl ?_
  refine x_st 5 2 0 3 [some (.ref 572), some (.ref a), some (zi ((k : Nat) : Int)), some (zi ((f : Nat) : Int)), some (zi ((g : Nat) : Int)), some (zi (-1)), none, none, none] rfl rfl rfl (Nat.le_of_ble_eq_true rfl) rfl rfl ?_
  refine x_cst (zi 0) 1 4 rfl rfl rfl ?_
  refine x_st 6 2 0 6 [some (.ref 572), some (.ref a), some (zi ((k : Nat) : Int)), some (zi ((f : Nat) : Int)), some (zi ((g : Nat) : Int)), some (zi (-1)), some (zi 0), none, none] rfl rfl rfl (Nat.le_of_ble_eq_true rfl) rfl rfl ?_
  refine c128_out d h hk hf hg fk gk (fun x M' hF _ hS hx => ⟨_, M', rfl, rfl, x, rfl, hF, lst_end hx (fun u e => e.1), fun u hu => (hS u hu).trans ⟨fun e => e.2, fun e => ⟨e.1, e⟩⟩⟩) _ 0 rfl (Nat.zero_le _) M (-1) (Fm_refl ..) rfl (fun u hu => ⟨fun e => (by rw [hcl u hu] at e; cases e), fun e => absurd e.1 (Nat.not_lt_zero u)⟩) (.inl ⟨rfl, fun u e => absurd e.1 (Nat.not_lt_zero u)⟩) _ _
end D2
