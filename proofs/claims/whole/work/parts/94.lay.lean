/-! OURS, printed by wip/tools/gen94.py: the reference lays choices and letters. -/
def Fe (k : Nat) (M M' : mm) : Prop := (∀ b, b ≠ 589 → M'.1 b = M.1 b) ∧ M'.2.2 = M.2.2 ∧ (∀ b, b ≠ 587 → b ≠ 588 → M'.2.1 b = M.2.1 b) ∧ (∀ c, c = 587 ∨ c = 588 → ∀ j : Int, (j < 1152 * (k : Int) ∨ 1152 * (k : Int) + 1152 ≤ j) → M'.2.1 c j = M.2.1 c j)
theorem Fe_refl (k : Nat) (M : mm) : Fe k M M := ⟨fun _ _ => rfl, rfl, fun _ _ _ => rfl, fun _ _ _ _ => rfl⟩
theorem Fe_trans {k : Nat} {M M' M'' : mm} (h : Fe k M M') (g : Fe k M' M'') : Fe k M M'' := ⟨fun b hb => (g.1 b hb).trans (h.1 b hb), g.2.1.trans h.2.1, fun b hb hc => (g.2.2.1 b hb hc).trans (h.2.2.1 b hb hc), fun c hc j hj => (g.2.2.2 c hc j hj).trans (h.2.2.2 c hc j hj)⟩
theorem Fe_of {a k : Nat} (ha : a = 587 ∨ a = 588) {M M' : mm} (h : Fm a k M M') : Fe k M M' := by
  refine ⟨h.1, h.2.1, fun b h1 h2 => h.2.2.1 b (by omega), fun c hc j hj => ?_⟩
  by_cases e : c = a
  · subst e; exact h.2.2.2 j hj
  · rw [h.2.2.1 c e]
theorem Fe_ag {k f c : Nat} {M M' : mm} (h : Fe k M M') (hc : c = 587 ∨ c = 588) (hf : f ≠ k) : ag (mS (M'.2.1 c) f) (mS (M.2.1 c) f) := by
  intro t ht
  exact h.2.2.2 c hc _ (by omega)
theorem bS_oth {a b k t : Nat} {M : mm} {R : Nat → Prop} {f : Int → Bool} (h : bS a k t M R) (hab : a ≠ b) : bS a k t (rB M b f) R := by
  intro u hu
  rw [rB_ne hab]; exact h u hu
theorem ltr_iff {T t : Nat} : ltr T t = true ↔ 1 ≤ t ∧ t ≤ 3 ∧ (T = 0 ∨ T = t) := by
  unfold ltr
  simp only [Bool.and_eq_true, decide_eq_true_eq, Bool.or_eq_true, beq_iff_eq]
  exact ⟨fun e => ⟨e.1.1, e.1.2, e.2⟩, fun e => ⟨⟨e.1, e.2.1⟩, e.2.2⟩⟩
section D4
variable {L : Nat} {xs : Nat → Int32} {M : mm} {es : ab_H}
theorem c122_loop (d : Nat) {k p q : Nat} (hk : k < 32) (hp32 : p < 32) (hq32 : q < 32) (pk : p ≠ k) (qk : q ≠ k) {Q : ab_Q} (kk : ∀ x M', Fe k M M' → bS 587 k 1093 M' (fun u => ((mS (M.2.1 587) p) u || (mS (M.2.1 587) q) u) = true) → bS 588 k 1093 M' (fun u => ((mS (M.2.1 588) p) u || (mS (M.2.1 588) q) u) = true) → lst (fun u => u < 1093 ∧ ((mS (M.2.1 587) p) u && (mS (M.2.1 587) q) u) = true) x → Q (.inl (some (zi x))) (hp M' ++ es)) : ∀ m t : Nat, 1093 - t = m → t ≤ 1093 → ∀ M' x, Fe k M M' → bS 587 k t M' (fun u => ((mS (M.2.1 587) p) u || (mS (M.2.1 587) q) u) = true) → bS 588 k t M' (fun u => ((mS (M.2.1 588) p) u || (mS (M.2.1 588) q) u) = true) → lst (fun u => u < t ∧ ((mS (M.2.1 587) p) u && (mS (M.2.1 587) q) u) = true) x → ∀ o6 o7, ab_W (pg_G L xs) (ab_X (pg_G L xs) (d + 1)) 122 Q 6 [some (.ref 572), some (zi (k : Nat)), some (zi (p : Nat)), some (zi (q : Nat)), some (zi x), some (zi (t : Nat)), o6, o7] [] (hp M' ++ es) := by
  intro m
  induction m using Nat.strongRecOn with
  | _ m ih =>
    intro t hm ht M' x hF hS hV hx o6 o7
    have hxr : -1 ≤ x ∧ x < 1093 := by
      rcases hx with ⟨e, _⟩ | ⟨u, e, e2, _⟩
      · omega
      · have := e2.1; omega
    refine x_ld 5 2 0 8 rfl rfl rfl rfl rfl ?_
    refine x_cst (zi 1093) 3 11 rfl rfl rfl ?_
    refine z_icge 124 14 rfl rfl rfl ⟨by omega, by omega⟩ (rg_lit 1093 rfl) (fun c11 => ?_) (fun c11 => ?_)
    · refine x_ld 4 2 0 126 rfl rfl rfl rfl rfl ?_
      refine x_ret rfl rfl rfl rfl ?_
      have e : t = 1093 := by omega
      subst e; exact kk x M' hF hS hV hx
    · refine x_ld 0 1 2 15 rfl rfl rfl rfl rfl ?_
      refine g_572_19 53 18 rfl rfl rfl ?_
      refine x_ld 2 1 0 19 rfl rfl rfl rfl rfl ?_
      refine x_ld 5 2 0 21 rfl rfl rfl rfl rfl ?_
      refine x_cv 228 123 24 [.ref 587, zi ((p : Nat) : Int), zi ((t : Nat) : Int)] rfl rfl rfl (Nat.le_of_ble_eq_true rfl) rfl rfl (Nat.le_of_ble_eq_true rfl) trivial (Nat.le_of_ble_eq_true rfl) (c123 (M := M') d i_587 (k := p) (t := t) (by omega) (by omega)) rfl ?_
      have e_hs1 : M'.2.1 587 (1152 * ((p : Nat) : Int) + ((t : Nat) : Int)) = mS (M.2.1 587) p t := by show M'.2.1 587 _ = _; exact hF.2.2.2 587 (by decide) _ (by omega)
      rw [e_hs1]
      rcases Bool.eq_false_or_eq_true (mS (M.2.1 587) p t) with hs1 | hs1
      · rw [hs1]
        refine x_st 6 2 0 26 [some (.ref 572), some (zi ((k : Nat) : Int)), some (zi ((p : Nat) : Int)), some (zi ((q : Nat) : Int)), some (zi x), some (zi ((t : Nat) : Int)), some (zi 1), o7] rfl rfl rfl (Nat.le_of_ble_eq_true rfl) rfl rfl ?_
        refine x_ld 0 1 2 27 rfl rfl rfl rfl rfl ?_
        refine g_572_19 53 30 rfl rfl rfl ?_
        refine x_ld 3 1 0 31 rfl rfl rfl rfl rfl ?_
        refine x_ld 5 2 0 33 rfl rfl rfl rfl rfl ?_
        refine x_cv 228 123 36 [.ref 587, zi ((q : Nat) : Int), zi ((t : Nat) : Int)] rfl rfl rfl (Nat.le_of_ble_eq_true rfl) rfl rfl (Nat.le_of_ble_eq_true rfl) trivial (Nat.le_of_ble_eq_true rfl) (c123 (M := M') d i_587 (k := q) (t := t) (by omega) (by omega)) rfl ?_
        have e_hs2 : M'.2.1 587 (1152 * ((q : Nat) : Int) + ((t : Nat) : Int)) = mS (M.2.1 587) q t := by show M'.2.1 587 _ = _; exact hF.2.2.2 587 (by decide) _ (by omega)
        rw [e_hs2]
        rcases Bool.eq_false_or_eq_true (mS (M.2.1 587) q t) with hs2 | hs2
        · rw [hs2]
          refine x_st 7 2 0 38 [some (.ref 572), some (zi ((k : Nat) : Int)), some (zi ((p : Nat) : Int)), some (zi ((q : Nat) : Int)), some (zi x), some (zi ((t : Nat) : Int)), some (zi 1), some (zi 1)] rfl rfl rfl (Nat.le_of_ble_eq_true rfl) rfl rfl ?_
          refine x_ld 6 2 0 40 rfl rfl rfl rfl rfl ?_
          refine z_ifne 48 43 rfl rfl rfl (rg_lit 1 rfl) (fun _ => ?_) (fun c => absurd c (by decide))
          refine x_ld 0 1 2 49 rfl rfl rfl rfl rfl ?_
          refine g_572_19 53 52 rfl rfl rfl ?_
          refine x_ld 1 1 0 53 rfl rfl rfl rfl rfl ?_
          refine x_ld 5 2 0 55 rfl rfl rfl rfl rfl ?_
          refine x_cv 235 121 58 [.ref 587, zi ((k : Nat) : Int), zi ((t : Nat) : Int)] rfl rfl rfl (Nat.le_of_ble_eq_true rfl) rfl rfl (Nat.le_of_ble_eq_true rfl) trivial (Nat.le_of_ble_eq_true rfl) (c121 (M := M') d i_587 (k := k) (t := t) (by omega) (by omega)) rfl ?_
          refine x_ld 0 1 2 59 rfl rfl rfl rfl rfl ?_
          refine g_572_20 56 62 rfl rfl rfl ?_
          refine x_ld 2 1 0 63 rfl rfl rfl rfl rfl ?_
          refine x_ld 5 2 0 65 rfl rfl rfl rfl rfl ?_
          refine x_cv 228 123 68 [.ref 588, zi ((p : Nat) : Int), zi ((t : Nat) : Int)] rfl rfl rfl (Nat.le_of_ble_eq_true rfl) rfl rfl (Nat.le_of_ble_eq_true rfl) trivial (Nat.le_of_ble_eq_true rfl) (c123 (M := (rB M' 587 (adB (M'.2.1 587) (1152 * ((k : Nat) : Int) + ((t : Nat) : Int))))) d i_588 (k := p) (t := t) (by omega) (by omega)) rfl ?_
          have e_hv1 : (rB M' 587 (adB (M'.2.1 587) (1152 * ((k : Nat) : Int) + ((t : Nat) : Int)))).2.1 588 (1152 * ((p : Nat) : Int) + ((t : Nat) : Int)) = mS (M.2.1 588) p t := by show M'.2.1 588 _ = _; exact hF.2.2.2 588 (by decide) _ (by omega)
          rw [e_hv1]
          rcases Bool.eq_false_or_eq_true (mS (M.2.1 588) p t) with hv1 | hv1
          · rw [hv1]
            refine z_ifne 84 71 rfl rfl rfl (rg_lit 1 rfl) (fun _ => ?_) (fun c => absurd c (by decide))
            refine x_ld 0 1 2 85 rfl rfl rfl rfl rfl ?_
            refine g_572_20 56 88 rfl rfl rfl ?_
            refine x_ld 1 1 0 89 rfl rfl rfl rfl rfl ?_
            refine x_ld 5 2 0 91 rfl rfl rfl rfl rfl ?_
            refine x_cv 235 121 94 [.ref 588, zi ((k : Nat) : Int), zi ((t : Nat) : Int)] rfl rfl rfl (Nat.le_of_ble_eq_true rfl) rfl rfl (Nat.le_of_ble_eq_true rfl) trivial (Nat.le_of_ble_eq_true rfl) (c121 (M := (rB M' 587 (adB (M'.2.1 587) (1152 * ((k : Nat) : Int) + ((t : Nat) : Int))))) d i_588 (k := k) (t := t) (by omega) (by omega)) rfl ?_
            refine x_ld 6 2 0 96 rfl rfl rfl rfl rfl ?_
            refine z_ifeq 114 99 rfl rfl rfl (rg_lit 1 rfl) (fun c => absurd c (by decide)) (fun _ => ?_)
            refine x_ld 7 2 0 101 rfl rfl rfl rfl rfl ?_
            refine z_ifeq 114 104 rfl rfl rfl (rg_lit 1 rfl) (fun c => absurd c (by decide)) (fun _ => ?_)
            refine x_ld 4 2 0 106 rfl rfl rfl rfl rfl ?_
            refine z_ifge 114 109 rfl rfl rfl ⟨by omega, by omega⟩ (fun c106 => ?_) (fun c106 => ?_)
            · refine x_ld 4 2 0 116 rfl rfl rfl rfl rfl ?_
              refine x_st 4 2 0 118 [some (.ref 572), some (zi ((k : Nat) : Int)), some (zi ((p : Nat) : Int)), some (zi ((q : Nat) : Int)), some (zi x), some (zi ((t : Nat) : Int)), some (zi 1), some (zi 1)] rfl rfl rfl (Nat.le_of_ble_eq_true rfl) rfl rfl ?_
              refine z_inc 5 121 [some (.ref 572), some (zi ((k : Nat) : Int)), some (zi ((p : Nat) : Int)), some (zi ((q : Nat) : Int)), some (zi x), some (zi (((t : Nat) : Int) + 1)), some (zi 1), some (zi 1)] rfl rfl (Nat.le_of_ble_eq_true rfl) rfl rfl ?_
              refine x_go 6 rfl rfl ?_
              have hst := lst_step hx
              have hd : (((mS (M.2.1 587) p) t && (mS (M.2.1 587) q) t) = true) ↔ (mS (M.2.1 587) p t = true ∧ mS (M.2.1 587) q t = true) := Bool.and_eq_true_iff
              refine ih (1093 - (t + 1)) (by omega) (t + 1) rfl (by omega) _ _ (Fe_trans (Fe_trans hF (Fe_of (.inl rfl) (Fm_add M' (by omega)))) (Fe_of (.inr rfl) (Fm_add _ (by omega)))) (bS_oth (bS_add hS (by show (mS (M.2.1 587) p t || mS (M.2.1 587) q t) = true; first | (rw [hs1]; rfl) | (rw [hs2, Bool.or_true]))) (by decide)) (bS_add (bS_oth hV (by decide)) (by show (mS (M.2.1 588) p t || mS (M.2.1 588) q t) = true; first | (rw [hv1]; rfl) | (rw [hv2, Bool.or_true]))) ?_ _ _
              by_cases qx : x < 0
              · omega
              · rw [if_neg qx] at hst; exact hst
            · refine x_ld 5 2 0 111 rfl rfl rfl rfl rfl ?_
              refine x_go 116 rfl rfl ?_
              refine x_st 4 2 0 118 [some (.ref 572), some (zi ((k : Nat) : Int)), some (zi ((p : Nat) : Int)), some (zi ((q : Nat) : Int)), some (zi ((t : Nat) : Int)), some (zi ((t : Nat) : Int)), some (zi 1), some (zi 1)] rfl rfl rfl (Nat.le_of_ble_eq_true rfl) rfl rfl ?_
              refine z_inc 5 121 [some (.ref 572), some (zi ((k : Nat) : Int)), some (zi ((p : Nat) : Int)), some (zi ((q : Nat) : Int)), some (zi ((t : Nat) : Int)), some (zi (((t : Nat) : Int) + 1)), some (zi 1), some (zi 1)] rfl rfl (Nat.le_of_ble_eq_true rfl) rfl rfl ?_
              refine x_go 6 rfl rfl ?_
              have hst := lst_step hx
              have hd : (((mS (M.2.1 587) p) t && (mS (M.2.1 587) q) t) = true) ↔ (mS (M.2.1 587) p t = true ∧ mS (M.2.1 587) q t = true) := Bool.and_eq_true_iff
              refine ih (1093 - (t + 1)) (by omega) (t + 1) rfl (by omega) _ _ (Fe_trans (Fe_trans hF (Fe_of (.inl rfl) (Fm_add M' (by omega)))) (Fe_of (.inr rfl) (Fm_add _ (by omega)))) (bS_oth (bS_add hS (by show (mS (M.2.1 587) p t || mS (M.2.1 587) q t) = true; first | (rw [hs1]; rfl) | (rw [hs2, Bool.or_true]))) (by decide)) (bS_add (bS_oth hV (by decide)) (by show (mS (M.2.1 588) p t || mS (M.2.1 588) q t) = true; first | (rw [hv1]; rfl) | (rw [hv2, Bool.or_true]))) ?_ _ _
              rw [if_pos (by omega), if_pos (dcd_iff.mpr (hd.mpr ⟨hs1, hs2⟩))] at hst; exact hst
          · rw [hv1]
            refine z_ifne 84 71 rfl rfl rfl (rg_lit 0 rfl) (fun c => absurd c (by decide)) (fun _ => ?_)
            refine x_ld 0 1 2 72 rfl rfl rfl rfl rfl ?_
            refine g_572_20 56 75 rfl rfl rfl ?_
            refine x_ld 3 1 0 76 rfl rfl rfl rfl rfl ?_
            refine x_ld 5 2 0 78 rfl rfl rfl rfl rfl ?_
            refine x_cv 228 123 81 [.ref 588, zi ((q : Nat) : Int), zi ((t : Nat) : Int)] rfl rfl rfl (Nat.le_of_ble_eq_true rfl) rfl rfl (Nat.le_of_ble_eq_true rfl) trivial (Nat.le_of_ble_eq_true rfl) (c123 (M := (rB M' 587 (adB (M'.2.1 587) (1152 * ((k : Nat) : Int) + ((t : Nat) : Int))))) d i_588 (k := q) (t := t) (by omega) (by omega)) rfl ?_
            have e_hv2 : (rB M' 587 (adB (M'.2.1 587) (1152 * ((k : Nat) : Int) + ((t : Nat) : Int)))).2.1 588 (1152 * ((q : Nat) : Int) + ((t : Nat) : Int)) = mS (M.2.1 588) q t := by show M'.2.1 588 _ = _; exact hF.2.2.2 588 (by decide) _ (by omega)
            rw [e_hv2]
            rcases Bool.eq_false_or_eq_true (mS (M.2.1 588) q t) with hv2 | hv2
            · rw [hv2]
              refine z_ifeq 94 84 rfl rfl rfl (rg_lit 1 rfl) (fun c => absurd c (by decide)) (fun _ => ?_)
              refine x_ld 0 1 2 85 rfl rfl rfl rfl rfl ?_
              refine g_572_20 56 88 rfl rfl rfl ?_
              refine x_ld 1 1 0 89 rfl rfl rfl rfl rfl ?_
              refine x_ld 5 2 0 91 rfl rfl rfl rfl rfl ?_
              refine x_cv 235 121 94 [.ref 588, zi ((k : Nat) : Int), zi ((t : Nat) : Int)] rfl rfl rfl (Nat.le_of_ble_eq_true rfl) rfl rfl (Nat.le_of_ble_eq_true rfl) trivial (Nat.le_of_ble_eq_true rfl) (c121 (M := (rB M' 587 (adB (M'.2.1 587) (1152 * ((k : Nat) : Int) + ((t : Nat) : Int))))) d i_588 (k := k) (t := t) (by omega) (by omega)) rfl ?_
              refine x_ld 6 2 0 96 rfl rfl rfl rfl rfl ?_
              refine z_ifeq 114 99 rfl rfl rfl (rg_lit 1 rfl) (fun c => absurd c (by decide)) (fun _ => ?_)
              refine x_ld 7 2 0 101 rfl rfl rfl rfl rfl ?_
              refine z_ifeq 114 104 rfl rfl rfl (rg_lit 1 rfl) (fun c => absurd c (by decide)) (fun _ => ?_)
              refine x_ld 4 2 0 106 rfl rfl rfl rfl rfl ?_
              refine z_ifge 114 109 rfl rfl rfl ⟨by omega, by omega⟩ (fun c106 => ?_) (fun c106 => ?_)
              · refine x_ld 4 2 0 116 rfl rfl rfl rfl rfl ?_
                refine x_st 4 2 0 118 [some (.ref 572), some (zi ((k : Nat) : Int)), some (zi ((p : Nat) : Int)), some (zi ((q : Nat) : Int)), some (zi x), some (zi ((t : Nat) : Int)), some (zi 1), some (zi 1)] rfl rfl rfl (Nat.le_of_ble_eq_true rfl) rfl rfl ?_
                refine z_inc 5 121 [some (.ref 572), some (zi ((k : Nat) : Int)), some (zi ((p : Nat) : Int)), some (zi ((q : Nat) : Int)), some (zi x), some (zi (((t : Nat) : Int) + 1)), some (zi 1), some (zi 1)] rfl rfl (Nat.le_of_ble_eq_true rfl) rfl rfl ?_
                refine x_go 6 rfl rfl ?_
                have hst := lst_step hx
                have hd : (((mS (M.2.1 587) p) t && (mS (M.2.1 587) q) t) = true) ↔ (mS (M.2.1 587) p t = true ∧ mS (M.2.1 587) q t = true) := Bool.and_eq_true_iff
                refine ih (1093 - (t + 1)) (by omega) (t + 1) rfl (by omega) _ _ (Fe_trans (Fe_trans hF (Fe_of (.inl rfl) (Fm_add M' (by omega)))) (Fe_of (.inr rfl) (Fm_add _ (by omega)))) (bS_oth (bS_add hS (by show (mS (M.2.1 587) p t || mS (M.2.1 587) q t) = true; first | (rw [hs1]; rfl) | (rw [hs2, Bool.or_true]))) (by decide)) (bS_add (bS_oth hV (by decide)) (by show (mS (M.2.1 588) p t || mS (M.2.1 588) q t) = true; first | (rw [hv1]; rfl) | (rw [hv2, Bool.or_true]))) ?_ _ _
                by_cases qx : x < 0
                · omega
                · rw [if_neg qx] at hst; exact hst
              · refine x_ld 5 2 0 111 rfl rfl rfl rfl rfl ?_
                refine x_go 116 rfl rfl ?_
                refine x_st 4 2 0 118 [some (.ref 572), some (zi ((k : Nat) : Int)), some (zi ((p : Nat) : Int)), some (zi ((q : Nat) : Int)), some (zi ((t : Nat) : Int)), some (zi ((t : Nat) : Int)), some (zi 1), some (zi 1)] rfl rfl rfl (Nat.le_of_ble_eq_true rfl) rfl rfl ?_
                refine z_inc 5 121 [some (.ref 572), some (zi ((k : Nat) : Int)), some (zi ((p : Nat) : Int)), some (zi ((q : Nat) : Int)), some (zi ((t : Nat) : Int)), some (zi (((t : Nat) : Int) + 1)), some (zi 1), some (zi 1)] rfl rfl (Nat.le_of_ble_eq_true rfl) rfl rfl ?_
                refine x_go 6 rfl rfl ?_
                have hst := lst_step hx
                have hd : (((mS (M.2.1 587) p) t && (mS (M.2.1 587) q) t) = true) ↔ (mS (M.2.1 587) p t = true ∧ mS (M.2.1 587) q t = true) := Bool.and_eq_true_iff
                refine ih (1093 - (t + 1)) (by omega) (t + 1) rfl (by omega) _ _ (Fe_trans (Fe_trans hF (Fe_of (.inl rfl) (Fm_add M' (by omega)))) (Fe_of (.inr rfl) (Fm_add _ (by omega)))) (bS_oth (bS_add hS (by show (mS (M.2.1 587) p t || mS (M.2.1 587) q t) = true; first | (rw [hs1]; rfl) | (rw [hs2, Bool.or_true]))) (by decide)) (bS_add (bS_oth hV (by decide)) (by show (mS (M.2.1 588) p t || mS (M.2.1 588) q t) = true; first | (rw [hv1]; rfl) | (rw [hv2, Bool.or_true]))) ?_ _ _
                rw [if_pos (by omega), if_pos (dcd_iff.mpr (hd.mpr ⟨hs1, hs2⟩))] at hst; exact hst
            · rw [hv2]
              refine z_ifeq 94 84 rfl rfl rfl (rg_lit 0 rfl) (fun _ => ?_) (fun c => absurd c (by decide))
              refine x_ld 6 2 0 96 rfl rfl rfl rfl rfl ?_
              refine z_ifeq 114 99 rfl rfl rfl (rg_lit 1 rfl) (fun c => absurd c (by decide)) (fun _ => ?_)
              refine x_ld 7 2 0 101 rfl rfl rfl rfl rfl ?_
              refine z_ifeq 114 104 rfl rfl rfl (rg_lit 1 rfl) (fun c => absurd c (by decide)) (fun _ => ?_)
              refine x_ld 4 2 0 106 rfl rfl rfl rfl rfl ?_
              refine z_ifge 114 109 rfl rfl rfl ⟨by omega, by omega⟩ (fun c106 => ?_) (fun c106 => ?_)
              · refine x_ld 4 2 0 116 rfl rfl rfl rfl rfl ?_
                refine x_st 4 2 0 118 [some (.ref 572), some (zi ((k : Nat) : Int)), some (zi ((p : Nat) : Int)), some (zi ((q : Nat) : Int)), some (zi x), some (zi ((t : Nat) : Int)), some (zi 1), some (zi 1)] rfl rfl rfl (Nat.le_of_ble_eq_true rfl) rfl rfl ?_
                refine z_inc 5 121 [some (.ref 572), some (zi ((k : Nat) : Int)), some (zi ((p : Nat) : Int)), some (zi ((q : Nat) : Int)), some (zi x), some (zi (((t : Nat) : Int) + 1)), some (zi 1), some (zi 1)] rfl rfl (Nat.le_of_ble_eq_true rfl) rfl rfl ?_
                refine x_go 6 rfl rfl ?_
                have hst := lst_step hx
                have hd : (((mS (M.2.1 587) p) t && (mS (M.2.1 587) q) t) = true) ↔ (mS (M.2.1 587) p t = true ∧ mS (M.2.1 587) q t = true) := Bool.and_eq_true_iff
                refine ih (1093 - (t + 1)) (by omega) (t + 1) rfl (by omega) _ _ (Fe_trans hF (Fe_of (.inl rfl) (Fm_add M' (by omega)))) (bS_add hS (by show (mS (M.2.1 587) p t || mS (M.2.1 587) q t) = true; first | (rw [hs1]; rfl) | (rw [hs2, Bool.or_true]))) (bS_no (bS_oth hV (by decide)) (by show ¬ (mS (M.2.1 588) p t || mS (M.2.1 588) q t) = true; rw [hv1, hv2]; decide)) ?_ _ _
                by_cases qx : x < 0
                · omega
                · rw [if_neg qx] at hst; exact hst
              · refine x_ld 5 2 0 111 rfl rfl rfl rfl rfl ?_
                refine x_go 116 rfl rfl ?_
                refine x_st 4 2 0 118 [some (.ref 572), some (zi ((k : Nat) : Int)), some (zi ((p : Nat) : Int)), some (zi ((q : Nat) : Int)), some (zi ((t : Nat) : Int)), some (zi ((t : Nat) : Int)), some (zi 1), some (zi 1)] rfl rfl rfl (Nat.le_of_ble_eq_true rfl) rfl rfl ?_
                refine z_inc 5 121 [some (.ref 572), some (zi ((k : Nat) : Int)), some (zi ((p : Nat) : Int)), some (zi ((q : Nat) : Int)), some (zi ((t : Nat) : Int)), some (zi (((t : Nat) : Int) + 1)), some (zi 1), some (zi 1)] rfl rfl (Nat.le_of_ble_eq_true rfl) rfl rfl ?_
                refine x_go 6 rfl rfl ?_
                have hst := lst_step hx
                have hd : (((mS (M.2.1 587) p) t && (mS (M.2.1 587) q) t) = true) ↔ (mS (M.2.1 587) p t = true ∧ mS (M.2.1 587) q t = true) := Bool.and_eq_true_iff
                refine ih (1093 - (t + 1)) (by omega) (t + 1) rfl (by omega) _ _ (Fe_trans hF (Fe_of (.inl rfl) (Fm_add M' (by omega)))) (bS_add hS (by show (mS (M.2.1 587) p t || mS (M.2.1 587) q t) = true; first | (rw [hs1]; rfl) | (rw [hs2, Bool.or_true]))) (bS_no (bS_oth hV (by decide)) (by show ¬ (mS (M.2.1 588) p t || mS (M.2.1 588) q t) = true; rw [hv1, hv2]; decide)) ?_ _ _
                rw [if_pos (by omega), if_pos (dcd_iff.mpr (hd.mpr ⟨hs1, hs2⟩))] at hst; exact hst
        · rw [hs2]
          refine x_st 7 2 0 38 [some (.ref 572), some (zi ((k : Nat) : Int)), some (zi ((p : Nat) : Int)), some (zi ((q : Nat) : Int)), some (zi x), some (zi ((t : Nat) : Int)), some (zi 1), some (zi 0)] rfl rfl rfl (Nat.le_of_ble_eq_true rfl) rfl rfl ?_
          refine x_ld 6 2 0 40 rfl rfl rfl rfl rfl ?_
          refine z_ifne 48 43 rfl rfl rfl (rg_lit 1 rfl) (fun _ => ?_) (fun c => absurd c (by decide))
          refine x_ld 0 1 2 49 rfl rfl rfl rfl rfl ?_
          refine g_572_19 53 52 rfl rfl rfl ?_
          refine x_ld 1 1 0 53 rfl rfl rfl rfl rfl ?_
          refine x_ld 5 2 0 55 rfl rfl rfl rfl rfl ?_
          refine x_cv 235 121 58 [.ref 587, zi ((k : Nat) : Int), zi ((t : Nat) : Int)] rfl rfl rfl (Nat.le_of_ble_eq_true rfl) rfl rfl (Nat.le_of_ble_eq_true rfl) trivial (Nat.le_of_ble_eq_true rfl) (c121 (M := M') d i_587 (k := k) (t := t) (by omega) (by omega)) rfl ?_
          refine x_ld 0 1 2 59 rfl rfl rfl rfl rfl ?_
          refine g_572_20 56 62 rfl rfl rfl ?_
          refine x_ld 2 1 0 63 rfl rfl rfl rfl rfl ?_
          refine x_ld 5 2 0 65 rfl rfl rfl rfl rfl ?_
          refine x_cv 228 123 68 [.ref 588, zi ((p : Nat) : Int), zi ((t : Nat) : Int)] rfl rfl rfl (Nat.le_of_ble_eq_true rfl) rfl rfl (Nat.le_of_ble_eq_true rfl) trivial (Nat.le_of_ble_eq_true rfl) (c123 (M := (rB M' 587 (adB (M'.2.1 587) (1152 * ((k : Nat) : Int) + ((t : Nat) : Int))))) d i_588 (k := p) (t := t) (by omega) (by omega)) rfl ?_
          have e_hv1 : (rB M' 587 (adB (M'.2.1 587) (1152 * ((k : Nat) : Int) + ((t : Nat) : Int)))).2.1 588 (1152 * ((p : Nat) : Int) + ((t : Nat) : Int)) = mS (M.2.1 588) p t := by show M'.2.1 588 _ = _; exact hF.2.2.2 588 (by decide) _ (by omega)
          rw [e_hv1]
          rcases Bool.eq_false_or_eq_true (mS (M.2.1 588) p t) with hv1 | hv1
          · rw [hv1]
            refine z_ifne 84 71 rfl rfl rfl (rg_lit 1 rfl) (fun _ => ?_) (fun c => absurd c (by decide))
            refine x_ld 0 1 2 85 rfl rfl rfl rfl rfl ?_
            refine g_572_20 56 88 rfl rfl rfl ?_
            refine x_ld 1 1 0 89 rfl rfl rfl rfl rfl ?_
            refine x_ld 5 2 0 91 rfl rfl rfl rfl rfl ?_
            refine x_cv 235 121 94 [.ref 588, zi ((k : Nat) : Int), zi ((t : Nat) : Int)] rfl rfl rfl (Nat.le_of_ble_eq_true rfl) rfl rfl (Nat.le_of_ble_eq_true rfl) trivial (Nat.le_of_ble_eq_true rfl) (c121 (M := (rB M' 587 (adB (M'.2.1 587) (1152 * ((k : Nat) : Int) + ((t : Nat) : Int))))) d i_588 (k := k) (t := t) (by omega) (by omega)) rfl ?_
            refine x_ld 6 2 0 96 rfl rfl rfl rfl rfl ?_
            refine z_ifeq 114 99 rfl rfl rfl (rg_lit 1 rfl) (fun c => absurd c (by decide)) (fun _ => ?_)
            refine x_ld 7 2 0 101 rfl rfl rfl rfl rfl ?_
            refine z_ifeq 114 104 rfl rfl rfl (rg_lit 0 rfl) (fun _ => ?_) (fun c => absurd c (by decide))
            refine x_ld 4 2 0 116 rfl rfl rfl rfl rfl ?_
            refine x_st 4 2 0 118 [some (.ref 572), some (zi ((k : Nat) : Int)), some (zi ((p : Nat) : Int)), some (zi ((q : Nat) : Int)), some (zi x), some (zi ((t : Nat) : Int)), some (zi 1), some (zi 0)] rfl rfl rfl (Nat.le_of_ble_eq_true rfl) rfl rfl ?_
            refine z_inc 5 121 [some (.ref 572), some (zi ((k : Nat) : Int)), some (zi ((p : Nat) : Int)), some (zi ((q : Nat) : Int)), some (zi x), some (zi (((t : Nat) : Int) + 1)), some (zi 1), some (zi 0)] rfl rfl (Nat.le_of_ble_eq_true rfl) rfl rfl ?_
            refine x_go 6 rfl rfl ?_
            have hst := lst_step hx
            have hd : (((mS (M.2.1 587) p) t && (mS (M.2.1 587) q) t) = true) ↔ (mS (M.2.1 587) p t = true ∧ mS (M.2.1 587) q t = true) := Bool.and_eq_true_iff
            refine ih (1093 - (t + 1)) (by omega) (t + 1) rfl (by omega) _ _ (Fe_trans (Fe_trans hF (Fe_of (.inl rfl) (Fm_add M' (by omega)))) (Fe_of (.inr rfl) (Fm_add _ (by omega)))) (bS_oth (bS_add hS (by show (mS (M.2.1 587) p t || mS (M.2.1 587) q t) = true; first | (rw [hs1]; rfl) | (rw [hs2, Bool.or_true]))) (by decide)) (bS_add (bS_oth hV (by decide)) (by show (mS (M.2.1 588) p t || mS (M.2.1 588) q t) = true; first | (rw [hv1]; rfl) | (rw [hv2, Bool.or_true]))) ?_ _ _
            by_cases qx : x < 0
            · rw [if_pos qx, if_neg (fun e => by have e := hd.mp (dcd_iff.mp e); first | exact absurd (hs1.symm.trans e.1) (by decide) | exact absurd (hs2.symm.trans e.2) (by decide))] at hst; exact hst
            · rw [if_neg qx] at hst; exact hst
          · rw [hv1]
            refine z_ifne 84 71 rfl rfl rfl (rg_lit 0 rfl) (fun c => absurd c (by decide)) (fun _ => ?_)
            refine x_ld 0 1 2 72 rfl rfl rfl rfl rfl ?_
            refine g_572_20 56 75 rfl rfl rfl ?_
            refine x_ld 3 1 0 76 rfl rfl rfl rfl rfl ?_
            refine x_ld 5 2 0 78 rfl rfl rfl rfl rfl ?_
            refine x_cv 228 123 81 [.ref 588, zi ((q : Nat) : Int), zi ((t : Nat) : Int)] rfl rfl rfl (Nat.le_of_ble_eq_true rfl) rfl rfl (Nat.le_of_ble_eq_true rfl) trivial (Nat.le_of_ble_eq_true rfl) (c123 (M := (rB M' 587 (adB (M'.2.1 587) (1152 * ((k : Nat) : Int) + ((t : Nat) : Int))))) d i_588 (k := q) (t := t) (by omega) (by omega)) rfl ?_
            have e_hv2 : (rB M' 587 (adB (M'.2.1 587) (1152 * ((k : Nat) : Int) + ((t : Nat) : Int)))).2.1 588 (1152 * ((q : Nat) : Int) + ((t : Nat) : Int)) = mS (M.2.1 588) q t := by show M'.2.1 588 _ = _; exact hF.2.2.2 588 (by decide) _ (by omega)
            rw [e_hv2]
            rcases Bool.eq_false_or_eq_true (mS (M.2.1 588) q t) with hv2 | hv2
            · rw [hv2]
              refine z_ifeq 94 84 rfl rfl rfl (rg_lit 1 rfl) (fun c => absurd c (by decide)) (fun _ => ?_)
              refine x_ld 0 1 2 85 rfl rfl rfl rfl rfl ?_
              refine g_572_20 56 88 rfl rfl rfl ?_
              refine x_ld 1 1 0 89 rfl rfl rfl rfl rfl ?_
              refine x_ld 5 2 0 91 rfl rfl rfl rfl rfl ?_
              refine x_cv 235 121 94 [.ref 588, zi ((k : Nat) : Int), zi ((t : Nat) : Int)] rfl rfl rfl (Nat.le_of_ble_eq_true rfl) rfl rfl (Nat.le_of_ble_eq_true rfl) trivial (Nat.le_of_ble_eq_true rfl) (c121 (M := (rB M' 587 (adB (M'.2.1 587) (1152 * ((k : Nat) : Int) + ((t : Nat) : Int))))) d i_588 (k := k) (t := t) (by omega) (by omega)) rfl ?_
              refine x_ld 6 2 0 96 rfl rfl rfl rfl rfl ?_
              refine z_ifeq 114 99 rfl rfl rfl (rg_lit 1 rfl) (fun c => absurd c (by decide)) (fun _ => ?_)
              refine x_ld 7 2 0 101 rfl rfl rfl rfl rfl ?_
              refine z_ifeq 114 104 rfl rfl rfl (rg_lit 0 rfl) (fun _ => ?_) (fun c => absurd c (by decide))
              refine x_ld 4 2 0 116 rfl rfl rfl rfl rfl ?_
              refine x_st 4 2 0 118 [some (.ref 572), some (zi ((k : Nat) : Int)), some (zi ((p : Nat) : Int)), some (zi ((q : Nat) : Int)), some (zi x), some (zi ((t : Nat) : Int)), some (zi 1), some (zi 0)] rfl rfl rfl (Nat.le_of_ble_eq_true rfl) rfl rfl ?_
              refine z_inc 5 121 [some (.ref 572), some (zi ((k : Nat) : Int)), some (zi ((p : Nat) : Int)), some (zi ((q : Nat) : Int)), some (zi x), some (zi (((t : Nat) : Int) + 1)), some (zi 1), some (zi 0)] rfl rfl (Nat.le_of_ble_eq_true rfl) rfl rfl ?_
              refine x_go 6 rfl rfl ?_
              have hst := lst_step hx
              have hd : (((mS (M.2.1 587) p) t && (mS (M.2.1 587) q) t) = true) ↔ (mS (M.2.1 587) p t = true ∧ mS (M.2.1 587) q t = true) := Bool.and_eq_true_iff
              refine ih (1093 - (t + 1)) (by omega) (t + 1) rfl (by omega) _ _ (Fe_trans (Fe_trans hF (Fe_of (.inl rfl) (Fm_add M' (by omega)))) (Fe_of (.inr rfl) (Fm_add _ (by omega)))) (bS_oth (bS_add hS (by show (mS (M.2.1 587) p t || mS (M.2.1 587) q t) = true; first | (rw [hs1]; rfl) | (rw [hs2, Bool.or_true]))) (by decide)) (bS_add (bS_oth hV (by decide)) (by show (mS (M.2.1 588) p t || mS (M.2.1 588) q t) = true; first | (rw [hv1]; rfl) | (rw [hv2, Bool.or_true]))) ?_ _ _
              by_cases qx : x < 0
              · rw [if_pos qx, if_neg (fun e => by have e := hd.mp (dcd_iff.mp e); first | exact absurd (hs1.symm.trans e.1) (by decide) | exact absurd (hs2.symm.trans e.2) (by decide))] at hst; exact hst
              · rw [if_neg qx] at hst; exact hst
            · rw [hv2]
              refine z_ifeq 94 84 rfl rfl rfl (rg_lit 0 rfl) (fun _ => ?_) (fun c => absurd c (by decide))
              refine x_ld 6 2 0 96 rfl rfl rfl rfl rfl ?_
              refine z_ifeq 114 99 rfl rfl rfl (rg_lit 1 rfl) (fun c => absurd c (by decide)) (fun _ => ?_)
              refine x_ld 7 2 0 101 rfl rfl rfl rfl rfl ?_
              refine z_ifeq 114 104 rfl rfl rfl (rg_lit 0 rfl) (fun _ => ?_) (fun c => absurd c (by decide))
              refine x_ld 4 2 0 116 rfl rfl rfl rfl rfl ?_
              refine x_st 4 2 0 118 [some (.ref 572), some (zi ((k : Nat) : Int)), some (zi ((p : Nat) : Int)), some (zi ((q : Nat) : Int)), some (zi x), some (zi ((t : Nat) : Int)), some (zi 1), some (zi 0)] rfl rfl rfl (Nat.le_of_ble_eq_true rfl) rfl rfl ?_
              refine z_inc 5 121 [some (.ref 572), some (zi ((k : Nat) : Int)), some (zi ((p : Nat) : Int)), some (zi ((q : Nat) : Int)), some (zi x), some (zi (((t : Nat) : Int) + 1)), some (zi 1), some (zi 0)] rfl rfl (Nat.le_of_ble_eq_true rfl) rfl rfl ?_
              refine x_go 6 rfl rfl ?_
              have hst := lst_step hx
              have hd : (((mS (M.2.1 587) p) t && (mS (M.2.1 587) q) t) = true) ↔ (mS (M.2.1 587) p t = true ∧ mS (M.2.1 587) q t = true) := Bool.and_eq_true_iff
              refine ih (1093 - (t + 1)) (by omega) (t + 1) rfl (by omega) _ _ (Fe_trans hF (Fe_of (.inl rfl) (Fm_add M' (by omega)))) (bS_add hS (by show (mS (M.2.1 587) p t || mS (M.2.1 587) q t) = true; first | (rw [hs1]; rfl) | (rw [hs2, Bool.or_true]))) (bS_no (bS_oth hV (by decide)) (by show ¬ (mS (M.2.1 588) p t || mS (M.2.1 588) q t) = true; rw [hv1, hv2]; decide)) ?_ _ _
              by_cases qx : x < 0
              · rw [if_pos qx, if_neg (fun e => by have e := hd.mp (dcd_iff.mp e); first | exact absurd (hs1.symm.trans e.1) (by decide) | exact absurd (hs2.symm.trans e.2) (by decide))] at hst; exact hst
              · rw [if_neg qx] at hst; exact hst
      · rw [hs1]
        refine x_st 6 2 0 26 [some (.ref 572), some (zi ((k : Nat) : Int)), some (zi ((p : Nat) : Int)), some (zi ((q : Nat) : Int)), some (zi x), some (zi ((t : Nat) : Int)), some (zi 0), o7] rfl rfl rfl (Nat.le_of_ble_eq_true rfl) rfl rfl ?_
        refine x_ld 0 1 2 27 rfl rfl rfl rfl rfl ?_
        refine g_572_19 53 30 rfl rfl rfl ?_
        refine x_ld 3 1 0 31 rfl rfl rfl rfl rfl ?_
        refine x_ld 5 2 0 33 rfl rfl rfl rfl rfl ?_
        refine x_cv 228 123 36 [.ref 587, zi ((q : Nat) : Int), zi ((t : Nat) : Int)] rfl rfl rfl (Nat.le_of_ble_eq_true rfl) rfl rfl (Nat.le_of_ble_eq_true rfl) trivial (Nat.le_of_ble_eq_true rfl) (c123 (M := M') d i_587 (k := q) (t := t) (by omega) (by omega)) rfl ?_
        have e_hs2 : M'.2.1 587 (1152 * ((q : Nat) : Int) + ((t : Nat) : Int)) = mS (M.2.1 587) q t := by show M'.2.1 587 _ = _; exact hF.2.2.2 587 (by decide) _ (by omega)
        rw [e_hs2]
        rcases Bool.eq_false_or_eq_true (mS (M.2.1 587) q t) with hs2 | hs2
        · rw [hs2]
          refine x_st 7 2 0 38 [some (.ref 572), some (zi ((k : Nat) : Int)), some (zi ((p : Nat) : Int)), some (zi ((q : Nat) : Int)), some (zi x), some (zi ((t : Nat) : Int)), some (zi 0), some (zi 1)] rfl rfl rfl (Nat.le_of_ble_eq_true rfl) rfl rfl ?_
          refine x_ld 6 2 0 40 rfl rfl rfl rfl rfl ?_
          refine z_ifne 48 43 rfl rfl rfl (rg_lit 0 rfl) (fun c => absurd c (by decide)) (fun _ => ?_)
          refine x_ld 7 2 0 45 rfl rfl rfl rfl rfl ?_
          refine z_ifeq 58 48 rfl rfl rfl (rg_lit 1 rfl) (fun c => absurd c (by decide)) (fun _ => ?_)
          refine x_ld 0 1 2 49 rfl rfl rfl rfl rfl ?_
          refine g_572_19 53 52 rfl rfl rfl ?_
          refine x_ld 1 1 0 53 rfl rfl rfl rfl rfl ?_
          refine x_ld 5 2 0 55 rfl rfl rfl rfl rfl ?_
          refine x_cv 235 121 58 [.ref 587, zi ((k : Nat) : Int), zi ((t : Nat) : Int)] rfl rfl rfl (Nat.le_of_ble_eq_true rfl) rfl rfl (Nat.le_of_ble_eq_true rfl) trivial (Nat.le_of_ble_eq_true rfl) (c121 (M := M') d i_587 (k := k) (t := t) (by omega) (by omega)) rfl ?_
          refine x_ld 0 1 2 59 rfl rfl rfl rfl rfl ?_
          refine g_572_20 56 62 rfl rfl rfl ?_
          refine x_ld 2 1 0 63 rfl rfl rfl rfl rfl ?_
          refine x_ld 5 2 0 65 rfl rfl rfl rfl rfl ?_
          refine x_cv 228 123 68 [.ref 588, zi ((p : Nat) : Int), zi ((t : Nat) : Int)] rfl rfl rfl (Nat.le_of_ble_eq_true rfl) rfl rfl (Nat.le_of_ble_eq_true rfl) trivial (Nat.le_of_ble_eq_true rfl) (c123 (M := (rB M' 587 (adB (M'.2.1 587) (1152 * ((k : Nat) : Int) + ((t : Nat) : Int))))) d i_588 (k := p) (t := t) (by omega) (by omega)) rfl ?_
          have e_hv1 : (rB M' 587 (adB (M'.2.1 587) (1152 * ((k : Nat) : Int) + ((t : Nat) : Int)))).2.1 588 (1152 * ((p : Nat) : Int) + ((t : Nat) : Int)) = mS (M.2.1 588) p t := by show M'.2.1 588 _ = _; exact hF.2.2.2 588 (by decide) _ (by omega)
          rw [e_hv1]
          rcases Bool.eq_false_or_eq_true (mS (M.2.1 588) p t) with hv1 | hv1
          · rw [hv1]
            refine z_ifne 84 71 rfl rfl rfl (rg_lit 1 rfl) (fun _ => ?_) (fun c => absurd c (by decide))
            refine x_ld 0 1 2 85 rfl rfl rfl rfl rfl ?_
            refine g_572_20 56 88 rfl rfl rfl ?_
            refine x_ld 1 1 0 89 rfl rfl rfl rfl rfl ?_
            refine x_ld 5 2 0 91 rfl rfl rfl rfl rfl ?_
            refine x_cv 235 121 94 [.ref 588, zi ((k : Nat) : Int), zi ((t : Nat) : Int)] rfl rfl rfl (Nat.le_of_ble_eq_true rfl) rfl rfl (Nat.le_of_ble_eq_true rfl) trivial (Nat.le_of_ble_eq_true rfl) (c121 (M := (rB M' 587 (adB (M'.2.1 587) (1152 * ((k : Nat) : Int) + ((t : Nat) : Int))))) d i_588 (k := k) (t := t) (by omega) (by omega)) rfl ?_
            refine x_ld 6 2 0 96 rfl rfl rfl rfl rfl ?_
            refine z_ifeq 114 99 rfl rfl rfl (rg_lit 0 rfl) (fun _ => ?_) (fun c => absurd c (by decide))
            refine x_ld 4 2 0 116 rfl rfl rfl rfl rfl ?_
            refine x_st 4 2 0 118 [some (.ref 572), some (zi ((k : Nat) : Int)), some (zi ((p : Nat) : Int)), some (zi ((q : Nat) : Int)), some (zi x), some (zi ((t : Nat) : Int)), some (zi 0), some (zi 1)] rfl rfl rfl (Nat.le_of_ble_eq_true rfl) rfl rfl ?_
            refine z_inc 5 121 [some (.ref 572), some (zi ((k : Nat) : Int)), some (zi ((p : Nat) : Int)), some (zi ((q : Nat) : Int)), some (zi x), some (zi (((t : Nat) : Int) + 1)), some (zi 0), some (zi 1)] rfl rfl (Nat.le_of_ble_eq_true rfl) rfl rfl ?_
            refine x_go 6 rfl rfl ?_
            have hst := lst_step hx
            have hd : (((mS (M.2.1 587) p) t && (mS (M.2.1 587) q) t) = true) ↔ (mS (M.2.1 587) p t = true ∧ mS (M.2.1 587) q t = true) := Bool.and_eq_true_iff
            refine ih (1093 - (t + 1)) (by omega) (t + 1) rfl (by omega) _ _ (Fe_trans (Fe_trans hF (Fe_of (.inl rfl) (Fm_add M' (by omega)))) (Fe_of (.inr rfl) (Fm_add _ (by omega)))) (bS_oth (bS_add hS (by show (mS (M.2.1 587) p t || mS (M.2.1 587) q t) = true; first | (rw [hs1]; rfl) | (rw [hs2, Bool.or_true]))) (by decide)) (bS_add (bS_oth hV (by decide)) (by show (mS (M.2.1 588) p t || mS (M.2.1 588) q t) = true; first | (rw [hv1]; rfl) | (rw [hv2, Bool.or_true]))) ?_ _ _
            by_cases qx : x < 0
            · rw [if_pos qx, if_neg (fun e => by have e := hd.mp (dcd_iff.mp e); first | exact absurd (hs1.symm.trans e.1) (by decide) | exact absurd (hs2.symm.trans e.2) (by decide))] at hst; exact hst
            · rw [if_neg qx] at hst; exact hst
          · rw [hv1]
            refine z_ifne 84 71 rfl rfl rfl (rg_lit 0 rfl) (fun c => absurd c (by decide)) (fun _ => ?_)
            refine x_ld 0 1 2 72 rfl rfl rfl rfl rfl ?_
            refine g_572_20 56 75 rfl rfl rfl ?_
            refine x_ld 3 1 0 76 rfl rfl rfl rfl rfl ?_
            refine x_ld 5 2 0 78 rfl rfl rfl rfl rfl ?_
            refine x_cv 228 123 81 [.ref 588, zi ((q : Nat) : Int), zi ((t : Nat) : Int)] rfl rfl rfl (Nat.le_of_ble_eq_true rfl) rfl rfl (Nat.le_of_ble_eq_true rfl) trivial (Nat.le_of_ble_eq_true rfl) (c123 (M := (rB M' 587 (adB (M'.2.1 587) (1152 * ((k : Nat) : Int) + ((t : Nat) : Int))))) d i_588 (k := q) (t := t) (by omega) (by omega)) rfl ?_
            have e_hv2 : (rB M' 587 (adB (M'.2.1 587) (1152 * ((k : Nat) : Int) + ((t : Nat) : Int)))).2.1 588 (1152 * ((q : Nat) : Int) + ((t : Nat) : Int)) = mS (M.2.1 588) q t := by show M'.2.1 588 _ = _; exact hF.2.2.2 588 (by decide) _ (by omega)
            rw [e_hv2]
            rcases Bool.eq_false_or_eq_true (mS (M.2.1 588) q t) with hv2 | hv2
            · rw [hv2]
              refine z_ifeq 94 84 rfl rfl rfl (rg_lit 1 rfl) (fun c => absurd c (by decide)) (fun _ => ?_)
              refine x_ld 0 1 2 85 rfl rfl rfl rfl rfl ?_
              refine g_572_20 56 88 rfl rfl rfl ?_
              refine x_ld 1 1 0 89 rfl rfl rfl rfl rfl ?_
              refine x_ld 5 2 0 91 rfl rfl rfl rfl rfl ?_
              refine x_cv 235 121 94 [.ref 588, zi ((k : Nat) : Int), zi ((t : Nat) : Int)] rfl rfl rfl (Nat.le_of_ble_eq_true rfl) rfl rfl (Nat.le_of_ble_eq_true rfl) trivial (Nat.le_of_ble_eq_true rfl) (c121 (M := (rB M' 587 (adB (M'.2.1 587) (1152 * ((k : Nat) : Int) + ((t : Nat) : Int))))) d i_588 (k := k) (t := t) (by omega) (by omega)) rfl ?_
              refine x_ld 6 2 0 96 rfl rfl rfl rfl rfl ?_
              refine z_ifeq 114 99 rfl rfl rfl (rg_lit 0 rfl) (fun _ => ?_) (fun c => absurd c (by decide))
              refine x_ld 4 2 0 116 rfl rfl rfl rfl rfl ?_
              refine x_st 4 2 0 118 [some (.ref 572), some (zi ((k : Nat) : Int)), some (zi ((p : Nat) : Int)), some (zi ((q : Nat) : Int)), some (zi x), some (zi ((t : Nat) : Int)), some (zi 0), some (zi 1)] rfl rfl rfl (Nat.le_of_ble_eq_true rfl) rfl rfl ?_
              refine z_inc 5 121 [some (.ref 572), some (zi ((k : Nat) : Int)), some (zi ((p : Nat) : Int)), some (zi ((q : Nat) : Int)), some (zi x), some (zi (((t : Nat) : Int) + 1)), some (zi 0), some (zi 1)] rfl rfl (Nat.le_of_ble_eq_true rfl) rfl rfl ?_
              refine x_go 6 rfl rfl ?_
              have hst := lst_step hx
              have hd : (((mS (M.2.1 587) p) t && (mS (M.2.1 587) q) t) = true) ↔ (mS (M.2.1 587) p t = true ∧ mS (M.2.1 587) q t = true) := Bool.and_eq_true_iff
              refine ih (1093 - (t + 1)) (by omega) (t + 1) rfl (by omega) _ _ (Fe_trans (Fe_trans hF (Fe_of (.inl rfl) (Fm_add M' (by omega)))) (Fe_of (.inr rfl) (Fm_add _ (by omega)))) (bS_oth (bS_add hS (by show (mS (M.2.1 587) p t || mS (M.2.1 587) q t) = true; first | (rw [hs1]; rfl) | (rw [hs2, Bool.or_true]))) (by decide)) (bS_add (bS_oth hV (by decide)) (by show (mS (M.2.1 588) p t || mS (M.2.1 588) q t) = true; first | (rw [hv1]; rfl) | (rw [hv2, Bool.or_true]))) ?_ _ _
              by_cases qx : x < 0
              · rw [if_pos qx, if_neg (fun e => by have e := hd.mp (dcd_iff.mp e); first | exact absurd (hs1.symm.trans e.1) (by decide) | exact absurd (hs2.symm.trans e.2) (by decide))] at hst; exact hst
              · rw [if_neg qx] at hst; exact hst
            · rw [hv2]
              refine z_ifeq 94 84 rfl rfl rfl (rg_lit 0 rfl) (fun _ => ?_) (fun c => absurd c (by decide))
              refine x_ld 6 2 0 96 rfl rfl rfl rfl rfl ?_
              refine z_ifeq 114 99 rfl rfl rfl (rg_lit 0 rfl) (fun _ => ?_) (fun c => absurd c (by decide))
              refine x_ld 4 2 0 116 rfl rfl rfl rfl rfl ?_
              refine x_st 4 2 0 118 [some (.ref 572), some (zi ((k : Nat) : Int)), some (zi ((p : Nat) : Int)), some (zi ((q : Nat) : Int)), some (zi x), some (zi ((t : Nat) : Int)), some (zi 0), some (zi 1)] rfl rfl rfl (Nat.le_of_ble_eq_true rfl) rfl rfl ?_
              refine z_inc 5 121 [some (.ref 572), some (zi ((k : Nat) : Int)), some (zi ((p : Nat) : Int)), some (zi ((q : Nat) : Int)), some (zi x), some (zi (((t : Nat) : Int) + 1)), some (zi 0), some (zi 1)] rfl rfl (Nat.le_of_ble_eq_true rfl) rfl rfl ?_
              refine x_go 6 rfl rfl ?_
              have hst := lst_step hx
              have hd : (((mS (M.2.1 587) p) t && (mS (M.2.1 587) q) t) = true) ↔ (mS (M.2.1 587) p t = true ∧ mS (M.2.1 587) q t = true) := Bool.and_eq_true_iff
              refine ih (1093 - (t + 1)) (by omega) (t + 1) rfl (by omega) _ _ (Fe_trans hF (Fe_of (.inl rfl) (Fm_add M' (by omega)))) (bS_add hS (by show (mS (M.2.1 587) p t || mS (M.2.1 587) q t) = true; first | (rw [hs1]; rfl) | (rw [hs2, Bool.or_true]))) (bS_no (bS_oth hV (by decide)) (by show ¬ (mS (M.2.1 588) p t || mS (M.2.1 588) q t) = true; rw [hv1, hv2]; decide)) ?_ _ _
              by_cases qx : x < 0
              · rw [if_pos qx, if_neg (fun e => by have e := hd.mp (dcd_iff.mp e); first | exact absurd (hs1.symm.trans e.1) (by decide) | exact absurd (hs2.symm.trans e.2) (by decide))] at hst; exact hst
              · rw [if_neg qx] at hst; exact hst
        · rw [hs2]
          refine x_st 7 2 0 38 [some (.ref 572), some (zi ((k : Nat) : Int)), some (zi ((p : Nat) : Int)), some (zi ((q : Nat) : Int)), some (zi x), some (zi ((t : Nat) : Int)), some (zi 0), some (zi 0)] rfl rfl rfl (Nat.le_of_ble_eq_true rfl) rfl rfl ?_
          refine x_ld 6 2 0 40 rfl rfl rfl rfl rfl ?_
          refine z_ifne 48 43 rfl rfl rfl (rg_lit 0 rfl) (fun c => absurd c (by decide)) (fun _ => ?_)
          refine x_ld 7 2 0 45 rfl rfl rfl rfl rfl ?_
          refine z_ifeq 58 48 rfl rfl rfl (rg_lit 0 rfl) (fun _ => ?_) (fun c => absurd c (by decide))
          refine x_ld 0 1 2 59 rfl rfl rfl rfl rfl ?_
          refine g_572_20 56 62 rfl rfl rfl ?_
          refine x_ld 2 1 0 63 rfl rfl rfl rfl rfl ?_
          refine x_ld 5 2 0 65 rfl rfl rfl rfl rfl ?_
          refine x_cv 228 123 68 [.ref 588, zi ((p : Nat) : Int), zi ((t : Nat) : Int)] rfl rfl rfl (Nat.le_of_ble_eq_true rfl) rfl rfl (Nat.le_of_ble_eq_true rfl) trivial (Nat.le_of_ble_eq_true rfl) (c123 (M := M') d i_588 (k := p) (t := t) (by omega) (by omega)) rfl ?_
          have e_hv1 : M'.2.1 588 (1152 * ((p : Nat) : Int) + ((t : Nat) : Int)) = mS (M.2.1 588) p t := by show M'.2.1 588 _ = _; exact hF.2.2.2 588 (by decide) _ (by omega)
          rw [e_hv1]
          rcases Bool.eq_false_or_eq_true (mS (M.2.1 588) p t) with hv1 | hv1
          · rw [hv1]
            refine z_ifne 84 71 rfl rfl rfl (rg_lit 1 rfl) (fun _ => ?_) (fun c => absurd c (by decide))
            refine x_ld 0 1 2 85 rfl rfl rfl rfl rfl ?_
            refine g_572_20 56 88 rfl rfl rfl ?_
            refine x_ld 1 1 0 89 rfl rfl rfl rfl rfl ?_
            refine x_ld 5 2 0 91 rfl rfl rfl rfl rfl ?_
            refine x_cv 235 121 94 [.ref 588, zi ((k : Nat) : Int), zi ((t : Nat) : Int)] rfl rfl rfl (Nat.le_of_ble_eq_true rfl) rfl rfl (Nat.le_of_ble_eq_true rfl) trivial (Nat.le_of_ble_eq_true rfl) (c121 (M := M') d i_588 (k := k) (t := t) (by omega) (by omega)) rfl ?_
            refine x_ld 6 2 0 96 rfl rfl rfl rfl rfl ?_
            refine z_ifeq 114 99 rfl rfl rfl (rg_lit 0 rfl) (fun _ => ?_) (fun c => absurd c (by decide))
            refine x_ld 4 2 0 116 rfl rfl rfl rfl rfl ?_
            refine x_st 4 2 0 118 [some (.ref 572), some (zi ((k : Nat) : Int)), some (zi ((p : Nat) : Int)), some (zi ((q : Nat) : Int)), some (zi x), some (zi ((t : Nat) : Int)), some (zi 0), some (zi 0)] rfl rfl rfl (Nat.le_of_ble_eq_true rfl) rfl rfl ?_
            refine z_inc 5 121 [some (.ref 572), some (zi ((k : Nat) : Int)), some (zi ((p : Nat) : Int)), some (zi ((q : Nat) : Int)), some (zi x), some (zi (((t : Nat) : Int) + 1)), some (zi 0), some (zi 0)] rfl rfl (Nat.le_of_ble_eq_true rfl) rfl rfl ?_
            refine x_go 6 rfl rfl ?_
            have hst := lst_step hx
            have hd : (((mS (M.2.1 587) p) t && (mS (M.2.1 587) q) t) = true) ↔ (mS (M.2.1 587) p t = true ∧ mS (M.2.1 587) q t = true) := Bool.and_eq_true_iff
            refine ih (1093 - (t + 1)) (by omega) (t + 1) rfl (by omega) _ _ (Fe_trans hF (Fe_of (.inr rfl) (Fm_add _ (by omega)))) (bS_oth (bS_no hS (by show ¬ (mS (M.2.1 587) p t || mS (M.2.1 587) q t) = true; rw [hs1, hs2]; decide)) (by decide)) (bS_add hV (by show (mS (M.2.1 588) p t || mS (M.2.1 588) q t) = true; first | (rw [hv1]; rfl) | (rw [hv2, Bool.or_true]))) ?_ _ _
            by_cases qx : x < 0
            · rw [if_pos qx, if_neg (fun e => by have e := hd.mp (dcd_iff.mp e); first | exact absurd (hs1.symm.trans e.1) (by decide) | exact absurd (hs2.symm.trans e.2) (by decide))] at hst; exact hst
            · rw [if_neg qx] at hst; exact hst
          · rw [hv1]
            refine z_ifne 84 71 rfl rfl rfl (rg_lit 0 rfl) (fun c => absurd c (by decide)) (fun _ => ?_)
            refine x_ld 0 1 2 72 rfl rfl rfl rfl rfl ?_
            refine g_572_20 56 75 rfl rfl rfl ?_
            refine x_ld 3 1 0 76 rfl rfl rfl rfl rfl ?_
            refine x_ld 5 2 0 78 rfl rfl rfl rfl rfl ?_
            refine x_cv 228 123 81 [.ref 588, zi ((q : Nat) : Int), zi ((t : Nat) : Int)] rfl rfl rfl (Nat.le_of_ble_eq_true rfl) rfl rfl (Nat.le_of_ble_eq_true rfl) trivial (Nat.le_of_ble_eq_true rfl) (c123 (M := M') d i_588 (k := q) (t := t) (by omega) (by omega)) rfl ?_
            have e_hv2 : M'.2.1 588 (1152 * ((q : Nat) : Int) + ((t : Nat) : Int)) = mS (M.2.1 588) q t := by show M'.2.1 588 _ = _; exact hF.2.2.2 588 (by decide) _ (by omega)
            rw [e_hv2]
            rcases Bool.eq_false_or_eq_true (mS (M.2.1 588) q t) with hv2 | hv2
            · rw [hv2]
              refine z_ifeq 94 84 rfl rfl rfl (rg_lit 1 rfl) (fun c => absurd c (by decide)) (fun _ => ?_)
              refine x_ld 0 1 2 85 rfl rfl rfl rfl rfl ?_
              refine g_572_20 56 88 rfl rfl rfl ?_
              refine x_ld 1 1 0 89 rfl rfl rfl rfl rfl ?_
              refine x_ld 5 2 0 91 rfl rfl rfl rfl rfl ?_
              refine x_cv 235 121 94 [.ref 588, zi ((k : Nat) : Int), zi ((t : Nat) : Int)] rfl rfl rfl (Nat.le_of_ble_eq_true rfl) rfl rfl (Nat.le_of_ble_eq_true rfl) trivial (Nat.le_of_ble_eq_true rfl) (c121 (M := M') d i_588 (k := k) (t := t) (by omega) (by omega)) rfl ?_
              refine x_ld 6 2 0 96 rfl rfl rfl rfl rfl ?_
              refine z_ifeq 114 99 rfl rfl rfl (rg_lit 0 rfl) (fun _ => ?_) (fun c => absurd c (by decide))
              refine x_ld 4 2 0 116 rfl rfl rfl rfl rfl ?_
              refine x_st 4 2 0 118 [some (.ref 572), some (zi ((k : Nat) : Int)), some (zi ((p : Nat) : Int)), some (zi ((q : Nat) : Int)), some (zi x), some (zi ((t : Nat) : Int)), some (zi 0), some (zi 0)] rfl rfl rfl (Nat.le_of_ble_eq_true rfl) rfl rfl ?_
              refine z_inc 5 121 [some (.ref 572), some (zi ((k : Nat) : Int)), some (zi ((p : Nat) : Int)), some (zi ((q : Nat) : Int)), some (zi x), some (zi (((t : Nat) : Int) + 1)), some (zi 0), some (zi 0)] rfl rfl (Nat.le_of_ble_eq_true rfl) rfl rfl ?_
              refine x_go 6 rfl rfl ?_
              have hst := lst_step hx
              have hd : (((mS (M.2.1 587) p) t && (mS (M.2.1 587) q) t) = true) ↔ (mS (M.2.1 587) p t = true ∧ mS (M.2.1 587) q t = true) := Bool.and_eq_true_iff
              refine ih (1093 - (t + 1)) (by omega) (t + 1) rfl (by omega) _ _ (Fe_trans hF (Fe_of (.inr rfl) (Fm_add _ (by omega)))) (bS_oth (bS_no hS (by show ¬ (mS (M.2.1 587) p t || mS (M.2.1 587) q t) = true; rw [hs1, hs2]; decide)) (by decide)) (bS_add hV (by show (mS (M.2.1 588) p t || mS (M.2.1 588) q t) = true; first | (rw [hv1]; rfl) | (rw [hv2, Bool.or_true]))) ?_ _ _
              by_cases qx : x < 0
              · rw [if_pos qx, if_neg (fun e => by have e := hd.mp (dcd_iff.mp e); first | exact absurd (hs1.symm.trans e.1) (by decide) | exact absurd (hs2.symm.trans e.2) (by decide))] at hst; exact hst
              · rw [if_neg qx] at hst; exact hst
            · rw [hv2]
              refine z_ifeq 94 84 rfl rfl rfl (rg_lit 0 rfl) (fun _ => ?_) (fun c => absurd c (by decide))
              refine x_ld 6 2 0 96 rfl rfl rfl rfl rfl ?_
              refine z_ifeq 114 99 rfl rfl rfl (rg_lit 0 rfl) (fun _ => ?_) (fun c => absurd c (by decide))
              refine x_ld 4 2 0 116 rfl rfl rfl rfl rfl ?_
              refine x_st 4 2 0 118 [some (.ref 572), some (zi ((k : Nat) : Int)), some (zi ((p : Nat) : Int)), some (zi ((q : Nat) : Int)), some (zi x), some (zi ((t : Nat) : Int)), some (zi 0), some (zi 0)] rfl rfl rfl (Nat.le_of_ble_eq_true rfl) rfl rfl ?_
              refine z_inc 5 121 [some (.ref 572), some (zi ((k : Nat) : Int)), some (zi ((p : Nat) : Int)), some (zi ((q : Nat) : Int)), some (zi x), some (zi (((t : Nat) : Int) + 1)), some (zi 0), some (zi 0)] rfl rfl (Nat.le_of_ble_eq_true rfl) rfl rfl ?_
              refine x_go 6 rfl rfl ?_
              have hst := lst_step hx
              have hd : (((mS (M.2.1 587) p) t && (mS (M.2.1 587) q) t) = true) ↔ (mS (M.2.1 587) p t = true ∧ mS (M.2.1 587) q t = true) := Bool.and_eq_true_iff
              refine ih (1093 - (t + 1)) (by omega) (t + 1) rfl (by omega) _ _ hF (bS_no hS (by show ¬ (mS (M.2.1 587) p t || mS (M.2.1 587) q t) = true; rw [hs1, hs2]; decide)) (bS_no hV (by show ¬ (mS (M.2.1 588) p t || mS (M.2.1 588) q t) = true; rw [hv1, hv2]; decide)) ?_ _ _
              by_cases qx : x < 0
              · rw [if_pos qx, if_neg (fun e => by have e := hd.mp (dcd_iff.mp e); first | exact absurd (hs1.symm.trans e.1) (by decide) | exact absurd (hs2.symm.trans e.2) (by decide))] at hst; exact hst
              · rw [if_neg qx] at hst; exact hst
theorem c122 (d : Nat) {k p q : Nat} (hk : k < 32) (hp32 : p < 32) (hq32 : q < 32) (pk : p ≠ k) (qk : q ≠ k) (hc1 : ∀ u : Nat, u < 1152 → M.2.1 587 (1152 * (k : Int) + (u : Int)) = false) (hc2 : ∀ u : Nat, u < 1152 → M.2.1 588 (1152 * (k : Int) + (u : Int)) = false) : ab_Z (pg_G L xs) (d + 2) 122 [.ref 572, zi (k : Nat), zi (p : Nat), zi (q : Nat)] M es (fun v M' => ∃ x, v = some (zi x) ∧ Fe k M M' ∧ bS 587 k 1093 M' (fun u => ((mS (M.2.1 587) p) u || (mS (M.2.1 587) q) u) = true) ∧ bS 588 k 1093 M' (fun u => ((mS (M.2.1 588) p) u || (mS (M.2.1 588) q) u) = true) ∧ lst (fun u => u < 1093 ∧ ((mS (M.2.1 587) p) u && (mS (M.2.1 587) q) u) = true) x) := by
  show ab_W (pg_G L xs) (ab_X (pg_G L xs) (d + 1)) 122 _ 0 [some (.ref 572), some (zi ((k : Nat) : Int)), some (zi ((p : Nat) : Int)), some (zi ((q : Nat) : Int)), none, none, none, none] [] (hp M ++ es)
  refine x_cst (zi (-1)) 1 1 rfl rfl rfl ?_
  refine x_st 4 2 0 3 [some (.ref 572), some (zi ((k : Nat) : Int)), some (zi ((p : Nat) : Int)), some (zi ((q : Nat) : Int)), some (zi (-1)), none, none, none] rfl rfl rfl (Nat.le_of_ble_eq_true rfl) rfl rfl ?_
  refine x_cst (zi 0) 1 4 rfl rfl rfl ?_
  refine x_st 5 2 0 6 [some (.ref 572), some (zi ((k : Nat) : Int)), some (zi ((p : Nat) : Int)), some (zi ((q : Nat) : Int)), some (zi (-1)), some (zi 0), none, none] rfl rfl rfl (Nat.le_of_ble_eq_true rfl) rfl rfl ?_
  exact c122_loop d hk hp32 hq32 pk qk (fun x M' a b c e => ⟨_, M', rfl, rfl, x, rfl, a, b, c, e⟩) _ 0 rfl (Nat.zero_le _) M (-1) (Fe_refl ..) (fun u hu => ⟨fun e => (by rw [hc1 u hu] at e; cases e), fun e => absurd e.1 (Nat.not_lt_zero u)⟩) (fun u hu => ⟨fun e => (by rw [hc2 u hu] at e; cases e), fun e => absurd e.1 (Nat.not_lt_zero u)⟩) (.inl ⟨rfl, fun u e => absurd e.1 (Nat.not_lt_zero u)⟩) _ _
theorem c120_0_0 (d : Nat) {k : Nat} (hk : k < 32) (hkd : M.1 582 (k : Int) = 1) (hlt : M.1 585 (k : Int) = 4) (hc1 : ∀ u : Nat, u < 1152 → M.2.1 587 (1152 * (k : Int) + (u : Int)) = false) (hc2 : ∀ u : Nat, u < 1152 → M.2.1 588 (1152 * (k : Int) + (u : Int)) = false) : ab_Z (pg_G L xs) (d + 2) 120 [.ref 572, zi (k : Nat)] M es (fun v M' => v = none ∧ Fe k M M' ∧ ∀ u : Nat, u < 1152 → (M'.2.1 587 (1152 * (k : Int) + (u : Int)) = true ↔ sS 0 0 (fun _ => false) (fun _ => false) u) ∧ (M'.2.1 588 (1152 * (k : Int) + (u : Int)) = true ↔ sV 0 0 (fun _ => false) (fun _ => false) u)) := by
  show ab_W (pg_G L xs) (ab_X (pg_G L xs) (d + 1)) 120 _ 0 [some (.ref 572), some (zi ((k : Nat) : Int)), none, none, none] [] (hp M ++ es)
  refine x_ld 0 1 2 1 rfl rfl rfl rfl rfl ?_
  refine g_572_14 38 4 rfl rfl rfl ?_
  refine x_ld 1 1 0 5 rfl rfl rfl rfl rfl ?_
  refine z_ild 1 6 rfl i_582 rfl ⟨by omega, by omega⟩ hkd rfl ?_
  refine x_st 2 1 0 7 [some (.ref 572), some (zi ((k : Nat) : Int)), some (zi 1), none, none] rfl rfl rfl (Nat.le_of_ble_eq_true rfl) rfl rfl ?_
  refine x_ld 0 1 2 8 rfl rfl rfl rfl rfl ?_
  refine g_572_17 47 11 rfl rfl rfl ?_
  refine x_ld 1 1 0 12 rfl rfl rfl rfl rfl ?_
  refine z_ild 4 13 rfl i_585 rfl ⟨by omega, by omega⟩ hlt rfl ?_
  refine x_st 3 1 0 14 [some (.ref 572), some (zi ((k : Nat) : Int)), some (zi 1), some (zi 4), none] rfl rfl rfl (Nat.le_of_ble_eq_true rfl) rfl rfl ?_
  refine x_cst (zi 0) 1 15 rfl rfl rfl ?_
  refine x_st 4 2 0 17 [some (.ref 572), some (zi ((k : Nat) : Int)), some (zi 1), some (zi 4), some (zi 0)] rfl rfl rfl (Nat.le_of_ble_eq_true rfl) rfl rfl ?_
  refine x_ld 4 2 0 19 rfl rfl rfl rfl rfl ?_
  refine x_cst (zi 3) 1 20 rfl rfl rfl ?_
  refine z_icge 85 23 rfl rfl rfl (rg_lit 0 rfl) (rg_lit 3 rfl) (fun c => absurd c (by decide)) (fun _ => ?_)
  refine x_ld 3 1 0 24 rfl rfl rfl rfl rfl ?_
  refine x_ld 4 2 0 26 rfl rfl rfl rfl rfl ?_
  refine z_iceq 34 29 rfl rfl rfl (rg_lit 4 rfl) (rg_lit 0 rfl) (fun c => absurd c (by decide)) (fun _ => ?_)
  refine x_ld 3 1 0 30 rfl rfl rfl rfl rfl ?_
  refine x_cst (zi 4) 1 31 rfl rfl rfl ?_
  refine z_icne 79 34 rfl rfl rfl (rg_lit 4 rfl) (rg_lit 4 rfl) (fun c => absurd c (by decide)) (fun _ => ?_)
  refine x_ld 2 1 0 35 rfl rfl rfl rfl rfl ?_
  refine x_cst (zi 3) 1 36 rfl rfl rfl ?_
  refine z_icne 46 39 rfl rfl rfl (rg_lit 1 rfl) (rg_lit 3 rfl) (fun _ => ?_) (fun c => absurd c (by decide))
  refine x_ld 0 1 2 47 rfl rfl rfl rfl rfl ?_
  refine g_572_19 53 50 rfl rfl rfl ?_
  refine x_ld 1 1 0 51 rfl rfl rfl rfl rfl ?_
  refine x_ld 4 2 0 53 rfl rfl rfl rfl rfl ?_
  refine x_cst (zi 1) 1 54 rfl rfl rfl ?_
  refine z_add 55 rfl rfl ?_
  refine x_cv 235 121 58 [.ref 587, zi ((k : Nat) : Int), zi 1] rfl rfl rfl (Nat.le_of_ble_eq_true rfl) rfl rfl (Nat.le_of_ble_eq_true rfl) trivial (Nat.le_of_ble_eq_true rfl) (c121 (M := M) d i_587 (k := k) (t := 1) (by decide) (by omega)) rfl ?_
  refine x_ld 2 1 0 59 rfl rfl rfl rfl rfl ?_
  refine z_ifeq 67 62 rfl rfl rfl (rg_lit 1 rfl) (fun c => absurd c (by decide)) (fun _ => ?_)
  refine x_ld 2 1 0 63 rfl rfl rfl rfl rfl ?_
  refine x_cst (zi 1) 1 64 rfl rfl rfl ?_
  refine z_icne 79 67 rfl rfl rfl (rg_lit 1 rfl) (rg_lit 1 rfl) (fun c => absurd c (by decide)) (fun _ => ?_)
  refine x_ld 0 1 2 68 rfl rfl rfl rfl rfl ?_
  refine g_572_20 56 71 rfl rfl rfl ?_
  refine x_ld 1 1 0 72 rfl rfl rfl rfl rfl ?_
  refine x_ld 4 2 0 74 rfl rfl rfl rfl rfl ?_
  refine x_cst (zi 1) 1 75 rfl rfl rfl ?_
  refine z_add 76 rfl rfl ?_
  refine x_cv 235 121 79 [.ref 588, zi ((k : Nat) : Int), zi 1] rfl rfl rfl (Nat.le_of_ble_eq_true rfl) rfl rfl (Nat.le_of_ble_eq_true rfl) trivial (Nat.le_of_ble_eq_true rfl) (c121 (M := (rB M 587 (adB (M.2.1 587) (1152 * ((k : Nat) : Int) + (((1 : Nat)) : Int))))) d i_588 (k := k) (t := 1) (by decide) (by omega)) rfl ?_
  refine z_inc 4 82 [some (.ref 572), some (zi ((k : Nat) : Int)), some (zi 1), some (zi 4), some (zi 1)] rfl rfl (Nat.le_of_ble_eq_true rfl) rfl rfl ?_
  refine x_go 17 rfl rfl ?_
  refine x_ld 4 2 0 19 rfl rfl rfl rfl rfl ?_
  refine x_cst (zi 3) 1 20 rfl rfl rfl ?_
  refine z_icge 85 23 rfl rfl rfl (rg_lit 1 rfl) (rg_lit 3 rfl) (fun c => absurd c (by decide)) (fun _ => ?_)
  refine x_ld 3 1 0 24 rfl rfl rfl rfl rfl ?_
  refine x_ld 4 2 0 26 rfl rfl rfl rfl rfl ?_
  refine z_iceq 34 29 rfl rfl rfl (rg_lit 4 rfl) (rg_lit 1 rfl) (fun c => absurd c (by decide)) (fun _ => ?_)
  refine x_ld 3 1 0 30 rfl rfl rfl rfl rfl ?_
  refine x_cst (zi 4) 1 31 rfl rfl rfl ?_
  refine z_icne 79 34 rfl rfl rfl (rg_lit 4 rfl) (rg_lit 4 rfl) (fun c => absurd c (by decide)) (fun _ => ?_)
  refine x_ld 2 1 0 35 rfl rfl rfl rfl rfl ?_
  refine x_cst (zi 3) 1 36 rfl rfl rfl ?_
  refine z_icne 46 39 rfl rfl rfl (rg_lit 1 rfl) (rg_lit 3 rfl) (fun _ => ?_) (fun c => absurd c (by decide))
  refine x_ld 0 1 2 47 rfl rfl rfl rfl rfl ?_
  refine g_572_19 53 50 rfl rfl rfl ?_
  refine x_ld 1 1 0 51 rfl rfl rfl rfl rfl ?_
  refine x_ld 4 2 0 53 rfl rfl rfl rfl rfl ?_
  refine x_cst (zi 1) 1 54 rfl rfl rfl ?_
  refine z_add 55 rfl rfl ?_
  refine x_cv 235 121 58 [.ref 587, zi ((k : Nat) : Int), zi 2] rfl rfl rfl (Nat.le_of_ble_eq_true rfl) rfl rfl (Nat.le_of_ble_eq_true rfl) trivial (Nat.le_of_ble_eq_true rfl) (c121 (M := (rB (rB M 587 (adB (M.2.1 587) (1152 * ((k : Nat) : Int) + (((1 : Nat)) : Int)))) 588 (adB ((rB M 587 (adB (M.2.1 587) (1152 * ((k : Nat) : Int) + (((1 : Nat)) : Int)))).2.1 588) (1152 * ((k : Nat) : Int) + (((1 : Nat)) : Int))))) d i_587 (k := k) (t := 2) (by decide) (by omega)) rfl ?_
  refine x_ld 2 1 0 59 rfl rfl rfl rfl rfl ?_
  refine z_ifeq 67 62 rfl rfl rfl (rg_lit 1 rfl) (fun c => absurd c (by decide)) (fun _ => ?_)
  refine x_ld 2 1 0 63 rfl rfl rfl rfl rfl ?_
  refine x_cst (zi 1) 1 64 rfl rfl rfl ?_
  refine z_icne 79 67 rfl rfl rfl (rg_lit 1 rfl) (rg_lit 1 rfl) (fun c => absurd c (by decide)) (fun _ => ?_)
  refine x_ld 0 1 2 68 rfl rfl rfl rfl rfl ?_
  refine g_572_20 56 71 rfl rfl rfl ?_
  refine x_ld 1 1 0 72 rfl rfl rfl rfl rfl ?_
  refine x_ld 4 2 0 74 rfl rfl rfl rfl rfl ?_
  refine x_cst (zi 1) 1 75 rfl rfl rfl ?_
  refine z_add 76 rfl rfl ?_
  refine x_cv 235 121 79 [.ref 588, zi ((k : Nat) : Int), zi 2] rfl rfl rfl (Nat.le_of_ble_eq_true rfl) rfl rfl (Nat.le_of_ble_eq_true rfl) trivial (Nat.le_of_ble_eq_true rfl) (c121 (M := (rB (rB (rB M 587 (adB (M.2.1 587) (1152 * ((k : Nat) : Int) + (((1 : Nat)) : Int)))) 588 (adB ((rB M 587 (adB (M.2.1 587) (1152 * ((k : Nat) : Int) + (((1 : Nat)) : Int)))).2.1 588) (1152 * ((k : Nat) : Int) + (((1 : Nat)) : Int)))) 587 (adB ((rB (rB M 587 (adB (M.2.1 587) (1152 * ((k : Nat) : Int) + (((1 : Nat)) : Int)))) 588 (adB ((rB M 587 (adB (M.2.1 587) (1152 * ((k : Nat) : Int) + (((1 : Nat)) : Int)))).2.1 588) (1152 * ((k : Nat) : Int) + (((1 : Nat)) : Int)))).2.1 587) (1152 * ((k : Nat) : Int) + (((2 : Nat)) : Int))))) d i_588 (k := k) (t := 2) (by decide) (by omega)) rfl ?_
  refine z_inc 4 82 [some (.ref 572), some (zi ((k : Nat) : Int)), some (zi 1), some (zi 4), some (zi 2)] rfl rfl (Nat.le_of_ble_eq_true rfl) rfl rfl ?_
  refine x_go 17 rfl rfl ?_
  refine x_ld 4 2 0 19 rfl rfl rfl rfl rfl ?_
  refine x_cst (zi 3) 1 20 rfl rfl rfl ?_
  refine z_icge 85 23 rfl rfl rfl (rg_lit 2 rfl) (rg_lit 3 rfl) (fun c => absurd c (by decide)) (fun _ => ?_)
  refine x_ld 3 1 0 24 rfl rfl rfl rfl rfl ?_
  refine x_ld 4 2 0 26 rfl rfl rfl rfl rfl ?_
  refine z_iceq 34 29 rfl rfl rfl (rg_lit 4 rfl) (rg_lit 2 rfl) (fun c => absurd c (by decide)) (fun _ => ?_)
  refine x_ld 3 1 0 30 rfl rfl rfl rfl rfl ?_
  refine x_cst (zi 4) 1 31 rfl rfl rfl ?_
  refine z_icne 79 34 rfl rfl rfl (rg_lit 4 rfl) (rg_lit 4 rfl) (fun c => absurd c (by decide)) (fun _ => ?_)
  refine x_ld 2 1 0 35 rfl rfl rfl rfl rfl ?_
  refine x_cst (zi 3) 1 36 rfl rfl rfl ?_
  refine z_icne 46 39 rfl rfl rfl (rg_lit 1 rfl) (rg_lit 3 rfl) (fun _ => ?_) (fun c => absurd c (by decide))
  refine x_ld 0 1 2 47 rfl rfl rfl rfl rfl ?_
  refine g_572_19 53 50 rfl rfl rfl ?_
  refine x_ld 1 1 0 51 rfl rfl rfl rfl rfl ?_
  refine x_ld 4 2 0 53 rfl rfl rfl rfl rfl ?_
  refine x_cst (zi 1) 1 54 rfl rfl rfl ?_
  refine z_add 55 rfl rfl ?_
  refine x_cv 235 121 58 [.ref 587, zi ((k : Nat) : Int), zi 3] rfl rfl rfl (Nat.le_of_ble_eq_true rfl) rfl rfl (Nat.le_of_ble_eq_true rfl) trivial (Nat.le_of_ble_eq_true rfl) (c121 (M := (rB (rB (rB (rB M 587 (adB (M.2.1 587) (1152 * ((k : Nat) : Int) + (((1 : Nat)) : Int)))) 588 (adB ((rB M 587 (adB (M.2.1 587) (1152 * ((k : Nat) : Int) + (((1 : Nat)) : Int)))).2.1 588) (1152 * ((k : Nat) : Int) + (((1 : Nat)) : Int)))) 587 (adB ((rB (rB M 587 (adB (M.2.1 587) (1152 * ((k : Nat) : Int) + (((1 : Nat)) : Int)))) 588 (adB ((rB M 587 (adB (M.2.1 587) (1152 * ((k : Nat) : Int) + (((1 : Nat)) : Int)))).2.1 588) (1152 * ((k : Nat) : Int) + (((1 : Nat)) : Int)))).2.1 587) (1152 * ((k : Nat) : Int) + (((2 : Nat)) : Int)))) 588 (adB ((rB (rB (rB M 587 (adB (M.2.1 587) (1152 * ((k : Nat) : Int) + (((1 : Nat)) : Int)))) 588 (adB ((rB M 587 (adB (M.2.1 587) (1152 * ((k : Nat) : Int) + (((1 : Nat)) : Int)))).2.1 588) (1152 * ((k : Nat) : Int) + (((1 : Nat)) : Int)))) 587 (adB ((rB (rB M 587 (adB (M.2.1 587) (1152 * ((k : Nat) : Int) + (((1 : Nat)) : Int)))) 588 (adB ((rB M 587 (adB (M.2.1 587) (1152 * ((k : Nat) : Int) + (((1 : Nat)) : Int)))).2.1 588) (1152 * ((k : Nat) : Int) + (((1 : Nat)) : Int)))).2.1 587) (1152 * ((k : Nat) : Int) + (((2 : Nat)) : Int)))).2.1 588) (1152 * ((k : Nat) : Int) + (((2 : Nat)) : Int))))) d i_587 (k := k) (t := 3) (by decide) (by omega)) rfl ?_
  refine x_ld 2 1 0 59 rfl rfl rfl rfl rfl ?_
  refine z_ifeq 67 62 rfl rfl rfl (rg_lit 1 rfl) (fun c => absurd c (by decide)) (fun _ => ?_)
  refine x_ld 2 1 0 63 rfl rfl rfl rfl rfl ?_
  refine x_cst (zi 1) 1 64 rfl rfl rfl ?_
  refine z_icne 79 67 rfl rfl rfl (rg_lit 1 rfl) (rg_lit 1 rfl) (fun c => absurd c (by decide)) (fun _ => ?_)
  refine x_ld 0 1 2 68 rfl rfl rfl rfl rfl ?_
  refine g_572_20 56 71 rfl rfl rfl ?_
  refine x_ld 1 1 0 72 rfl rfl rfl rfl rfl ?_
  refine x_ld 4 2 0 74 rfl rfl rfl rfl rfl ?_
  refine x_cst (zi 1) 1 75 rfl rfl rfl ?_
  refine z_add 76 rfl rfl ?_
  refine x_cv 235 121 79 [.ref 588, zi ((k : Nat) : Int), zi 3] rfl rfl rfl (Nat.le_of_ble_eq_true rfl) rfl rfl (Nat.le_of_ble_eq_true rfl) trivial (Nat.le_of_ble_eq_true rfl) (c121 (M := (rB (rB (rB (rB (rB M 587 (adB (M.2.1 587) (1152 * ((k : Nat) : Int) + (((1 : Nat)) : Int)))) 588 (adB ((rB M 587 (adB (M.2.1 587) (1152 * ((k : Nat) : Int) + (((1 : Nat)) : Int)))).2.1 588) (1152 * ((k : Nat) : Int) + (((1 : Nat)) : Int)))) 587 (adB ((rB (rB M 587 (adB (M.2.1 587) (1152 * ((k : Nat) : Int) + (((1 : Nat)) : Int)))) 588 (adB ((rB M 587 (adB (M.2.1 587) (1152 * ((k : Nat) : Int) + (((1 : Nat)) : Int)))).2.1 588) (1152 * ((k : Nat) : Int) + (((1 : Nat)) : Int)))).2.1 587) (1152 * ((k : Nat) : Int) + (((2 : Nat)) : Int)))) 588 (adB ((rB (rB (rB M 587 (adB (M.2.1 587) (1152 * ((k : Nat) : Int) + (((1 : Nat)) : Int)))) 588 (adB ((rB M 587 (adB (M.2.1 587) (1152 * ((k : Nat) : Int) + (((1 : Nat)) : Int)))).2.1 588) (1152 * ((k : Nat) : Int) + (((1 : Nat)) : Int)))) 587 (adB ((rB (rB M 587 (adB (M.2.1 587) (1152 * ((k : Nat) : Int) + (((1 : Nat)) : Int)))) 588 (adB ((rB M 587 (adB (M.2.1 587) (1152 * ((k : Nat) : Int) + (((1 : Nat)) : Int)))).2.1 588) (1152 * ((k : Nat) : Int) + (((1 : Nat)) : Int)))).2.1 587) (1152 * ((k : Nat) : Int) + (((2 : Nat)) : Int)))).2.1 588) (1152 * ((k : Nat) : Int) + (((2 : Nat)) : Int)))) 587 (adB ((rB (rB (rB (rB M 587 (adB (M.2.1 587) (1152 * ((k : Nat) : Int) + (((1 : Nat)) : Int)))) 588 (adB ((rB M 587 (adB (M.2.1 587) (1152 * ((k : Nat) : Int) + (((1 : Nat)) : Int)))).2.1 588) (1152 * ((k : Nat) : Int) + (((1 : Nat)) : Int)))) 587 (adB ((rB (rB M 587 (adB (M.2.1 587) (1152 * ((k : Nat) : Int) + (((1 : Nat)) : Int)))) 588 (adB ((rB M 587 (adB (M.2.1 587) (1152 * ((k : Nat) : Int) + (((1 : Nat)) : Int)))).2.1 588) (1152 * ((k : Nat) : Int) + (((1 : Nat)) : Int)))).2.1 587) (1152 * ((k : Nat) : Int) + (((2 : Nat)) : Int)))) 588 (adB ((rB (rB (rB M 587 (adB (M.2.1 587) (1152 * ((k : Nat) : Int) + (((1 : Nat)) : Int)))) 588 (adB ((rB M 587 (adB (M.2.1 587) (1152 * ((k : Nat) : Int) + (((1 : Nat)) : Int)))).2.1 588) (1152 * ((k : Nat) : Int) + (((1 : Nat)) : Int)))) 587 (adB ((rB (rB M 587 (adB (M.2.1 587) (1152 * ((k : Nat) : Int) + (((1 : Nat)) : Int)))) 588 (adB ((rB M 587 (adB (M.2.1 587) (1152 * ((k : Nat) : Int) + (((1 : Nat)) : Int)))).2.1 588) (1152 * ((k : Nat) : Int) + (((1 : Nat)) : Int)))).2.1 587) (1152 * ((k : Nat) : Int) + (((2 : Nat)) : Int)))).2.1 588) (1152 * ((k : Nat) : Int) + (((2 : Nat)) : Int)))).2.1 587) (1152 * ((k : Nat) : Int) + (((3 : Nat)) : Int))))) d i_588 (k := k) (t := 3) (by decide) (by omega)) rfl ?_
  refine z_inc 4 82 [some (.ref 572), some (zi ((k : Nat) : Int)), some (zi 1), some (zi 4), some (zi 3)] rfl rfl (Nat.le_of_ble_eq_true rfl) rfl rfl ?_
  refine x_go 17 rfl rfl ?_
  refine x_ld 4 2 0 19 rfl rfl rfl rfl rfl ?_
  refine x_cst (zi 3) 1 20 rfl rfl rfl ?_
  refine z_icge 85 23 rfl rfl rfl (rg_lit 3 rfl) (rg_lit 3 rfl) (fun _ => ?_) (fun c => absurd c (by decide))
  refine x_ld 2 1 0 86 rfl rfl rfl rfl rfl ?_
  refine x_cst (zi 2) 1 87 rfl rfl rfl ?_
  refine z_icne 102 90 rfl rfl rfl (rg_lit 1 rfl) (rg_lit 2 rfl) (fun _ => ?_) (fun c => absurd c (by decide))
  refine x_ld 2 1 0 103 rfl rfl rfl rfl rfl ?_
  refine x_cst (zi 3) 1 104 rfl rfl rfl ?_
  refine z_icne 116 107 rfl rfl rfl (rg_lit 1 rfl) (rg_lit 3 rfl) (fun _ => ?_) (fun c => absurd c (by decide))
  refine x_rtv rfl rfl ?_
  refine ⟨_, _, rfl, rfl, rfl, Fe_trans (Fe_trans (Fe_trans (Fe_trans (Fe_trans (Fe_trans (Fe_refl _ _) (Fe_of (.inl rfl) (Fm_add _ (by decide)))) (Fe_of (.inr rfl) (Fm_add _ (by decide)))) (Fe_of (.inl rfl) (Fm_add _ (by decide)))) (Fe_of (.inr rfl) (Fm_add _ (by decide)))) (Fe_of (.inl rfl) (Fm_add _ (by decide)))) (Fe_of (.inr rfl) (Fm_add _ (by decide))), fun u hu => ?_⟩
  have q1 := hc1 u hu
  have q2 := hc2 u hu
  have e1 : ¬ (587 : Nat) = 588 := by decide
  have e2 : ¬ (588 : Nat) = 587 := by decide
  simp only [rB, adB, e1, e2, ↓reduceIte, q1, q2, Bool.false_or]
  show (_ ↔ ltr 0 u = true) ∧ (_ ↔ ltr 0 u = true)
  simp only [Bool.or_eq_true, decide_eq_true_eq, ltr_iff, true_or, and_true]
  omega
theorem c120_0_1 (d : Nat) {k : Nat} (hk : k < 32) (hkd : M.1 582 (k : Int) = 0) (hlt : M.1 585 (k : Int) = 0) (hc1 : ∀ u : Nat, u < 1152 → M.2.1 587 (1152 * (k : Int) + (u : Int)) = false) (hc2 : ∀ u : Nat, u < 1152 → M.2.1 588 (1152 * (k : Int) + (u : Int)) = false) : ab_Z (pg_G L xs) (d + 2) 120 [.ref 572, zi (k : Nat)] M es (fun v M' => v = none ∧ Fe k M M' ∧ ∀ u : Nat, u < 1152 → (M'.2.1 587 (1152 * (k : Int) + (u : Int)) = true ↔ sS 0 1 (fun _ => false) (fun _ => false) u) ∧ (M'.2.1 588 (1152 * (k : Int) + (u : Int)) = true ↔ sV 0 1 (fun _ => false) (fun _ => false) u)) := by
  show ab_W (pg_G L xs) (ab_X (pg_G L xs) (d + 1)) 120 _ 0 [some (.ref 572), some (zi ((k : Nat) : Int)), none, none, none] [] (hp M ++ es)
  refine x_ld 0 1 2 1 rfl rfl rfl rfl rfl ?_
  refine g_572_14 38 4 rfl rfl rfl ?_
  refine x_ld 1 1 0 5 rfl rfl rfl rfl rfl ?_
  refine z_ild 0 6 rfl i_582 rfl ⟨by omega, by omega⟩ hkd rfl ?_
  refine x_st 2 1 0 7 [some (.ref 572), some (zi ((k : Nat) : Int)), some (zi 0), none, none] rfl rfl rfl (Nat.le_of_ble_eq_true rfl) rfl rfl ?_
  refine x_ld 0 1 2 8 rfl rfl rfl rfl rfl ?_
  refine g_572_17 47 11 rfl rfl rfl ?_
  refine x_ld 1 1 0 12 rfl rfl rfl rfl rfl ?_
  refine z_ild 0 13 rfl i_585 rfl ⟨by omega, by omega⟩ hlt rfl ?_
  refine x_st 3 1 0 14 [some (.ref 572), some (zi ((k : Nat) : Int)), some (zi 0), some (zi 0), none] rfl rfl rfl (Nat.le_of_ble_eq_true rfl) rfl rfl ?_
  refine x_cst (zi 0) 1 15 rfl rfl rfl ?_
  refine x_st 4 2 0 17 [some (.ref 572), some (zi ((k : Nat) : Int)), some (zi 0), some (zi 0), some (zi 0)] rfl rfl rfl (Nat.le_of_ble_eq_true rfl) rfl rfl ?_
  refine x_ld 4 2 0 19 rfl rfl rfl rfl rfl ?_
  refine x_cst (zi 3) 1 20 rfl rfl rfl ?_
  refine z_icge 85 23 rfl rfl rfl (rg_lit 0 rfl) (rg_lit 3 rfl) (fun c => absurd c (by decide)) (fun _ => ?_)
  refine x_ld 3 1 0 24 rfl rfl rfl rfl rfl ?_
  refine x_ld 4 2 0 26 rfl rfl rfl rfl rfl ?_
  refine z_iceq 34 29 rfl rfl rfl (rg_lit 0 rfl) (rg_lit 0 rfl) (fun _ => ?_) (fun c => absurd c (by decide))
  refine x_ld 2 1 0 35 rfl rfl rfl rfl rfl ?_
  refine x_cst (zi 3) 1 36 rfl rfl rfl ?_
  refine z_icne 46 39 rfl rfl rfl (rg_lit 0 rfl) (rg_lit 3 rfl) (fun _ => ?_) (fun c => absurd c (by decide))
  refine x_ld 0 1 2 47 rfl rfl rfl rfl rfl ?_
  refine g_572_19 53 50 rfl rfl rfl ?_
  refine x_ld 1 1 0 51 rfl rfl rfl rfl rfl ?_
  refine x_ld 4 2 0 53 rfl rfl rfl rfl rfl ?_
  refine x_cst (zi 1) 1 54 rfl rfl rfl ?_
  refine z_add 55 rfl rfl ?_
  refine x_cv 235 121 58 [.ref 587, zi ((k : Nat) : Int), zi 1] rfl rfl rfl (Nat.le_of_ble_eq_true rfl) rfl rfl (Nat.le_of_ble_eq_true rfl) trivial (Nat.le_of_ble_eq_true rfl) (c121 (M := M) d i_587 (k := k) (t := 1) (by decide) (by omega)) rfl ?_
  refine x_ld 2 1 0 59 rfl rfl rfl rfl rfl ?_
  refine z_ifeq 67 62 rfl rfl rfl (rg_lit 0 rfl) (fun _ => ?_) (fun c => absurd c (by decide))
  refine x_ld 0 1 2 68 rfl rfl rfl rfl rfl ?_
  refine g_572_20 56 71 rfl rfl rfl ?_
  refine x_ld 1 1 0 72 rfl rfl rfl rfl rfl ?_
  refine x_ld 4 2 0 74 rfl rfl rfl rfl rfl ?_
  refine x_cst (zi 1) 1 75 rfl rfl rfl ?_
  refine z_add 76 rfl rfl ?_
  refine x_cv 235 121 79 [.ref 588, zi ((k : Nat) : Int), zi 1] rfl rfl rfl (Nat.le_of_ble_eq_true rfl) rfl rfl (Nat.le_of_ble_eq_true rfl) trivial (Nat.le_of_ble_eq_true rfl) (c121 (M := (rB M 587 (adB (M.2.1 587) (1152 * ((k : Nat) : Int) + (((1 : Nat)) : Int))))) d i_588 (k := k) (t := 1) (by decide) (by omega)) rfl ?_
  refine z_inc 4 82 [some (.ref 572), some (zi ((k : Nat) : Int)), some (zi 0), some (zi 0), some (zi 1)] rfl rfl (Nat.le_of_ble_eq_true rfl) rfl rfl ?_
  refine x_go 17 rfl rfl ?_
  refine x_ld 4 2 0 19 rfl rfl rfl rfl rfl ?_
  refine x_cst (zi 3) 1 20 rfl rfl rfl ?_
  refine z_icge 85 23 rfl rfl rfl (rg_lit 1 rfl) (rg_lit 3 rfl) (fun c => absurd c (by decide)) (fun _ => ?_)
  refine x_ld 3 1 0 24 rfl rfl rfl rfl rfl ?_
  refine x_ld 4 2 0 26 rfl rfl rfl rfl rfl ?_
  refine z_iceq 34 29 rfl rfl rfl (rg_lit 0 rfl) (rg_lit 1 rfl) (fun c => absurd c (by decide)) (fun _ => ?_)
  refine x_ld 3 1 0 30 rfl rfl rfl rfl rfl ?_
  refine x_cst (zi 4) 1 31 rfl rfl rfl ?_
  refine z_icne 79 34 rfl rfl rfl (rg_lit 0 rfl) (rg_lit 4 rfl) (fun _ => ?_) (fun c => absurd c (by decide))
  refine z_inc 4 82 [some (.ref 572), some (zi ((k : Nat) : Int)), some (zi 0), some (zi 0), some (zi 2)] rfl rfl (Nat.le_of_ble_eq_true rfl) rfl rfl ?_
  refine x_go 17 rfl rfl ?_
  refine x_ld 4 2 0 19 rfl rfl rfl rfl rfl ?_
  refine x_cst (zi 3) 1 20 rfl rfl rfl ?_
  refine z_icge 85 23 rfl rfl rfl (rg_lit 2 rfl) (rg_lit 3 rfl) (fun c => absurd c (by decide)) (fun _ => ?_)
  refine x_ld 3 1 0 24 rfl rfl rfl rfl rfl ?_
  refine x_ld 4 2 0 26 rfl rfl rfl rfl rfl ?_
  refine z_iceq 34 29 rfl rfl rfl (rg_lit 0 rfl) (rg_lit 2 rfl) (fun c => absurd c (by decide)) (fun _ => ?_)
  refine x_ld 3 1 0 30 rfl rfl rfl rfl rfl ?_
  refine x_cst (zi 4) 1 31 rfl rfl rfl ?_
  refine z_icne 79 34 rfl rfl rfl (rg_lit 0 rfl) (rg_lit 4 rfl) (fun _ => ?_) (fun c => absurd c (by decide))
  refine z_inc 4 82 [some (.ref 572), some (zi ((k : Nat) : Int)), some (zi 0), some (zi 0), some (zi 3)] rfl rfl (Nat.le_of_ble_eq_true rfl) rfl rfl ?_
  refine x_go 17 rfl rfl ?_
  refine x_ld 4 2 0 19 rfl rfl rfl rfl rfl ?_
  refine x_cst (zi 3) 1 20 rfl rfl rfl ?_
  refine z_icge 85 23 rfl rfl rfl (rg_lit 3 rfl) (rg_lit 3 rfl) (fun _ => ?_) (fun c => absurd c (by decide))
  refine x_ld 2 1 0 86 rfl rfl rfl rfl rfl ?_
  refine x_cst (zi 2) 1 87 rfl rfl rfl ?_
  refine z_icne 102 90 rfl rfl rfl (rg_lit 0 rfl) (rg_lit 2 rfl) (fun _ => ?_) (fun c => absurd c (by decide))
  refine x_ld 2 1 0 103 rfl rfl rfl rfl rfl ?_
  refine x_cst (zi 3) 1 104 rfl rfl rfl ?_
  refine z_icne 116 107 rfl rfl rfl (rg_lit 0 rfl) (rg_lit 3 rfl) (fun _ => ?_) (fun c => absurd c (by decide))
  refine x_rtv rfl rfl ?_
  refine ⟨_, _, rfl, rfl, rfl, Fe_trans (Fe_trans (Fe_refl _ _) (Fe_of (.inl rfl) (Fm_add _ (by decide)))) (Fe_of (.inr rfl) (Fm_add _ (by decide))), fun u hu => ?_⟩
  have q1 := hc1 u hu
  have q2 := hc2 u hu
  have e1 : ¬ (587 : Nat) = 588 := by decide
  have e2 : ¬ (588 : Nat) = 587 := by decide
  simp only [rB, adB, e1, e2, ↓reduceIte, q1, q2, Bool.false_or]
  show (_ ↔ ltr 1 u = true) ∧ (_ ↔ ltr 1 u = true)
  simp only [Bool.or_eq_true, decide_eq_true_eq, ltr_iff, true_or, and_true]
  omega
theorem c120_0_2 (d : Nat) {k : Nat} (hk : k < 32) (hkd : M.1 582 (k : Int) = 0) (hlt : M.1 585 (k : Int) = 1) (hc1 : ∀ u : Nat, u < 1152 → M.2.1 587 (1152 * (k : Int) + (u : Int)) = false) (hc2 : ∀ u : Nat, u < 1152 → M.2.1 588 (1152 * (k : Int) + (u : Int)) = false) : ab_Z (pg_G L xs) (d + 2) 120 [.ref 572, zi (k : Nat)] M es (fun v M' => v = none ∧ Fe k M M' ∧ ∀ u : Nat, u < 1152 → (M'.2.1 587 (1152 * (k : Int) + (u : Int)) = true ↔ sS 0 2 (fun _ => false) (fun _ => false) u) ∧ (M'.2.1 588 (1152 * (k : Int) + (u : Int)) = true ↔ sV 0 2 (fun _ => false) (fun _ => false) u)) := by
  show ab_W (pg_G L xs) (ab_X (pg_G L xs) (d + 1)) 120 _ 0 [some (.ref 572), some (zi ((k : Nat) : Int)), none, none, none] [] (hp M ++ es)
  refine x_ld 0 1 2 1 rfl rfl rfl rfl rfl ?_
  refine g_572_14 38 4 rfl rfl rfl ?_
  refine x_ld 1 1 0 5 rfl rfl rfl rfl rfl ?_
  refine z_ild 0 6 rfl i_582 rfl ⟨by omega, by omega⟩ hkd rfl ?_
  refine x_st 2 1 0 7 [some (.ref 572), some (zi ((k : Nat) : Int)), some (zi 0), none, none] rfl rfl rfl (Nat.le_of_ble_eq_true rfl) rfl rfl ?_
  refine x_ld 0 1 2 8 rfl rfl rfl rfl rfl ?_
  refine g_572_17 47 11 rfl rfl rfl ?_
  refine x_ld 1 1 0 12 rfl rfl rfl rfl rfl ?_
  refine z_ild 1 13 rfl i_585 rfl ⟨by omega, by omega⟩ hlt rfl ?_
  refine x_st 3 1 0 14 [some (.ref 572), some (zi ((k : Nat) : Int)), some (zi 0), some (zi 1), none] rfl rfl rfl (Nat.le_of_ble_eq_true rfl) rfl rfl ?_
  refine x_cst (zi 0) 1 15 rfl rfl rfl ?_
  refine x_st 4 2 0 17 [some (.ref 572), some (zi ((k : Nat) : Int)), some (zi 0), some (zi 1), some (zi 0)] rfl rfl rfl (Nat.le_of_ble_eq_true rfl) rfl rfl ?_
  refine x_ld 4 2 0 19 rfl rfl rfl rfl rfl ?_
  refine x_cst (zi 3) 1 20 rfl rfl rfl ?_
  refine z_icge 85 23 rfl rfl rfl (rg_lit 0 rfl) (rg_lit 3 rfl) (fun c => absurd c (by decide)) (fun _ => ?_)
  refine x_ld 3 1 0 24 rfl rfl rfl rfl rfl ?_
  refine x_ld 4 2 0 26 rfl rfl rfl rfl rfl ?_
  refine z_iceq 34 29 rfl rfl rfl (rg_lit 1 rfl) (rg_lit 0 rfl) (fun c => absurd c (by decide)) (fun _ => ?_)
  refine x_ld 3 1 0 30 rfl rfl rfl rfl rfl ?_
  refine x_cst (zi 4) 1 31 rfl rfl rfl ?_
  refine z_icne 79 34 rfl rfl rfl (rg_lit 1 rfl) (rg_lit 4 rfl) (fun _ => ?_) (fun c => absurd c (by decide))
  refine z_inc 4 82 [some (.ref 572), some (zi ((k : Nat) : Int)), some (zi 0), some (zi 1), some (zi 1)] rfl rfl (Nat.le_of_ble_eq_true rfl) rfl rfl ?_
  refine x_go 17 rfl rfl ?_
  refine x_ld 4 2 0 19 rfl rfl rfl rfl rfl ?_
  refine x_cst (zi 3) 1 20 rfl rfl rfl ?_
  refine z_icge 85 23 rfl rfl rfl (rg_lit 1 rfl) (rg_lit 3 rfl) (fun c => absurd c (by decide)) (fun _ => ?_)
  refine x_ld 3 1 0 24 rfl rfl rfl rfl rfl ?_
  refine x_ld 4 2 0 26 rfl rfl rfl rfl rfl ?_
  refine z_iceq 34 29 rfl rfl rfl (rg_lit 1 rfl) (rg_lit 1 rfl) (fun _ => ?_) (fun c => absurd c (by decide))
  refine x_ld 2 1 0 35 rfl rfl rfl rfl rfl ?_
  refine x_cst (zi 3) 1 36 rfl rfl rfl ?_
  refine z_icne 46 39 rfl rfl rfl (rg_lit 0 rfl) (rg_lit 3 rfl) (fun _ => ?_) (fun c => absurd c (by decide))
  refine x_ld 0 1 2 47 rfl rfl rfl rfl rfl ?_
  refine g_572_19 53 50 rfl rfl rfl ?_
  refine x_ld 1 1 0 51 rfl rfl rfl rfl rfl ?_
  refine x_ld 4 2 0 53 rfl rfl rfl rfl rfl ?_
  refine x_cst (zi 1) 1 54 rfl rfl rfl ?_
  refine z_add 55 rfl rfl ?_
  refine x_cv 235 121 58 [.ref 587, zi ((k : Nat) : Int), zi 2] rfl rfl rfl (Nat.le_of_ble_eq_true rfl) rfl rfl (Nat.le_of_ble_eq_true rfl) trivial (Nat.le_of_ble_eq_true rfl) (c121 (M := M) d i_587 (k := k) (t := 2) (by decide) (by omega)) rfl ?_
  refine x_ld 2 1 0 59 rfl rfl rfl rfl rfl ?_
  refine z_ifeq 67 62 rfl rfl rfl (rg_lit 0 rfl) (fun _ => ?_) (fun c => absurd c (by decide))
  refine x_ld 0 1 2 68 rfl rfl rfl rfl rfl ?_
  refine g_572_20 56 71 rfl rfl rfl ?_
  refine x_ld 1 1 0 72 rfl rfl rfl rfl rfl ?_
  refine x_ld 4 2 0 74 rfl rfl rfl rfl rfl ?_
  refine x_cst (zi 1) 1 75 rfl rfl rfl ?_
  refine z_add 76 rfl rfl ?_
  refine x_cv 235 121 79 [.ref 588, zi ((k : Nat) : Int), zi 2] rfl rfl rfl (Nat.le_of_ble_eq_true rfl) rfl rfl (Nat.le_of_ble_eq_true rfl) trivial (Nat.le_of_ble_eq_true rfl) (c121 (M := (rB M 587 (adB (M.2.1 587) (1152 * ((k : Nat) : Int) + (((2 : Nat)) : Int))))) d i_588 (k := k) (t := 2) (by decide) (by omega)) rfl ?_
  refine z_inc 4 82 [some (.ref 572), some (zi ((k : Nat) : Int)), some (zi 0), some (zi 1), some (zi 2)] rfl rfl (Nat.le_of_ble_eq_true rfl) rfl rfl ?_
  refine x_go 17 rfl rfl ?_
  refine x_ld 4 2 0 19 rfl rfl rfl rfl rfl ?_
  refine x_cst (zi 3) 1 20 rfl rfl rfl ?_
  refine z_icge 85 23 rfl rfl rfl (rg_lit 2 rfl) (rg_lit 3 rfl) (fun c => absurd c (by decide)) (fun _ => ?_)
  refine x_ld 3 1 0 24 rfl rfl rfl rfl rfl ?_
  refine x_ld 4 2 0 26 rfl rfl rfl rfl rfl ?_
  refine z_iceq 34 29 rfl rfl rfl (rg_lit 1 rfl) (rg_lit 2 rfl) (fun c => absurd c (by decide)) (fun _ => ?_)
  refine x_ld 3 1 0 30 rfl rfl rfl rfl rfl ?_
  refine x_cst (zi 4) 1 31 rfl rfl rfl ?_
  refine z_icne 79 34 rfl rfl rfl (rg_lit 1 rfl) (rg_lit 4 rfl) (fun _ => ?_) (fun c => absurd c (by decide))
  refine z_inc 4 82 [some (.ref 572), some (zi ((k : Nat) : Int)), some (zi 0), some (zi 1), some (zi 3)] rfl rfl (Nat.le_of_ble_eq_true rfl) rfl rfl ?_
  refine x_go 17 rfl rfl ?_
  refine x_ld 4 2 0 19 rfl rfl rfl rfl rfl ?_
  refine x_cst (zi 3) 1 20 rfl rfl rfl ?_
  refine z_icge 85 23 rfl rfl rfl (rg_lit 3 rfl) (rg_lit 3 rfl) (fun _ => ?_) (fun c => absurd c (by decide))
  refine x_ld 2 1 0 86 rfl rfl rfl rfl rfl ?_
  refine x_cst (zi 2) 1 87 rfl rfl rfl ?_
  refine z_icne 102 90 rfl rfl rfl (rg_lit 0 rfl) (rg_lit 2 rfl) (fun _ => ?_) (fun c => absurd c (by decide))
  refine x_ld 2 1 0 103 rfl rfl rfl rfl rfl ?_
  refine x_cst (zi 3) 1 104 rfl rfl rfl ?_
  refine z_icne 116 107 rfl rfl rfl (rg_lit 0 rfl) (rg_lit 3 rfl) (fun _ => ?_) (fun c => absurd c (by decide))
  refine x_rtv rfl rfl ?_
  refine ⟨_, _, rfl, rfl, rfl, Fe_trans (Fe_trans (Fe_refl _ _) (Fe_of (.inl rfl) (Fm_add _ (by decide)))) (Fe_of (.inr rfl) (Fm_add _ (by decide))), fun u hu => ?_⟩
  have q1 := hc1 u hu
  have q2 := hc2 u hu
  have e1 : ¬ (587 : Nat) = 588 := by decide
  have e2 : ¬ (588 : Nat) = 587 := by decide
  simp only [rB, adB, e1, e2, ↓reduceIte, q1, q2, Bool.false_or]
  show (_ ↔ ltr 2 u = true) ∧ (_ ↔ ltr 2 u = true)
  simp only [Bool.or_eq_true, decide_eq_true_eq, ltr_iff, true_or, and_true]
  omega
theorem c120_0_3 (d : Nat) {k : Nat} (hk : k < 32) (hkd : M.1 582 (k : Int) = 0) (hlt : M.1 585 (k : Int) = 2) (hc1 : ∀ u : Nat, u < 1152 → M.2.1 587 (1152 * (k : Int) + (u : Int)) = false) (hc2 : ∀ u : Nat, u < 1152 → M.2.1 588 (1152 * (k : Int) + (u : Int)) = false) : ab_Z (pg_G L xs) (d + 2) 120 [.ref 572, zi (k : Nat)] M es (fun v M' => v = none ∧ Fe k M M' ∧ ∀ u : Nat, u < 1152 → (M'.2.1 587 (1152 * (k : Int) + (u : Int)) = true ↔ sS 0 3 (fun _ => false) (fun _ => false) u) ∧ (M'.2.1 588 (1152 * (k : Int) + (u : Int)) = true ↔ sV 0 3 (fun _ => false) (fun _ => false) u)) := by
  show ab_W (pg_G L xs) (ab_X (pg_G L xs) (d + 1)) 120 _ 0 [some (.ref 572), some (zi ((k : Nat) : Int)), none, none, none] [] (hp M ++ es)
  refine x_ld 0 1 2 1 rfl rfl rfl rfl rfl ?_
  refine g_572_14 38 4 rfl rfl rfl ?_
  refine x_ld 1 1 0 5 rfl rfl rfl rfl rfl ?_
  refine z_ild 0 6 rfl i_582 rfl ⟨by omega, by omega⟩ hkd rfl ?_
  refine x_st 2 1 0 7 [some (.ref 572), some (zi ((k : Nat) : Int)), some (zi 0), none, none] rfl rfl rfl (Nat.le_of_ble_eq_true rfl) rfl rfl ?_
  refine x_ld 0 1 2 8 rfl rfl rfl rfl rfl ?_
  refine g_572_17 47 11 rfl rfl rfl ?_
  refine x_ld 1 1 0 12 rfl rfl rfl rfl rfl ?_
  refine z_ild 2 13 rfl i_585 rfl ⟨by omega, by omega⟩ hlt rfl ?_
  refine x_st 3 1 0 14 [some (.ref 572), some (zi ((k : Nat) : Int)), some (zi 0), some (zi 2), none] rfl rfl rfl (Nat.le_of_ble_eq_true rfl) rfl rfl ?_
  refine x_cst (zi 0) 1 15 rfl rfl rfl ?_
  refine x_st 4 2 0 17 [some (.ref 572), some (zi ((k : Nat) : Int)), some (zi 0), some (zi 2), some (zi 0)] rfl rfl rfl (Nat.le_of_ble_eq_true rfl) rfl rfl ?_
  refine x_ld 4 2 0 19 rfl rfl rfl rfl rfl ?_
  refine x_cst (zi 3) 1 20 rfl rfl rfl ?_
  refine z_icge 85 23 rfl rfl rfl (rg_lit 0 rfl) (rg_lit 3 rfl) (fun c => absurd c (by decide)) (fun _ => ?_)
  refine x_ld 3 1 0 24 rfl rfl rfl rfl rfl ?_
  refine x_ld 4 2 0 26 rfl rfl rfl rfl rfl ?_
  refine z_iceq 34 29 rfl rfl rfl (rg_lit 2 rfl) (rg_lit 0 rfl) (fun c => absurd c (by decide)) (fun _ => ?_)
  refine x_ld 3 1 0 30 rfl rfl rfl rfl rfl ?_
  refine x_cst (zi 4) 1 31 rfl rfl rfl ?_
  refine z_icne 79 34 rfl rfl rfl (rg_lit 2 rfl) (rg_lit 4 rfl) (fun _ => ?_) (fun c => absurd c (by decide))
  refine z_inc 4 82 [some (.ref 572), some (zi ((k : Nat) : Int)), some (zi 0), some (zi 2), some (zi 1)] rfl rfl (Nat.le_of_ble_eq_true rfl) rfl rfl ?_
  refine x_go 17 rfl rfl ?_
  refine x_ld 4 2 0 19 rfl rfl rfl rfl rfl ?_
  refine x_cst (zi 3) 1 20 rfl rfl rfl ?_
  refine z_icge 85 23 rfl rfl rfl (rg_lit 1 rfl) (rg_lit 3 rfl) (fun c => absurd c (by decide)) (fun _ => ?_)
  refine x_ld 3 1 0 24 rfl rfl rfl rfl rfl ?_
  refine x_ld 4 2 0 26 rfl rfl rfl rfl rfl ?_
  refine z_iceq 34 29 rfl rfl rfl (rg_lit 2 rfl) (rg_lit 1 rfl) (fun c => absurd c (by decide)) (fun _ => ?_)
  refine x_ld 3 1 0 30 rfl rfl rfl rfl rfl ?_
  refine x_cst (zi 4) 1 31 rfl rfl rfl ?_
  refine z_icne 79 34 rfl rfl rfl (rg_lit 2 rfl) (rg_lit 4 rfl) (fun _ => ?_) (fun c => absurd c (by decide))
  refine z_inc 4 82 [some (.ref 572), some (zi ((k : Nat) : Int)), some (zi 0), some (zi 2), some (zi 2)] rfl rfl (Nat.le_of_ble_eq_true rfl) rfl rfl ?_
  refine x_go 17 rfl rfl ?_
  refine x_ld 4 2 0 19 rfl rfl rfl rfl rfl ?_
  refine x_cst (zi 3) 1 20 rfl rfl rfl ?_
  refine z_icge 85 23 rfl rfl rfl (rg_lit 2 rfl) (rg_lit 3 rfl) (fun c => absurd c (by decide)) (fun _ => ?_)
  refine x_ld 3 1 0 24 rfl rfl rfl rfl rfl ?_
  refine x_ld 4 2 0 26 rfl rfl rfl rfl rfl ?_
  refine z_iceq 34 29 rfl rfl rfl (rg_lit 2 rfl) (rg_lit 2 rfl) (fun _ => ?_) (fun c => absurd c (by decide))
  refine x_ld 2 1 0 35 rfl rfl rfl rfl rfl ?_
  refine x_cst (zi 3) 1 36 rfl rfl rfl ?_
  refine z_icne 46 39 rfl rfl rfl (rg_lit 0 rfl) (rg_lit 3 rfl) (fun _ => ?_) (fun c => absurd c (by decide))
  refine x_ld 0 1 2 47 rfl rfl rfl rfl rfl ?_
  refine g_572_19 53 50 rfl rfl rfl ?_
  refine x_ld 1 1 0 51 rfl rfl rfl rfl rfl ?_
  refine x_ld 4 2 0 53 rfl rfl rfl rfl rfl ?_
  refine x_cst (zi 1) 1 54 rfl rfl rfl ?_
  refine z_add 55 rfl rfl ?_
  refine x_cv 235 121 58 [.ref 587, zi ((k : Nat) : Int), zi 3] rfl rfl rfl (Nat.le_of_ble_eq_true rfl) rfl rfl (Nat.le_of_ble_eq_true rfl) trivial (Nat.le_of_ble_eq_true rfl) (c121 (M := M) d i_587 (k := k) (t := 3) (by decide) (by omega)) rfl ?_
  refine x_ld 2 1 0 59 rfl rfl rfl rfl rfl ?_
  refine z_ifeq 67 62 rfl rfl rfl (rg_lit 0 rfl) (fun _ => ?_) (fun c => absurd c (by decide))
  refine x_ld 0 1 2 68 rfl rfl rfl rfl rfl ?_
  refine g_572_20 56 71 rfl rfl rfl ?_
  refine x_ld 1 1 0 72 rfl rfl rfl rfl rfl ?_
  refine x_ld 4 2 0 74 rfl rfl rfl rfl rfl ?_
  refine x_cst (zi 1) 1 75 rfl rfl rfl ?_
  refine z_add 76 rfl rfl ?_
  refine x_cv 235 121 79 [.ref 588, zi ((k : Nat) : Int), zi 3] rfl rfl rfl (Nat.le_of_ble_eq_true rfl) rfl rfl (Nat.le_of_ble_eq_true rfl) trivial (Nat.le_of_ble_eq_true rfl) (c121 (M := (rB M 587 (adB (M.2.1 587) (1152 * ((k : Nat) : Int) + (((3 : Nat)) : Int))))) d i_588 (k := k) (t := 3) (by decide) (by omega)) rfl ?_
  refine z_inc 4 82 [some (.ref 572), some (zi ((k : Nat) : Int)), some (zi 0), some (zi 2), some (zi 3)] rfl rfl (Nat.le_of_ble_eq_true rfl) rfl rfl ?_
  refine x_go 17 rfl rfl ?_
  refine x_ld 4 2 0 19 rfl rfl rfl rfl rfl ?_
  refine x_cst (zi 3) 1 20 rfl rfl rfl ?_
  refine z_icge 85 23 rfl rfl rfl (rg_lit 3 rfl) (rg_lit 3 rfl) (fun _ => ?_) (fun c => absurd c (by decide))
  refine x_ld 2 1 0 86 rfl rfl rfl rfl rfl ?_
  refine x_cst (zi 2) 1 87 rfl rfl rfl ?_
  refine z_icne 102 90 rfl rfl rfl (rg_lit 0 rfl) (rg_lit 2 rfl) (fun _ => ?_) (fun c => absurd c (by decide))
  refine x_ld 2 1 0 103 rfl rfl rfl rfl rfl ?_
  refine x_cst (zi 3) 1 104 rfl rfl rfl ?_
  refine z_icne 116 107 rfl rfl rfl (rg_lit 0 rfl) (rg_lit 3 rfl) (fun _ => ?_) (fun c => absurd c (by decide))
  refine x_rtv rfl rfl ?_
  refine ⟨_, _, rfl, rfl, rfl, Fe_trans (Fe_trans (Fe_refl _ _) (Fe_of (.inl rfl) (Fm_add _ (by decide)))) (Fe_of (.inr rfl) (Fm_add _ (by decide))), fun u hu => ?_⟩
  have q1 := hc1 u hu
  have q2 := hc2 u hu
  have e1 : ¬ (587 : Nat) = 588 := by decide
  have e2 : ¬ (588 : Nat) = 587 := by decide
  simp only [rB, adB, e1, e2, ↓reduceIte, q1, q2, Bool.false_or]
  show (_ ↔ ltr 3 u = true) ∧ (_ ↔ ltr 3 u = true)
  simp only [Bool.or_eq_true, decide_eq_true_eq, ltr_iff, true_or, and_true]
  omega
theorem c120_1_0 (d : Nat) {k : Nat} (hk : k < 32) (hkd : M.1 582 (k : Int) = 2) (hlt : M.1 585 (k : Int) = 4) (hc1 : ∀ u : Nat, u < 1152 → M.2.1 587 (1152 * (k : Int) + (u : Int)) = false) (hc2 : ∀ u : Nat, u < 1152 → M.2.1 588 (1152 * (k : Int) + (u : Int)) = false) : ab_Z (pg_G L xs) (d + 2) 120 [.ref 572, zi (k : Nat)] M es (fun v M' => v = none ∧ Fe k M M' ∧ ∀ u : Nat, u < 1152 → (M'.2.1 587 (1152 * (k : Int) + (u : Int)) = true ↔ sS 1 0 (fun _ => false) (fun _ => false) u) ∧ (M'.2.1 588 (1152 * (k : Int) + (u : Int)) = true ↔ sV 1 0 (fun _ => false) (fun _ => false) u)) := by
  show ab_W (pg_G L xs) (ab_X (pg_G L xs) (d + 1)) 120 _ 0 [some (.ref 572), some (zi ((k : Nat) : Int)), none, none, none] [] (hp M ++ es)
  refine x_ld 0 1 2 1 rfl rfl rfl rfl rfl ?_
  refine g_572_14 38 4 rfl rfl rfl ?_
  refine x_ld 1 1 0 5 rfl rfl rfl rfl rfl ?_
  refine z_ild 2 6 rfl i_582 rfl ⟨by omega, by omega⟩ hkd rfl ?_
  refine x_st 2 1 0 7 [some (.ref 572), some (zi ((k : Nat) : Int)), some (zi 2), none, none] rfl rfl rfl (Nat.le_of_ble_eq_true rfl) rfl rfl ?_
  refine x_ld 0 1 2 8 rfl rfl rfl rfl rfl ?_
  refine g_572_17 47 11 rfl rfl rfl ?_
  refine x_ld 1 1 0 12 rfl rfl rfl rfl rfl ?_
  refine z_ild 4 13 rfl i_585 rfl ⟨by omega, by omega⟩ hlt rfl ?_
  refine x_st 3 1 0 14 [some (.ref 572), some (zi ((k : Nat) : Int)), some (zi 2), some (zi 4), none] rfl rfl rfl (Nat.le_of_ble_eq_true rfl) rfl rfl ?_
  refine x_cst (zi 0) 1 15 rfl rfl rfl ?_
  refine x_st 4 2 0 17 [some (.ref 572), some (zi ((k : Nat) : Int)), some (zi 2), some (zi 4), some (zi 0)] rfl rfl rfl (Nat.le_of_ble_eq_true rfl) rfl rfl ?_
  refine x_ld 4 2 0 19 rfl rfl rfl rfl rfl ?_
  refine x_cst (zi 3) 1 20 rfl rfl rfl ?_
  refine z_icge 85 23 rfl rfl rfl (rg_lit 0 rfl) (rg_lit 3 rfl) (fun c => absurd c (by decide)) (fun _ => ?_)
  refine x_ld 3 1 0 24 rfl rfl rfl rfl rfl ?_
  refine x_ld 4 2 0 26 rfl rfl rfl rfl rfl ?_
  refine z_iceq 34 29 rfl rfl rfl (rg_lit 4 rfl) (rg_lit 0 rfl) (fun c => absurd c (by decide)) (fun _ => ?_)
  refine x_ld 3 1 0 30 rfl rfl rfl rfl rfl ?_
  refine x_cst (zi 4) 1 31 rfl rfl rfl ?_
  refine z_icne 79 34 rfl rfl rfl (rg_lit 4 rfl) (rg_lit 4 rfl) (fun c => absurd c (by decide)) (fun _ => ?_)
  refine x_ld 2 1 0 35 rfl rfl rfl rfl rfl ?_
  refine x_cst (zi 3) 1 36 rfl rfl rfl ?_
  refine z_icne 46 39 rfl rfl rfl (rg_lit 2 rfl) (rg_lit 3 rfl) (fun _ => ?_) (fun c => absurd c (by decide))
  refine x_ld 0 1 2 47 rfl rfl rfl rfl rfl ?_
  refine g_572_19 53 50 rfl rfl rfl ?_
  refine x_ld 1 1 0 51 rfl rfl rfl rfl rfl ?_
  refine x_ld 4 2 0 53 rfl rfl rfl rfl rfl ?_
  refine x_cst (zi 1) 1 54 rfl rfl rfl ?_
  refine z_add 55 rfl rfl ?_
  refine x_cv 235 121 58 [.ref 587, zi ((k : Nat) : Int), zi 1] rfl rfl rfl (Nat.le_of_ble_eq_true rfl) rfl rfl (Nat.le_of_ble_eq_true rfl) trivial (Nat.le_of_ble_eq_true rfl) (c121 (M := M) d i_587 (k := k) (t := 1) (by decide) (by omega)) rfl ?_
  refine x_ld 2 1 0 59 rfl rfl rfl rfl rfl ?_
  refine z_ifeq 67 62 rfl rfl rfl (rg_lit 2 rfl) (fun c => absurd c (by decide)) (fun _ => ?_)
  refine x_ld 2 1 0 63 rfl rfl rfl rfl rfl ?_
  refine x_cst (zi 1) 1 64 rfl rfl rfl ?_
  refine z_icne 79 67 rfl rfl rfl (rg_lit 2 rfl) (rg_lit 1 rfl) (fun _ => ?_) (fun c => absurd c (by decide))
  refine z_inc 4 82 [some (.ref 572), some (zi ((k : Nat) : Int)), some (zi 2), some (zi 4), some (zi 1)] rfl rfl (Nat.le_of_ble_eq_true rfl) rfl rfl ?_
  refine x_go 17 rfl rfl ?_
  refine x_ld 4 2 0 19 rfl rfl rfl rfl rfl ?_
  refine x_cst (zi 3) 1 20 rfl rfl rfl ?_
  refine z_icge 85 23 rfl rfl rfl (rg_lit 1 rfl) (rg_lit 3 rfl) (fun c => absurd c (by decide)) (fun _ => ?_)
  refine x_ld 3 1 0 24 rfl rfl rfl rfl rfl ?_
  refine x_ld 4 2 0 26 rfl rfl rfl rfl rfl ?_
  refine z_iceq 34 29 rfl rfl rfl (rg_lit 4 rfl) (rg_lit 1 rfl) (fun c => absurd c (by decide)) (fun _ => ?_)
  refine x_ld 3 1 0 30 rfl rfl rfl rfl rfl ?_
  refine x_cst (zi 4) 1 31 rfl rfl rfl ?_
  refine z_icne 79 34 rfl rfl rfl (rg_lit 4 rfl) (rg_lit 4 rfl) (fun c => absurd c (by decide)) (fun _ => ?_)
  refine x_ld 2 1 0 35 rfl rfl rfl rfl rfl ?_
  refine x_cst (zi 3) 1 36 rfl rfl rfl ?_
  refine z_icne 46 39 rfl rfl rfl (rg_lit 2 rfl) (rg_lit 3 rfl) (fun _ => ?_) (fun c => absurd c (by decide))
  refine x_ld 0 1 2 47 rfl rfl rfl rfl rfl ?_
  refine g_572_19 53 50 rfl rfl rfl ?_
  refine x_ld 1 1 0 51 rfl rfl rfl rfl rfl ?_
  refine x_ld 4 2 0 53 rfl rfl rfl rfl rfl ?_
  refine x_cst (zi 1) 1 54 rfl rfl rfl ?_
  refine z_add 55 rfl rfl ?_
  refine x_cv 235 121 58 [.ref 587, zi ((k : Nat) : Int), zi 2] rfl rfl rfl (Nat.le_of_ble_eq_true rfl) rfl rfl (Nat.le_of_ble_eq_true rfl) trivial (Nat.le_of_ble_eq_true rfl) (c121 (M := (rB M 587 (adB (M.2.1 587) (1152 * ((k : Nat) : Int) + (((1 : Nat)) : Int))))) d i_587 (k := k) (t := 2) (by decide) (by omega)) rfl ?_
  refine x_ld 2 1 0 59 rfl rfl rfl rfl rfl ?_
  refine z_ifeq 67 62 rfl rfl rfl (rg_lit 2 rfl) (fun c => absurd c (by decide)) (fun _ => ?_)
  refine x_ld 2 1 0 63 rfl rfl rfl rfl rfl ?_
  refine x_cst (zi 1) 1 64 rfl rfl rfl ?_
  refine z_icne 79 67 rfl rfl rfl (rg_lit 2 rfl) (rg_lit 1 rfl) (fun _ => ?_) (fun c => absurd c (by decide))
  refine z_inc 4 82 [some (.ref 572), some (zi ((k : Nat) : Int)), some (zi 2), some (zi 4), some (zi 2)] rfl rfl (Nat.le_of_ble_eq_true rfl) rfl rfl ?_
  refine x_go 17 rfl rfl ?_
  refine x_ld 4 2 0 19 rfl rfl rfl rfl rfl ?_
  refine x_cst (zi 3) 1 20 rfl rfl rfl ?_
  refine z_icge 85 23 rfl rfl rfl (rg_lit 2 rfl) (rg_lit 3 rfl) (fun c => absurd c (by decide)) (fun _ => ?_)
  refine x_ld 3 1 0 24 rfl rfl rfl rfl rfl ?_
  refine x_ld 4 2 0 26 rfl rfl rfl rfl rfl ?_
  refine z_iceq 34 29 rfl rfl rfl (rg_lit 4 rfl) (rg_lit 2 rfl) (fun c => absurd c (by decide)) (fun _ => ?_)
  refine x_ld 3 1 0 30 rfl rfl rfl rfl rfl ?_
  refine x_cst (zi 4) 1 31 rfl rfl rfl ?_
  refine z_icne 79 34 rfl rfl rfl (rg_lit 4 rfl) (rg_lit 4 rfl) (fun c => absurd c (by decide)) (fun _ => ?_)
  refine x_ld 2 1 0 35 rfl rfl rfl rfl rfl ?_
  refine x_cst (zi 3) 1 36 rfl rfl rfl ?_
  refine z_icne 46 39 rfl rfl rfl (rg_lit 2 rfl) (rg_lit 3 rfl) (fun _ => ?_) (fun c => absurd c (by decide))
  refine x_ld 0 1 2 47 rfl rfl rfl rfl rfl ?_
  refine g_572_19 53 50 rfl rfl rfl ?_
  refine x_ld 1 1 0 51 rfl rfl rfl rfl rfl ?_
  refine x_ld 4 2 0 53 rfl rfl rfl rfl rfl ?_
  refine x_cst (zi 1) 1 54 rfl rfl rfl ?_
  refine z_add 55 rfl rfl ?_
  refine x_cv 235 121 58 [.ref 587, zi ((k : Nat) : Int), zi 3] rfl rfl rfl (Nat.le_of_ble_eq_true rfl) rfl rfl (Nat.le_of_ble_eq_true rfl) trivial (Nat.le_of_ble_eq_true rfl) (c121 (M := (rB (rB M 587 (adB (M.2.1 587) (1152 * ((k : Nat) : Int) + (((1 : Nat)) : Int)))) 587 (adB ((rB M 587 (adB (M.2.1 587) (1152 * ((k : Nat) : Int) + (((1 : Nat)) : Int)))).2.1 587) (1152 * ((k : Nat) : Int) + (((2 : Nat)) : Int))))) d i_587 (k := k) (t := 3) (by decide) (by omega)) rfl ?_
  refine x_ld 2 1 0 59 rfl rfl rfl rfl rfl ?_
  refine z_ifeq 67 62 rfl rfl rfl (rg_lit 2 rfl) (fun c => absurd c (by decide)) (fun _ => ?_)
  refine x_ld 2 1 0 63 rfl rfl rfl rfl rfl ?_
  refine x_cst (zi 1) 1 64 rfl rfl rfl ?_
  refine z_icne 79 67 rfl rfl rfl (rg_lit 2 rfl) (rg_lit 1 rfl) (fun _ => ?_) (fun c => absurd c (by decide))
  refine z_inc 4 82 [some (.ref 572), some (zi ((k : Nat) : Int)), some (zi 2), some (zi 4), some (zi 3)] rfl rfl (Nat.le_of_ble_eq_true rfl) rfl rfl ?_
  refine x_go 17 rfl rfl ?_
  refine x_ld 4 2 0 19 rfl rfl rfl rfl rfl ?_
  refine x_cst (zi 3) 1 20 rfl rfl rfl ?_
  refine z_icge 85 23 rfl rfl rfl (rg_lit 3 rfl) (rg_lit 3 rfl) (fun _ => ?_) (fun c => absurd c (by decide))
  refine x_ld 2 1 0 86 rfl rfl rfl rfl rfl ?_
  refine x_cst (zi 2) 1 87 rfl rfl rfl ?_
  refine z_icne 102 90 rfl rfl rfl (rg_lit 2 rfl) (rg_lit 2 rfl) (fun c => absurd c (by decide)) (fun _ => ?_)
  refine x_ld 0 1 2 91 rfl rfl rfl rfl rfl ?_
  refine g_572_20 56 94 rfl rfl rfl ?_
  refine x_ld 1 1 0 95 rfl rfl rfl rfl rfl ?_
  refine x_cst (zi 0) 1 96 rfl rfl rfl ?_
  refine x_cv 235 121 99 [.ref 588, zi ((k : Nat) : Int), zi 0] rfl rfl rfl (Nat.le_of_ble_eq_true rfl) rfl rfl (Nat.le_of_ble_eq_true rfl) trivial (Nat.le_of_ble_eq_true rfl) (c121 (M := (rB (rB (rB M 587 (adB (M.2.1 587) (1152 * ((k : Nat) : Int) + (((1 : Nat)) : Int)))) 587 (adB ((rB M 587 (adB (M.2.1 587) (1152 * ((k : Nat) : Int) + (((1 : Nat)) : Int)))).2.1 587) (1152 * ((k : Nat) : Int) + (((2 : Nat)) : Int)))) 587 (adB ((rB (rB M 587 (adB (M.2.1 587) (1152 * ((k : Nat) : Int) + (((1 : Nat)) : Int)))) 587 (adB ((rB M 587 (adB (M.2.1 587) (1152 * ((k : Nat) : Int) + (((1 : Nat)) : Int)))).2.1 587) (1152 * ((k : Nat) : Int) + (((2 : Nat)) : Int)))).2.1 587) (1152 * ((k : Nat) : Int) + (((3 : Nat)) : Int))))) d i_588 (k := k) (t := 0) (by decide) (by omega)) rfl ?_
  refine x_go 116 rfl rfl ?_
  refine x_rtv rfl rfl ?_
  refine ⟨_, _, rfl, rfl, rfl, Fe_trans (Fe_trans (Fe_trans (Fe_trans (Fe_refl _ _) (Fe_of (.inl rfl) (Fm_add _ (by decide)))) (Fe_of (.inl rfl) (Fm_add _ (by decide)))) (Fe_of (.inl rfl) (Fm_add _ (by decide)))) (Fe_of (.inr rfl) (Fm_add _ (by decide))), fun u hu => ?_⟩
  have q1 := hc1 u hu
  have q2 := hc2 u hu
  have e1 : ¬ (587 : Nat) = 588 := by decide
  have e2 : ¬ (588 : Nat) = 587 := by decide
  simp only [rB, adB, e1, e2, ↓reduceIte, q1, q2, Bool.false_or]
  show (_ ↔ ltr 0 u = true) ∧ (_ ↔ u = 0)
  simp only [Bool.or_eq_true, decide_eq_true_eq, ltr_iff, true_or, and_true]
  omega
theorem c120_1_1 (d : Nat) {k : Nat} (hk : k < 32) (hkd : M.1 582 (k : Int) = 2) (hlt : M.1 585 (k : Int) = 0) (hc1 : ∀ u : Nat, u < 1152 → M.2.1 587 (1152 * (k : Int) + (u : Int)) = false) (hc2 : ∀ u : Nat, u < 1152 → M.2.1 588 (1152 * (k : Int) + (u : Int)) = false) : ab_Z (pg_G L xs) (d + 2) 120 [.ref 572, zi (k : Nat)] M es (fun v M' => v = none ∧ Fe k M M' ∧ ∀ u : Nat, u < 1152 → (M'.2.1 587 (1152 * (k : Int) + (u : Int)) = true ↔ sS 1 1 (fun _ => false) (fun _ => false) u) ∧ (M'.2.1 588 (1152 * (k : Int) + (u : Int)) = true ↔ sV 1 1 (fun _ => false) (fun _ => false) u)) := by
  show ab_W (pg_G L xs) (ab_X (pg_G L xs) (d + 1)) 120 _ 0 [some (.ref 572), some (zi ((k : Nat) : Int)), none, none, none] [] (hp M ++ es)
  refine x_ld 0 1 2 1 rfl rfl rfl rfl rfl ?_
  refine g_572_14 38 4 rfl rfl rfl ?_
  refine x_ld 1 1 0 5 rfl rfl rfl rfl rfl ?_
  refine z_ild 2 6 rfl i_582 rfl ⟨by omega, by omega⟩ hkd rfl ?_
  refine x_st 2 1 0 7 [some (.ref 572), some (zi ((k : Nat) : Int)), some (zi 2), none, none] rfl rfl rfl (Nat.le_of_ble_eq_true rfl) rfl rfl ?_
  refine x_ld 0 1 2 8 rfl rfl rfl rfl rfl ?_
  refine g_572_17 47 11 rfl rfl rfl ?_
  refine x_ld 1 1 0 12 rfl rfl rfl rfl rfl ?_
  refine z_ild 0 13 rfl i_585 rfl ⟨by omega, by omega⟩ hlt rfl ?_
  refine x_st 3 1 0 14 [some (.ref 572), some (zi ((k : Nat) : Int)), some (zi 2), some (zi 0), none] rfl rfl rfl (Nat.le_of_ble_eq_true rfl) rfl rfl ?_
  refine x_cst (zi 0) 1 15 rfl rfl rfl ?_
  refine x_st 4 2 0 17 [some (.ref 572), some (zi ((k : Nat) : Int)), some (zi 2), some (zi 0), some (zi 0)] rfl rfl rfl (Nat.le_of_ble_eq_true rfl) rfl rfl ?_
  refine x_ld 4 2 0 19 rfl rfl rfl rfl rfl ?_
  refine x_cst (zi 3) 1 20 rfl rfl rfl ?_
  refine z_icge 85 23 rfl rfl rfl (rg_lit 0 rfl) (rg_lit 3 rfl) (fun c => absurd c (by decide)) (fun _ => ?_)
  refine x_ld 3 1 0 24 rfl rfl rfl rfl rfl ?_
  refine x_ld 4 2 0 26 rfl rfl rfl rfl rfl ?_
  refine z_iceq 34 29 rfl rfl rfl (rg_lit 0 rfl) (rg_lit 0 rfl) (fun _ => ?_) (fun c => absurd c (by decide))
  refine x_ld 2 1 0 35 rfl rfl rfl rfl rfl ?_
  refine x_cst (zi 3) 1 36 rfl rfl rfl ?_
  refine z_icne 46 39 rfl rfl rfl (rg_lit 2 rfl) (rg_lit 3 rfl) (fun _ => ?_) (fun c => absurd c (by decide))
  refine x_ld 0 1 2 47 rfl rfl rfl rfl rfl ?_
  refine g_572_19 53 50 rfl rfl rfl ?_
  refine x_ld 1 1 0 51 rfl rfl rfl rfl rfl ?_
  refine x_ld 4 2 0 53 rfl rfl rfl rfl rfl ?_
  refine x_cst (zi 1) 1 54 rfl rfl rfl ?_
  refine z_add 55 rfl rfl ?_
  refine x_cv 235 121 58 [.ref 587, zi ((k : Nat) : Int), zi 1] rfl rfl rfl (Nat.le_of_ble_eq_true rfl) rfl rfl (Nat.le_of_ble_eq_true rfl) trivial (Nat.le_of_ble_eq_true rfl) (c121 (M := M) d i_587 (k := k) (t := 1) (by decide) (by omega)) rfl ?_
  refine x_ld 2 1 0 59 rfl rfl rfl rfl rfl ?_
  refine z_ifeq 67 62 rfl rfl rfl (rg_lit 2 rfl) (fun c => absurd c (by decide)) (fun _ => ?_)
  refine x_ld 2 1 0 63 rfl rfl rfl rfl rfl ?_
  refine x_cst (zi 1) 1 64 rfl rfl rfl ?_
  refine z_icne 79 67 rfl rfl rfl (rg_lit 2 rfl) (rg_lit 1 rfl) (fun _ => ?_) (fun c => absurd c (by decide))
  refine z_inc 4 82 [some (.ref 572), some (zi ((k : Nat) : Int)), some (zi 2), some (zi 0), some (zi 1)] rfl rfl (Nat.le_of_ble_eq_true rfl) rfl rfl ?_
  refine x_go 17 rfl rfl ?_
  refine x_ld 4 2 0 19 rfl rfl rfl rfl rfl ?_
  refine x_cst (zi 3) 1 20 rfl rfl rfl ?_
  refine z_icge 85 23 rfl rfl rfl (rg_lit 1 rfl) (rg_lit 3 rfl) (fun c => absurd c (by decide)) (fun _ => ?_)
  refine x_ld 3 1 0 24 rfl rfl rfl rfl rfl ?_
  refine x_ld 4 2 0 26 rfl rfl rfl rfl rfl ?_
  refine z_iceq 34 29 rfl rfl rfl (rg_lit 0 rfl) (rg_lit 1 rfl) (fun c => absurd c (by decide)) (fun _ => ?_)
  refine x_ld 3 1 0 30 rfl rfl rfl rfl rfl ?_
  refine x_cst (zi 4) 1 31 rfl rfl rfl ?_
  refine z_icne 79 34 rfl rfl rfl (rg_lit 0 rfl) (rg_lit 4 rfl) (fun _ => ?_) (fun c => absurd c (by decide))
  refine z_inc 4 82 [some (.ref 572), some (zi ((k : Nat) : Int)), some (zi 2), some (zi 0), some (zi 2)] rfl rfl (Nat.le_of_ble_eq_true rfl) rfl rfl ?_
  refine x_go 17 rfl rfl ?_
  refine x_ld 4 2 0 19 rfl rfl rfl rfl rfl ?_
  refine x_cst (zi 3) 1 20 rfl rfl rfl ?_
  refine z_icge 85 23 rfl rfl rfl (rg_lit 2 rfl) (rg_lit 3 rfl) (fun c => absurd c (by decide)) (fun _ => ?_)
  refine x_ld 3 1 0 24 rfl rfl rfl rfl rfl ?_
  refine x_ld 4 2 0 26 rfl rfl rfl rfl rfl ?_
  refine z_iceq 34 29 rfl rfl rfl (rg_lit 0 rfl) (rg_lit 2 rfl) (fun c => absurd c (by decide)) (fun _ => ?_)
  refine x_ld 3 1 0 30 rfl rfl rfl rfl rfl ?_
  refine x_cst (zi 4) 1 31 rfl rfl rfl ?_
  refine z_icne 79 34 rfl rfl rfl (rg_lit 0 rfl) (rg_lit 4 rfl) (fun _ => ?_) (fun c => absurd c (by decide))
  refine z_inc 4 82 [some (.ref 572), some (zi ((k : Nat) : Int)), some (zi 2), some (zi 0), some (zi 3)] rfl rfl (Nat.le_of_ble_eq_true rfl) rfl rfl ?_
  refine x_go 17 rfl rfl ?_
  refine x_ld 4 2 0 19 rfl rfl rfl rfl rfl ?_
  refine x_cst (zi 3) 1 20 rfl rfl rfl ?_
  refine z_icge 85 23 rfl rfl rfl (rg_lit 3 rfl) (rg_lit 3 rfl) (fun _ => ?_) (fun c => absurd c (by decide))
  refine x_ld 2 1 0 86 rfl rfl rfl rfl rfl ?_
  refine x_cst (zi 2) 1 87 rfl rfl rfl ?_
  refine z_icne 102 90 rfl rfl rfl (rg_lit 2 rfl) (rg_lit 2 rfl) (fun c => absurd c (by decide)) (fun _ => ?_)
  refine x_ld 0 1 2 91 rfl rfl rfl rfl rfl ?_
  refine g_572_20 56 94 rfl rfl rfl ?_
  refine x_ld 1 1 0 95 rfl rfl rfl rfl rfl ?_
  refine x_cst (zi 0) 1 96 rfl rfl rfl ?_
  refine x_cv 235 121 99 [.ref 588, zi ((k : Nat) : Int), zi 0] rfl rfl rfl (Nat.le_of_ble_eq_true rfl) rfl rfl (Nat.le_of_ble_eq_true rfl) trivial (Nat.le_of_ble_eq_true rfl) (c121 (M := (rB M 587 (adB (M.2.1 587) (1152 * ((k : Nat) : Int) + (((1 : Nat)) : Int))))) d i_588 (k := k) (t := 0) (by decide) (by omega)) rfl ?_
  refine x_go 116 rfl rfl ?_
  refine x_rtv rfl rfl ?_
  refine ⟨_, _, rfl, rfl, rfl, Fe_trans (Fe_trans (Fe_refl _ _) (Fe_of (.inl rfl) (Fm_add _ (by decide)))) (Fe_of (.inr rfl) (Fm_add _ (by decide))), fun u hu => ?_⟩
  have q1 := hc1 u hu
  have q2 := hc2 u hu
  have e1 : ¬ (587 : Nat) = 588 := by decide
  have e2 : ¬ (588 : Nat) = 587 := by decide
  simp only [rB, adB, e1, e2, ↓reduceIte, q1, q2, Bool.false_or]
  show (_ ↔ ltr 1 u = true) ∧ (_ ↔ u = 0)
  simp only [Bool.or_eq_true, decide_eq_true_eq, ltr_iff, true_or, and_true]
  omega
theorem c120_1_2 (d : Nat) {k : Nat} (hk : k < 32) (hkd : M.1 582 (k : Int) = 2) (hlt : M.1 585 (k : Int) = 1) (hc1 : ∀ u : Nat, u < 1152 → M.2.1 587 (1152 * (k : Int) + (u : Int)) = false) (hc2 : ∀ u : Nat, u < 1152 → M.2.1 588 (1152 * (k : Int) + (u : Int)) = false) : ab_Z (pg_G L xs) (d + 2) 120 [.ref 572, zi (k : Nat)] M es (fun v M' => v = none ∧ Fe k M M' ∧ ∀ u : Nat, u < 1152 → (M'.2.1 587 (1152 * (k : Int) + (u : Int)) = true ↔ sS 1 2 (fun _ => false) (fun _ => false) u) ∧ (M'.2.1 588 (1152 * (k : Int) + (u : Int)) = true ↔ sV 1 2 (fun _ => false) (fun _ => false) u)) := by
  show ab_W (pg_G L xs) (ab_X (pg_G L xs) (d + 1)) 120 _ 0 [some (.ref 572), some (zi ((k : Nat) : Int)), none, none, none] [] (hp M ++ es)
  refine x_ld 0 1 2 1 rfl rfl rfl rfl rfl ?_
  refine g_572_14 38 4 rfl rfl rfl ?_
  refine x_ld 1 1 0 5 rfl rfl rfl rfl rfl ?_
  refine z_ild 2 6 rfl i_582 rfl ⟨by omega, by omega⟩ hkd rfl ?_
  refine x_st 2 1 0 7 [some (.ref 572), some (zi ((k : Nat) : Int)), some (zi 2), none, none] rfl rfl rfl (Nat.le_of_ble_eq_true rfl) rfl rfl ?_
  refine x_ld 0 1 2 8 rfl rfl rfl rfl rfl ?_
  refine g_572_17 47 11 rfl rfl rfl ?_
  refine x_ld 1 1 0 12 rfl rfl rfl rfl rfl ?_
  refine z_ild 1 13 rfl i_585 rfl ⟨by omega, by omega⟩ hlt rfl ?_
  refine x_st 3 1 0 14 [some (.ref 572), some (zi ((k : Nat) : Int)), some (zi 2), some (zi 1), none] rfl rfl rfl (Nat.le_of_ble_eq_true rfl) rfl rfl ?_
  refine x_cst (zi 0) 1 15 rfl rfl rfl ?_
  refine x_st 4 2 0 17 [some (.ref 572), some (zi ((k : Nat) : Int)), some (zi 2), some (zi 1), some (zi 0)] rfl rfl rfl (Nat.le_of_ble_eq_true rfl) rfl rfl ?_
  refine x_ld 4 2 0 19 rfl rfl rfl rfl rfl ?_
  refine x_cst (zi 3) 1 20 rfl rfl rfl ?_
  refine z_icge 85 23 rfl rfl rfl (rg_lit 0 rfl) (rg_lit 3 rfl) (fun c => absurd c (by decide)) (fun _ => ?_)
  refine x_ld 3 1 0 24 rfl rfl rfl rfl rfl ?_
  refine x_ld 4 2 0 26 rfl rfl rfl rfl rfl ?_
  refine z_iceq 34 29 rfl rfl rfl (rg_lit 1 rfl) (rg_lit 0 rfl) (fun c => absurd c (by decide)) (fun _ => ?_)
  refine x_ld 3 1 0 30 rfl rfl rfl rfl rfl ?_
  refine x_cst (zi 4) 1 31 rfl rfl rfl ?_
  refine z_icne 79 34 rfl rfl rfl (rg_lit 1 rfl) (rg_lit 4 rfl) (fun _ => ?_) (fun c => absurd c (by decide))
  refine z_inc 4 82 [some (.ref 572), some (zi ((k : Nat) : Int)), some (zi 2), some (zi 1), some (zi 1)] rfl rfl (Nat.le_of_ble_eq_true rfl) rfl rfl ?_
  refine x_go 17 rfl rfl ?_
  refine x_ld 4 2 0 19 rfl rfl rfl rfl rfl ?_
  refine x_cst (zi 3) 1 20 rfl rfl rfl ?_
  refine z_icge 85 23 rfl rfl rfl (rg_lit 1 rfl) (rg_lit 3 rfl) (fun c => absurd c (by decide)) (fun _ => ?_)
  refine x_ld 3 1 0 24 rfl rfl rfl rfl rfl ?_
  refine x_ld 4 2 0 26 rfl rfl rfl rfl rfl ?_
  refine z_iceq 34 29 rfl rfl rfl (rg_lit 1 rfl) (rg_lit 1 rfl) (fun _ => ?_) (fun c => absurd c (by decide))
  refine x_ld 2 1 0 35 rfl rfl rfl rfl rfl ?_
  refine x_cst (zi 3) 1 36 rfl rfl rfl ?_
  refine z_icne 46 39 rfl rfl rfl (rg_lit 2 rfl) (rg_lit 3 rfl) (fun _ => ?_) (fun c => absurd c (by decide))
  refine x_ld 0 1 2 47 rfl rfl rfl rfl rfl ?_
  refine g_572_19 53 50 rfl rfl rfl ?_
  refine x_ld 1 1 0 51 rfl rfl rfl rfl rfl ?_
  refine x_ld 4 2 0 53 rfl rfl rfl rfl rfl ?_
  refine x_cst (zi 1) 1 54 rfl rfl rfl ?_
  refine z_add 55 rfl rfl ?_
  refine x_cv 235 121 58 [.ref 587, zi ((k : Nat) : Int), zi 2] rfl rfl rfl (Nat.le_of_ble_eq_true rfl) rfl rfl (Nat.le_of_ble_eq_true rfl) trivial (Nat.le_of_ble_eq_true rfl) (c121 (M := M) d i_587 (k := k) (t := 2) (by decide) (by omega)) rfl ?_
  refine x_ld 2 1 0 59 rfl rfl rfl rfl rfl ?_
  refine z_ifeq 67 62 rfl rfl rfl (rg_lit 2 rfl) (fun c => absurd c (by decide)) (fun _ => ?_)
  refine x_ld 2 1 0 63 rfl rfl rfl rfl rfl ?_
  refine x_cst (zi 1) 1 64 rfl rfl rfl ?_
  refine z_icne 79 67 rfl rfl rfl (rg_lit 2 rfl) (rg_lit 1 rfl) (fun _ => ?_) (fun c => absurd c (by decide))
  refine z_inc 4 82 [some (.ref 572), some (zi ((k : Nat) : Int)), some (zi 2), some (zi 1), some (zi 2)] rfl rfl (Nat.le_of_ble_eq_true rfl) rfl rfl ?_
  refine x_go 17 rfl rfl ?_
  refine x_ld 4 2 0 19 rfl rfl rfl rfl rfl ?_
  refine x_cst (zi 3) 1 20 rfl rfl rfl ?_
  refine z_icge 85 23 rfl rfl rfl (rg_lit 2 rfl) (rg_lit 3 rfl) (fun c => absurd c (by decide)) (fun _ => ?_)
  refine x_ld 3 1 0 24 rfl rfl rfl rfl rfl ?_
  refine x_ld 4 2 0 26 rfl rfl rfl rfl rfl ?_
  refine z_iceq 34 29 rfl rfl rfl (rg_lit 1 rfl) (rg_lit 2 rfl) (fun c => absurd c (by decide)) (fun _ => ?_)
  refine x_ld 3 1 0 30 rfl rfl rfl rfl rfl ?_
  refine x_cst (zi 4) 1 31 rfl rfl rfl ?_
  refine z_icne 79 34 rfl rfl rfl (rg_lit 1 rfl) (rg_lit 4 rfl) (fun _ => ?_) (fun c => absurd c (by decide))
  refine z_inc 4 82 [some (.ref 572), some (zi ((k : Nat) : Int)), some (zi 2), some (zi 1), some (zi 3)] rfl rfl (Nat.le_of_ble_eq_true rfl) rfl rfl ?_
  refine x_go 17 rfl rfl ?_
  refine x_ld 4 2 0 19 rfl rfl rfl rfl rfl ?_
  refine x_cst (zi 3) 1 20 rfl rfl rfl ?_
  refine z_icge 85 23 rfl rfl rfl (rg_lit 3 rfl) (rg_lit 3 rfl) (fun _ => ?_) (fun c => absurd c (by decide))
  refine x_ld 2 1 0 86 rfl rfl rfl rfl rfl ?_
  refine x_cst (zi 2) 1 87 rfl rfl rfl ?_
  refine z_icne 102 90 rfl rfl rfl (rg_lit 2 rfl) (rg_lit 2 rfl) (fun c => absurd c (by decide)) (fun _ => ?_)
  refine x_ld 0 1 2 91 rfl rfl rfl rfl rfl ?_
  refine g_572_20 56 94 rfl rfl rfl ?_
  refine x_ld 1 1 0 95 rfl rfl rfl rfl rfl ?_
  refine x_cst (zi 0) 1 96 rfl rfl rfl ?_
  refine x_cv 235 121 99 [.ref 588, zi ((k : Nat) : Int), zi 0] rfl rfl rfl (Nat.le_of_ble_eq_true rfl) rfl rfl (Nat.le_of_ble_eq_true rfl) trivial (Nat.le_of_ble_eq_true rfl) (c121 (M := (rB M 587 (adB (M.2.1 587) (1152 * ((k : Nat) : Int) + (((2 : Nat)) : Int))))) d i_588 (k := k) (t := 0) (by decide) (by omega)) rfl ?_
  refine x_go 116 rfl rfl ?_
  refine x_rtv rfl rfl ?_
  refine ⟨_, _, rfl, rfl, rfl, Fe_trans (Fe_trans (Fe_refl _ _) (Fe_of (.inl rfl) (Fm_add _ (by decide)))) (Fe_of (.inr rfl) (Fm_add _ (by decide))), fun u hu => ?_⟩
  have q1 := hc1 u hu
  have q2 := hc2 u hu
  have e1 : ¬ (587 : Nat) = 588 := by decide
  have e2 : ¬ (588 : Nat) = 587 := by decide
  simp only [rB, adB, e1, e2, ↓reduceIte, q1, q2, Bool.false_or]
  show (_ ↔ ltr 2 u = true) ∧ (_ ↔ u = 0)
  simp only [Bool.or_eq_true, decide_eq_true_eq, ltr_iff, true_or, and_true]
  omega
theorem c120_1_3 (d : Nat) {k : Nat} (hk : k < 32) (hkd : M.1 582 (k : Int) = 2) (hlt : M.1 585 (k : Int) = 2) (hc1 : ∀ u : Nat, u < 1152 → M.2.1 587 (1152 * (k : Int) + (u : Int)) = false) (hc2 : ∀ u : Nat, u < 1152 → M.2.1 588 (1152 * (k : Int) + (u : Int)) = false) : ab_Z (pg_G L xs) (d + 2) 120 [.ref 572, zi (k : Nat)] M es (fun v M' => v = none ∧ Fe k M M' ∧ ∀ u : Nat, u < 1152 → (M'.2.1 587 (1152 * (k : Int) + (u : Int)) = true ↔ sS 1 3 (fun _ => false) (fun _ => false) u) ∧ (M'.2.1 588 (1152 * (k : Int) + (u : Int)) = true ↔ sV 1 3 (fun _ => false) (fun _ => false) u)) := by
  show ab_W (pg_G L xs) (ab_X (pg_G L xs) (d + 1)) 120 _ 0 [some (.ref 572), some (zi ((k : Nat) : Int)), none, none, none] [] (hp M ++ es)
  refine x_ld 0 1 2 1 rfl rfl rfl rfl rfl ?_
  refine g_572_14 38 4 rfl rfl rfl ?_
  refine x_ld 1 1 0 5 rfl rfl rfl rfl rfl ?_
  refine z_ild 2 6 rfl i_582 rfl ⟨by omega, by omega⟩ hkd rfl ?_
  refine x_st 2 1 0 7 [some (.ref 572), some (zi ((k : Nat) : Int)), some (zi 2), none, none] rfl rfl rfl (Nat.le_of_ble_eq_true rfl) rfl rfl ?_
  refine x_ld 0 1 2 8 rfl rfl rfl rfl rfl ?_
  refine g_572_17 47 11 rfl rfl rfl ?_
  refine x_ld 1 1 0 12 rfl rfl rfl rfl rfl ?_
  refine z_ild 2 13 rfl i_585 rfl ⟨by omega, by omega⟩ hlt rfl ?_
  refine x_st 3 1 0 14 [some (.ref 572), some (zi ((k : Nat) : Int)), some (zi 2), some (zi 2), none] rfl rfl rfl (Nat.le_of_ble_eq_true rfl) rfl rfl ?_
  refine x_cst (zi 0) 1 15 rfl rfl rfl ?_
  refine x_st 4 2 0 17 [some (.ref 572), some (zi ((k : Nat) : Int)), some (zi 2), some (zi 2), some (zi 0)] rfl rfl rfl (Nat.le_of_ble_eq_true rfl) rfl rfl ?_
  refine x_ld 4 2 0 19 rfl rfl rfl rfl rfl ?_
  refine x_cst (zi 3) 1 20 rfl rfl rfl ?_
  refine z_icge 85 23 rfl rfl rfl (rg_lit 0 rfl) (rg_lit 3 rfl) (fun c => absurd c (by decide)) (fun _ => ?_)
  refine x_ld 3 1 0 24 rfl rfl rfl rfl rfl ?_
  refine x_ld 4 2 0 26 rfl rfl rfl rfl rfl ?_
  refine z_iceq 34 29 rfl rfl rfl (rg_lit 2 rfl) (rg_lit 0 rfl) (fun c => absurd c (by decide)) (fun _ => ?_)
  refine x_ld 3 1 0 30 rfl rfl rfl rfl rfl ?_
  refine x_cst (zi 4) 1 31 rfl rfl rfl ?_
  refine z_icne 79 34 rfl rfl rfl (rg_lit 2 rfl) (rg_lit 4 rfl) (fun _ => ?_) (fun c => absurd c (by decide))
  refine z_inc 4 82 [some (.ref 572), some (zi ((k : Nat) : Int)), some (zi 2), some (zi 2), some (zi 1)] rfl rfl (Nat.le_of_ble_eq_true rfl) rfl rfl ?_
  refine x_go 17 rfl rfl ?_
  refine x_ld 4 2 0 19 rfl rfl rfl rfl rfl ?_
  refine x_cst (zi 3) 1 20 rfl rfl rfl ?_
  refine z_icge 85 23 rfl rfl rfl (rg_lit 1 rfl) (rg_lit 3 rfl) (fun c => absurd c (by decide)) (fun _ => ?_)
  refine x_ld 3 1 0 24 rfl rfl rfl rfl rfl ?_
  refine x_ld 4 2 0 26 rfl rfl rfl rfl rfl ?_
  refine z_iceq 34 29 rfl rfl rfl (rg_lit 2 rfl) (rg_lit 1 rfl) (fun c => absurd c (by decide)) (fun _ => ?_)
  refine x_ld 3 1 0 30 rfl rfl rfl rfl rfl ?_
  refine x_cst (zi 4) 1 31 rfl rfl rfl ?_
  refine z_icne 79 34 rfl rfl rfl (rg_lit 2 rfl) (rg_lit 4 rfl) (fun _ => ?_) (fun c => absurd c (by decide))
  refine z_inc 4 82 [some (.ref 572), some (zi ((k : Nat) : Int)), some (zi 2), some (zi 2), some (zi 2)] rfl rfl (Nat.le_of_ble_eq_true rfl) rfl rfl ?_
  refine x_go 17 rfl rfl ?_
  refine x_ld 4 2 0 19 rfl rfl rfl rfl rfl ?_
  refine x_cst (zi 3) 1 20 rfl rfl rfl ?_
  refine z_icge 85 23 rfl rfl rfl (rg_lit 2 rfl) (rg_lit 3 rfl) (fun c => absurd c (by decide)) (fun _ => ?_)
  refine x_ld 3 1 0 24 rfl rfl rfl rfl rfl ?_
  refine x_ld 4 2 0 26 rfl rfl rfl rfl rfl ?_
  refine z_iceq 34 29 rfl rfl rfl (rg_lit 2 rfl) (rg_lit 2 rfl) (fun _ => ?_) (fun c => absurd c (by decide))
  refine x_ld 2 1 0 35 rfl rfl rfl rfl rfl ?_
  refine x_cst (zi 3) 1 36 rfl rfl rfl ?_
  refine z_icne 46 39 rfl rfl rfl (rg_lit 2 rfl) (rg_lit 3 rfl) (fun _ => ?_) (fun c => absurd c (by decide))
  refine x_ld 0 1 2 47 rfl rfl rfl rfl rfl ?_
  refine g_572_19 53 50 rfl rfl rfl ?_
  refine x_ld 1 1 0 51 rfl rfl rfl rfl rfl ?_
  refine x_ld 4 2 0 53 rfl rfl rfl rfl rfl ?_
  refine x_cst (zi 1) 1 54 rfl rfl rfl ?_
  refine z_add 55 rfl rfl ?_
  refine x_cv 235 121 58 [.ref 587, zi ((k : Nat) : Int), zi 3] rfl rfl rfl (Nat.le_of_ble_eq_true rfl) rfl rfl (Nat.le_of_ble_eq_true rfl) trivial (Nat.le_of_ble_eq_true rfl) (c121 (M := M) d i_587 (k := k) (t := 3) (by decide) (by omega)) rfl ?_
  refine x_ld 2 1 0 59 rfl rfl rfl rfl rfl ?_
  refine z_ifeq 67 62 rfl rfl rfl (rg_lit 2 rfl) (fun c => absurd c (by decide)) (fun _ => ?_)
  refine x_ld 2 1 0 63 rfl rfl rfl rfl rfl ?_
  refine x_cst (zi 1) 1 64 rfl rfl rfl ?_
  refine z_icne 79 67 rfl rfl rfl (rg_lit 2 rfl) (rg_lit 1 rfl) (fun _ => ?_) (fun c => absurd c (by decide))
  refine z_inc 4 82 [some (.ref 572), some (zi ((k : Nat) : Int)), some (zi 2), some (zi 2), some (zi 3)] rfl rfl (Nat.le_of_ble_eq_true rfl) rfl rfl ?_
  refine x_go 17 rfl rfl ?_
  refine x_ld 4 2 0 19 rfl rfl rfl rfl rfl ?_
  refine x_cst (zi 3) 1 20 rfl rfl rfl ?_
  refine z_icge 85 23 rfl rfl rfl (rg_lit 3 rfl) (rg_lit 3 rfl) (fun _ => ?_) (fun c => absurd c (by decide))
  refine x_ld 2 1 0 86 rfl rfl rfl rfl rfl ?_
  refine x_cst (zi 2) 1 87 rfl rfl rfl ?_
  refine z_icne 102 90 rfl rfl rfl (rg_lit 2 rfl) (rg_lit 2 rfl) (fun c => absurd c (by decide)) (fun _ => ?_)
  refine x_ld 0 1 2 91 rfl rfl rfl rfl rfl ?_
  refine g_572_20 56 94 rfl rfl rfl ?_
  refine x_ld 1 1 0 95 rfl rfl rfl rfl rfl ?_
  refine x_cst (zi 0) 1 96 rfl rfl rfl ?_
  refine x_cv 235 121 99 [.ref 588, zi ((k : Nat) : Int), zi 0] rfl rfl rfl (Nat.le_of_ble_eq_true rfl) rfl rfl (Nat.le_of_ble_eq_true rfl) trivial (Nat.le_of_ble_eq_true rfl) (c121 (M := (rB M 587 (adB (M.2.1 587) (1152 * ((k : Nat) : Int) + (((3 : Nat)) : Int))))) d i_588 (k := k) (t := 0) (by decide) (by omega)) rfl ?_
  refine x_go 116 rfl rfl ?_
  refine x_rtv rfl rfl ?_
  refine ⟨_, _, rfl, rfl, rfl, Fe_trans (Fe_trans (Fe_refl _ _) (Fe_of (.inl rfl) (Fm_add _ (by decide)))) (Fe_of (.inr rfl) (Fm_add _ (by decide))), fun u hu => ?_⟩
  have q1 := hc1 u hu
  have q2 := hc2 u hu
  have e1 : ¬ (587 : Nat) = 588 := by decide
  have e2 : ¬ (588 : Nat) = 587 := by decide
  simp only [rB, adB, e1, e2, ↓reduceIte, q1, q2, Bool.false_or]
  show (_ ↔ ltr 3 u = true) ∧ (_ ↔ u = 0)
  simp only [Bool.or_eq_true, decide_eq_true_eq, ltr_iff, true_or, and_true]
  omega
theorem c120_2_1 (d : Nat) {k : Nat} (hk : k < 32) (hkd : M.1 582 (k : Int) = 3) (hlt : M.1 585 (k : Int) = 0) (hc1 : ∀ u : Nat, u < 1152 → M.2.1 587 (1152 * (k : Int) + (u : Int)) = false) (hc2 : ∀ u : Nat, u < 1152 → M.2.1 588 (1152 * (k : Int) + (u : Int)) = false) : ab_Z (pg_G L xs) (d + 2) 120 [.ref 572, zi (k : Nat)] M es (fun v M' => v = none ∧ Fe k M M' ∧ ∀ u : Nat, u < 1152 → (M'.2.1 587 (1152 * (k : Int) + (u : Int)) = true ↔ sS 2 1 (fun _ => false) (fun _ => false) u) ∧ (M'.2.1 588 (1152 * (k : Int) + (u : Int)) = true ↔ sV 2 1 (fun _ => false) (fun _ => false) u)) := by
  show ab_W (pg_G L xs) (ab_X (pg_G L xs) (d + 1)) 120 _ 0 [some (.ref 572), some (zi ((k : Nat) : Int)), none, none, none] [] (hp M ++ es)
  refine x_ld 0 1 2 1 rfl rfl rfl rfl rfl ?_
  refine g_572_14 38 4 rfl rfl rfl ?_
  refine x_ld 1 1 0 5 rfl rfl rfl rfl rfl ?_
  refine z_ild 3 6 rfl i_582 rfl ⟨by omega, by omega⟩ hkd rfl ?_
  refine x_st 2 1 0 7 [some (.ref 572), some (zi ((k : Nat) : Int)), some (zi 3), none, none] rfl rfl rfl (Nat.le_of_ble_eq_true rfl) rfl rfl ?_
  refine x_ld 0 1 2 8 rfl rfl rfl rfl rfl ?_
  refine g_572_17 47 11 rfl rfl rfl ?_
  refine x_ld 1 1 0 12 rfl rfl rfl rfl rfl ?_
  refine z_ild 0 13 rfl i_585 rfl ⟨by omega, by omega⟩ hlt rfl ?_
  refine x_st 3 1 0 14 [some (.ref 572), some (zi ((k : Nat) : Int)), some (zi 3), some (zi 0), none] rfl rfl rfl (Nat.le_of_ble_eq_true rfl) rfl rfl ?_
  refine x_cst (zi 0) 1 15 rfl rfl rfl ?_
  refine x_st 4 2 0 17 [some (.ref 572), some (zi ((k : Nat) : Int)), some (zi 3), some (zi 0), some (zi 0)] rfl rfl rfl (Nat.le_of_ble_eq_true rfl) rfl rfl ?_
  refine x_ld 4 2 0 19 rfl rfl rfl rfl rfl ?_
  refine x_cst (zi 3) 1 20 rfl rfl rfl ?_
  refine z_icge 85 23 rfl rfl rfl (rg_lit 0 rfl) (rg_lit 3 rfl) (fun c => absurd c (by decide)) (fun _ => ?_)
  refine x_ld 3 1 0 24 rfl rfl rfl rfl rfl ?_
  refine x_ld 4 2 0 26 rfl rfl rfl rfl rfl ?_
  refine z_iceq 34 29 rfl rfl rfl (rg_lit 0 rfl) (rg_lit 0 rfl) (fun _ => ?_) (fun c => absurd c (by decide))
  refine x_ld 2 1 0 35 rfl rfl rfl rfl rfl ?_
  refine x_cst (zi 3) 1 36 rfl rfl rfl ?_
  refine z_icne 46 39 rfl rfl rfl (rg_lit 3 rfl) (rg_lit 3 rfl) (fun c => absurd c (by decide)) (fun _ => ?_)
  refine x_ld 0 1 2 40 rfl rfl rfl rfl rfl ?_
  refine g_572_20 56 43 rfl rfl rfl ?_
  refine x_go 50 rfl rfl ?_
  refine x_ld 1 1 0 51 rfl rfl rfl rfl rfl ?_
  refine x_ld 4 2 0 53 rfl rfl rfl rfl rfl ?_
  refine x_cst (zi 1) 1 54 rfl rfl rfl ?_
  refine z_add 55 rfl rfl ?_
  refine x_cv 235 121 58 [.ref 588, zi ((k : Nat) : Int), zi 1] rfl rfl rfl (Nat.le_of_ble_eq_true rfl) rfl rfl (Nat.le_of_ble_eq_true rfl) trivial (Nat.le_of_ble_eq_true rfl) (c121 (M := M) d i_588 (k := k) (t := 1) (by decide) (by omega)) rfl ?_
  refine x_ld 2 1 0 59 rfl rfl rfl rfl rfl ?_
  refine z_ifeq 67 62 rfl rfl rfl (rg_lit 3 rfl) (fun c => absurd c (by decide)) (fun _ => ?_)
  refine x_ld 2 1 0 63 rfl rfl rfl rfl rfl ?_
  refine x_cst (zi 1) 1 64 rfl rfl rfl ?_
  refine z_icne 79 67 rfl rfl rfl (rg_lit 3 rfl) (rg_lit 1 rfl) (fun _ => ?_) (fun c => absurd c (by decide))
  refine z_inc 4 82 [some (.ref 572), some (zi ((k : Nat) : Int)), some (zi 3), some (zi 0), some (zi 1)] rfl rfl (Nat.le_of_ble_eq_true rfl) rfl rfl ?_
  refine x_go 17 rfl rfl ?_
  refine x_ld 4 2 0 19 rfl rfl rfl rfl rfl ?_
  refine x_cst (zi 3) 1 20 rfl rfl rfl ?_
  refine z_icge 85 23 rfl rfl rfl (rg_lit 1 rfl) (rg_lit 3 rfl) (fun c => absurd c (by decide)) (fun _ => ?_)
  refine x_ld 3 1 0 24 rfl rfl rfl rfl rfl ?_
  refine x_ld 4 2 0 26 rfl rfl rfl rfl rfl ?_
  refine z_iceq 34 29 rfl rfl rfl (rg_lit 0 rfl) (rg_lit 1 rfl) (fun c => absurd c (by decide)) (fun _ => ?_)
  refine x_ld 3 1 0 30 rfl rfl rfl rfl rfl ?_
  refine x_cst (zi 4) 1 31 rfl rfl rfl ?_
  refine z_icne 79 34 rfl rfl rfl (rg_lit 0 rfl) (rg_lit 4 rfl) (fun _ => ?_) (fun c => absurd c (by decide))
  refine z_inc 4 82 [some (.ref 572), some (zi ((k : Nat) : Int)), some (zi 3), some (zi 0), some (zi 2)] rfl rfl (Nat.le_of_ble_eq_true rfl) rfl rfl ?_
  refine x_go 17 rfl rfl ?_
  refine x_ld 4 2 0 19 rfl rfl rfl rfl rfl ?_
  refine x_cst (zi 3) 1 20 rfl rfl rfl ?_
  refine z_icge 85 23 rfl rfl rfl (rg_lit 2 rfl) (rg_lit 3 rfl) (fun c => absurd c (by decide)) (fun _ => ?_)
  refine x_ld 3 1 0 24 rfl rfl rfl rfl rfl ?_
  refine x_ld 4 2 0 26 rfl rfl rfl rfl rfl ?_
  refine z_iceq 34 29 rfl rfl rfl (rg_lit 0 rfl) (rg_lit 2 rfl) (fun c => absurd c (by decide)) (fun _ => ?_)
  refine x_ld 3 1 0 30 rfl rfl rfl rfl rfl ?_
  refine x_cst (zi 4) 1 31 rfl rfl rfl ?_
  refine z_icne 79 34 rfl rfl rfl (rg_lit 0 rfl) (rg_lit 4 rfl) (fun _ => ?_) (fun c => absurd c (by decide))
  refine z_inc 4 82 [some (.ref 572), some (zi ((k : Nat) : Int)), some (zi 3), some (zi 0), some (zi 3)] rfl rfl (Nat.le_of_ble_eq_true rfl) rfl rfl ?_
  refine x_go 17 rfl rfl ?_
  refine x_ld 4 2 0 19 rfl rfl rfl rfl rfl ?_
  refine x_cst (zi 3) 1 20 rfl rfl rfl ?_
  refine z_icge 85 23 rfl rfl rfl (rg_lit 3 rfl) (rg_lit 3 rfl) (fun _ => ?_) (fun c => absurd c (by decide))
  refine x_ld 2 1 0 86 rfl rfl rfl rfl rfl ?_
  refine x_cst (zi 2) 1 87 rfl rfl rfl ?_
  refine z_icne 102 90 rfl rfl rfl (rg_lit 3 rfl) (rg_lit 2 rfl) (fun _ => ?_) (fun c => absurd c (by decide))
  refine x_ld 2 1 0 103 rfl rfl rfl rfl rfl ?_
  refine x_cst (zi 3) 1 104 rfl rfl rfl ?_
  refine z_icne 116 107 rfl rfl rfl (rg_lit 3 rfl) (rg_lit 3 rfl) (fun c => absurd c (by decide)) (fun _ => ?_)
  refine x_ld 0 1 2 108 rfl rfl rfl rfl rfl ?_
  refine g_572_19 53 111 rfl rfl rfl ?_
  refine x_ld 1 1 0 112 rfl rfl rfl rfl rfl ?_
  refine x_cst (zi 0) 1 113 rfl rfl rfl ?_
  refine x_cv 235 121 116 [.ref 587, zi ((k : Nat) : Int), zi 0] rfl rfl rfl (Nat.le_of_ble_eq_true rfl) rfl rfl (Nat.le_of_ble_eq_true rfl) trivial (Nat.le_of_ble_eq_true rfl) (c121 (M := (rB M 588 (adB (M.2.1 588) (1152 * ((k : Nat) : Int) + (((1 : Nat)) : Int))))) d i_587 (k := k) (t := 0) (by decide) (by omega)) rfl ?_
  refine x_rtv rfl rfl ?_
  refine ⟨_, _, rfl, rfl, rfl, Fe_trans (Fe_trans (Fe_refl _ _) (Fe_of (.inr rfl) (Fm_add _ (by decide)))) (Fe_of (.inl rfl) (Fm_add _ (by decide))), fun u hu => ?_⟩
  have q1 := hc1 u hu
  have q2 := hc2 u hu
  have e1 : ¬ (587 : Nat) = 588 := by decide
  have e2 : ¬ (588 : Nat) = 587 := by decide
  simp only [rB, adB, e1, e2, ↓reduceIte, q1, q2, Bool.false_or]
  show (_ ↔ u = 0) ∧ (_ ↔ ltr 1 u = true)
  simp only [Bool.or_eq_true, decide_eq_true_eq, ltr_iff, true_or, and_true]
  omega
theorem c120_2_2 (d : Nat) {k : Nat} (hk : k < 32) (hkd : M.1 582 (k : Int) = 3) (hlt : M.1 585 (k : Int) = 1) (hc1 : ∀ u : Nat, u < 1152 → M.2.1 587 (1152 * (k : Int) + (u : Int)) = false) (hc2 : ∀ u : Nat, u < 1152 → M.2.1 588 (1152 * (k : Int) + (u : Int)) = false) : ab_Z (pg_G L xs) (d + 2) 120 [.ref 572, zi (k : Nat)] M es (fun v M' => v = none ∧ Fe k M M' ∧ ∀ u : Nat, u < 1152 → (M'.2.1 587 (1152 * (k : Int) + (u : Int)) = true ↔ sS 2 2 (fun _ => false) (fun _ => false) u) ∧ (M'.2.1 588 (1152 * (k : Int) + (u : Int)) = true ↔ sV 2 2 (fun _ => false) (fun _ => false) u)) := by
  show ab_W (pg_G L xs) (ab_X (pg_G L xs) (d + 1)) 120 _ 0 [some (.ref 572), some (zi ((k : Nat) : Int)), none, none, none] [] (hp M ++ es)
  refine x_ld 0 1 2 1 rfl rfl rfl rfl rfl ?_
  refine g_572_14 38 4 rfl rfl rfl ?_
  refine x_ld 1 1 0 5 rfl rfl rfl rfl rfl ?_
  refine z_ild 3 6 rfl i_582 rfl ⟨by omega, by omega⟩ hkd rfl ?_
  refine x_st 2 1 0 7 [some (.ref 572), some (zi ((k : Nat) : Int)), some (zi 3), none, none] rfl rfl rfl (Nat.le_of_ble_eq_true rfl) rfl rfl ?_
  refine x_ld 0 1 2 8 rfl rfl rfl rfl rfl ?_
  refine g_572_17 47 11 rfl rfl rfl ?_
  refine x_ld 1 1 0 12 rfl rfl rfl rfl rfl ?_
  refine z_ild 1 13 rfl i_585 rfl ⟨by omega, by omega⟩ hlt rfl ?_
  refine x_st 3 1 0 14 [some (.ref 572), some (zi ((k : Nat) : Int)), some (zi 3), some (zi 1), none] rfl rfl rfl (Nat.le_of_ble_eq_true rfl) rfl rfl ?_
  refine x_cst (zi 0) 1 15 rfl rfl rfl ?_
  refine x_st 4 2 0 17 [some (.ref 572), some (zi ((k : Nat) : Int)), some (zi 3), some (zi 1), some (zi 0)] rfl rfl rfl (Nat.le_of_ble_eq_true rfl) rfl rfl ?_
  refine x_ld 4 2 0 19 rfl rfl rfl rfl rfl ?_
  refine x_cst (zi 3) 1 20 rfl rfl rfl ?_
  refine z_icge 85 23 rfl rfl rfl (rg_lit 0 rfl) (rg_lit 3 rfl) (fun c => absurd c (by decide)) (fun _ => ?_)
  refine x_ld 3 1 0 24 rfl rfl rfl rfl rfl ?_
  refine x_ld 4 2 0 26 rfl rfl rfl rfl rfl ?_
  refine z_iceq 34 29 rfl rfl rfl (rg_lit 1 rfl) (rg_lit 0 rfl) (fun c => absurd c (by decide)) (fun _ => ?_)
  refine x_ld 3 1 0 30 rfl rfl rfl rfl rfl ?_
  refine x_cst (zi 4) 1 31 rfl rfl rfl ?_
  refine z_icne 79 34 rfl rfl rfl (rg_lit 1 rfl) (rg_lit 4 rfl) (fun _ => ?_) (fun c => absurd c (by decide))
  refine z_inc 4 82 [some (.ref 572), some (zi ((k : Nat) : Int)), some (zi 3), some (zi 1), some (zi 1)] rfl rfl (Nat.le_of_ble_eq_true rfl) rfl rfl ?_
  refine x_go 17 rfl rfl ?_
  refine x_ld 4 2 0 19 rfl rfl rfl rfl rfl ?_
  refine x_cst (zi 3) 1 20 rfl rfl rfl ?_
  refine z_icge 85 23 rfl rfl rfl (rg_lit 1 rfl) (rg_lit 3 rfl) (fun c => absurd c (by decide)) (fun _ => ?_)
  refine x_ld 3 1 0 24 rfl rfl rfl rfl rfl ?_
  refine x_ld 4 2 0 26 rfl rfl rfl rfl rfl ?_
  refine z_iceq 34 29 rfl rfl rfl (rg_lit 1 rfl) (rg_lit 1 rfl) (fun _ => ?_) (fun c => absurd c (by decide))
  refine x_ld 2 1 0 35 rfl rfl rfl rfl rfl ?_
  refine x_cst (zi 3) 1 36 rfl rfl rfl ?_
  refine z_icne 46 39 rfl rfl rfl (rg_lit 3 rfl) (rg_lit 3 rfl) (fun c => absurd c (by decide)) (fun _ => ?_)
  refine x_ld 0 1 2 40 rfl rfl rfl rfl rfl ?_
  refine g_572_20 56 43 rfl rfl rfl ?_
  refine x_go 50 rfl rfl ?_
  refine x_ld 1 1 0 51 rfl rfl rfl rfl rfl ?_
  refine x_ld 4 2 0 53 rfl rfl rfl rfl rfl ?_
  refine x_cst (zi 1) 1 54 rfl rfl rfl ?_
  refine z_add 55 rfl rfl ?_
  refine x_cv 235 121 58 [.ref 588, zi ((k : Nat) : Int), zi 2] rfl rfl rfl (Nat.le_of_ble_eq_true rfl) rfl rfl (Nat.le_of_ble_eq_true rfl) trivial (Nat.le_of_ble_eq_true rfl) (c121 (M := M) d i_588 (k := k) (t := 2) (by decide) (by omega)) rfl ?_
  refine x_ld 2 1 0 59 rfl rfl rfl rfl rfl ?_
  refine z_ifeq 67 62 rfl rfl rfl (rg_lit 3 rfl) (fun c => absurd c (by decide)) (fun _ => ?_)
  refine x_ld 2 1 0 63 rfl rfl rfl rfl rfl ?_
  refine x_cst (zi 1) 1 64 rfl rfl rfl ?_
  refine z_icne 79 67 rfl rfl rfl (rg_lit 3 rfl) (rg_lit 1 rfl) (fun _ => ?_) (fun c => absurd c (by decide))
  refine z_inc 4 82 [some (.ref 572), some (zi ((k : Nat) : Int)), some (zi 3), some (zi 1), some (zi 2)] rfl rfl (Nat.le_of_ble_eq_true rfl) rfl rfl ?_
  refine x_go 17 rfl rfl ?_
  refine x_ld 4 2 0 19 rfl rfl rfl rfl rfl ?_
  refine x_cst (zi 3) 1 20 rfl rfl rfl ?_
  refine z_icge 85 23 rfl rfl rfl (rg_lit 2 rfl) (rg_lit 3 rfl) (fun c => absurd c (by decide)) (fun _ => ?_)
  refine x_ld 3 1 0 24 rfl rfl rfl rfl rfl ?_
  refine x_ld 4 2 0 26 rfl rfl rfl rfl rfl ?_
  refine z_iceq 34 29 rfl rfl rfl (rg_lit 1 rfl) (rg_lit 2 rfl) (fun c => absurd c (by decide)) (fun _ => ?_)
  refine x_ld 3 1 0 30 rfl rfl rfl rfl rfl ?_
  refine x_cst (zi 4) 1 31 rfl rfl rfl ?_
  refine z_icne 79 34 rfl rfl rfl (rg_lit 1 rfl) (rg_lit 4 rfl) (fun _ => ?_) (fun c => absurd c (by decide))
  refine z_inc 4 82 [some (.ref 572), some (zi ((k : Nat) : Int)), some (zi 3), some (zi 1), some (zi 3)] rfl rfl (Nat.le_of_ble_eq_true rfl) rfl rfl ?_
  refine x_go 17 rfl rfl ?_
  refine x_ld 4 2 0 19 rfl rfl rfl rfl rfl ?_
  refine x_cst (zi 3) 1 20 rfl rfl rfl ?_
  refine z_icge 85 23 rfl rfl rfl (rg_lit 3 rfl) (rg_lit 3 rfl) (fun _ => ?_) (fun c => absurd c (by decide))
  refine x_ld 2 1 0 86 rfl rfl rfl rfl rfl ?_
  refine x_cst (zi 2) 1 87 rfl rfl rfl ?_
  refine z_icne 102 90 rfl rfl rfl (rg_lit 3 rfl) (rg_lit 2 rfl) (fun _ => ?_) (fun c => absurd c (by decide))
  refine x_ld 2 1 0 103 rfl rfl rfl rfl rfl ?_
  refine x_cst (zi 3) 1 104 rfl rfl rfl ?_
  refine z_icne 116 107 rfl rfl rfl (rg_lit 3 rfl) (rg_lit 3 rfl) (fun c => absurd c (by decide)) (fun _ => ?_)
  refine x_ld 0 1 2 108 rfl rfl rfl rfl rfl ?_
  refine g_572_19 53 111 rfl rfl rfl ?_
  refine x_ld 1 1 0 112 rfl rfl rfl rfl rfl ?_
  refine x_cst (zi 0) 1 113 rfl rfl rfl ?_
  refine x_cv 235 121 116 [.ref 587, zi ((k : Nat) : Int), zi 0] rfl rfl rfl (Nat.le_of_ble_eq_true rfl) rfl rfl (Nat.le_of_ble_eq_true rfl) trivial (Nat.le_of_ble_eq_true rfl) (c121 (M := (rB M 588 (adB (M.2.1 588) (1152 * ((k : Nat) : Int) + (((2 : Nat)) : Int))))) d i_587 (k := k) (t := 0) (by decide) (by omega)) rfl ?_
  refine x_rtv rfl rfl ?_
  refine ⟨_, _, rfl, rfl, rfl, Fe_trans (Fe_trans (Fe_refl _ _) (Fe_of (.inr rfl) (Fm_add _ (by decide)))) (Fe_of (.inl rfl) (Fm_add _ (by decide))), fun u hu => ?_⟩
  have q1 := hc1 u hu
  have q2 := hc2 u hu
  have e1 : ¬ (587 : Nat) = 588 := by decide
  have e2 : ¬ (588 : Nat) = 587 := by decide
  simp only [rB, adB, e1, e2, ↓reduceIte, q1, q2, Bool.false_or]
  show (_ ↔ u = 0) ∧ (_ ↔ ltr 2 u = true)
  simp only [Bool.or_eq_true, decide_eq_true_eq, ltr_iff, true_or, and_true]
  omega
theorem c120_2_3 (d : Nat) {k : Nat} (hk : k < 32) (hkd : M.1 582 (k : Int) = 3) (hlt : M.1 585 (k : Int) = 2) (hc1 : ∀ u : Nat, u < 1152 → M.2.1 587 (1152 * (k : Int) + (u : Int)) = false) (hc2 : ∀ u : Nat, u < 1152 → M.2.1 588 (1152 * (k : Int) + (u : Int)) = false) : ab_Z (pg_G L xs) (d + 2) 120 [.ref 572, zi (k : Nat)] M es (fun v M' => v = none ∧ Fe k M M' ∧ ∀ u : Nat, u < 1152 → (M'.2.1 587 (1152 * (k : Int) + (u : Int)) = true ↔ sS 2 3 (fun _ => false) (fun _ => false) u) ∧ (M'.2.1 588 (1152 * (k : Int) + (u : Int)) = true ↔ sV 2 3 (fun _ => false) (fun _ => false) u)) := by
  show ab_W (pg_G L xs) (ab_X (pg_G L xs) (d + 1)) 120 _ 0 [some (.ref 572), some (zi ((k : Nat) : Int)), none, none, none] [] (hp M ++ es)
  refine x_ld 0 1 2 1 rfl rfl rfl rfl rfl ?_
  refine g_572_14 38 4 rfl rfl rfl ?_
  refine x_ld 1 1 0 5 rfl rfl rfl rfl rfl ?_
  refine z_ild 3 6 rfl i_582 rfl ⟨by omega, by omega⟩ hkd rfl ?_
  refine x_st 2 1 0 7 [some (.ref 572), some (zi ((k : Nat) : Int)), some (zi 3), none, none] rfl rfl rfl (Nat.le_of_ble_eq_true rfl) rfl rfl ?_
  refine x_ld 0 1 2 8 rfl rfl rfl rfl rfl ?_
  refine g_572_17 47 11 rfl rfl rfl ?_
  refine x_ld 1 1 0 12 rfl rfl rfl rfl rfl ?_
  refine z_ild 2 13 rfl i_585 rfl ⟨by omega, by omega⟩ hlt rfl ?_
  refine x_st 3 1 0 14 [some (.ref 572), some (zi ((k : Nat) : Int)), some (zi 3), some (zi 2), none] rfl rfl rfl (Nat.le_of_ble_eq_true rfl) rfl rfl ?_
  refine x_cst (zi 0) 1 15 rfl rfl rfl ?_
  refine x_st 4 2 0 17 [some (.ref 572), some (zi ((k : Nat) : Int)), some (zi 3), some (zi 2), some (zi 0)] rfl rfl rfl (Nat.le_of_ble_eq_true rfl) rfl rfl ?_
  refine x_ld 4 2 0 19 rfl rfl rfl rfl rfl ?_
  refine x_cst (zi 3) 1 20 rfl rfl rfl ?_
  refine z_icge 85 23 rfl rfl rfl (rg_lit 0 rfl) (rg_lit 3 rfl) (fun c => absurd c (by decide)) (fun _ => ?_)
  refine x_ld 3 1 0 24 rfl rfl rfl rfl rfl ?_
  refine x_ld 4 2 0 26 rfl rfl rfl rfl rfl ?_
  refine z_iceq 34 29 rfl rfl rfl (rg_lit 2 rfl) (rg_lit 0 rfl) (fun c => absurd c (by decide)) (fun _ => ?_)
  refine x_ld 3 1 0 30 rfl rfl rfl rfl rfl ?_
  refine x_cst (zi 4) 1 31 rfl rfl rfl ?_
  refine z_icne 79 34 rfl rfl rfl (rg_lit 2 rfl) (rg_lit 4 rfl) (fun _ => ?_) (fun c => absurd c (by decide))
  refine z_inc 4 82 [some (.ref 572), some (zi ((k : Nat) : Int)), some (zi 3), some (zi 2), some (zi 1)] rfl rfl (Nat.le_of_ble_eq_true rfl) rfl rfl ?_
  refine x_go 17 rfl rfl ?_
  refine x_ld 4 2 0 19 rfl rfl rfl rfl rfl ?_
  refine x_cst (zi 3) 1 20 rfl rfl rfl ?_
  refine z_icge 85 23 rfl rfl rfl (rg_lit 1 rfl) (rg_lit 3 rfl) (fun c => absurd c (by decide)) (fun _ => ?_)
  refine x_ld 3 1 0 24 rfl rfl rfl rfl rfl ?_
  refine x_ld 4 2 0 26 rfl rfl rfl rfl rfl ?_
  refine z_iceq 34 29 rfl rfl rfl (rg_lit 2 rfl) (rg_lit 1 rfl) (fun c => absurd c (by decide)) (fun _ => ?_)
  refine x_ld 3 1 0 30 rfl rfl rfl rfl rfl ?_
  refine x_cst (zi 4) 1 31 rfl rfl rfl ?_
  refine z_icne 79 34 rfl rfl rfl (rg_lit 2 rfl) (rg_lit 4 rfl) (fun _ => ?_) (fun c => absurd c (by decide))
  refine z_inc 4 82 [some (.ref 572), some (zi ((k : Nat) : Int)), some (zi 3), some (zi 2), some (zi 2)] rfl rfl (Nat.le_of_ble_eq_true rfl) rfl rfl ?_
  refine x_go 17 rfl rfl ?_
  refine x_ld 4 2 0 19 rfl rfl rfl rfl rfl ?_
  refine x_cst (zi 3) 1 20 rfl rfl rfl ?_
  refine z_icge 85 23 rfl rfl rfl (rg_lit 2 rfl) (rg_lit 3 rfl) (fun c => absurd c (by decide)) (fun _ => ?_)
  refine x_ld 3 1 0 24 rfl rfl rfl rfl rfl ?_
  refine x_ld 4 2 0 26 rfl rfl rfl rfl rfl ?_
  refine z_iceq 34 29 rfl rfl rfl (rg_lit 2 rfl) (rg_lit 2 rfl) (fun _ => ?_) (fun c => absurd c (by decide))
  refine x_ld 2 1 0 35 rfl rfl rfl rfl rfl ?_
  refine x_cst (zi 3) 1 36 rfl rfl rfl ?_
  refine z_icne 46 39 rfl rfl rfl (rg_lit 3 rfl) (rg_lit 3 rfl) (fun c => absurd c (by decide)) (fun _ => ?_)
  refine x_ld 0 1 2 40 rfl rfl rfl rfl rfl ?_
  refine g_572_20 56 43 rfl rfl rfl ?_
  refine x_go 50 rfl rfl ?_
  refine x_ld 1 1 0 51 rfl rfl rfl rfl rfl ?_
  refine x_ld 4 2 0 53 rfl rfl rfl rfl rfl ?_
  refine x_cst (zi 1) 1 54 rfl rfl rfl ?_
  refine z_add 55 rfl rfl ?_
  refine x_cv 235 121 58 [.ref 588, zi ((k : Nat) : Int), zi 3] rfl rfl rfl (Nat.le_of_ble_eq_true rfl) rfl rfl (Nat.le_of_ble_eq_true rfl) trivial (Nat.le_of_ble_eq_true rfl) (c121 (M := M) d i_588 (k := k) (t := 3) (by decide) (by omega)) rfl ?_
  refine x_ld 2 1 0 59 rfl rfl rfl rfl rfl ?_
  refine z_ifeq 67 62 rfl rfl rfl (rg_lit 3 rfl) (fun c => absurd c (by decide)) (fun _ => ?_)
  refine x_ld 2 1 0 63 rfl rfl rfl rfl rfl ?_
  refine x_cst (zi 1) 1 64 rfl rfl rfl ?_
  refine z_icne 79 67 rfl rfl rfl (rg_lit 3 rfl) (rg_lit 1 rfl) (fun _ => ?_) (fun c => absurd c (by decide))
  refine z_inc 4 82 [some (.ref 572), some (zi ((k : Nat) : Int)), some (zi 3), some (zi 2), some (zi 3)] rfl rfl (Nat.le_of_ble_eq_true rfl) rfl rfl ?_
  refine x_go 17 rfl rfl ?_
  refine x_ld 4 2 0 19 rfl rfl rfl rfl rfl ?_
  refine x_cst (zi 3) 1 20 rfl rfl rfl ?_
  refine z_icge 85 23 rfl rfl rfl (rg_lit 3 rfl) (rg_lit 3 rfl) (fun _ => ?_) (fun c => absurd c (by decide))
  refine x_ld 2 1 0 86 rfl rfl rfl rfl rfl ?_
  refine x_cst (zi 2) 1 87 rfl rfl rfl ?_
  refine z_icne 102 90 rfl rfl rfl (rg_lit 3 rfl) (rg_lit 2 rfl) (fun _ => ?_) (fun c => absurd c (by decide))
  refine x_ld 2 1 0 103 rfl rfl rfl rfl rfl ?_
  refine x_cst (zi 3) 1 104 rfl rfl rfl ?_
  refine z_icne 116 107 rfl rfl rfl (rg_lit 3 rfl) (rg_lit 3 rfl) (fun c => absurd c (by decide)) (fun _ => ?_)
  refine x_ld 0 1 2 108 rfl rfl rfl rfl rfl ?_
  refine g_572_19 53 111 rfl rfl rfl ?_
  refine x_ld 1 1 0 112 rfl rfl rfl rfl rfl ?_
  refine x_cst (zi 0) 1 113 rfl rfl rfl ?_
  refine x_cv 235 121 116 [.ref 587, zi ((k : Nat) : Int), zi 0] rfl rfl rfl (Nat.le_of_ble_eq_true rfl) rfl rfl (Nat.le_of_ble_eq_true rfl) trivial (Nat.le_of_ble_eq_true rfl) (c121 (M := (rB M 588 (adB (M.2.1 588) (1152 * ((k : Nat) : Int) + (((3 : Nat)) : Int))))) d i_587 (k := k) (t := 0) (by decide) (by omega)) rfl ?_
  refine x_rtv rfl rfl ?_
  refine ⟨_, _, rfl, rfl, rfl, Fe_trans (Fe_trans (Fe_refl _ _) (Fe_of (.inr rfl) (Fm_add _ (by decide)))) (Fe_of (.inl rfl) (Fm_add _ (by decide))), fun u hu => ?_⟩
  have q1 := hc1 u hu
  have q2 := hc2 u hu
  have e1 : ¬ (587 : Nat) = 588 := by decide
  have e2 : ¬ (588 : Nat) = 587 := by decide
  simp only [rB, adB, e1, e2, ↓reduceIte, q1, q2, Bool.false_or]
  show (_ ↔ u = 0) ∧ (_ ↔ ltr 3 u = true)
  simp only [Bool.or_eq_true, decide_eq_true_eq, ltr_iff, true_or, and_true]
  omega
end D4
