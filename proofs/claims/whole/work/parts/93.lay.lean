/-! OURS, printed by wip/tools/gen93.py: the reference lays repeated sets. -/
/-- ways of what is behind the first part -/
def gW (A : Nat → Bool) (Wn : Nat → Nat) (w : List Nat) (i : Nat) : Nat := if A (tx_num (w.take i)) = true then Wn (tx_num (w.drop i)) else 0
/-- ways below t -/
def wI (A : Nat → Bool) (Wn : Nat → Nat) (t : Nat) : Prop := ∀ u, u < t → Wn u ≤ 2 ∧ (A 0 = false → ((1 ≤ Wn u ↔ rq A u) ∧ (2 ≤ Wn u ↔ am2 A u)))
theorem drop_lt {t i : Nat} (hi : 1 ≤ i) (h : i ≤ (tx_let t).length) : tx_num ((tx_let t).drop i) < t := by
  have := tx_num_short (u := (tx_let t).drop i) (v := tx_let t) (tx_L_drop (tx_let_L t) i) (by rw [List.length_drop]; omega)
  rw [tx_num_let] at this
  exact this
theorem ways_t {A : Nat → Bool} {Wn : Nat → Nat} {t : Nat} (ht : t < 1093) (h0 : A 0 = false) (hW : wI A Wn t) : (0 < (if t = 0 then 1 else 0) + sm (gW A Wn (tx_let t)) (tx_let t).length ↔ rq A t) ∧ (1 < (if t = 0 then 1 else 0) + sm (gW A Wn (tx_let t)) (tx_let t).length ↔ am2 A t) := by
  rcases Nat.eq_zero_or_pos t with e | e
  · subst e
    rw [tx_let_zero]
    simp only [if_true, List.length_nil, sm]
    refine ⟨⟨fun _ => ⟨by omega, by rw [tx_let_zero]; exact rp_R_nil⟩, fun _ => by omega⟩, ⟨fun e => by omega, fun e => ?_⟩⟩
    have := e.2
    rw [tx_let_zero] at this
    exact absurd this rp_A_nil
  · have hw : tx_let t ≠ [] := by
      intro e2
      have := tx_num_let t
      rw [e2, tx_num_nil] at this
      omega
    rw [if_neg (by omega), Nat.zero_add]
    have key : ∀ i, 1 ≤ i → i ≤ (tx_let t).length → (1 ≤ gW A Wn (tx_let t) i ↔ A (tx_num ((tx_let t).take i)) = true ∧ rp_R A ((tx_let t).drop i)) ∧ (2 ≤ gW A Wn (tx_let t) i ↔ A (tx_num ((tx_let t).take i)) = true ∧ rp_A A ((tx_let t).drop i)) := by
      intro i h1 h2
      have hd := drop_lt h1 h2
      have hw2 := (hW _ hd).2 h0
      have hl : tx_let (tx_num ((tx_let t).drop i)) = (tx_let t).drop i := tx_let_num (tx_L_drop (tx_let_L t) i)
      unfold gW
      by_cases hA : A (tx_num ((tx_let t).take i)) = true
      · rw [if_pos hA]
        refine ⟨hw2.1.trans ?_, hw2.2.trans ?_⟩
        · unfold rq; rw [hl]
          exact ⟨fun e => ⟨hA, e.2⟩, fun e => ⟨by omega, e.2⟩⟩
        · unfold am2; rw [hl]
          exact ⟨fun e => ⟨hA, e.2⟩, fun e => ⟨by omega, e.2⟩⟩
      · rw [if_neg hA]
        exact ⟨⟨fun e => by omega, fun e => absurd e.1 hA⟩, ⟨fun e => by omega, fun e => absurd e.1 hA⟩⟩
    have := ways_first hw (gW A Wn (tx_let t)) (fun i a b => (key i a b).1) (fun i a b => (key i a b).2)
    exact ⟨this.1.trans ⟨fun e => ⟨ht, e⟩, fun e => e.2⟩, this.2.trans ⟨fun e => ⟨ht, e⟩, fun e => e.2⟩⟩
theorem sm_le {g : Nat → Nat} (h : ∀ i, g i ≤ 2) (m : Nat) : sm g m ≤ 2 * m := by
  induction m with
  | zero => exact Nat.le_refl _
  | succ m ih => simp only [sm]; have := h (m + 1); omega
section D3
variable {L : Nat} {xs : Nat → Int32} {M : mm} {es : ab_H}
theorem c124_in (d : Nat) {a N k f : Nat} (h : isL a N) (hk : 18 * k + 18 ≤ N) (hf : 18 * f + 18 ≤ N) {t : Nat} (ht : t < 1093) {Wn : Nat → Nat} (hw : ∀ u, u < t → M.1 589 (u : Int) = (Wn u : Int) ∧ Wn u ≤ 2) {n0 : Nat} (hn0 : n0 ≤ 2) {x : Int} {Q : ab_Q} (kk : ab_W (pg_G L xs) (ab_X (pg_G L xs) (d + 2)) 124 Q 98 [some (.ref 572), some (.ref a), some (zi (k : Nat)), some (zi (f : Nat)), some (zi x), some (zi (t : Nat)), some (zi ((n0 + sm (gW (mS (M.2.1 a) f) Wn (tx_let t)) ((tx_let t).length)) : Nat)), some (zi (((tx_let t).length + 1 : Nat) : Int))] [] (hp M ++ es)) : ∀ m i : Nat, (tx_let t).length - i = m → i ≤ (tx_let t).length → ab_W (pg_G L xs) (ab_X (pg_G L xs) (d + 2)) 124 Q 42 [some (.ref 572), some (.ref a), some (zi (k : Nat)), some (zi (f : Nat)), some (zi x), some (zi (t : Nat)), some (zi ((n0 + sm (gW (mS (M.2.1 a) f) Wn (tx_let t)) (i)) : Nat)), some (zi ((i + 1 : Nat) : Int))] [] (hp M ++ es) := by
  have h6 := (tx_let_len t 6).mpr (by rw [tx_st_7]; exact ht)
  have hN := h.2.1
  intro m
  induction m using Nat.strongRecOn with
  | _ m ih =>
    intro i hm hi
    refine x_ld 7 2 0 44 rfl rfl rfl rfl rfl ?_
    refine x_ld 0 1 2 45 rfl rfl rfl rfl rfl ?_
    refine x_ld 5 2 0 47 rfl rfl rfl rfl rfl ?_
    refine x_cv 221 125 50 [.ref 572, zi ((t : Nat) : Int)] rfl rfl rfl (Nat.le_of_ble_eq_true rfl) rfl rfl (Nat.le_of_ble_eq_true rfl) ⟨_, _, _, rfl, o_572⟩ (Nat.le_of_ble_eq_true rfl) (by have q := c125 (L := L) (xs := xs) (es := es) (M := M) (d + 1) (w := tx_let t) (tx_let_L t) h6; rw [tx_num_let] at q; exact q) rfl ?_
    refine z_icgt 98 53 rfl rfl rfl ⟨by omega, by omega⟩ ⟨by omega, by omega⟩ (fun c50 => ?_) (fun c50 => ?_)
    · have e : i = (tx_let t).length := by omega
      subst e; exact kk
    · have l1 := num_lt (tx_L_take (tx_let_L t) (i + 1)) (by rw [List.length_take]; omega)
      have l2 := drop_lt (t := t) (i := i + 1) (by omega) (by omega)
      have hw1 := hw _ l2
      refine x_ld 1 1 2 54 rfl rfl rfl rfl rfl ?_
      refine x_ld 3 1 0 55 rfl rfl rfl rfl rfl ?_
      refine x_ld 0 1 2 56 rfl rfl rfl rfl rfl ?_
      refine x_ld 5 2 0 58 rfl rfl rfl rfl rfl ?_
      refine x_ld 7 2 0 60 rfl rfl rfl rfl rfl ?_
      refine x_cv 224 126 63 [.ref 572, zi ((t : Nat) : Int), zi ((i + 1 : Nat) : Int)] rfl rfl rfl (Nat.le_of_ble_eq_true rfl) rfl rfl (Nat.le_of_ble_eq_true rfl) ⟨_, _, _, rfl, o_572⟩ (Nat.le_of_ble_eq_true rfl) (by have q := c126 (L := L) (xs := xs) (es := es) (M := M) d (w := tx_let t) (tx_let_L t) h6 (i := i + 1) (by omega); rw [tx_num_let] at q; exact q) rfl ?_
      refine x_cv 228 123 66 [.ref a, zi ((f : Nat) : Int), zi ((tx_num ((tx_let t).take (i + 1)) : Nat) : Int)] rfl rfl rfl (Nat.le_of_ble_eq_true rfl) rfl rfl (Nat.le_of_ble_eq_true rfl) trivial (Nat.le_of_ble_eq_true rfl) (c123 (d + 1) h (k := f) (t := (tx_num ((tx_let t).take (i + 1)))) (by omega) hf) rfl ?_
      rcases Bool.eq_false_or_eq_true (M.2.1 a (1152 * ((f : Nat) : Int) + (((tx_num ((tx_let t).take (i + 1))) : Nat) : Int))) with hb1 | hb1
      · rw [hb1]
        refine z_ifeq 88 69 rfl rfl rfl (rg_lit 1 rfl) (fun c => absurd c (by decide)) (fun _ => ?_)
        refine x_ld 6 2 0 71 rfl rfl rfl rfl rfl ?_
        refine x_ld 0 1 2 72 rfl rfl rfl rfl rfl ?_
        refine g_572_21 59 75 rfl rfl rfl ?_
        refine x_ld 0 1 2 76 rfl rfl rfl rfl rfl ?_
        refine x_ld 5 2 0 78 rfl rfl rfl rfl rfl ?_
        refine x_ld 7 2 0 80 rfl rfl rfl rfl rfl ?_
        refine x_cv 232 127 83 [.ref 572, zi ((t : Nat) : Int), zi ((i + 1 : Nat) : Int)] rfl rfl rfl (Nat.le_of_ble_eq_true rfl) rfl rfl (Nat.le_of_ble_eq_true rfl) ⟨_, _, _, rfl, o_572⟩ (Nat.le_of_ble_eq_true rfl) (by have q := c127 (L := L) (xs := xs) (es := es) (M := M) d (w := tx_let t) (tx_let_L t) h6 (i := i + 1) (by omega); rw [tx_num_let] at q; exact q) rfl ?_
        refine z_ild ((Wn (tx_num ((tx_let t).drop (i + 1))) : Nat) : Int) 84 rfl i_589 rfl ⟨by omega, by omega⟩ hw1.1 rfl ?_
        refine z_add 85 rfl rfl ?_
        refine x_go 90 rfl rfl ?_
        refine x_st 6 2 0 92 [some (.ref 572), some (.ref a), some (zi ((k : Nat) : Int)), some (zi ((f : Nat) : Int)), some (zi x), some (zi ((t : Nat) : Int)), some (zi ((((n0 + sm (gW (mS (M.2.1 a) f) Wn (tx_let t)) (i)) : Nat) : Int) + ((Wn (tx_num ((tx_let t).drop (i + 1))) : Nat) : Int))), some (zi ((i + 1 : Nat) : Int))] rfl rfl rfl (Nat.le_of_ble_eq_true rfl) rfl rfl ?_
        refine z_inc 7 95 [some (.ref 572), some (.ref a), some (zi ((k : Nat) : Int)), some (zi ((f : Nat) : Int)), some (zi x), some (zi ((t : Nat) : Int)), some (zi ((((n0 + sm (gW (mS (M.2.1 a) f) Wn (tx_let t)) (i)) : Nat) : Int) + ((Wn (tx_num ((tx_let t).drop (i + 1))) : Nat) : Int))), some (zi (((i + 1 : Nat) : Int) + 1))] rfl rfl (Nat.le_of_ble_eq_true rfl) rfl rfl ?_
        refine x_go 42 rfl rfl ?_
        have hg : gW (mS (M.2.1 a) f) Wn (tx_let t) (i + 1) = Wn (tx_num ((tx_let t).drop (i + 1))) := if_pos hb1
        have hcn : (n0 + sm (gW (mS (M.2.1 a) f) Wn (tx_let t)) (i + 1)) = (n0 + sm (gW (mS (M.2.1 a) f) Wn (tx_let t)) (i)) + gW (mS (M.2.1 a) f) Wn (tx_let t) (i + 1) := by simp only [sm]; omega
        rw [show (((n0 + sm (gW (mS (M.2.1 a) f) Wn (tx_let t)) (i)) : Nat) : Int) + ((Wn (tx_num ((tx_let t).drop (i + 1))) : Nat) : Int) = (((n0 + sm (gW (mS (M.2.1 a) f) Wn (tx_let t)) (i + 1)) : Nat) : Int) by rw [hcn, hg]; omega]
        exact ih ((tx_let t).length - (i + 1)) (by omega) (i + 1) rfl (by omega)
      · rw [hb1]
        refine z_ifeq 88 69 rfl rfl rfl (rg_lit 0 rfl) (fun _ => ?_) (fun c => absurd c (by decide))
        refine x_ld 6 2 0 90 rfl rfl rfl rfl rfl ?_
        refine x_st 6 2 0 92 [some (.ref 572), some (.ref a), some (zi ((k : Nat) : Int)), some (zi ((f : Nat) : Int)), some (zi x), some (zi ((t : Nat) : Int)), some (zi (((n0 + sm (gW (mS (M.2.1 a) f) Wn (tx_let t)) (i)) : Nat) : Int)), some (zi ((i + 1 : Nat) : Int))] rfl rfl rfl (Nat.le_of_ble_eq_true rfl) rfl rfl ?_
        refine z_inc 7 95 [some (.ref 572), some (.ref a), some (zi ((k : Nat) : Int)), some (zi ((f : Nat) : Int)), some (zi x), some (zi ((t : Nat) : Int)), some (zi (((n0 + sm (gW (mS (M.2.1 a) f) Wn (tx_let t)) (i)) : Nat) : Int)), some (zi (((i + 1 : Nat) : Int) + 1))] rfl rfl (Nat.le_of_ble_eq_true rfl) rfl rfl ?_
        refine x_go 42 rfl rfl ?_
        have hg : gW (mS (M.2.1 a) f) Wn (tx_let t) (i + 1) = 0 := if_neg (by show ¬ M.2.1 a _ = true; rw [hb1]; decide)
        have hcn : (n0 + sm (gW (mS (M.2.1 a) f) Wn (tx_let t)) (i + 1)) = (n0 + sm (gW (mS (M.2.1 a) f) Wn (tx_let t)) (i)) + gW (mS (M.2.1 a) f) Wn (tx_let t) (i + 1) := by simp only [sm]; omega
        rw [show (((n0 + sm (gW (mS (M.2.1 a) f) Wn (tx_let t)) (i)) : Nat) : Int) = (((n0 + sm (gW (mS (M.2.1 a) f) Wn (tx_let t)) (i + 1)) : Nat) : Int) by rw [hcn, hg]; rfl]
        exact ih ((tx_let t).length - (i + 1)) (by omega) (i + 1) rfl (by omega)
theorem c124_out (d : Nat) {a N k f : Nat} (h : isL a N) (hk : 18 * k + 18 ≤ N) (hf : 18 * f + 18 ≤ N) (fk : f ≠ k) {Q : ab_Q} (kk : ∀ x M', Fm a k M M' → ((mS (M.2.1 a) f) 0 = false → bS a k 1093 M' (rq (mS (M.2.1 a) f))) → (∃ Wn, wI (mS (M.2.1 a) f) Wn 1093 ∧ ∀ u : Nat, u < 1093 → M'.1 589 (u : Int) = (Wn u : Int)) → (((mS (M.2.1 a) f) 0 = true → (1093 = 0 → x = -1) ∧ (0 < 1093 → x = 0)) ∧ ((mS (M.2.1 a) f) 0 = false → lst (fun u => u < 1093 ∧ am2 (mS (M.2.1 a) f) u) x)) → Q (.inl (some (zi x))) (hp M' ++ es)) : ∀ m t : Nat, 1093 - t = m → t ≤ 1093 → ∀ M' x, Fm a k M M' → ((mS (M.2.1 a) f) 0 = false → bS a k t M' (rq (mS (M.2.1 a) f))) → (∃ Wn, wI (mS (M.2.1 a) f) Wn t ∧ ∀ u : Nat, u < t → M'.1 589 (u : Int) = (Wn u : Int)) → (((mS (M.2.1 a) f) 0 = true → (t = 0 → x = -1) ∧ (0 < t → x = 0)) ∧ ((mS (M.2.1 a) f) 0 = false → lst (fun u => u < t ∧ am2 (mS (M.2.1 a) f) u) x)) → ∀ o6 o7, ab_W (pg_G L xs) (ab_X (pg_G L xs) (d + 2)) 124 Q 6 [some (.ref 572), some (.ref a), some (zi (k : Nat)), some (zi (f : Nat)), some (zi x), some (zi (t : Nat)), o6, o7] [] (hp M' ++ es) := by
  have hN := h.2.1
  intro m
  induction m using Nat.strongRecOn with
  | _ m ih =>
    intro t hm ht M' x hF hS ⟨Wn, hWn, hw9⟩ hx o6 o7
    have hxr : -1 ≤ x ∧ x < 1093 := by
      rcases Bool.eq_false_or_eq_true ((mS (M.2.1 a) f) 0) with q | q
      · have := hx.1 q
        rcases Nat.eq_zero_or_pos t with e | e
        · have := this.1 e; omega
        · have := this.2 e; omega
      · rcases hx.2 q with ⟨e, _⟩ | ⟨u, e, e2, _⟩
        · omega
        · have := e2.1; omega
    have hA : mS (M'.2.1 a) f 0 = (mS (M.2.1 a) f) 0 := Fm_ag hF fk 0 (by omega)
    refine x_ld 5 2 0 8 rfl rfl rfl rfl rfl ?_
    refine x_cst (zi 1093) 3 11 rfl rfl rfl ?_
    refine z_icge 155 14 rfl rfl rfl ⟨by omega, by omega⟩ (rg_lit 1093 rfl) (fun c11 => ?_) (fun c11 => ?_)
    · refine x_ld 4 2 0 157 rfl rfl rfl rfl rfl ?_
      refine x_ret rfl rfl rfl rfl ?_
      have e : t = 1093 := by omega
      subst e; exact kk x M' hF hS ⟨Wn, hWn, hw9⟩ hx
    · refine x_ld 5 2 0 16 rfl rfl rfl rfl rfl ?_
      refine z_ifne 36 19 rfl rfl rfl ⟨by omega, by omega⟩ (fun c16 => ?_) (fun c16 => ?_)
      · refine x_cst (zi 0) 1 37 rfl rfl rfl ?_
        refine x_st 6 2 0 39 [some (.ref 572), some (.ref a), some (zi ((k : Nat) : Int)), some (zi ((f : Nat) : Int)), some (zi x), some (zi ((t : Nat) : Int)), some (zi 0), o7] rfl rfl rfl (Nat.le_of_ble_eq_true rfl) rfl rfl ?_
        refine x_cst (zi 1) 1 40 rfl rfl rfl ?_
        refine x_st 7 2 0 42 [some (.ref 572), some (.ref a), some (zi ((k : Nat) : Int)), some (zi ((f : Nat) : Int)), some (zi x), some (zi ((t : Nat) : Int)), some (zi 0), some (zi 1)] rfl rfl rfl (Nat.le_of_ble_eq_true rfl) rfl rfl ?_
        refine c124_in (M := M') d h hk hf (t := t) (by omega) (Wn := Wn) (fun u hu => ⟨hw9 u hu, (hWn u hu).1⟩) (n0 := 0) (by decide) ?_ _ 0 rfl (Nat.zero_le _)
        have h6 := (tx_let_len t 6).mpr (by rw [tx_st_7]; omega)
        have hge : gW (mS (M'.2.1 a) f) Wn (tx_let t) = gW (mS (M.2.1 a) f) Wn (tx_let t) := by
          funext i
          unfold gW
          have l1 := num_lt (tx_L_take (tx_let_L t) i) (by rw [List.length_take]; omega)
          rw [show (mS (M'.2.1 a) f) (tx_num ((tx_let t).take i)) = (mS (M.2.1 a) f) (tx_num ((tx_let t).take i)) from Fm_ag hF fk _ (by omega)]
        rw [hge]
        have hnb : sm (gW (mS (M.2.1 a) f) Wn (tx_let t)) (tx_let t).length ≤ 12 := by
          have hg2 : ∀ i, i ≤ (tx_let t).length → 1 ≤ i → gW (mS (M.2.1 a) f) Wn (tx_let t) i ≤ 2 := by
            intro i h2 h1
            unfold gW
            split
            · exact (hWn _ (drop_lt h1 h2)).1
            · omega
          have : ∀ m, m ≤ (tx_let t).length → sm (gW (mS (M.2.1 a) f) Wn (tx_let t)) m ≤ 2 * m := by
            intro m
            induction m with
            | zero => intro _; exact Nat.le_refl _
            | succ m im => intro hm2; simp only [sm]; have a1 := im (by omega); have a2 := hg2 (m + 1) hm2 (by omega); omega
          have := this (tx_let t).length (Nat.le_refl _)
          omega
        have p0 : (mS (M.2.1 a) f) 0 = false → ((0 < 0 + sm (gW (mS (M.2.1 a) f) Wn (tx_let t)) (tx_let t).length ↔ rq (mS (M.2.1 a) f) t) ∧ (1 < 0 + sm (gW (mS (M.2.1 a) f) Wn (tx_let t)) (tx_let t).length ↔ am2 (mS (M.2.1 a) f) t)) := fun e => by have q := ways_t (t := t) (by omega) e hWn; rw [if_neg (show ¬ t = 0 by omega)] at q; exact q
        generalize hNN : 0 + sm (gW (mS (M.2.1 a) f) Wn (tx_let t)) (tx_let t).length = nn at *
        have hst : (mS (M.2.1 a) f) 0 = false → _ := fun e => lst_step (hx.2 e)
        refine x_ld 0 1 2 99 rfl rfl rfl rfl rfl ?_
        refine g_572_21 59 102 rfl rfl rfl ?_
        refine x_ld 5 2 0 104 rfl rfl rfl rfl rfl ?_
        refine x_ld 6 2 0 106 rfl rfl rfl rfl rfl ?_
        refine x_cst (zi 2) 1 107 rfl rfl rfl ?_
        refine z_icle 114 110 rfl rfl rfl ⟨by omega, by omega⟩ (rg_lit 2 rfl) (fun c107 => ?_) (fun c107 => ?_)
        · refine x_ld 6 2 0 116 rfl rfl rfl rfl rfl ?_
          refine z_ist 117 rfl i_589 rfl ⟨by omega, by omega⟩ rfl ?_
          refine x_ld 6 2 0 119 rfl rfl rfl rfl rfl ?_
          refine z_ifle 129 122 rfl rfl rfl ⟨by omega, by omega⟩ (fun c119 => ?_) (fun c119 => ?_)
          · refine x_ld 6 2 0 131 rfl rfl rfl rfl rfl ?_
            refine x_cst (zi 1) 1 132 rfl rfl rfl ?_
            refine z_icle 145 135 rfl rfl rfl ⟨by omega, by omega⟩ (rg_lit 1 rfl) (fun c132 => ?_) (fun c132 => ?_)
            · refine x_ld 4 2 0 147 rfl rfl rfl rfl rfl ?_
              refine x_st 4 2 0 149 [some (.ref 572), some (.ref a), some (zi ((k : Nat) : Int)), some (zi ((f : Nat) : Int)), some (zi x), some (zi ((t : Nat) : Int)), some (zi ((nn : Nat) : Int)), some (zi (((tx_let t).length + 1 : Nat) : Int))] rfl rfl rfl (Nat.le_of_ble_eq_true rfl) rfl rfl ?_
              refine z_inc 5 152 [some (.ref 572), some (.ref a), some (zi ((k : Nat) : Int)), some (zi ((f : Nat) : Int)), some (zi x), some (zi (((t : Nat) : Int) + 1)), some (zi ((nn : Nat) : Int)), some (zi (((tx_let t).length + 1 : Nat) : Int))] rfl rfl (Nat.le_of_ble_eq_true rfl) rfl rfl ?_
              refine x_go 6 rfl rfl ?_
              refine ih (1093 - (t + 1)) (by omega) (t + 1) rfl (by omega) _ _ ?_ ?_ ⟨fun u => if u = t then nn else Wn u, ?_, ?_⟩ ⟨?_, ?_⟩ _ _
              · exact (show Fm a k M (sI M' 589 ((t : Nat) : Int) ((nn : Nat) : Int)) from ⟨fun b hb => (sI_ne hb).trans (hF.1 b hb), hF.2.1, hF.2.2.1, hF.2.2.2⟩)
              · intro e
                exact bS_no (M := (sI M' 589 ((t : Nat) : Int) ((nn : Nat) : Int))) (hS e) (fun q => by have := (p0 e).1.mpr q; omega)
              · intro u hu
                by_cases q : u = t
                · subst q
                  simp only [if_true]
                  refine ⟨by omega, fun e => ⟨?_, ?_⟩⟩
                  · rw [← (p0 e).1]; omega
                  · rw [← (p0 e).2]; omega
                · simp only [if_neg q]; exact hWn u (by omega)
              · intro u hu
                show (sI M' 589 ((t : Nat) : Int) ((nn : Nat) : Int)).1 589 (u : Int) = _
                by_cases q : u = t
                · subst q; rw [rd_eq]; simp
                · rw [rd_nk (by omega), hw9 u (by omega)]; simp [q]
              · intro e
                refine ⟨fun q => by omega, fun _ => ?_⟩
                have hx1 := (hx.1 e).2 (by omega)
                omega
              · intro e
                have hst := hst e
                by_cases q : x < 0
                · rw [if_pos q, if_neg (fun e2 => by have := (p0 e).2.mpr (dcd_iff.mp e2); omega)] at hst; exact hst
                · rw [if_neg q] at hst; exact hst
            · refine x_ld 4 2 0 137 rfl rfl rfl rfl rfl ?_
              refine z_ifge 145 140 rfl rfl rfl ⟨by omega, by omega⟩ (fun c137 => ?_) (fun c137 => ?_)
              · refine x_ld 4 2 0 147 rfl rfl rfl rfl rfl ?_
                refine x_st 4 2 0 149 [some (.ref 572), some (.ref a), some (zi ((k : Nat) : Int)), some (zi ((f : Nat) : Int)), some (zi x), some (zi ((t : Nat) : Int)), some (zi ((nn : Nat) : Int)), some (zi (((tx_let t).length + 1 : Nat) : Int))] rfl rfl rfl (Nat.le_of_ble_eq_true rfl) rfl rfl ?_
                refine z_inc 5 152 [some (.ref 572), some (.ref a), some (zi ((k : Nat) : Int)), some (zi ((f : Nat) : Int)), some (zi x), some (zi (((t : Nat) : Int) + 1)), some (zi ((nn : Nat) : Int)), some (zi (((tx_let t).length + 1 : Nat) : Int))] rfl rfl (Nat.le_of_ble_eq_true rfl) rfl rfl ?_
                refine x_go 6 rfl rfl ?_
                refine ih (1093 - (t + 1)) (by omega) (t + 1) rfl (by omega) _ _ ?_ ?_ ⟨fun u => if u = t then nn else Wn u, ?_, ?_⟩ ⟨?_, ?_⟩ _ _
                · exact (show Fm a k M (sI M' 589 ((t : Nat) : Int) ((nn : Nat) : Int)) from ⟨fun b hb => (sI_ne hb).trans (hF.1 b hb), hF.2.1, hF.2.2.1, hF.2.2.2⟩)
                · intro e
                  exact bS_no (M := (sI M' 589 ((t : Nat) : Int) ((nn : Nat) : Int))) (hS e) (fun q => by have := (p0 e).1.mpr q; omega)
                · intro u hu
                  by_cases q : u = t
                  · subst q
                    simp only [if_true]
                    refine ⟨by omega, fun e => ⟨?_, ?_⟩⟩
                    · rw [← (p0 e).1]; omega
                    · rw [← (p0 e).2]; omega
                  · simp only [if_neg q]; exact hWn u (by omega)
                · intro u hu
                  show (sI M' 589 ((t : Nat) : Int) ((nn : Nat) : Int)).1 589 (u : Int) = _
                  by_cases q : u = t
                  · subst q; rw [rd_eq]; simp
                  · rw [rd_nk (by omega), hw9 u (by omega)]; simp [q]
                · intro e
                  refine ⟨fun q => by omega, fun _ => ?_⟩
                  have hx1 := (hx.1 e).2 (by omega)
                  omega
                · intro e
                  have hst := hst e
                  rw [if_neg (by omega)] at hst; exact hst
              · refine x_ld 5 2 0 142 rfl rfl rfl rfl rfl ?_
                refine x_go 147 rfl rfl ?_
                refine x_st 4 2 0 149 [some (.ref 572), some (.ref a), some (zi ((k : Nat) : Int)), some (zi ((f : Nat) : Int)), some (zi ((t : Nat) : Int)), some (zi ((t : Nat) : Int)), some (zi ((nn : Nat) : Int)), some (zi (((tx_let t).length + 1 : Nat) : Int))] rfl rfl rfl (Nat.le_of_ble_eq_true rfl) rfl rfl ?_
                refine z_inc 5 152 [some (.ref 572), some (.ref a), some (zi ((k : Nat) : Int)), some (zi ((f : Nat) : Int)), some (zi ((t : Nat) : Int)), some (zi (((t : Nat) : Int) + 1)), some (zi ((nn : Nat) : Int)), some (zi (((tx_let t).length + 1 : Nat) : Int))] rfl rfl (Nat.le_of_ble_eq_true rfl) rfl rfl ?_
                refine x_go 6 rfl rfl ?_
                refine ih (1093 - (t + 1)) (by omega) (t + 1) rfl (by omega) _ _ ?_ ?_ ⟨fun u => if u = t then nn else Wn u, ?_, ?_⟩ ⟨?_, ?_⟩ _ _
                · exact (show Fm a k M (sI M' 589 ((t : Nat) : Int) ((nn : Nat) : Int)) from ⟨fun b hb => (sI_ne hb).trans (hF.1 b hb), hF.2.1, hF.2.2.1, hF.2.2.2⟩)
                · intro e
                  exact bS_no (M := (sI M' 589 ((t : Nat) : Int) ((nn : Nat) : Int))) (hS e) (fun q => by have := (p0 e).1.mpr q; omega)
                · intro u hu
                  by_cases q : u = t
                  · subst q
                    simp only [if_true]
                    refine ⟨by omega, fun e => ⟨?_, ?_⟩⟩
                    · rw [← (p0 e).1]; omega
                    · rw [← (p0 e).2]; omega
                  · simp only [if_neg q]; exact hWn u (by omega)
                · intro u hu
                  show (sI M' 589 ((t : Nat) : Int) ((nn : Nat) : Int)).1 589 (u : Int) = _
                  by_cases q : u = t
                  · subst q; rw [rd_eq]; simp
                  · rw [rd_nk (by omega), hw9 u (by omega)]; simp [q]
                · intro e
                  refine ⟨fun q => by omega, fun _ => ?_⟩
                  have hx1 := (hx.1 e).2 (by omega)
                  omega
                · intro e
                  have hst := hst e
                  rw [if_pos (by omega), if_pos (dcd_iff.mpr ((p0 e).2.mp (by omega)))] at hst; exact hst
          · refine x_ld 1 1 2 123 rfl rfl rfl rfl rfl ?_
            refine x_ld 2 1 0 124 rfl rfl rfl rfl rfl ?_
            refine x_ld 5 2 0 126 rfl rfl rfl rfl rfl ?_
            refine x_cv 235 121 129 [.ref a, zi ((k : Nat) : Int), zi ((t : Nat) : Int)] rfl rfl rfl (Nat.le_of_ble_eq_true rfl) rfl rfl (Nat.le_of_ble_eq_true rfl) trivial (Nat.le_of_ble_eq_true rfl) (c121 (M := (sI M' 589 ((t : Nat) : Int) ((nn : Nat) : Int))) (d + 1) h (k := k) (t := t) (by omega) hk) rfl ?_
            refine x_ld 6 2 0 131 rfl rfl rfl rfl rfl ?_
            refine x_cst (zi 1) 1 132 rfl rfl rfl ?_
            refine z_icle 145 135 rfl rfl rfl ⟨by omega, by omega⟩ (rg_lit 1 rfl) (fun c132 => ?_) (fun c132 => ?_)
            · refine x_ld 4 2 0 147 rfl rfl rfl rfl rfl ?_
              refine x_st 4 2 0 149 [some (.ref 572), some (.ref a), some (zi ((k : Nat) : Int)), some (zi ((f : Nat) : Int)), some (zi x), some (zi ((t : Nat) : Int)), some (zi ((nn : Nat) : Int)), some (zi (((tx_let t).length + 1 : Nat) : Int))] rfl rfl rfl (Nat.le_of_ble_eq_true rfl) rfl rfl ?_
              refine z_inc 5 152 [some (.ref 572), some (.ref a), some (zi ((k : Nat) : Int)), some (zi ((f : Nat) : Int)), some (zi x), some (zi (((t : Nat) : Int) + 1)), some (zi ((nn : Nat) : Int)), some (zi (((tx_let t).length + 1 : Nat) : Int))] rfl rfl (Nat.le_of_ble_eq_true rfl) rfl rfl ?_
              refine x_go 6 rfl rfl ?_
              refine ih (1093 - (t + 1)) (by omega) (t + 1) rfl (by omega) _ _ ?_ ?_ ⟨fun u => if u = t then nn else Wn u, ?_, ?_⟩ ⟨?_, ?_⟩ _ _
              · exact Fm_trans (show Fm a k M (sI M' 589 ((t : Nat) : Int) ((nn : Nat) : Int)) from ⟨fun b hb => (sI_ne hb).trans (hF.1 b hb), hF.2.1, hF.2.2.1, hF.2.2.2⟩) (Fm_add _ (by omega))
              · intro e
                exact bS_add (M := (sI M' 589 ((t : Nat) : Int) ((nn : Nat) : Int))) (hS e) ((p0 e).1.mp (by omega))
              · intro u hu
                by_cases q : u = t
                · subst q
                  simp only [if_true]
                  refine ⟨by omega, fun e => ⟨?_, ?_⟩⟩
                  · rw [← (p0 e).1]; omega
                  · rw [← (p0 e).2]; omega
                · simp only [if_neg q]; exact hWn u (by omega)
              · intro u hu
                show (sI M' 589 ((t : Nat) : Int) ((nn : Nat) : Int)).1 589 (u : Int) = _
                by_cases q : u = t
                · subst q; rw [rd_eq]; simp
                · rw [rd_nk (by omega), hw9 u (by omega)]; simp [q]
              · intro e
                refine ⟨fun q => by omega, fun _ => ?_⟩
                have hx1 := (hx.1 e).2 (by omega)
                omega
              · intro e
                have hst := hst e
                by_cases q : x < 0
                · rw [if_pos q, if_neg (fun e2 => by have := (p0 e).2.mpr (dcd_iff.mp e2); omega)] at hst; exact hst
                · rw [if_neg q] at hst; exact hst
            · refine x_ld 4 2 0 137 rfl rfl rfl rfl rfl ?_
              refine z_ifge 145 140 rfl rfl rfl ⟨by omega, by omega⟩ (fun c137 => ?_) (fun c137 => ?_)
              · refine x_ld 4 2 0 147 rfl rfl rfl rfl rfl ?_
                refine x_st 4 2 0 149 [some (.ref 572), some (.ref a), some (zi ((k : Nat) : Int)), some (zi ((f : Nat) : Int)), some (zi x), some (zi ((t : Nat) : Int)), some (zi ((nn : Nat) : Int)), some (zi (((tx_let t).length + 1 : Nat) : Int))] rfl rfl rfl (Nat.le_of_ble_eq_true rfl) rfl rfl ?_
                refine z_inc 5 152 [some (.ref 572), some (.ref a), some (zi ((k : Nat) : Int)), some (zi ((f : Nat) : Int)), some (zi x), some (zi (((t : Nat) : Int) + 1)), some (zi ((nn : Nat) : Int)), some (zi (((tx_let t).length + 1 : Nat) : Int))] rfl rfl (Nat.le_of_ble_eq_true rfl) rfl rfl ?_
                refine x_go 6 rfl rfl ?_
                refine ih (1093 - (t + 1)) (by omega) (t + 1) rfl (by omega) _ _ ?_ ?_ ⟨fun u => if u = t then nn else Wn u, ?_, ?_⟩ ⟨?_, ?_⟩ _ _
                · exact Fm_trans (show Fm a k M (sI M' 589 ((t : Nat) : Int) ((nn : Nat) : Int)) from ⟨fun b hb => (sI_ne hb).trans (hF.1 b hb), hF.2.1, hF.2.2.1, hF.2.2.2⟩) (Fm_add _ (by omega))
                · intro e
                  exact bS_add (M := (sI M' 589 ((t : Nat) : Int) ((nn : Nat) : Int))) (hS e) ((p0 e).1.mp (by omega))
                · intro u hu
                  by_cases q : u = t
                  · subst q
                    simp only [if_true]
                    refine ⟨by omega, fun e => ⟨?_, ?_⟩⟩
                    · rw [← (p0 e).1]; omega
                    · rw [← (p0 e).2]; omega
                  · simp only [if_neg q]; exact hWn u (by omega)
                · intro u hu
                  show (sI M' 589 ((t : Nat) : Int) ((nn : Nat) : Int)).1 589 (u : Int) = _
                  by_cases q : u = t
                  · subst q; rw [rd_eq]; simp
                  · rw [rd_nk (by omega), hw9 u (by omega)]; simp [q]
                · intro e
                  refine ⟨fun q => by omega, fun _ => ?_⟩
                  have hx1 := (hx.1 e).2 (by omega)
                  omega
                · intro e
                  have hst := hst e
                  rw [if_neg (by omega)] at hst; exact hst
              · refine x_ld 5 2 0 142 rfl rfl rfl rfl rfl ?_
                refine x_go 147 rfl rfl ?_
                refine x_st 4 2 0 149 [some (.ref 572), some (.ref a), some (zi ((k : Nat) : Int)), some (zi ((f : Nat) : Int)), some (zi ((t : Nat) : Int)), some (zi ((t : Nat) : Int)), some (zi ((nn : Nat) : Int)), some (zi (((tx_let t).length + 1 : Nat) : Int))] rfl rfl rfl (Nat.le_of_ble_eq_true rfl) rfl rfl ?_
                refine z_inc 5 152 [some (.ref 572), some (.ref a), some (zi ((k : Nat) : Int)), some (zi ((f : Nat) : Int)), some (zi ((t : Nat) : Int)), some (zi (((t : Nat) : Int) + 1)), some (zi ((nn : Nat) : Int)), some (zi (((tx_let t).length + 1 : Nat) : Int))] rfl rfl (Nat.le_of_ble_eq_true rfl) rfl rfl ?_
                refine x_go 6 rfl rfl ?_
                refine ih (1093 - (t + 1)) (by omega) (t + 1) rfl (by omega) _ _ ?_ ?_ ⟨fun u => if u = t then nn else Wn u, ?_, ?_⟩ ⟨?_, ?_⟩ _ _
                · exact Fm_trans (show Fm a k M (sI M' 589 ((t : Nat) : Int) ((nn : Nat) : Int)) from ⟨fun b hb => (sI_ne hb).trans (hF.1 b hb), hF.2.1, hF.2.2.1, hF.2.2.2⟩) (Fm_add _ (by omega))
                · intro e
                  exact bS_add (M := (sI M' 589 ((t : Nat) : Int) ((nn : Nat) : Int))) (hS e) ((p0 e).1.mp (by omega))
                · intro u hu
                  by_cases q : u = t
                  · subst q
                    simp only [if_true]
                    refine ⟨by omega, fun e => ⟨?_, ?_⟩⟩
                    · rw [← (p0 e).1]; omega
                    · rw [← (p0 e).2]; omega
                  · simp only [if_neg q]; exact hWn u (by omega)
                · intro u hu
                  show (sI M' 589 ((t : Nat) : Int) ((nn : Nat) : Int)).1 589 (u : Int) = _
                  by_cases q : u = t
                  · subst q; rw [rd_eq]; simp
                  · rw [rd_nk (by omega), hw9 u (by omega)]; simp [q]
                · intro e
                  refine ⟨fun q => by omega, fun _ => ?_⟩
                  have hx1 := (hx.1 e).2 (by omega)
                  omega
                · intro e
                  have hst := hst e
                  rw [if_pos (by omega), if_pos (dcd_iff.mpr ((p0 e).2.mp (by omega)))] at hst; exact hst
        · refine x_cst (zi 2) 1 111 rfl rfl rfl ?_
          refine x_go 116 rfl rfl ?_
          refine z_ist 117 rfl i_589 rfl ⟨by omega, by omega⟩ rfl ?_
          refine x_ld 6 2 0 119 rfl rfl rfl rfl rfl ?_
          refine z_ifle 129 122 rfl rfl rfl ⟨by omega, by omega⟩ (fun c119 => ?_) (fun c119 => ?_)
          · refine x_ld 6 2 0 131 rfl rfl rfl rfl rfl ?_
            refine x_cst (zi 1) 1 132 rfl rfl rfl ?_
            refine z_icle 145 135 rfl rfl rfl ⟨by omega, by omega⟩ (rg_lit 1 rfl) (fun c132 => ?_) (fun c132 => ?_)
            · refine x_ld 4 2 0 147 rfl rfl rfl rfl rfl ?_
              refine x_st 4 2 0 149 [some (.ref 572), some (.ref a), some (zi ((k : Nat) : Int)), some (zi ((f : Nat) : Int)), some (zi x), some (zi ((t : Nat) : Int)), some (zi ((nn : Nat) : Int)), some (zi (((tx_let t).length + 1 : Nat) : Int))] rfl rfl rfl (Nat.le_of_ble_eq_true rfl) rfl rfl ?_
              refine z_inc 5 152 [some (.ref 572), some (.ref a), some (zi ((k : Nat) : Int)), some (zi ((f : Nat) : Int)), some (zi x), some (zi (((t : Nat) : Int) + 1)), some (zi ((nn : Nat) : Int)), some (zi (((tx_let t).length + 1 : Nat) : Int))] rfl rfl (Nat.le_of_ble_eq_true rfl) rfl rfl ?_
              refine x_go 6 rfl rfl ?_
              refine ih (1093 - (t + 1)) (by omega) (t + 1) rfl (by omega) _ _ ?_ ?_ ⟨fun u => if u = t then 2 else Wn u, ?_, ?_⟩ ⟨?_, ?_⟩ _ _
              · exact (show Fm a k M (sI M' 589 ((t : Nat) : Int) 2) from ⟨fun b hb => (sI_ne hb).trans (hF.1 b hb), hF.2.1, hF.2.2.1, hF.2.2.2⟩)
              · intro e
                exact bS_no (M := (sI M' 589 ((t : Nat) : Int) 2)) (hS e) (fun q => by have := (p0 e).1.mpr q; omega)
              · intro u hu
                by_cases q : u = t
                · subst q
                  simp only [if_true]
                  refine ⟨by omega, fun e => ⟨?_, ?_⟩⟩
                  · rw [← (p0 e).1]; omega
                  · rw [← (p0 e).2]; omega
                · simp only [if_neg q]; exact hWn u (by omega)
              · intro u hu
                show (sI M' 589 ((t : Nat) : Int) 2).1 589 (u : Int) = _
                by_cases q : u = t
                · subst q; rw [rd_eq]; simp
                · rw [rd_nk (by omega), hw9 u (by omega)]; simp [q]
              · intro e
                refine ⟨fun q => by omega, fun _ => ?_⟩
                have hx1 := (hx.1 e).2 (by omega)
                omega
              · intro e
                have hst := hst e
                by_cases q : x < 0
                · rw [if_pos q, if_neg (fun e2 => by have := (p0 e).2.mpr (dcd_iff.mp e2); omega)] at hst; exact hst
                · rw [if_neg q] at hst; exact hst
            · refine x_ld 4 2 0 137 rfl rfl rfl rfl rfl ?_
              refine z_ifge 145 140 rfl rfl rfl ⟨by omega, by omega⟩ (fun c137 => ?_) (fun c137 => ?_)
              · refine x_ld 4 2 0 147 rfl rfl rfl rfl rfl ?_
                refine x_st 4 2 0 149 [some (.ref 572), some (.ref a), some (zi ((k : Nat) : Int)), some (zi ((f : Nat) : Int)), some (zi x), some (zi ((t : Nat) : Int)), some (zi ((nn : Nat) : Int)), some (zi (((tx_let t).length + 1 : Nat) : Int))] rfl rfl rfl (Nat.le_of_ble_eq_true rfl) rfl rfl ?_
                refine z_inc 5 152 [some (.ref 572), some (.ref a), some (zi ((k : Nat) : Int)), some (zi ((f : Nat) : Int)), some (zi x), some (zi (((t : Nat) : Int) + 1)), some (zi ((nn : Nat) : Int)), some (zi (((tx_let t).length + 1 : Nat) : Int))] rfl rfl (Nat.le_of_ble_eq_true rfl) rfl rfl ?_
                refine x_go 6 rfl rfl ?_
                refine ih (1093 - (t + 1)) (by omega) (t + 1) rfl (by omega) _ _ ?_ ?_ ⟨fun u => if u = t then 2 else Wn u, ?_, ?_⟩ ⟨?_, ?_⟩ _ _
                · exact (show Fm a k M (sI M' 589 ((t : Nat) : Int) 2) from ⟨fun b hb => (sI_ne hb).trans (hF.1 b hb), hF.2.1, hF.2.2.1, hF.2.2.2⟩)
                · intro e
                  exact bS_no (M := (sI M' 589 ((t : Nat) : Int) 2)) (hS e) (fun q => by have := (p0 e).1.mpr q; omega)
                · intro u hu
                  by_cases q : u = t
                  · subst q
                    simp only [if_true]
                    refine ⟨by omega, fun e => ⟨?_, ?_⟩⟩
                    · rw [← (p0 e).1]; omega
                    · rw [← (p0 e).2]; omega
                  · simp only [if_neg q]; exact hWn u (by omega)
                · intro u hu
                  show (sI M' 589 ((t : Nat) : Int) 2).1 589 (u : Int) = _
                  by_cases q : u = t
                  · subst q; rw [rd_eq]; simp
                  · rw [rd_nk (by omega), hw9 u (by omega)]; simp [q]
                · intro e
                  refine ⟨fun q => by omega, fun _ => ?_⟩
                  have hx1 := (hx.1 e).2 (by omega)
                  omega
                · intro e
                  have hst := hst e
                  rw [if_neg (by omega)] at hst; exact hst
              · refine x_ld 5 2 0 142 rfl rfl rfl rfl rfl ?_
                refine x_go 147 rfl rfl ?_
                refine x_st 4 2 0 149 [some (.ref 572), some (.ref a), some (zi ((k : Nat) : Int)), some (zi ((f : Nat) : Int)), some (zi ((t : Nat) : Int)), some (zi ((t : Nat) : Int)), some (zi ((nn : Nat) : Int)), some (zi (((tx_let t).length + 1 : Nat) : Int))] rfl rfl rfl (Nat.le_of_ble_eq_true rfl) rfl rfl ?_
                refine z_inc 5 152 [some (.ref 572), some (.ref a), some (zi ((k : Nat) : Int)), some (zi ((f : Nat) : Int)), some (zi ((t : Nat) : Int)), some (zi (((t : Nat) : Int) + 1)), some (zi ((nn : Nat) : Int)), some (zi (((tx_let t).length + 1 : Nat) : Int))] rfl rfl (Nat.le_of_ble_eq_true rfl) rfl rfl ?_
                refine x_go 6 rfl rfl ?_
                refine ih (1093 - (t + 1)) (by omega) (t + 1) rfl (by omega) _ _ ?_ ?_ ⟨fun u => if u = t then 2 else Wn u, ?_, ?_⟩ ⟨?_, ?_⟩ _ _
                · exact (show Fm a k M (sI M' 589 ((t : Nat) : Int) 2) from ⟨fun b hb => (sI_ne hb).trans (hF.1 b hb), hF.2.1, hF.2.2.1, hF.2.2.2⟩)
                · intro e
                  exact bS_no (M := (sI M' 589 ((t : Nat) : Int) 2)) (hS e) (fun q => by have := (p0 e).1.mpr q; omega)
                · intro u hu
                  by_cases q : u = t
                  · subst q
                    simp only [if_true]
                    refine ⟨by omega, fun e => ⟨?_, ?_⟩⟩
                    · rw [← (p0 e).1]; omega
                    · rw [← (p0 e).2]; omega
                  · simp only [if_neg q]; exact hWn u (by omega)
                · intro u hu
                  show (sI M' 589 ((t : Nat) : Int) 2).1 589 (u : Int) = _
                  by_cases q : u = t
                  · subst q; rw [rd_eq]; simp
                  · rw [rd_nk (by omega), hw9 u (by omega)]; simp [q]
                · intro e
                  refine ⟨fun q => by omega, fun _ => ?_⟩
                  have hx1 := (hx.1 e).2 (by omega)
                  omega
                · intro e
                  have hst := hst e
                  rw [if_pos (by omega), if_pos (dcd_iff.mpr ((p0 e).2.mp (by omega)))] at hst; exact hst
          · refine x_ld 1 1 2 123 rfl rfl rfl rfl rfl ?_
            refine x_ld 2 1 0 124 rfl rfl rfl rfl rfl ?_
            refine x_ld 5 2 0 126 rfl rfl rfl rfl rfl ?_
            refine x_cv 235 121 129 [.ref a, zi ((k : Nat) : Int), zi ((t : Nat) : Int)] rfl rfl rfl (Nat.le_of_ble_eq_true rfl) rfl rfl (Nat.le_of_ble_eq_true rfl) trivial (Nat.le_of_ble_eq_true rfl) (c121 (M := (sI M' 589 ((t : Nat) : Int) 2)) (d + 1) h (k := k) (t := t) (by omega) hk) rfl ?_
            refine x_ld 6 2 0 131 rfl rfl rfl rfl rfl ?_
            refine x_cst (zi 1) 1 132 rfl rfl rfl ?_
            refine z_icle 145 135 rfl rfl rfl ⟨by omega, by omega⟩ (rg_lit 1 rfl) (fun c132 => ?_) (fun c132 => ?_)
            · refine x_ld 4 2 0 147 rfl rfl rfl rfl rfl ?_
              refine x_st 4 2 0 149 [some (.ref 572), some (.ref a), some (zi ((k : Nat) : Int)), some (zi ((f : Nat) : Int)), some (zi x), some (zi ((t : Nat) : Int)), some (zi ((nn : Nat) : Int)), some (zi (((tx_let t).length + 1 : Nat) : Int))] rfl rfl rfl (Nat.le_of_ble_eq_true rfl) rfl rfl ?_
              refine z_inc 5 152 [some (.ref 572), some (.ref a), some (zi ((k : Nat) : Int)), some (zi ((f : Nat) : Int)), some (zi x), some (zi (((t : Nat) : Int) + 1)), some (zi ((nn : Nat) : Int)), some (zi (((tx_let t).length + 1 : Nat) : Int))] rfl rfl (Nat.le_of_ble_eq_true rfl) rfl rfl ?_
              refine x_go 6 rfl rfl ?_
              refine ih (1093 - (t + 1)) (by omega) (t + 1) rfl (by omega) _ _ ?_ ?_ ⟨fun u => if u = t then 2 else Wn u, ?_, ?_⟩ ⟨?_, ?_⟩ _ _
              · exact Fm_trans (show Fm a k M (sI M' 589 ((t : Nat) : Int) 2) from ⟨fun b hb => (sI_ne hb).trans (hF.1 b hb), hF.2.1, hF.2.2.1, hF.2.2.2⟩) (Fm_add _ (by omega))
              · intro e
                exact bS_add (M := (sI M' 589 ((t : Nat) : Int) 2)) (hS e) ((p0 e).1.mp (by omega))
              · intro u hu
                by_cases q : u = t
                · subst q
                  simp only [if_true]
                  refine ⟨by omega, fun e => ⟨?_, ?_⟩⟩
                  · rw [← (p0 e).1]; omega
                  · rw [← (p0 e).2]; omega
                · simp only [if_neg q]; exact hWn u (by omega)
              · intro u hu
                show (sI M' 589 ((t : Nat) : Int) 2).1 589 (u : Int) = _
                by_cases q : u = t
                · subst q; rw [rd_eq]; simp
                · rw [rd_nk (by omega), hw9 u (by omega)]; simp [q]
              · intro e
                refine ⟨fun q => by omega, fun _ => ?_⟩
                have hx1 := (hx.1 e).2 (by omega)
                omega
              · intro e
                have hst := hst e
                by_cases q : x < 0
                · rw [if_pos q, if_neg (fun e2 => by have := (p0 e).2.mpr (dcd_iff.mp e2); omega)] at hst; exact hst
                · rw [if_neg q] at hst; exact hst
            · refine x_ld 4 2 0 137 rfl rfl rfl rfl rfl ?_
              refine z_ifge 145 140 rfl rfl rfl ⟨by omega, by omega⟩ (fun c137 => ?_) (fun c137 => ?_)
              · refine x_ld 4 2 0 147 rfl rfl rfl rfl rfl ?_
                refine x_st 4 2 0 149 [some (.ref 572), some (.ref a), some (zi ((k : Nat) : Int)), some (zi ((f : Nat) : Int)), some (zi x), some (zi ((t : Nat) : Int)), some (zi ((nn : Nat) : Int)), some (zi (((tx_let t).length + 1 : Nat) : Int))] rfl rfl rfl (Nat.le_of_ble_eq_true rfl) rfl rfl ?_
                refine z_inc 5 152 [some (.ref 572), some (.ref a), some (zi ((k : Nat) : Int)), some (zi ((f : Nat) : Int)), some (zi x), some (zi (((t : Nat) : Int) + 1)), some (zi ((nn : Nat) : Int)), some (zi (((tx_let t).length + 1 : Nat) : Int))] rfl rfl (Nat.le_of_ble_eq_true rfl) rfl rfl ?_
                refine x_go 6 rfl rfl ?_
                refine ih (1093 - (t + 1)) (by omega) (t + 1) rfl (by omega) _ _ ?_ ?_ ⟨fun u => if u = t then 2 else Wn u, ?_, ?_⟩ ⟨?_, ?_⟩ _ _
                · exact Fm_trans (show Fm a k M (sI M' 589 ((t : Nat) : Int) 2) from ⟨fun b hb => (sI_ne hb).trans (hF.1 b hb), hF.2.1, hF.2.2.1, hF.2.2.2⟩) (Fm_add _ (by omega))
                · intro e
                  exact bS_add (M := (sI M' 589 ((t : Nat) : Int) 2)) (hS e) ((p0 e).1.mp (by omega))
                · intro u hu
                  by_cases q : u = t
                  · subst q
                    simp only [if_true]
                    refine ⟨by omega, fun e => ⟨?_, ?_⟩⟩
                    · rw [← (p0 e).1]; omega
                    · rw [← (p0 e).2]; omega
                  · simp only [if_neg q]; exact hWn u (by omega)
                · intro u hu
                  show (sI M' 589 ((t : Nat) : Int) 2).1 589 (u : Int) = _
                  by_cases q : u = t
                  · subst q; rw [rd_eq]; simp
                  · rw [rd_nk (by omega), hw9 u (by omega)]; simp [q]
                · intro e
                  refine ⟨fun q => by omega, fun _ => ?_⟩
                  have hx1 := (hx.1 e).2 (by omega)
                  omega
                · intro e
                  have hst := hst e
                  rw [if_neg (by omega)] at hst; exact hst
              · refine x_ld 5 2 0 142 rfl rfl rfl rfl rfl ?_
                refine x_go 147 rfl rfl ?_
                refine x_st 4 2 0 149 [some (.ref 572), some (.ref a), some (zi ((k : Nat) : Int)), some (zi ((f : Nat) : Int)), some (zi ((t : Nat) : Int)), some (zi ((t : Nat) : Int)), some (zi ((nn : Nat) : Int)), some (zi (((tx_let t).length + 1 : Nat) : Int))] rfl rfl rfl (Nat.le_of_ble_eq_true rfl) rfl rfl ?_
                refine z_inc 5 152 [some (.ref 572), some (.ref a), some (zi ((k : Nat) : Int)), some (zi ((f : Nat) : Int)), some (zi ((t : Nat) : Int)), some (zi (((t : Nat) : Int) + 1)), some (zi ((nn : Nat) : Int)), some (zi (((tx_let t).length + 1 : Nat) : Int))] rfl rfl (Nat.le_of_ble_eq_true rfl) rfl rfl ?_
                refine x_go 6 rfl rfl ?_
                refine ih (1093 - (t + 1)) (by omega) (t + 1) rfl (by omega) _ _ ?_ ?_ ⟨fun u => if u = t then 2 else Wn u, ?_, ?_⟩ ⟨?_, ?_⟩ _ _
                · exact Fm_trans (show Fm a k M (sI M' 589 ((t : Nat) : Int) 2) from ⟨fun b hb => (sI_ne hb).trans (hF.1 b hb), hF.2.1, hF.2.2.1, hF.2.2.2⟩) (Fm_add _ (by omega))
                · intro e
                  exact bS_add (M := (sI M' 589 ((t : Nat) : Int) 2)) (hS e) ((p0 e).1.mp (by omega))
                · intro u hu
                  by_cases q : u = t
                  · subst q
                    simp only [if_true]
                    refine ⟨by omega, fun e => ⟨?_, ?_⟩⟩
                    · rw [← (p0 e).1]; omega
                    · rw [← (p0 e).2]; omega
                  · simp only [if_neg q]; exact hWn u (by omega)
                · intro u hu
                  show (sI M' 589 ((t : Nat) : Int) 2).1 589 (u : Int) = _
                  by_cases q : u = t
                  · subst q; rw [rd_eq]; simp
                  · rw [rd_nk (by omega), hw9 u (by omega)]; simp [q]
                · intro e
                  refine ⟨fun q => by omega, fun _ => ?_⟩
                  have hx1 := (hx.1 e).2 (by omega)
                  omega
                · intro e
                  have hst := hst e
                  rw [if_pos (by omega), if_pos (dcd_iff.mpr ((p0 e).2.mp (by omega)))] at hst; exact hst
      · refine x_ld 1 1 2 20 rfl rfl rfl rfl rfl ?_
        refine x_ld 3 1 0 21 rfl rfl rfl rfl rfl ?_
        refine x_cst (zi 0) 1 22 rfl rfl rfl ?_
        refine x_cv 228 123 25 [.ref a, zi ((f : Nat) : Int), zi 0] rfl rfl rfl (Nat.le_of_ble_eq_true rfl) rfl rfl (Nat.le_of_ble_eq_true rfl) trivial (Nat.le_of_ble_eq_true rfl) (c123 (M := M') (d + 1) h (k := f) (t := 0) (by omega) hf) rfl ?_
        rcases Bool.eq_false_or_eq_true (M'.2.1 a (1152 * ((f : Nat) : Int) + ((0 : Nat) : Int))) with hb0 | hb0
        · rw [hb0]
          refine z_ifeq 32 28 rfl rfl rfl (rg_lit 1 rfl) (fun c => absurd c (by decide)) (fun _ => ?_)
          refine x_cst (zi 2) 1 29 rfl rfl rfl ?_
          refine x_go 37 rfl rfl ?_
          refine x_st 6 2 0 39 [some (.ref 572), some (.ref a), some (zi ((k : Nat) : Int)), some (zi ((f : Nat) : Int)), some (zi x), some (zi ((t : Nat) : Int)), some (zi 2), o7] rfl rfl rfl (Nat.le_of_ble_eq_true rfl) rfl rfl ?_
          refine x_cst (zi 1) 1 40 rfl rfl rfl ?_
          refine x_st 7 2 0 42 [some (.ref 572), some (.ref a), some (zi ((k : Nat) : Int)), some (zi ((f : Nat) : Int)), some (zi x), some (zi ((t : Nat) : Int)), some (zi 2), some (zi 1)] rfl rfl rfl (Nat.le_of_ble_eq_true rfl) rfl rfl ?_
          refine c124_in (M := M') d h hk hf (t := t) (by omega) (Wn := Wn) (fun u hu => ⟨hw9 u hu, (hWn u hu).1⟩) (n0 := 2) (by decide) ?_ _ 0 rfl (Nat.zero_le _)
          have h6 := (tx_let_len t 6).mpr (by rw [tx_st_7]; omega)
          have hge : gW (mS (M'.2.1 a) f) Wn (tx_let t) = gW (mS (M.2.1 a) f) Wn (tx_let t) := by
            funext i
            unfold gW
            have l1 := num_lt (tx_L_take (tx_let_L t) i) (by rw [List.length_take]; omega)
            rw [show (mS (M'.2.1 a) f) (tx_num ((tx_let t).take i)) = (mS (M.2.1 a) f) (tx_num ((tx_let t).take i)) from Fm_ag hF fk _ (by omega)]
          rw [hge]
          have hnb : sm (gW (mS (M.2.1 a) f) Wn (tx_let t)) (tx_let t).length ≤ 12 := by
            have hg2 : ∀ i, i ≤ (tx_let t).length → 1 ≤ i → gW (mS (M.2.1 a) f) Wn (tx_let t) i ≤ 2 := by
              intro i h2 h1
              unfold gW
              split
              · exact (hWn _ (drop_lt h1 h2)).1
              · omega
            have : ∀ m, m ≤ (tx_let t).length → sm (gW (mS (M.2.1 a) f) Wn (tx_let t)) m ≤ 2 * m := by
              intro m
              induction m with
              | zero => intro _; exact Nat.le_refl _
              | succ m im => intro hm2; simp only [sm]; have a1 := im (by omega); have a2 := hg2 (m + 1) hm2 (by omega); omega
            have := this (tx_let t).length (Nat.le_refl _)
            omega
          have hA0 : (mS (M.2.1 a) f) 0 = true := hA.symm.trans hb0
          have p0 : (mS (M.2.1 a) f) 0 = false → ((0 < 2 + sm (gW (mS (M.2.1 a) f) Wn (tx_let t)) (tx_let t).length ↔ rq (mS (M.2.1 a) f) t) ∧ (1 < 2 + sm (gW (mS (M.2.1 a) f) Wn (tx_let t)) (tx_let t).length ↔ am2 (mS (M.2.1 a) f) t)) := fun e => by rw [hA0] at e; cases e
          generalize hNN : 2 + sm (gW (mS (M.2.1 a) f) Wn (tx_let t)) (tx_let t).length = nn at *
          have hst : (mS (M.2.1 a) f) 0 = false → _ := fun e => lst_step (hx.2 e)
          refine x_ld 0 1 2 99 rfl rfl rfl rfl rfl ?_
          refine g_572_21 59 102 rfl rfl rfl ?_
          refine x_ld 5 2 0 104 rfl rfl rfl rfl rfl ?_
          refine x_ld 6 2 0 106 rfl rfl rfl rfl rfl ?_
          refine x_cst (zi 2) 1 107 rfl rfl rfl ?_
          refine z_icle 114 110 rfl rfl rfl ⟨by omega, by omega⟩ (rg_lit 2 rfl) (fun c107 => ?_) (fun c107 => ?_)
          · refine x_ld 6 2 0 116 rfl rfl rfl rfl rfl ?_
            refine z_ist 117 rfl i_589 rfl ⟨by omega, by omega⟩ rfl ?_
            refine x_ld 6 2 0 119 rfl rfl rfl rfl rfl ?_
            refine z_ifle 129 122 rfl rfl rfl ⟨by omega, by omega⟩ (fun c119 => ?_) (fun c119 => ?_)
            · refine x_ld 6 2 0 131 rfl rfl rfl rfl rfl ?_
              refine x_cst (zi 1) 1 132 rfl rfl rfl ?_
              refine z_icle 145 135 rfl rfl rfl ⟨by omega, by omega⟩ (rg_lit 1 rfl) (fun c132 => ?_) (fun c132 => ?_)
              · refine x_ld 4 2 0 147 rfl rfl rfl rfl rfl ?_
                refine x_st 4 2 0 149 [some (.ref 572), some (.ref a), some (zi ((k : Nat) : Int)), some (zi ((f : Nat) : Int)), some (zi x), some (zi ((t : Nat) : Int)), some (zi ((nn : Nat) : Int)), some (zi (((tx_let t).length + 1 : Nat) : Int))] rfl rfl rfl (Nat.le_of_ble_eq_true rfl) rfl rfl ?_
                refine z_inc 5 152 [some (.ref 572), some (.ref a), some (zi ((k : Nat) : Int)), some (zi ((f : Nat) : Int)), some (zi x), some (zi (((t : Nat) : Int) + 1)), some (zi ((nn : Nat) : Int)), some (zi (((tx_let t).length + 1 : Nat) : Int))] rfl rfl (Nat.le_of_ble_eq_true rfl) rfl rfl ?_
                refine x_go 6 rfl rfl ?_
                refine ih (1093 - (t + 1)) (by omega) (t + 1) rfl (by omega) _ _ ?_ ?_ ⟨fun u => if u = t then nn else Wn u, ?_, ?_⟩ ⟨?_, ?_⟩ _ _
                · exact (show Fm a k M (sI M' 589 ((t : Nat) : Int) ((nn : Nat) : Int)) from ⟨fun b hb => (sI_ne hb).trans (hF.1 b hb), hF.2.1, hF.2.2.1, hF.2.2.2⟩)
                · intro e
                  exact bS_no (M := (sI M' 589 ((t : Nat) : Int) ((nn : Nat) : Int))) (hS e) (fun q => by have := (p0 e).1.mpr q; omega)
                · intro u hu
                  by_cases q : u = t
                  · subst q
                    simp only [if_true]
                    refine ⟨by omega, fun e => ⟨?_, ?_⟩⟩
                    · rw [← (p0 e).1]; omega
                    · rw [← (p0 e).2]; omega
                  · simp only [if_neg q]; exact hWn u (by omega)
                · intro u hu
                  show (sI M' 589 ((t : Nat) : Int) ((nn : Nat) : Int)).1 589 (u : Int) = _
                  by_cases q : u = t
                  · subst q; rw [rd_eq]; simp
                  · rw [rd_nk (by omega), hw9 u (by omega)]; simp [q]
                · intro e
                  refine ⟨fun q => by omega, fun _ => ?_⟩
                  have hx1 := (hx.1 e).1 (by omega)
                  omega
                · intro e
                  rw [hA0] at e; cases e
              · refine x_ld 4 2 0 137 rfl rfl rfl rfl rfl ?_
                refine z_ifge 145 140 rfl rfl rfl ⟨by omega, by omega⟩ (fun c137 => ?_) (fun c137 => ?_)
                · refine x_ld 4 2 0 147 rfl rfl rfl rfl rfl ?_
                  refine x_st 4 2 0 149 [some (.ref 572), some (.ref a), some (zi ((k : Nat) : Int)), some (zi ((f : Nat) : Int)), some (zi x), some (zi ((t : Nat) : Int)), some (zi ((nn : Nat) : Int)), some (zi (((tx_let t).length + 1 : Nat) : Int))] rfl rfl rfl (Nat.le_of_ble_eq_true rfl) rfl rfl ?_
                  refine z_inc 5 152 [some (.ref 572), some (.ref a), some (zi ((k : Nat) : Int)), some (zi ((f : Nat) : Int)), some (zi x), some (zi (((t : Nat) : Int) + 1)), some (zi ((nn : Nat) : Int)), some (zi (((tx_let t).length + 1 : Nat) : Int))] rfl rfl (Nat.le_of_ble_eq_true rfl) rfl rfl ?_
                  refine x_go 6 rfl rfl ?_
                  refine ih (1093 - (t + 1)) (by omega) (t + 1) rfl (by omega) _ _ ?_ ?_ ⟨fun u => if u = t then nn else Wn u, ?_, ?_⟩ ⟨?_, ?_⟩ _ _
                  · exact (show Fm a k M (sI M' 589 ((t : Nat) : Int) ((nn : Nat) : Int)) from ⟨fun b hb => (sI_ne hb).trans (hF.1 b hb), hF.2.1, hF.2.2.1, hF.2.2.2⟩)
                  · intro e
                    exact bS_no (M := (sI M' 589 ((t : Nat) : Int) ((nn : Nat) : Int))) (hS e) (fun q => by have := (p0 e).1.mpr q; omega)
                  · intro u hu
                    by_cases q : u = t
                    · subst q
                      simp only [if_true]
                      refine ⟨by omega, fun e => ⟨?_, ?_⟩⟩
                      · rw [← (p0 e).1]; omega
                      · rw [← (p0 e).2]; omega
                    · simp only [if_neg q]; exact hWn u (by omega)
                  · intro u hu
                    show (sI M' 589 ((t : Nat) : Int) ((nn : Nat) : Int)).1 589 (u : Int) = _
                    by_cases q : u = t
                    · subst q; rw [rd_eq]; simp
                    · rw [rd_nk (by omega), hw9 u (by omega)]; simp [q]
                  · intro e
                    refine ⟨fun q => by omega, fun _ => ?_⟩
                    have hx1 := (hx.1 e).1 (by omega)
                    omega
                  · intro e
                    rw [hA0] at e; cases e
                · refine x_ld 5 2 0 142 rfl rfl rfl rfl rfl ?_
                  refine x_go 147 rfl rfl ?_
                  refine x_st 4 2 0 149 [some (.ref 572), some (.ref a), some (zi ((k : Nat) : Int)), some (zi ((f : Nat) : Int)), some (zi ((t : Nat) : Int)), some (zi ((t : Nat) : Int)), some (zi ((nn : Nat) : Int)), some (zi (((tx_let t).length + 1 : Nat) : Int))] rfl rfl rfl (Nat.le_of_ble_eq_true rfl) rfl rfl ?_
                  refine z_inc 5 152 [some (.ref 572), some (.ref a), some (zi ((k : Nat) : Int)), some (zi ((f : Nat) : Int)), some (zi ((t : Nat) : Int)), some (zi (((t : Nat) : Int) + 1)), some (zi ((nn : Nat) : Int)), some (zi (((tx_let t).length + 1 : Nat) : Int))] rfl rfl (Nat.le_of_ble_eq_true rfl) rfl rfl ?_
                  refine x_go 6 rfl rfl ?_
                  refine ih (1093 - (t + 1)) (by omega) (t + 1) rfl (by omega) _ _ ?_ ?_ ⟨fun u => if u = t then nn else Wn u, ?_, ?_⟩ ⟨?_, ?_⟩ _ _
                  · exact (show Fm a k M (sI M' 589 ((t : Nat) : Int) ((nn : Nat) : Int)) from ⟨fun b hb => (sI_ne hb).trans (hF.1 b hb), hF.2.1, hF.2.2.1, hF.2.2.2⟩)
                  · intro e
                    exact bS_no (M := (sI M' 589 ((t : Nat) : Int) ((nn : Nat) : Int))) (hS e) (fun q => by have := (p0 e).1.mpr q; omega)
                  · intro u hu
                    by_cases q : u = t
                    · subst q
                      simp only [if_true]
                      refine ⟨by omega, fun e => ⟨?_, ?_⟩⟩
                      · rw [← (p0 e).1]; omega
                      · rw [← (p0 e).2]; omega
                    · simp only [if_neg q]; exact hWn u (by omega)
                  · intro u hu
                    show (sI M' 589 ((t : Nat) : Int) ((nn : Nat) : Int)).1 589 (u : Int) = _
                    by_cases q : u = t
                    · subst q; rw [rd_eq]; simp
                    · rw [rd_nk (by omega), hw9 u (by omega)]; simp [q]
                  · intro e
                    refine ⟨fun q => by omega, fun _ => ?_⟩
                    omega
                  · intro e
                    rw [hA0] at e; cases e
            · refine x_ld 1 1 2 123 rfl rfl rfl rfl rfl ?_
              refine x_ld 2 1 0 124 rfl rfl rfl rfl rfl ?_
              refine x_ld 5 2 0 126 rfl rfl rfl rfl rfl ?_
              refine x_cv 235 121 129 [.ref a, zi ((k : Nat) : Int), zi ((t : Nat) : Int)] rfl rfl rfl (Nat.le_of_ble_eq_true rfl) rfl rfl (Nat.le_of_ble_eq_true rfl) trivial (Nat.le_of_ble_eq_true rfl) (c121 (M := (sI M' 589 ((t : Nat) : Int) ((nn : Nat) : Int))) (d + 1) h (k := k) (t := t) (by omega) hk) rfl ?_
              refine x_ld 6 2 0 131 rfl rfl rfl rfl rfl ?_
              refine x_cst (zi 1) 1 132 rfl rfl rfl ?_
              refine z_icle 145 135 rfl rfl rfl ⟨by omega, by omega⟩ (rg_lit 1 rfl) (fun c132 => ?_) (fun c132 => ?_)
              · refine x_ld 4 2 0 147 rfl rfl rfl rfl rfl ?_
                refine x_st 4 2 0 149 [some (.ref 572), some (.ref a), some (zi ((k : Nat) : Int)), some (zi ((f : Nat) : Int)), some (zi x), some (zi ((t : Nat) : Int)), some (zi ((nn : Nat) : Int)), some (zi (((tx_let t).length + 1 : Nat) : Int))] rfl rfl rfl (Nat.le_of_ble_eq_true rfl) rfl rfl ?_
                refine z_inc 5 152 [some (.ref 572), some (.ref a), some (zi ((k : Nat) : Int)), some (zi ((f : Nat) : Int)), some (zi x), some (zi (((t : Nat) : Int) + 1)), some (zi ((nn : Nat) : Int)), some (zi (((tx_let t).length + 1 : Nat) : Int))] rfl rfl (Nat.le_of_ble_eq_true rfl) rfl rfl ?_
                refine x_go 6 rfl rfl ?_
                refine ih (1093 - (t + 1)) (by omega) (t + 1) rfl (by omega) _ _ ?_ ?_ ⟨fun u => if u = t then nn else Wn u, ?_, ?_⟩ ⟨?_, ?_⟩ _ _
                · exact Fm_trans (show Fm a k M (sI M' 589 ((t : Nat) : Int) ((nn : Nat) : Int)) from ⟨fun b hb => (sI_ne hb).trans (hF.1 b hb), hF.2.1, hF.2.2.1, hF.2.2.2⟩) (Fm_add _ (by omega))
                · intro e
                  exact bS_add (M := (sI M' 589 ((t : Nat) : Int) ((nn : Nat) : Int))) (hS e) ((p0 e).1.mp (by omega))
                · intro u hu
                  by_cases q : u = t
                  · subst q
                    simp only [if_true]
                    refine ⟨by omega, fun e => ⟨?_, ?_⟩⟩
                    · rw [← (p0 e).1]; omega
                    · rw [← (p0 e).2]; omega
                  · simp only [if_neg q]; exact hWn u (by omega)
                · intro u hu
                  show (sI M' 589 ((t : Nat) : Int) ((nn : Nat) : Int)).1 589 (u : Int) = _
                  by_cases q : u = t
                  · subst q; rw [rd_eq]; simp
                  · rw [rd_nk (by omega), hw9 u (by omega)]; simp [q]
                · intro e
                  refine ⟨fun q => by omega, fun _ => ?_⟩
                  have hx1 := (hx.1 e).1 (by omega)
                  omega
                · intro e
                  rw [hA0] at e; cases e
              · refine x_ld 4 2 0 137 rfl rfl rfl rfl rfl ?_
                refine z_ifge 145 140 rfl rfl rfl ⟨by omega, by omega⟩ (fun c137 => ?_) (fun c137 => ?_)
                · refine x_ld 4 2 0 147 rfl rfl rfl rfl rfl ?_
                  refine x_st 4 2 0 149 [some (.ref 572), some (.ref a), some (zi ((k : Nat) : Int)), some (zi ((f : Nat) : Int)), some (zi x), some (zi ((t : Nat) : Int)), some (zi ((nn : Nat) : Int)), some (zi (((tx_let t).length + 1 : Nat) : Int))] rfl rfl rfl (Nat.le_of_ble_eq_true rfl) rfl rfl ?_
                  refine z_inc 5 152 [some (.ref 572), some (.ref a), some (zi ((k : Nat) : Int)), some (zi ((f : Nat) : Int)), some (zi x), some (zi (((t : Nat) : Int) + 1)), some (zi ((nn : Nat) : Int)), some (zi (((tx_let t).length + 1 : Nat) : Int))] rfl rfl (Nat.le_of_ble_eq_true rfl) rfl rfl ?_
                  refine x_go 6 rfl rfl ?_
                  refine ih (1093 - (t + 1)) (by omega) (t + 1) rfl (by omega) _ _ ?_ ?_ ⟨fun u => if u = t then nn else Wn u, ?_, ?_⟩ ⟨?_, ?_⟩ _ _
                  · exact Fm_trans (show Fm a k M (sI M' 589 ((t : Nat) : Int) ((nn : Nat) : Int)) from ⟨fun b hb => (sI_ne hb).trans (hF.1 b hb), hF.2.1, hF.2.2.1, hF.2.2.2⟩) (Fm_add _ (by omega))
                  · intro e
                    exact bS_add (M := (sI M' 589 ((t : Nat) : Int) ((nn : Nat) : Int))) (hS e) ((p0 e).1.mp (by omega))
                  · intro u hu
                    by_cases q : u = t
                    · subst q
                      simp only [if_true]
                      refine ⟨by omega, fun e => ⟨?_, ?_⟩⟩
                      · rw [← (p0 e).1]; omega
                      · rw [← (p0 e).2]; omega
                    · simp only [if_neg q]; exact hWn u (by omega)
                  · intro u hu
                    show (sI M' 589 ((t : Nat) : Int) ((nn : Nat) : Int)).1 589 (u : Int) = _
                    by_cases q : u = t
                    · subst q; rw [rd_eq]; simp
                    · rw [rd_nk (by omega), hw9 u (by omega)]; simp [q]
                  · intro e
                    refine ⟨fun q => by omega, fun _ => ?_⟩
                    have hx1 := (hx.1 e).1 (by omega)
                    omega
                  · intro e
                    rw [hA0] at e; cases e
                · refine x_ld 5 2 0 142 rfl rfl rfl rfl rfl ?_
                  refine x_go 147 rfl rfl ?_
                  refine x_st 4 2 0 149 [some (.ref 572), some (.ref a), some (zi ((k : Nat) : Int)), some (zi ((f : Nat) : Int)), some (zi ((t : Nat) : Int)), some (zi ((t : Nat) : Int)), some (zi ((nn : Nat) : Int)), some (zi (((tx_let t).length + 1 : Nat) : Int))] rfl rfl rfl (Nat.le_of_ble_eq_true rfl) rfl rfl ?_
                  refine z_inc 5 152 [some (.ref 572), some (.ref a), some (zi ((k : Nat) : Int)), some (zi ((f : Nat) : Int)), some (zi ((t : Nat) : Int)), some (zi (((t : Nat) : Int) + 1)), some (zi ((nn : Nat) : Int)), some (zi (((tx_let t).length + 1 : Nat) : Int))] rfl rfl (Nat.le_of_ble_eq_true rfl) rfl rfl ?_
                  refine x_go 6 rfl rfl ?_
                  refine ih (1093 - (t + 1)) (by omega) (t + 1) rfl (by omega) _ _ ?_ ?_ ⟨fun u => if u = t then nn else Wn u, ?_, ?_⟩ ⟨?_, ?_⟩ _ _
                  · exact Fm_trans (show Fm a k M (sI M' 589 ((t : Nat) : Int) ((nn : Nat) : Int)) from ⟨fun b hb => (sI_ne hb).trans (hF.1 b hb), hF.2.1, hF.2.2.1, hF.2.2.2⟩) (Fm_add _ (by omega))
                  · intro e
                    exact bS_add (M := (sI M' 589 ((t : Nat) : Int) ((nn : Nat) : Int))) (hS e) ((p0 e).1.mp (by omega))
                  · intro u hu
                    by_cases q : u = t
                    · subst q
                      simp only [if_true]
                      refine ⟨by omega, fun e => ⟨?_, ?_⟩⟩
                      · rw [← (p0 e).1]; omega
                      · rw [← (p0 e).2]; omega
                    · simp only [if_neg q]; exact hWn u (by omega)
                  · intro u hu
                    show (sI M' 589 ((t : Nat) : Int) ((nn : Nat) : Int)).1 589 (u : Int) = _
                    by_cases q : u = t
                    · subst q; rw [rd_eq]; simp
                    · rw [rd_nk (by omega), hw9 u (by omega)]; simp [q]
                  · intro e
                    refine ⟨fun q => by omega, fun _ => ?_⟩
                    omega
                  · intro e
                    rw [hA0] at e; cases e
          · refine x_cst (zi 2) 1 111 rfl rfl rfl ?_
            refine x_go 116 rfl rfl ?_
            refine z_ist 117 rfl i_589 rfl ⟨by omega, by omega⟩ rfl ?_
            refine x_ld 6 2 0 119 rfl rfl rfl rfl rfl ?_
            refine z_ifle 129 122 rfl rfl rfl ⟨by omega, by omega⟩ (fun c119 => ?_) (fun c119 => ?_)
            · refine x_ld 6 2 0 131 rfl rfl rfl rfl rfl ?_
              refine x_cst (zi 1) 1 132 rfl rfl rfl ?_
              refine z_icle 145 135 rfl rfl rfl ⟨by omega, by omega⟩ (rg_lit 1 rfl) (fun c132 => ?_) (fun c132 => ?_)
              · refine x_ld 4 2 0 147 rfl rfl rfl rfl rfl ?_
                refine x_st 4 2 0 149 [some (.ref 572), some (.ref a), some (zi ((k : Nat) : Int)), some (zi ((f : Nat) : Int)), some (zi x), some (zi ((t : Nat) : Int)), some (zi ((nn : Nat) : Int)), some (zi (((tx_let t).length + 1 : Nat) : Int))] rfl rfl rfl (Nat.le_of_ble_eq_true rfl) rfl rfl ?_
                refine z_inc 5 152 [some (.ref 572), some (.ref a), some (zi ((k : Nat) : Int)), some (zi ((f : Nat) : Int)), some (zi x), some (zi (((t : Nat) : Int) + 1)), some (zi ((nn : Nat) : Int)), some (zi (((tx_let t).length + 1 : Nat) : Int))] rfl rfl (Nat.le_of_ble_eq_true rfl) rfl rfl ?_
                refine x_go 6 rfl rfl ?_
                refine ih (1093 - (t + 1)) (by omega) (t + 1) rfl (by omega) _ _ ?_ ?_ ⟨fun u => if u = t then 2 else Wn u, ?_, ?_⟩ ⟨?_, ?_⟩ _ _
                · exact (show Fm a k M (sI M' 589 ((t : Nat) : Int) 2) from ⟨fun b hb => (sI_ne hb).trans (hF.1 b hb), hF.2.1, hF.2.2.1, hF.2.2.2⟩)
                · intro e
                  exact bS_no (M := (sI M' 589 ((t : Nat) : Int) 2)) (hS e) (fun q => by have := (p0 e).1.mpr q; omega)
                · intro u hu
                  by_cases q : u = t
                  · subst q
                    simp only [if_true]
                    refine ⟨by omega, fun e => ⟨?_, ?_⟩⟩
                    · rw [← (p0 e).1]; omega
                    · rw [← (p0 e).2]; omega
                  · simp only [if_neg q]; exact hWn u (by omega)
                · intro u hu
                  show (sI M' 589 ((t : Nat) : Int) 2).1 589 (u : Int) = _
                  by_cases q : u = t
                  · subst q; rw [rd_eq]; simp
                  · rw [rd_nk (by omega), hw9 u (by omega)]; simp [q]
                · intro e
                  refine ⟨fun q => by omega, fun _ => ?_⟩
                  have hx1 := (hx.1 e).1 (by omega)
                  omega
                · intro e
                  rw [hA0] at e; cases e
              · refine x_ld 4 2 0 137 rfl rfl rfl rfl rfl ?_
                refine z_ifge 145 140 rfl rfl rfl ⟨by omega, by omega⟩ (fun c137 => ?_) (fun c137 => ?_)
                · refine x_ld 4 2 0 147 rfl rfl rfl rfl rfl ?_
                  refine x_st 4 2 0 149 [some (.ref 572), some (.ref a), some (zi ((k : Nat) : Int)), some (zi ((f : Nat) : Int)), some (zi x), some (zi ((t : Nat) : Int)), some (zi ((nn : Nat) : Int)), some (zi (((tx_let t).length + 1 : Nat) : Int))] rfl rfl rfl (Nat.le_of_ble_eq_true rfl) rfl rfl ?_
                  refine z_inc 5 152 [some (.ref 572), some (.ref a), some (zi ((k : Nat) : Int)), some (zi ((f : Nat) : Int)), some (zi x), some (zi (((t : Nat) : Int) + 1)), some (zi ((nn : Nat) : Int)), some (zi (((tx_let t).length + 1 : Nat) : Int))] rfl rfl (Nat.le_of_ble_eq_true rfl) rfl rfl ?_
                  refine x_go 6 rfl rfl ?_
                  refine ih (1093 - (t + 1)) (by omega) (t + 1) rfl (by omega) _ _ ?_ ?_ ⟨fun u => if u = t then 2 else Wn u, ?_, ?_⟩ ⟨?_, ?_⟩ _ _
                  · exact (show Fm a k M (sI M' 589 ((t : Nat) : Int) 2) from ⟨fun b hb => (sI_ne hb).trans (hF.1 b hb), hF.2.1, hF.2.2.1, hF.2.2.2⟩)
                  · intro e
                    exact bS_no (M := (sI M' 589 ((t : Nat) : Int) 2)) (hS e) (fun q => by have := (p0 e).1.mpr q; omega)
                  · intro u hu
                    by_cases q : u = t
                    · subst q
                      simp only [if_true]
                      refine ⟨by omega, fun e => ⟨?_, ?_⟩⟩
                      · rw [← (p0 e).1]; omega
                      · rw [← (p0 e).2]; omega
                    · simp only [if_neg q]; exact hWn u (by omega)
                  · intro u hu
                    show (sI M' 589 ((t : Nat) : Int) 2).1 589 (u : Int) = _
                    by_cases q : u = t
                    · subst q; rw [rd_eq]; simp
                    · rw [rd_nk (by omega), hw9 u (by omega)]; simp [q]
                  · intro e
                    refine ⟨fun q => by omega, fun _ => ?_⟩
                    have hx1 := (hx.1 e).1 (by omega)
                    omega
                  · intro e
                    rw [hA0] at e; cases e
                · refine x_ld 5 2 0 142 rfl rfl rfl rfl rfl ?_
                  refine x_go 147 rfl rfl ?_
                  refine x_st 4 2 0 149 [some (.ref 572), some (.ref a), some (zi ((k : Nat) : Int)), some (zi ((f : Nat) : Int)), some (zi ((t : Nat) : Int)), some (zi ((t : Nat) : Int)), some (zi ((nn : Nat) : Int)), some (zi (((tx_let t).length + 1 : Nat) : Int))] rfl rfl rfl (Nat.le_of_ble_eq_true rfl) rfl rfl ?_
                  refine z_inc 5 152 [some (.ref 572), some (.ref a), some (zi ((k : Nat) : Int)), some (zi ((f : Nat) : Int)), some (zi ((t : Nat) : Int)), some (zi (((t : Nat) : Int) + 1)), some (zi ((nn : Nat) : Int)), some (zi (((tx_let t).length + 1 : Nat) : Int))] rfl rfl (Nat.le_of_ble_eq_true rfl) rfl rfl ?_
                  refine x_go 6 rfl rfl ?_
                  refine ih (1093 - (t + 1)) (by omega) (t + 1) rfl (by omega) _ _ ?_ ?_ ⟨fun u => if u = t then 2 else Wn u, ?_, ?_⟩ ⟨?_, ?_⟩ _ _
                  · exact (show Fm a k M (sI M' 589 ((t : Nat) : Int) 2) from ⟨fun b hb => (sI_ne hb).trans (hF.1 b hb), hF.2.1, hF.2.2.1, hF.2.2.2⟩)
                  · intro e
                    exact bS_no (M := (sI M' 589 ((t : Nat) : Int) 2)) (hS e) (fun q => by have := (p0 e).1.mpr q; omega)
                  · intro u hu
                    by_cases q : u = t
                    · subst q
                      simp only [if_true]
                      refine ⟨by omega, fun e => ⟨?_, ?_⟩⟩
                      · rw [← (p0 e).1]; omega
                      · rw [← (p0 e).2]; omega
                    · simp only [if_neg q]; exact hWn u (by omega)
                  · intro u hu
                    show (sI M' 589 ((t : Nat) : Int) 2).1 589 (u : Int) = _
                    by_cases q : u = t
                    · subst q; rw [rd_eq]; simp
                    · rw [rd_nk (by omega), hw9 u (by omega)]; simp [q]
                  · intro e
                    refine ⟨fun q => by omega, fun _ => ?_⟩
                    omega
                  · intro e
                    rw [hA0] at e; cases e
            · refine x_ld 1 1 2 123 rfl rfl rfl rfl rfl ?_
              refine x_ld 2 1 0 124 rfl rfl rfl rfl rfl ?_
              refine x_ld 5 2 0 126 rfl rfl rfl rfl rfl ?_
              refine x_cv 235 121 129 [.ref a, zi ((k : Nat) : Int), zi ((t : Nat) : Int)] rfl rfl rfl (Nat.le_of_ble_eq_true rfl) rfl rfl (Nat.le_of_ble_eq_true rfl) trivial (Nat.le_of_ble_eq_true rfl) (c121 (M := (sI M' 589 ((t : Nat) : Int) 2)) (d + 1) h (k := k) (t := t) (by omega) hk) rfl ?_
              refine x_ld 6 2 0 131 rfl rfl rfl rfl rfl ?_
              refine x_cst (zi 1) 1 132 rfl rfl rfl ?_
              refine z_icle 145 135 rfl rfl rfl ⟨by omega, by omega⟩ (rg_lit 1 rfl) (fun c132 => ?_) (fun c132 => ?_)
              · refine x_ld 4 2 0 147 rfl rfl rfl rfl rfl ?_
                refine x_st 4 2 0 149 [some (.ref 572), some (.ref a), some (zi ((k : Nat) : Int)), some (zi ((f : Nat) : Int)), some (zi x), some (zi ((t : Nat) : Int)), some (zi ((nn : Nat) : Int)), some (zi (((tx_let t).length + 1 : Nat) : Int))] rfl rfl rfl (Nat.le_of_ble_eq_true rfl) rfl rfl ?_
                refine z_inc 5 152 [some (.ref 572), some (.ref a), some (zi ((k : Nat) : Int)), some (zi ((f : Nat) : Int)), some (zi x), some (zi (((t : Nat) : Int) + 1)), some (zi ((nn : Nat) : Int)), some (zi (((tx_let t).length + 1 : Nat) : Int))] rfl rfl (Nat.le_of_ble_eq_true rfl) rfl rfl ?_
                refine x_go 6 rfl rfl ?_
                refine ih (1093 - (t + 1)) (by omega) (t + 1) rfl (by omega) _ _ ?_ ?_ ⟨fun u => if u = t then 2 else Wn u, ?_, ?_⟩ ⟨?_, ?_⟩ _ _
                · exact Fm_trans (show Fm a k M (sI M' 589 ((t : Nat) : Int) 2) from ⟨fun b hb => (sI_ne hb).trans (hF.1 b hb), hF.2.1, hF.2.2.1, hF.2.2.2⟩) (Fm_add _ (by omega))
                · intro e
                  exact bS_add (M := (sI M' 589 ((t : Nat) : Int) 2)) (hS e) ((p0 e).1.mp (by omega))
                · intro u hu
                  by_cases q : u = t
                  · subst q
                    simp only [if_true]
                    refine ⟨by omega, fun e => ⟨?_, ?_⟩⟩
                    · rw [← (p0 e).1]; omega
                    · rw [← (p0 e).2]; omega
                  · simp only [if_neg q]; exact hWn u (by omega)
                · intro u hu
                  show (sI M' 589 ((t : Nat) : Int) 2).1 589 (u : Int) = _
                  by_cases q : u = t
                  · subst q; rw [rd_eq]; simp
                  · rw [rd_nk (by omega), hw9 u (by omega)]; simp [q]
                · intro e
                  refine ⟨fun q => by omega, fun _ => ?_⟩
                  have hx1 := (hx.1 e).1 (by omega)
                  omega
                · intro e
                  rw [hA0] at e; cases e
              · refine x_ld 4 2 0 137 rfl rfl rfl rfl rfl ?_
                refine z_ifge 145 140 rfl rfl rfl ⟨by omega, by omega⟩ (fun c137 => ?_) (fun c137 => ?_)
                · refine x_ld 4 2 0 147 rfl rfl rfl rfl rfl ?_
                  refine x_st 4 2 0 149 [some (.ref 572), some (.ref a), some (zi ((k : Nat) : Int)), some (zi ((f : Nat) : Int)), some (zi x), some (zi ((t : Nat) : Int)), some (zi ((nn : Nat) : Int)), some (zi (((tx_let t).length + 1 : Nat) : Int))] rfl rfl rfl (Nat.le_of_ble_eq_true rfl) rfl rfl ?_
                  refine z_inc 5 152 [some (.ref 572), some (.ref a), some (zi ((k : Nat) : Int)), some (zi ((f : Nat) : Int)), some (zi x), some (zi (((t : Nat) : Int) + 1)), some (zi ((nn : Nat) : Int)), some (zi (((tx_let t).length + 1 : Nat) : Int))] rfl rfl (Nat.le_of_ble_eq_true rfl) rfl rfl ?_
                  refine x_go 6 rfl rfl ?_
                  refine ih (1093 - (t + 1)) (by omega) (t + 1) rfl (by omega) _ _ ?_ ?_ ⟨fun u => if u = t then 2 else Wn u, ?_, ?_⟩ ⟨?_, ?_⟩ _ _
                  · exact Fm_trans (show Fm a k M (sI M' 589 ((t : Nat) : Int) 2) from ⟨fun b hb => (sI_ne hb).trans (hF.1 b hb), hF.2.1, hF.2.2.1, hF.2.2.2⟩) (Fm_add _ (by omega))
                  · intro e
                    exact bS_add (M := (sI M' 589 ((t : Nat) : Int) 2)) (hS e) ((p0 e).1.mp (by omega))
                  · intro u hu
                    by_cases q : u = t
                    · subst q
                      simp only [if_true]
                      refine ⟨by omega, fun e => ⟨?_, ?_⟩⟩
                      · rw [← (p0 e).1]; omega
                      · rw [← (p0 e).2]; omega
                    · simp only [if_neg q]; exact hWn u (by omega)
                  · intro u hu
                    show (sI M' 589 ((t : Nat) : Int) 2).1 589 (u : Int) = _
                    by_cases q : u = t
                    · subst q; rw [rd_eq]; simp
                    · rw [rd_nk (by omega), hw9 u (by omega)]; simp [q]
                  · intro e
                    refine ⟨fun q => by omega, fun _ => ?_⟩
                    have hx1 := (hx.1 e).1 (by omega)
                    omega
                  · intro e
                    rw [hA0] at e; cases e
                · refine x_ld 5 2 0 142 rfl rfl rfl rfl rfl ?_
                  refine x_go 147 rfl rfl ?_
                  refine x_st 4 2 0 149 [some (.ref 572), some (.ref a), some (zi ((k : Nat) : Int)), some (zi ((f : Nat) : Int)), some (zi ((t : Nat) : Int)), some (zi ((t : Nat) : Int)), some (zi ((nn : Nat) : Int)), some (zi (((tx_let t).length + 1 : Nat) : Int))] rfl rfl rfl (Nat.le_of_ble_eq_true rfl) rfl rfl ?_
                  refine z_inc 5 152 [some (.ref 572), some (.ref a), some (zi ((k : Nat) : Int)), some (zi ((f : Nat) : Int)), some (zi ((t : Nat) : Int)), some (zi (((t : Nat) : Int) + 1)), some (zi ((nn : Nat) : Int)), some (zi (((tx_let t).length + 1 : Nat) : Int))] rfl rfl (Nat.le_of_ble_eq_true rfl) rfl rfl ?_
                  refine x_go 6 rfl rfl ?_
                  refine ih (1093 - (t + 1)) (by omega) (t + 1) rfl (by omega) _ _ ?_ ?_ ⟨fun u => if u = t then 2 else Wn u, ?_, ?_⟩ ⟨?_, ?_⟩ _ _
                  · exact Fm_trans (show Fm a k M (sI M' 589 ((t : Nat) : Int) 2) from ⟨fun b hb => (sI_ne hb).trans (hF.1 b hb), hF.2.1, hF.2.2.1, hF.2.2.2⟩) (Fm_add _ (by omega))
                  · intro e
                    exact bS_add (M := (sI M' 589 ((t : Nat) : Int) 2)) (hS e) ((p0 e).1.mp (by omega))
                  · intro u hu
                    by_cases q : u = t
                    · subst q
                      simp only [if_true]
                      refine ⟨by omega, fun e => ⟨?_, ?_⟩⟩
                      · rw [← (p0 e).1]; omega
                      · rw [← (p0 e).2]; omega
                    · simp only [if_neg q]; exact hWn u (by omega)
                  · intro u hu
                    show (sI M' 589 ((t : Nat) : Int) 2).1 589 (u : Int) = _
                    by_cases q : u = t
                    · subst q; rw [rd_eq]; simp
                    · rw [rd_nk (by omega), hw9 u (by omega)]; simp [q]
                  · intro e
                    refine ⟨fun q => by omega, fun _ => ?_⟩
                    omega
                  · intro e
                    rw [hA0] at e; cases e
        · rw [hb0]
          refine z_ifeq 32 28 rfl rfl rfl (rg_lit 0 rfl) (fun _ => ?_) (fun c => absurd c (by decide))
          refine x_cst (zi 1) 1 33 rfl rfl rfl ?_
          refine x_go 37 rfl rfl ?_
          refine x_st 6 2 0 39 [some (.ref 572), some (.ref a), some (zi ((k : Nat) : Int)), some (zi ((f : Nat) : Int)), some (zi x), some (zi ((t : Nat) : Int)), some (zi 1), o7] rfl rfl rfl (Nat.le_of_ble_eq_true rfl) rfl rfl ?_
          refine x_cst (zi 1) 1 40 rfl rfl rfl ?_
          refine x_st 7 2 0 42 [some (.ref 572), some (.ref a), some (zi ((k : Nat) : Int)), some (zi ((f : Nat) : Int)), some (zi x), some (zi ((t : Nat) : Int)), some (zi 1), some (zi 1)] rfl rfl rfl (Nat.le_of_ble_eq_true rfl) rfl rfl ?_
          refine c124_in (M := M') d h hk hf (t := t) (by omega) (Wn := Wn) (fun u hu => ⟨hw9 u hu, (hWn u hu).1⟩) (n0 := 1) (by decide) ?_ _ 0 rfl (Nat.zero_le _)
          have h6 := (tx_let_len t 6).mpr (by rw [tx_st_7]; omega)
          have hge : gW (mS (M'.2.1 a) f) Wn (tx_let t) = gW (mS (M.2.1 a) f) Wn (tx_let t) := by
            funext i
            unfold gW
            have l1 := num_lt (tx_L_take (tx_let_L t) i) (by rw [List.length_take]; omega)
            rw [show (mS (M'.2.1 a) f) (tx_num ((tx_let t).take i)) = (mS (M.2.1 a) f) (tx_num ((tx_let t).take i)) from Fm_ag hF fk _ (by omega)]
          rw [hge]
          have hnb : sm (gW (mS (M.2.1 a) f) Wn (tx_let t)) (tx_let t).length ≤ 12 := by
            have hg2 : ∀ i, i ≤ (tx_let t).length → 1 ≤ i → gW (mS (M.2.1 a) f) Wn (tx_let t) i ≤ 2 := by
              intro i h2 h1
              unfold gW
              split
              · exact (hWn _ (drop_lt h1 h2)).1
              · omega
            have : ∀ m, m ≤ (tx_let t).length → sm (gW (mS (M.2.1 a) f) Wn (tx_let t)) m ≤ 2 * m := by
              intro m
              induction m with
              | zero => intro _; exact Nat.le_refl _
              | succ m im => intro hm2; simp only [sm]; have a1 := im (by omega); have a2 := hg2 (m + 1) hm2 (by omega); omega
            have := this (tx_let t).length (Nat.le_refl _)
            omega
          have p0 : (mS (M.2.1 a) f) 0 = false → ((0 < 1 + sm (gW (mS (M.2.1 a) f) Wn (tx_let t)) (tx_let t).length ↔ rq (mS (M.2.1 a) f) t) ∧ (1 < 1 + sm (gW (mS (M.2.1 a) f) Wn (tx_let t)) (tx_let t).length ↔ am2 (mS (M.2.1 a) f) t)) := fun e => by have q := ways_t (t := t) (by omega) e hWn; rw [if_pos (show t = 0 by omega)] at q; exact q
          have hA0 : (mS (M.2.1 a) f) 0 = false := hA.symm.trans hb0
          generalize hNN : 1 + sm (gW (mS (M.2.1 a) f) Wn (tx_let t)) (tx_let t).length = nn at *
          have hst : (mS (M.2.1 a) f) 0 = false → _ := fun e => lst_step (hx.2 e)
          refine x_ld 0 1 2 99 rfl rfl rfl rfl rfl ?_
          refine g_572_21 59 102 rfl rfl rfl ?_
          refine x_ld 5 2 0 104 rfl rfl rfl rfl rfl ?_
          refine x_ld 6 2 0 106 rfl rfl rfl rfl rfl ?_
          refine x_cst (zi 2) 1 107 rfl rfl rfl ?_
          refine z_icle 114 110 rfl rfl rfl ⟨by omega, by omega⟩ (rg_lit 2 rfl) (fun c107 => ?_) (fun c107 => ?_)
          · refine x_ld 6 2 0 116 rfl rfl rfl rfl rfl ?_
            refine z_ist 117 rfl i_589 rfl ⟨by omega, by omega⟩ rfl ?_
            refine x_ld 6 2 0 119 rfl rfl rfl rfl rfl ?_
            refine z_ifle 129 122 rfl rfl rfl ⟨by omega, by omega⟩ (fun c119 => ?_) (fun c119 => ?_)
            · refine x_ld 6 2 0 131 rfl rfl rfl rfl rfl ?_
              refine x_cst (zi 1) 1 132 rfl rfl rfl ?_
              refine z_icle 145 135 rfl rfl rfl ⟨by omega, by omega⟩ (rg_lit 1 rfl) (fun c132 => ?_) (fun c132 => ?_)
              · refine x_ld 4 2 0 147 rfl rfl rfl rfl rfl ?_
                refine x_st 4 2 0 149 [some (.ref 572), some (.ref a), some (zi ((k : Nat) : Int)), some (zi ((f : Nat) : Int)), some (zi x), some (zi ((t : Nat) : Int)), some (zi ((nn : Nat) : Int)), some (zi (((tx_let t).length + 1 : Nat) : Int))] rfl rfl rfl (Nat.le_of_ble_eq_true rfl) rfl rfl ?_
                refine z_inc 5 152 [some (.ref 572), some (.ref a), some (zi ((k : Nat) : Int)), some (zi ((f : Nat) : Int)), some (zi x), some (zi (((t : Nat) : Int) + 1)), some (zi ((nn : Nat) : Int)), some (zi (((tx_let t).length + 1 : Nat) : Int))] rfl rfl (Nat.le_of_ble_eq_true rfl) rfl rfl ?_
                refine x_go 6 rfl rfl ?_
                refine ih (1093 - (t + 1)) (by omega) (t + 1) rfl (by omega) _ _ ?_ ?_ ⟨fun u => if u = t then nn else Wn u, ?_, ?_⟩ ⟨?_, ?_⟩ _ _
                · exact (show Fm a k M (sI M' 589 ((t : Nat) : Int) ((nn : Nat) : Int)) from ⟨fun b hb => (sI_ne hb).trans (hF.1 b hb), hF.2.1, hF.2.2.1, hF.2.2.2⟩)
                · intro e
                  exact bS_no (M := (sI M' 589 ((t : Nat) : Int) ((nn : Nat) : Int))) (hS e) (fun q => by have := (p0 e).1.mpr q; omega)
                · intro u hu
                  by_cases q : u = t
                  · subst q
                    simp only [if_true]
                    refine ⟨by omega, fun e => ⟨?_, ?_⟩⟩
                    · rw [← (p0 e).1]; omega
                    · rw [← (p0 e).2]; omega
                  · simp only [if_neg q]; exact hWn u (by omega)
                · intro u hu
                  show (sI M' 589 ((t : Nat) : Int) ((nn : Nat) : Int)).1 589 (u : Int) = _
                  by_cases q : u = t
                  · subst q; rw [rd_eq]; simp
                  · rw [rd_nk (by omega), hw9 u (by omega)]; simp [q]
                · intro e
                  rw [hA0] at e; cases e
                · intro e
                  have hst := hst e
                  by_cases q : x < 0
                  · rw [if_pos q, if_neg (fun e2 => by have := (p0 e).2.mpr (dcd_iff.mp e2); omega)] at hst; exact hst
                  · rw [if_neg q] at hst; exact hst
              · refine x_ld 4 2 0 137 rfl rfl rfl rfl rfl ?_
                refine z_ifge 145 140 rfl rfl rfl ⟨by omega, by omega⟩ (fun c137 => ?_) (fun c137 => ?_)
                · refine x_ld 4 2 0 147 rfl rfl rfl rfl rfl ?_
                  refine x_st 4 2 0 149 [some (.ref 572), some (.ref a), some (zi ((k : Nat) : Int)), some (zi ((f : Nat) : Int)), some (zi x), some (zi ((t : Nat) : Int)), some (zi ((nn : Nat) : Int)), some (zi (((tx_let t).length + 1 : Nat) : Int))] rfl rfl rfl (Nat.le_of_ble_eq_true rfl) rfl rfl ?_
                  refine z_inc 5 152 [some (.ref 572), some (.ref a), some (zi ((k : Nat) : Int)), some (zi ((f : Nat) : Int)), some (zi x), some (zi (((t : Nat) : Int) + 1)), some (zi ((nn : Nat) : Int)), some (zi (((tx_let t).length + 1 : Nat) : Int))] rfl rfl (Nat.le_of_ble_eq_true rfl) rfl rfl ?_
                  refine x_go 6 rfl rfl ?_
                  refine ih (1093 - (t + 1)) (by omega) (t + 1) rfl (by omega) _ _ ?_ ?_ ⟨fun u => if u = t then nn else Wn u, ?_, ?_⟩ ⟨?_, ?_⟩ _ _
                  · exact (show Fm a k M (sI M' 589 ((t : Nat) : Int) ((nn : Nat) : Int)) from ⟨fun b hb => (sI_ne hb).trans (hF.1 b hb), hF.2.1, hF.2.2.1, hF.2.2.2⟩)
                  · intro e
                    exact bS_no (M := (sI M' 589 ((t : Nat) : Int) ((nn : Nat) : Int))) (hS e) (fun q => by have := (p0 e).1.mpr q; omega)
                  · intro u hu
                    by_cases q : u = t
                    · subst q
                      simp only [if_true]
                      refine ⟨by omega, fun e => ⟨?_, ?_⟩⟩
                      · rw [← (p0 e).1]; omega
                      · rw [← (p0 e).2]; omega
                    · simp only [if_neg q]; exact hWn u (by omega)
                  · intro u hu
                    show (sI M' 589 ((t : Nat) : Int) ((nn : Nat) : Int)).1 589 (u : Int) = _
                    by_cases q : u = t
                    · subst q; rw [rd_eq]; simp
                    · rw [rd_nk (by omega), hw9 u (by omega)]; simp [q]
                  · intro e
                    rw [hA0] at e; cases e
                  · intro e
                    have hst := hst e
                    rw [if_neg (by omega)] at hst; exact hst
                · refine x_ld 5 2 0 142 rfl rfl rfl rfl rfl ?_
                  refine x_go 147 rfl rfl ?_
                  refine x_st 4 2 0 149 [some (.ref 572), some (.ref a), some (zi ((k : Nat) : Int)), some (zi ((f : Nat) : Int)), some (zi ((t : Nat) : Int)), some (zi ((t : Nat) : Int)), some (zi ((nn : Nat) : Int)), some (zi (((tx_let t).length + 1 : Nat) : Int))] rfl rfl rfl (Nat.le_of_ble_eq_true rfl) rfl rfl ?_
                  refine z_inc 5 152 [some (.ref 572), some (.ref a), some (zi ((k : Nat) : Int)), some (zi ((f : Nat) : Int)), some (zi ((t : Nat) : Int)), some (zi (((t : Nat) : Int) + 1)), some (zi ((nn : Nat) : Int)), some (zi (((tx_let t).length + 1 : Nat) : Int))] rfl rfl (Nat.le_of_ble_eq_true rfl) rfl rfl ?_
                  refine x_go 6 rfl rfl ?_
                  refine ih (1093 - (t + 1)) (by omega) (t + 1) rfl (by omega) _ _ ?_ ?_ ⟨fun u => if u = t then nn else Wn u, ?_, ?_⟩ ⟨?_, ?_⟩ _ _
                  · exact (show Fm a k M (sI M' 589 ((t : Nat) : Int) ((nn : Nat) : Int)) from ⟨fun b hb => (sI_ne hb).trans (hF.1 b hb), hF.2.1, hF.2.2.1, hF.2.2.2⟩)
                  · intro e
                    exact bS_no (M := (sI M' 589 ((t : Nat) : Int) ((nn : Nat) : Int))) (hS e) (fun q => by have := (p0 e).1.mpr q; omega)
                  · intro u hu
                    by_cases q : u = t
                    · subst q
                      simp only [if_true]
                      refine ⟨by omega, fun e => ⟨?_, ?_⟩⟩
                      · rw [← (p0 e).1]; omega
                      · rw [← (p0 e).2]; omega
                    · simp only [if_neg q]; exact hWn u (by omega)
                  · intro u hu
                    show (sI M' 589 ((t : Nat) : Int) ((nn : Nat) : Int)).1 589 (u : Int) = _
                    by_cases q : u = t
                    · subst q; rw [rd_eq]; simp
                    · rw [rd_nk (by omega), hw9 u (by omega)]; simp [q]
                  · intro e
                    rw [hA0] at e; cases e
                  · intro e
                    have hst := hst e
                    rw [if_pos (by omega), if_pos (dcd_iff.mpr ((p0 e).2.mp (by omega)))] at hst; exact hst
            · refine x_ld 1 1 2 123 rfl rfl rfl rfl rfl ?_
              refine x_ld 2 1 0 124 rfl rfl rfl rfl rfl ?_
              refine x_ld 5 2 0 126 rfl rfl rfl rfl rfl ?_
              refine x_cv 235 121 129 [.ref a, zi ((k : Nat) : Int), zi ((t : Nat) : Int)] rfl rfl rfl (Nat.le_of_ble_eq_true rfl) rfl rfl (Nat.le_of_ble_eq_true rfl) trivial (Nat.le_of_ble_eq_true rfl) (c121 (M := (sI M' 589 ((t : Nat) : Int) ((nn : Nat) : Int))) (d + 1) h (k := k) (t := t) (by omega) hk) rfl ?_
              refine x_ld 6 2 0 131 rfl rfl rfl rfl rfl ?_
              refine x_cst (zi 1) 1 132 rfl rfl rfl ?_
              refine z_icle 145 135 rfl rfl rfl ⟨by omega, by omega⟩ (rg_lit 1 rfl) (fun c132 => ?_) (fun c132 => ?_)
              · refine x_ld 4 2 0 147 rfl rfl rfl rfl rfl ?_
                refine x_st 4 2 0 149 [some (.ref 572), some (.ref a), some (zi ((k : Nat) : Int)), some (zi ((f : Nat) : Int)), some (zi x), some (zi ((t : Nat) : Int)), some (zi ((nn : Nat) : Int)), some (zi (((tx_let t).length + 1 : Nat) : Int))] rfl rfl rfl (Nat.le_of_ble_eq_true rfl) rfl rfl ?_
                refine z_inc 5 152 [some (.ref 572), some (.ref a), some (zi ((k : Nat) : Int)), some (zi ((f : Nat) : Int)), some (zi x), some (zi (((t : Nat) : Int) + 1)), some (zi ((nn : Nat) : Int)), some (zi (((tx_let t).length + 1 : Nat) : Int))] rfl rfl (Nat.le_of_ble_eq_true rfl) rfl rfl ?_
                refine x_go 6 rfl rfl ?_
                refine ih (1093 - (t + 1)) (by omega) (t + 1) rfl (by omega) _ _ ?_ ?_ ⟨fun u => if u = t then nn else Wn u, ?_, ?_⟩ ⟨?_, ?_⟩ _ _
                · exact Fm_trans (show Fm a k M (sI M' 589 ((t : Nat) : Int) ((nn : Nat) : Int)) from ⟨fun b hb => (sI_ne hb).trans (hF.1 b hb), hF.2.1, hF.2.2.1, hF.2.2.2⟩) (Fm_add _ (by omega))
                · intro e
                  exact bS_add (M := (sI M' 589 ((t : Nat) : Int) ((nn : Nat) : Int))) (hS e) ((p0 e).1.mp (by omega))
                · intro u hu
                  by_cases q : u = t
                  · subst q
                    simp only [if_true]
                    refine ⟨by omega, fun e => ⟨?_, ?_⟩⟩
                    · rw [← (p0 e).1]; omega
                    · rw [← (p0 e).2]; omega
                  · simp only [if_neg q]; exact hWn u (by omega)
                · intro u hu
                  show (sI M' 589 ((t : Nat) : Int) ((nn : Nat) : Int)).1 589 (u : Int) = _
                  by_cases q : u = t
                  · subst q; rw [rd_eq]; simp
                  · rw [rd_nk (by omega), hw9 u (by omega)]; simp [q]
                · intro e
                  rw [hA0] at e; cases e
                · intro e
                  have hst := hst e
                  by_cases q : x < 0
                  · rw [if_pos q, if_neg (fun e2 => by have := (p0 e).2.mpr (dcd_iff.mp e2); omega)] at hst; exact hst
                  · rw [if_neg q] at hst; exact hst
              · refine x_ld 4 2 0 137 rfl rfl rfl rfl rfl ?_
                refine z_ifge 145 140 rfl rfl rfl ⟨by omega, by omega⟩ (fun c137 => ?_) (fun c137 => ?_)
                · refine x_ld 4 2 0 147 rfl rfl rfl rfl rfl ?_
                  refine x_st 4 2 0 149 [some (.ref 572), some (.ref a), some (zi ((k : Nat) : Int)), some (zi ((f : Nat) : Int)), some (zi x), some (zi ((t : Nat) : Int)), some (zi ((nn : Nat) : Int)), some (zi (((tx_let t).length + 1 : Nat) : Int))] rfl rfl rfl (Nat.le_of_ble_eq_true rfl) rfl rfl ?_
                  refine z_inc 5 152 [some (.ref 572), some (.ref a), some (zi ((k : Nat) : Int)), some (zi ((f : Nat) : Int)), some (zi x), some (zi (((t : Nat) : Int) + 1)), some (zi ((nn : Nat) : Int)), some (zi (((tx_let t).length + 1 : Nat) : Int))] rfl rfl (Nat.le_of_ble_eq_true rfl) rfl rfl ?_
                  refine x_go 6 rfl rfl ?_
                  refine ih (1093 - (t + 1)) (by omega) (t + 1) rfl (by omega) _ _ ?_ ?_ ⟨fun u => if u = t then nn else Wn u, ?_, ?_⟩ ⟨?_, ?_⟩ _ _
                  · exact Fm_trans (show Fm a k M (sI M' 589 ((t : Nat) : Int) ((nn : Nat) : Int)) from ⟨fun b hb => (sI_ne hb).trans (hF.1 b hb), hF.2.1, hF.2.2.1, hF.2.2.2⟩) (Fm_add _ (by omega))
                  · intro e
                    exact bS_add (M := (sI M' 589 ((t : Nat) : Int) ((nn : Nat) : Int))) (hS e) ((p0 e).1.mp (by omega))
                  · intro u hu
                    by_cases q : u = t
                    · subst q
                      simp only [if_true]
                      refine ⟨by omega, fun e => ⟨?_, ?_⟩⟩
                      · rw [← (p0 e).1]; omega
                      · rw [← (p0 e).2]; omega
                    · simp only [if_neg q]; exact hWn u (by omega)
                  · intro u hu
                    show (sI M' 589 ((t : Nat) : Int) ((nn : Nat) : Int)).1 589 (u : Int) = _
                    by_cases q : u = t
                    · subst q; rw [rd_eq]; simp
                    · rw [rd_nk (by omega), hw9 u (by omega)]; simp [q]
                  · intro e
                    rw [hA0] at e; cases e
                  · intro e
                    have hst := hst e
                    rw [if_neg (by omega)] at hst; exact hst
                · refine x_ld 5 2 0 142 rfl rfl rfl rfl rfl ?_
                  refine x_go 147 rfl rfl ?_
                  refine x_st 4 2 0 149 [some (.ref 572), some (.ref a), some (zi ((k : Nat) : Int)), some (zi ((f : Nat) : Int)), some (zi ((t : Nat) : Int)), some (zi ((t : Nat) : Int)), some (zi ((nn : Nat) : Int)), some (zi (((tx_let t).length + 1 : Nat) : Int))] rfl rfl rfl (Nat.le_of_ble_eq_true rfl) rfl rfl ?_
                  refine z_inc 5 152 [some (.ref 572), some (.ref a), some (zi ((k : Nat) : Int)), some (zi ((f : Nat) : Int)), some (zi ((t : Nat) : Int)), some (zi (((t : Nat) : Int) + 1)), some (zi ((nn : Nat) : Int)), some (zi (((tx_let t).length + 1 : Nat) : Int))] rfl rfl (Nat.le_of_ble_eq_true rfl) rfl rfl ?_
                  refine x_go 6 rfl rfl ?_
                  refine ih (1093 - (t + 1)) (by omega) (t + 1) rfl (by omega) _ _ ?_ ?_ ⟨fun u => if u = t then nn else Wn u, ?_, ?_⟩ ⟨?_, ?_⟩ _ _
                  · exact Fm_trans (show Fm a k M (sI M' 589 ((t : Nat) : Int) ((nn : Nat) : Int)) from ⟨fun b hb => (sI_ne hb).trans (hF.1 b hb), hF.2.1, hF.2.2.1, hF.2.2.2⟩) (Fm_add _ (by omega))
                  · intro e
                    exact bS_add (M := (sI M' 589 ((t : Nat) : Int) ((nn : Nat) : Int))) (hS e) ((p0 e).1.mp (by omega))
                  · intro u hu
                    by_cases q : u = t
                    · subst q
                      simp only [if_true]
                      refine ⟨by omega, fun e => ⟨?_, ?_⟩⟩
                      · rw [← (p0 e).1]; omega
                      · rw [← (p0 e).2]; omega
                    · simp only [if_neg q]; exact hWn u (by omega)
                  · intro u hu
                    show (sI M' 589 ((t : Nat) : Int) ((nn : Nat) : Int)).1 589 (u : Int) = _
                    by_cases q : u = t
                    · subst q; rw [rd_eq]; simp
                    · rw [rd_nk (by omega), hw9 u (by omega)]; simp [q]
                  · intro e
                    rw [hA0] at e; cases e
                  · intro e
                    have hst := hst e
                    rw [if_pos (by omega), if_pos (dcd_iff.mpr ((p0 e).2.mp (by omega)))] at hst; exact hst
          · refine x_cst (zi 2) 1 111 rfl rfl rfl ?_
            refine x_go 116 rfl rfl ?_
            refine z_ist 117 rfl i_589 rfl ⟨by omega, by omega⟩ rfl ?_
            refine x_ld 6 2 0 119 rfl rfl rfl rfl rfl ?_
            refine z_ifle 129 122 rfl rfl rfl ⟨by omega, by omega⟩ (fun c119 => ?_) (fun c119 => ?_)
            · refine x_ld 6 2 0 131 rfl rfl rfl rfl rfl ?_
              refine x_cst (zi 1) 1 132 rfl rfl rfl ?_
              refine z_icle 145 135 rfl rfl rfl ⟨by omega, by omega⟩ (rg_lit 1 rfl) (fun c132 => ?_) (fun c132 => ?_)
              · refine x_ld 4 2 0 147 rfl rfl rfl rfl rfl ?_
                refine x_st 4 2 0 149 [some (.ref 572), some (.ref a), some (zi ((k : Nat) : Int)), some (zi ((f : Nat) : Int)), some (zi x), some (zi ((t : Nat) : Int)), some (zi ((nn : Nat) : Int)), some (zi (((tx_let t).length + 1 : Nat) : Int))] rfl rfl rfl (Nat.le_of_ble_eq_true rfl) rfl rfl ?_
                refine z_inc 5 152 [some (.ref 572), some (.ref a), some (zi ((k : Nat) : Int)), some (zi ((f : Nat) : Int)), some (zi x), some (zi (((t : Nat) : Int) + 1)), some (zi ((nn : Nat) : Int)), some (zi (((tx_let t).length + 1 : Nat) : Int))] rfl rfl (Nat.le_of_ble_eq_true rfl) rfl rfl ?_
                refine x_go 6 rfl rfl ?_
                refine ih (1093 - (t + 1)) (by omega) (t + 1) rfl (by omega) _ _ ?_ ?_ ⟨fun u => if u = t then 2 else Wn u, ?_, ?_⟩ ⟨?_, ?_⟩ _ _
                · exact (show Fm a k M (sI M' 589 ((t : Nat) : Int) 2) from ⟨fun b hb => (sI_ne hb).trans (hF.1 b hb), hF.2.1, hF.2.2.1, hF.2.2.2⟩)
                · intro e
                  exact bS_no (M := (sI M' 589 ((t : Nat) : Int) 2)) (hS e) (fun q => by have := (p0 e).1.mpr q; omega)
                · intro u hu
                  by_cases q : u = t
                  · subst q
                    simp only [if_true]
                    refine ⟨by omega, fun e => ⟨?_, ?_⟩⟩
                    · rw [← (p0 e).1]; omega
                    · rw [← (p0 e).2]; omega
                  · simp only [if_neg q]; exact hWn u (by omega)
                · intro u hu
                  show (sI M' 589 ((t : Nat) : Int) 2).1 589 (u : Int) = _
                  by_cases q : u = t
                  · subst q; rw [rd_eq]; simp
                  · rw [rd_nk (by omega), hw9 u (by omega)]; simp [q]
                · intro e
                  rw [hA0] at e; cases e
                · intro e
                  have hst := hst e
                  by_cases q : x < 0
                  · rw [if_pos q, if_neg (fun e2 => by have := (p0 e).2.mpr (dcd_iff.mp e2); omega)] at hst; exact hst
                  · rw [if_neg q] at hst; exact hst
              · refine x_ld 4 2 0 137 rfl rfl rfl rfl rfl ?_
                refine z_ifge 145 140 rfl rfl rfl ⟨by omega, by omega⟩ (fun c137 => ?_) (fun c137 => ?_)
                · refine x_ld 4 2 0 147 rfl rfl rfl rfl rfl ?_
                  refine x_st 4 2 0 149 [some (.ref 572), some (.ref a), some (zi ((k : Nat) : Int)), some (zi ((f : Nat) : Int)), some (zi x), some (zi ((t : Nat) : Int)), some (zi ((nn : Nat) : Int)), some (zi (((tx_let t).length + 1 : Nat) : Int))] rfl rfl rfl (Nat.le_of_ble_eq_true rfl) rfl rfl ?_
                  refine z_inc 5 152 [some (.ref 572), some (.ref a), some (zi ((k : Nat) : Int)), some (zi ((f : Nat) : Int)), some (zi x), some (zi (((t : Nat) : Int) + 1)), some (zi ((nn : Nat) : Int)), some (zi (((tx_let t).length + 1 : Nat) : Int))] rfl rfl (Nat.le_of_ble_eq_true rfl) rfl rfl ?_
                  refine x_go 6 rfl rfl ?_
                  refine ih (1093 - (t + 1)) (by omega) (t + 1) rfl (by omega) _ _ ?_ ?_ ⟨fun u => if u = t then 2 else Wn u, ?_, ?_⟩ ⟨?_, ?_⟩ _ _
                  · exact (show Fm a k M (sI M' 589 ((t : Nat) : Int) 2) from ⟨fun b hb => (sI_ne hb).trans (hF.1 b hb), hF.2.1, hF.2.2.1, hF.2.2.2⟩)
                  · intro e
                    exact bS_no (M := (sI M' 589 ((t : Nat) : Int) 2)) (hS e) (fun q => by have := (p0 e).1.mpr q; omega)
                  · intro u hu
                    by_cases q : u = t
                    · subst q
                      simp only [if_true]
                      refine ⟨by omega, fun e => ⟨?_, ?_⟩⟩
                      · rw [← (p0 e).1]; omega
                      · rw [← (p0 e).2]; omega
                    · simp only [if_neg q]; exact hWn u (by omega)
                  · intro u hu
                    show (sI M' 589 ((t : Nat) : Int) 2).1 589 (u : Int) = _
                    by_cases q : u = t
                    · subst q; rw [rd_eq]; simp
                    · rw [rd_nk (by omega), hw9 u (by omega)]; simp [q]
                  · intro e
                    rw [hA0] at e; cases e
                  · intro e
                    have hst := hst e
                    rw [if_neg (by omega)] at hst; exact hst
                · refine x_ld 5 2 0 142 rfl rfl rfl rfl rfl ?_
                  refine x_go 147 rfl rfl ?_
                  refine x_st 4 2 0 149 [some (.ref 572), some (.ref a), some (zi ((k : Nat) : Int)), some (zi ((f : Nat) : Int)), some (zi ((t : Nat) : Int)), some (zi ((t : Nat) : Int)), some (zi ((nn : Nat) : Int)), some (zi (((tx_let t).length + 1 : Nat) : Int))] rfl rfl rfl (Nat.le_of_ble_eq_true rfl) rfl rfl ?_
                  refine z_inc 5 152 [some (.ref 572), some (.ref a), some (zi ((k : Nat) : Int)), some (zi ((f : Nat) : Int)), some (zi ((t : Nat) : Int)), some (zi (((t : Nat) : Int) + 1)), some (zi ((nn : Nat) : Int)), some (zi (((tx_let t).length + 1 : Nat) : Int))] rfl rfl (Nat.le_of_ble_eq_true rfl) rfl rfl ?_
                  refine x_go 6 rfl rfl ?_
                  refine ih (1093 - (t + 1)) (by omega) (t + 1) rfl (by omega) _ _ ?_ ?_ ⟨fun u => if u = t then 2 else Wn u, ?_, ?_⟩ ⟨?_, ?_⟩ _ _
                  · exact (show Fm a k M (sI M' 589 ((t : Nat) : Int) 2) from ⟨fun b hb => (sI_ne hb).trans (hF.1 b hb), hF.2.1, hF.2.2.1, hF.2.2.2⟩)
                  · intro e
                    exact bS_no (M := (sI M' 589 ((t : Nat) : Int) 2)) (hS e) (fun q => by have := (p0 e).1.mpr q; omega)
                  · intro u hu
                    by_cases q : u = t
                    · subst q
                      simp only [if_true]
                      refine ⟨by omega, fun e => ⟨?_, ?_⟩⟩
                      · rw [← (p0 e).1]; omega
                      · rw [← (p0 e).2]; omega
                    · simp only [if_neg q]; exact hWn u (by omega)
                  · intro u hu
                    show (sI M' 589 ((t : Nat) : Int) 2).1 589 (u : Int) = _
                    by_cases q : u = t
                    · subst q; rw [rd_eq]; simp
                    · rw [rd_nk (by omega), hw9 u (by omega)]; simp [q]
                  · intro e
                    rw [hA0] at e; cases e
                  · intro e
                    have hst := hst e
                    rw [if_pos (by omega), if_pos (dcd_iff.mpr ((p0 e).2.mp (by omega)))] at hst; exact hst
            · refine x_ld 1 1 2 123 rfl rfl rfl rfl rfl ?_
              refine x_ld 2 1 0 124 rfl rfl rfl rfl rfl ?_
              refine x_ld 5 2 0 126 rfl rfl rfl rfl rfl ?_
              refine x_cv 235 121 129 [.ref a, zi ((k : Nat) : Int), zi ((t : Nat) : Int)] rfl rfl rfl (Nat.le_of_ble_eq_true rfl) rfl rfl (Nat.le_of_ble_eq_true rfl) trivial (Nat.le_of_ble_eq_true rfl) (c121 (M := (sI M' 589 ((t : Nat) : Int) 2)) (d + 1) h (k := k) (t := t) (by omega) hk) rfl ?_
              refine x_ld 6 2 0 131 rfl rfl rfl rfl rfl ?_
              refine x_cst (zi 1) 1 132 rfl rfl rfl ?_
              refine z_icle 145 135 rfl rfl rfl ⟨by omega, by omega⟩ (rg_lit 1 rfl) (fun c132 => ?_) (fun c132 => ?_)
              · refine x_ld 4 2 0 147 rfl rfl rfl rfl rfl ?_
                refine x_st 4 2 0 149 [some (.ref 572), some (.ref a), some (zi ((k : Nat) : Int)), some (zi ((f : Nat) : Int)), some (zi x), some (zi ((t : Nat) : Int)), some (zi ((nn : Nat) : Int)), some (zi (((tx_let t).length + 1 : Nat) : Int))] rfl rfl rfl (Nat.le_of_ble_eq_true rfl) rfl rfl ?_
                refine z_inc 5 152 [some (.ref 572), some (.ref a), some (zi ((k : Nat) : Int)), some (zi ((f : Nat) : Int)), some (zi x), some (zi (((t : Nat) : Int) + 1)), some (zi ((nn : Nat) : Int)), some (zi (((tx_let t).length + 1 : Nat) : Int))] rfl rfl (Nat.le_of_ble_eq_true rfl) rfl rfl ?_
                refine x_go 6 rfl rfl ?_
                refine ih (1093 - (t + 1)) (by omega) (t + 1) rfl (by omega) _ _ ?_ ?_ ⟨fun u => if u = t then 2 else Wn u, ?_, ?_⟩ ⟨?_, ?_⟩ _ _
                · exact Fm_trans (show Fm a k M (sI M' 589 ((t : Nat) : Int) 2) from ⟨fun b hb => (sI_ne hb).trans (hF.1 b hb), hF.2.1, hF.2.2.1, hF.2.2.2⟩) (Fm_add _ (by omega))
                · intro e
                  exact bS_add (M := (sI M' 589 ((t : Nat) : Int) 2)) (hS e) ((p0 e).1.mp (by omega))
                · intro u hu
                  by_cases q : u = t
                  · subst q
                    simp only [if_true]
                    refine ⟨by omega, fun e => ⟨?_, ?_⟩⟩
                    · rw [← (p0 e).1]; omega
                    · rw [← (p0 e).2]; omega
                  · simp only [if_neg q]; exact hWn u (by omega)
                · intro u hu
                  show (sI M' 589 ((t : Nat) : Int) 2).1 589 (u : Int) = _
                  by_cases q : u = t
                  · subst q; rw [rd_eq]; simp
                  · rw [rd_nk (by omega), hw9 u (by omega)]; simp [q]
                · intro e
                  rw [hA0] at e; cases e
                · intro e
                  have hst := hst e
                  by_cases q : x < 0
                  · rw [if_pos q, if_neg (fun e2 => by have := (p0 e).2.mpr (dcd_iff.mp e2); omega)] at hst; exact hst
                  · rw [if_neg q] at hst; exact hst
              · refine x_ld 4 2 0 137 rfl rfl rfl rfl rfl ?_
                refine z_ifge 145 140 rfl rfl rfl ⟨by omega, by omega⟩ (fun c137 => ?_) (fun c137 => ?_)
                · refine x_ld 4 2 0 147 rfl rfl rfl rfl rfl ?_
                  refine x_st 4 2 0 149 [some (.ref 572), some (.ref a), some (zi ((k : Nat) : Int)), some (zi ((f : Nat) : Int)), some (zi x), some (zi ((t : Nat) : Int)), some (zi ((nn : Nat) : Int)), some (zi (((tx_let t).length + 1 : Nat) : Int))] rfl rfl rfl (Nat.le_of_ble_eq_true rfl) rfl rfl ?_
                  refine z_inc 5 152 [some (.ref 572), some (.ref a), some (zi ((k : Nat) : Int)), some (zi ((f : Nat) : Int)), some (zi x), some (zi (((t : Nat) : Int) + 1)), some (zi ((nn : Nat) : Int)), some (zi (((tx_let t).length + 1 : Nat) : Int))] rfl rfl (Nat.le_of_ble_eq_true rfl) rfl rfl ?_
                  refine x_go 6 rfl rfl ?_
                  refine ih (1093 - (t + 1)) (by omega) (t + 1) rfl (by omega) _ _ ?_ ?_ ⟨fun u => if u = t then 2 else Wn u, ?_, ?_⟩ ⟨?_, ?_⟩ _ _
                  · exact Fm_trans (show Fm a k M (sI M' 589 ((t : Nat) : Int) 2) from ⟨fun b hb => (sI_ne hb).trans (hF.1 b hb), hF.2.1, hF.2.2.1, hF.2.2.2⟩) (Fm_add _ (by omega))
                  · intro e
                    exact bS_add (M := (sI M' 589 ((t : Nat) : Int) 2)) (hS e) ((p0 e).1.mp (by omega))
                  · intro u hu
                    by_cases q : u = t
                    · subst q
                      simp only [if_true]
                      refine ⟨by omega, fun e => ⟨?_, ?_⟩⟩
                      · rw [← (p0 e).1]; omega
                      · rw [← (p0 e).2]; omega
                    · simp only [if_neg q]; exact hWn u (by omega)
                  · intro u hu
                    show (sI M' 589 ((t : Nat) : Int) 2).1 589 (u : Int) = _
                    by_cases q : u = t
                    · subst q; rw [rd_eq]; simp
                    · rw [rd_nk (by omega), hw9 u (by omega)]; simp [q]
                  · intro e
                    rw [hA0] at e; cases e
                  · intro e
                    have hst := hst e
                    rw [if_neg (by omega)] at hst; exact hst
                · refine x_ld 5 2 0 142 rfl rfl rfl rfl rfl ?_
                  refine x_go 147 rfl rfl ?_
                  refine x_st 4 2 0 149 [some (.ref 572), some (.ref a), some (zi ((k : Nat) : Int)), some (zi ((f : Nat) : Int)), some (zi ((t : Nat) : Int)), some (zi ((t : Nat) : Int)), some (zi ((nn : Nat) : Int)), some (zi (((tx_let t).length + 1 : Nat) : Int))] rfl rfl rfl (Nat.le_of_ble_eq_true rfl) rfl rfl ?_
                  refine z_inc 5 152 [some (.ref 572), some (.ref a), some (zi ((k : Nat) : Int)), some (zi ((f : Nat) : Int)), some (zi ((t : Nat) : Int)), some (zi (((t : Nat) : Int) + 1)), some (zi ((nn : Nat) : Int)), some (zi (((tx_let t).length + 1 : Nat) : Int))] rfl rfl (Nat.le_of_ble_eq_true rfl) rfl rfl ?_
                  refine x_go 6 rfl rfl ?_
                  refine ih (1093 - (t + 1)) (by omega) (t + 1) rfl (by omega) _ _ ?_ ?_ ⟨fun u => if u = t then 2 else Wn u, ?_, ?_⟩ ⟨?_, ?_⟩ _ _
                  · exact Fm_trans (show Fm a k M (sI M' 589 ((t : Nat) : Int) 2) from ⟨fun b hb => (sI_ne hb).trans (hF.1 b hb), hF.2.1, hF.2.2.1, hF.2.2.2⟩) (Fm_add _ (by omega))
                  · intro e
                    exact bS_add (M := (sI M' 589 ((t : Nat) : Int) 2)) (hS e) ((p0 e).1.mp (by omega))
                  · intro u hu
                    by_cases q : u = t
                    · subst q
                      simp only [if_true]
                      refine ⟨by omega, fun e => ⟨?_, ?_⟩⟩
                      · rw [← (p0 e).1]; omega
                      · rw [← (p0 e).2]; omega
                    · simp only [if_neg q]; exact hWn u (by omega)
                  · intro u hu
                    show (sI M' 589 ((t : Nat) : Int) 2).1 589 (u : Int) = _
                    by_cases q : u = t
                    · subst q; rw [rd_eq]; simp
                    · rw [rd_nk (by omega), hw9 u (by omega)]; simp [q]
                  · intro e
                    rw [hA0] at e; cases e
                  · intro e
                    have hst := hst e
                    rw [if_pos (by omega), if_pos (dcd_iff.mpr ((p0 e).2.mp (by omega)))] at hst; exact hst
theorem c124 (d : Nat) {a N k f : Nat} (h : isL a N) (hk : 18 * k + 18 ≤ N) (hf : 18 * f + 18 ≤ N) (fk : f ≠ k) (hcl : ∀ u : Nat, u < 1152 → M.2.1 a (1152 * (k : Int) + (u : Int)) = false) : ab_Z (pg_G L xs) (d + 3) 124 [.ref 572, .ref a, zi (k : Nat), zi (f : Nat)] M es (fun v M' => ∃ x, v = some (zi x) ∧ Fm a k M M' ∧ lst (rD (mS (M.2.1 a) f)) x ∧ ((∀ t, ¬ rD (mS (M.2.1 a) f) t) → ∀ u : Nat, u < 1152 → (M'.2.1 a (1152 * (k : Int) + (u : Int)) = true ↔ rq (mS (M.2.1 a) f) u))) := by
  show ab_W (pg_G L xs) (ab_X (pg_G L xs) (d + 2)) 124 _ 0 [some (.ref 572), some (.ref a), some (zi ((k : Nat) : Int)), some (zi ((f : Nat) : Int)), none, none, none, none] [] (hp M ++ es)
  refine x_cst (zi (-1)) 1 1 rfl rfl rfl ?_
  refine x_st 4 2 0 3 [some (.ref 572), some (.ref a), some (zi ((k : Nat) : Int)), some (zi ((f : Nat) : Int)), some (zi (-1)), none, none, none] rfl rfl rfl (Nat.le_of_ble_eq_true rfl) rfl rfl ?_
  refine x_cst (zi 0) 1 4 rfl rfl rfl ?_
  refine x_st 5 2 0 6 [some (.ref 572), some (.ref a), some (zi ((k : Nat) : Int)), some (zi ((f : Nat) : Int)), some (zi (-1)), some (zi 0), none, none] rfl rfl rfl (Nat.le_of_ble_eq_true rfl) rfl rfl ?_
  refine c124_out d h hk hf fk (fun x M' hF hS _ hx => ⟨_, M', rfl, rfl, x, rfl, hF, ?_, ?_⟩) _ 0 rfl (Nat.zero_le _) M (-1) (Fm_refl ..) (fun _ u hu => ⟨fun e => (by rw [hcl u hu] at e; cases e), fun e => absurd e.1 (Nat.not_lt_zero u)⟩) ⟨fun _ => 0, fun u hu => absurd hu (Nat.not_lt_zero u), fun u hu => absurd hu (Nat.not_lt_zero u)⟩ ⟨fun _ => ⟨fun _ => rfl, fun e => absurd e (Nat.not_lt_zero _)⟩, fun _ => .inl ⟨rfl, fun u e => absurd e.1 (Nat.not_lt_zero u)⟩⟩ _ _
  · exact lst_rD (fun e => (hx.1 e).2 (by omega)) (fun e => lst_end (hx.2 e) (fun u q => q.1))
  · intro hn u hu
    exact (hS (rD_none hn) u hu).trans ⟨fun e => e.2, fun e => ⟨e.1, e⟩⟩
end D3
