/-! OURS, printed by wip/tools/gen994.py: the reference's calls on any memory. -/
/-- what a call of the reference leaves as it was, and what it says of throwing -/
def Fzt (th : Int) (M M' : mm) : Prop := (∀ a, a ≠ 572 → a ≤ 594 → M'.1 a = M.1 a) ∧ (∀ j, ¬ cF j → j ≠ 2 → j ≠ 32 → j ≠ 34 → j ≠ 35 → M'.1 572 j = M.1 572 j) ∧ (∀ a, a ≠ 594 → M'.2.1 a = M.2.1 a) ∧ M'.2.2 = M.2.2 ∧ M'.1 572 2 = th
def Kzt (M M' : mm) : Prop := M'.1 572 32 = M.1 572 32 ∧ M'.1 572 34 = M.1 572 34 ∧ M'.1 572 35 = M.1 572 35 ∧ M'.1 595 = M.1 595 ∧ M'.2.1 594 = M.2.1 594
def Fzq (th : Int) (M M' : mm) : Prop := Fzt th M M' ∧ Kzt M M'
def Fzi (M M' : mm) : Prop := (∀ a, a ≠ 572 → a ≤ 595 → M'.1 a = M.1 a) ∧ (∀ j, ¬ cF j → M'.1 572 j = M.1 572 j) ∧ M'.2 = M.2
theorem Fzi_trans {M M' M'' : mm} (h : Fzi M M') (g : Fzi M' M'') : Fzi M M'' := ⟨fun a h1 h2 => (g.1 a h1 h2).trans (h.1 a h1 h2), fun j h1 => (g.2.1 j h1).trans (h.2.1 j h1), g.2.2.trans h.2.2⟩
theorem Fzi_F1 {b : Nat} {M M' : mm} (hb : 596 ≤ b) (h : F1 b M M') : Fzi M M' := ⟨fun a h1 h2 => h.1 a (by omega), fun j _ => by rw [h.1 572 (by omega)], h.2⟩
theorem Fzi_Fs {M M' : mm} (h : Fs M M') : Fzi M M' := ⟨fun a h1 h2 => h.1 a h1 (by omega), fun j hj => h.2.1 j (fun e => hj (by unfold cF; omega)) (fun e => hj (by unfold cF; omega)), h.2.2⟩
theorem Fzi_Fyt {M M' : mm} (h : Fyt M M') : Fzi M M' := ⟨fun a h1 h2 => h.1 a h1 (by omega), fun j hj => h.2.1 j (fun e => hj (by unfold cF; omega)) (fun e => hj (by unfold cF; omega)), h.2.2⟩
theorem Fzq_s (th : Int) (M : mm) : Fzq th M (sI M 572 2 th) := ⟨⟨fun a h _ => sI_ne h, fun j _ h _ _ _ => rd_nk h, fun _ _ => rfl, rfl, rd_eq⟩, rd_nk (by decide), rd_nk (by decide), rd_nk (by decide), sI_ne (by decide), rfl⟩
theorem Fzq_i {th : Int} {M M' : mm} (h : Fzi (sI M 572 2 th) M') : Fzq th M M' := ⟨⟨fun a h1 h2 => (h.1 a h1 (by omega)).trans (sI_ne h1), fun j h1 h2 _ _ _ => (h.2.1 j h1).trans (rd_nk h2), fun a _ => by rw [h.2.2]; rfl, by rw [h.2.2]; rfl, (h.2.1 2 (by unfold cF; omega)).trans rd_eq⟩, (h.2.1 32 (by unfold cF; omega)).trans (rd_nk (by decide)), (h.2.1 34 (by unfold cF; omega)).trans (rd_nk (by decide)), (h.2.1 35 (by unfold cF; omega)).trans (rd_nk (by decide)), (h.1 595 (by decide) (by decide)).trans (sI_ne (by decide)), by rw [h.2.2]; rfl⟩
theorem mdl_f {M : mm} {ps : Nat → prt} {c : Nat} {j y : Int} (h : mdl M ps c) : mdl (sI M 572 j y) ps c := mdl_Fk h ⟨fun a h1 h2 => sI_ne (by omega), rfl⟩
theorem mdl_i {M M' : mm} {ps : Nat → prt} {c : Nat} (h : mdl M ps c) (hF : Fzi M M') : mdl M' ps c := mdl_Fk h ⟨fun a h1 h2 => hF.1 a (by omega) (by omega), hF.2.2⟩
section C43
variable {L : Nat} {xs : Nat → Int32} {M : mm} {es : ab_H}
theorem c135_t (d : Nat) {x : Int} (h0 : 0 ≤ x) (h1 : x < 1093) : ab_S (pg_G L xs) (d + 1) 135 [zi x] (hp M ++ es) (some (zi 1)) (hp M ++ es) := by
  show ab_W (pg_G L xs) (ab_X (pg_G L xs) d) 135 _ 0 [some (zi x)] [] (hp M ++ es)
  refine x_ld 0 1 0 1 rfl rfl rfl rfl rfl ?_
  refine z_iflt 15 4 rfl rfl rfl ⟨by omega, by omega⟩ (fun c => absurd c (by omega)) (fun _ => ?_)
  refine x_ld 0 1 0 5 rfl rfl rfl rfl rfl ?_
  refine x_cst (zi 1093) 3 8 rfl rfl rfl ?_
  refine z_icge 15 11 rfl rfl rfl ⟨by omega, by omega⟩ (rg_lit 1093 rfl) (fun c => absurd c (by omega)) (fun _ => ?_)
  refine x_cst (zi 1) 1 12 rfl rfl rfl ?_
  refine x_go 16 rfl rfl ?_
  refine x_ret rfl rfl rfl rfl ?_
  exact ⟨rfl, rfl⟩
theorem c135_f (d : Nat) {x : Int} (hx : rg x) (hb : ¬ (0 ≤ x ∧ x < 1093)) : ab_S (pg_G L xs) (d + 1) 135 [zi x] (hp M ++ es) (some (zi 0)) (hp M ++ es) := by
  have hx1 := hx.1
  have hx2 := hx.2
  show ab_W (pg_G L xs) (ab_X (pg_G L xs) d) 135 _ 0 [some (zi x)] [] (hp M ++ es)
  refine x_ld 0 1 0 1 rfl rfl rfl rfl rfl ?_
  refine z_iflt 15 4 rfl rfl rfl ⟨by omega, by omega⟩ (fun c1 => ?_) (fun c1 => ?_)
  · refine x_cst (zi 0) 1 16 rfl rfl rfl ?_
    refine x_ret rfl rfl rfl rfl ?_
    exact ⟨rfl, rfl⟩
  · refine x_ld 0 1 0 5 rfl rfl rfl rfl rfl ?_
    refine x_cst (zi 1093) 3 8 rfl rfl rfl ?_
    refine z_icge 15 11 rfl rfl rfl ⟨by omega, by omega⟩ (rg_lit 1093 rfl) (fun _ => ?_) (fun c => absurd c (by omega))
    refine x_cst (zi 0) 1 16 rfl rfl rfl ?_
    refine x_ret rfl rfl rfl rfl ?_
    exact ⟨rfl, rfl⟩
theorem c135 (d : Nat) {x : Int} (hx : rg x) : ab_S (pg_G L xs) (d + 1) 135 [zi x] (hp M ++ es) (some (zi (if 0 ≤ x ∧ x < 1093 then 1 else 0))) (hp M ++ es) := by
  by_cases h : 0 ≤ x ∧ x < 1093
  · rw [if_pos h]; exact c135_t d h.1 h.2
  · rw [if_neg h]; exact c135_f d hx h
theorem c132_n (d : Nat) {b : Int} : ab_S (pg_G L xs) (d + 1) 132 [.ref 572, zi 0, zi b] (hp M ++ es) (some (zi 1)) (hp (sI M 572 2 1) ++ es) := by
  show ab_W (pg_G L xs) (ab_X (pg_G L xs) d) 132 _ 0 [some (.ref 572), some (zi 0), some (zi b)] [] (hp M ++ es)
  refine x_ld 0 1 2 1 rfl rfl rfl rfl rfl ?_
  refine x_ld 1 1 0 2 rfl rfl rfl rfl rfl ?_
  refine z_ifne 9 5 rfl rfl rfl (rg_lit 0 rfl) (fun c => absurd c (by decide)) (fun _ => ?_)
  refine x_cst (zi 1) 1 6 rfl rfl rfl ?_
  refine x_go 18 rfl rfl ?_
  refine s_572_2 159 21 rfl rfl rfl rfl rfl rfl ?_
  refine x_ld 0 1 2 22 rfl rfl rfl rfl rfl ?_
  refine g_572_2 159 25 rfl rfl rd_eq rfl ?_
  refine z_ifle 32 28 rfl rfl rfl (rg_lit 1 rfl) (fun c => absurd c (by decide)) (fun _ => ?_)
  refine x_cst (zi 1) 1 29 rfl rfl rfl ?_
  refine x_go 33 rfl rfl ?_
  refine x_ret rfl rfl rfl rfl ?_
  exact ⟨rfl, rfl⟩
theorem c132_b (d : Nat) : ab_S (pg_G L xs) (d + 1) 132 [.ref 572, zi 1, zi 0] (hp M ++ es) (some (zi 1)) (hp (sI M 572 2 2) ++ es) := by
  show ab_W (pg_G L xs) (ab_X (pg_G L xs) d) 132 _ 0 [some (.ref 572), some (zi 1), some (zi 0)] [] (hp M ++ es)
  refine x_ld 0 1 2 1 rfl rfl rfl rfl rfl ?_
  refine x_ld 1 1 0 2 rfl rfl rfl rfl rfl ?_
  refine z_ifne 9 5 rfl rfl rfl (rg_lit 1 rfl) (fun _ => ?_) (fun c => absurd c (by decide))
  refine x_ld 2 1 0 10 rfl rfl rfl rfl rfl ?_
  refine z_ifeq 17 13 rfl rfl rfl (rg_lit 0 rfl) (fun _ => ?_) (fun c => absurd c (by decide))
  refine x_cst (zi 2) 1 18 rfl rfl rfl ?_
  refine s_572_2 159 21 rfl rfl rfl rfl rfl rfl ?_
  refine x_ld 0 1 2 22 rfl rfl rfl rfl rfl ?_
  refine g_572_2 159 25 rfl rfl rd_eq rfl ?_
  refine z_ifle 32 28 rfl rfl rfl (rg_lit 2 rfl) (fun c => absurd c (by decide)) (fun _ => ?_)
  refine x_cst (zi 1) 1 29 rfl rfl rfl ?_
  refine x_go 33 rfl rfl ?_
  refine x_ret rfl rfl rfl rfl ?_
  exact ⟨rfl, rfl⟩
theorem c132_o (d : Nat) : ab_S (pg_G L xs) (d + 1) 132 [.ref 572, zi 1, zi 1] (hp M ++ es) (some (zi 0)) (hp (sI M 572 2 0) ++ es) := by
  show ab_W (pg_G L xs) (ab_X (pg_G L xs) d) 132 _ 0 [some (.ref 572), some (zi 1), some (zi 1)] [] (hp M ++ es)
  refine x_ld 0 1 2 1 rfl rfl rfl rfl rfl ?_
  refine x_ld 1 1 0 2 rfl rfl rfl rfl rfl ?_
  refine z_ifne 9 5 rfl rfl rfl (rg_lit 1 rfl) (fun _ => ?_) (fun c => absurd c (by decide))
  refine x_ld 2 1 0 10 rfl rfl rfl rfl rfl ?_
  refine z_ifeq 17 13 rfl rfl rfl (rg_lit 1 rfl) (fun c => absurd c (by decide)) (fun _ => ?_)
  refine x_cst (zi 0) 1 14 rfl rfl rfl ?_
  refine x_go 18 rfl rfl ?_
  refine s_572_2 159 21 rfl rfl rfl rfl rfl rfl ?_
  refine x_ld 0 1 2 22 rfl rfl rfl rfl rfl ?_
  refine g_572_2 159 25 rfl rfl rd_eq rfl ?_
  refine z_ifle 32 28 rfl rfl rfl (rg_lit 0 rfl) (fun _ => ?_) (fun c => absurd c (by decide))
  refine x_cst (zi 0) 1 33 rfl rfl rfl ?_
  refine x_ret rfl rfl rfl rfl ?_
  exact ⟨rfl, rfl⟩
theorem c103 (d : Nat) : ab_S (pg_G L xs) (d + 1) 103 [.ref 572] (hp M ++ es) (some (zi (M.1 572 2))) (hp M ++ es) := by
  show ab_W (pg_G L xs) (ab_X (pg_G L xs) d) 103 _ 0 [some (.ref 572)] [] (hp M ++ es)
  refine x_ld 0 1 2 1 rfl rfl rfl rfl rfl ?_
  refine g_572_2 159 4 rfl rfl rfl rfl ?_
  refine x_ret rfl rfl rfl rfl ?_
  exact ⟨rfl, rfl⟩
theorem c129 (d : Nat) : ab_S (pg_G L xs) (d + 1) 129 [.ref 572] (hp M ++ es) (some (zi (M.1 572 30))) (hp (sI M 572 2 0) ++ es) := by
  show ab_W (pg_G L xs) (ab_X (pg_G L xs) d) 129 _ 0 [some (.ref 572)] [] (hp M ++ es)
  refine x_ld 0 1 2 1 rfl rfl rfl rfl rfl ?_
  refine x_cst (zi 0) 1 2 rfl rfl rfl ?_
  refine s_572_2 159 5 rfl rfl rfl rfl rfl rfl ?_
  refine x_ld 0 1 2 6 rfl rfl rfl rfl rfl ?_
  refine g_572_30 258 9 rfl rfl (rd_nk (Ne.symm (by decide))) rfl ?_
  refine x_ret rfl rfl rfl rfl ?_
  exact ⟨rfl, rfl⟩
theorem c130 (d : Nat) : ab_S (pg_G L xs) (d + 1) 130 [.ref 572] (hp M ++ es) (some (zi (M.1 572 31))) (hp (sI M 572 2 0) ++ es) := by
  show ab_W (pg_G L xs) (ab_X (pg_G L xs) d) 130 _ 0 [some (.ref 572)] [] (hp M ++ es)
  refine x_ld 0 1 2 1 rfl rfl rfl rfl rfl ?_
  refine x_cst (zi 0) 1 2 rfl rfl rfl ?_
  refine s_572_2 159 5 rfl rfl rfl rfl rfl rfl ?_
  refine x_ld 0 1 2 6 rfl rfl rfl rfl rfl ?_
  refine g_572_31 74 9 rfl rfl (rd_nk (Ne.symm (by decide))) rfl ?_
  refine x_ret rfl rfl rfl rfl ?_
  exact ⟨rfl, rfl⟩
theorem c123s (d : Nat) {ps : Nat → prt} {c : Nat} (hm : mdl M ps c) {k : Nat} (hk : k < c) {t : Nat} (ht : t < 1152) {b : Bool} (hb : (sts ps k).1 t = b) : ab_S (pg_G L xs) (d + 1) 123 [.ref 580, zi (k : Nat), zi (t : Nat)] (hp M ++ es) (some (zi (bz b))) (hp M ++ es) := by
  have h := c123 (L := L) (xs := xs) (es := es) (M := M) d i_580 (k := k) (t := t) ht (by have := hm.1; omega)
  have e : M.2.1 580 (1152 * ((k : Nat) : Int) + ((t : Nat) : Int)) = b := ((hm.2 k hk).2.2.2.2.2.2.1 t ht).trans hb
  rw [e] at h; exact h
theorem c123v (d : Nat) {ps : Nat → prt} {c : Nat} (hm : mdl M ps c) {k : Nat} (hk : k < c) {t : Nat} (ht : t < 1152) {b : Bool} (hb : (sts ps k).2 t = b) : ab_S (pg_G L xs) (d + 1) 123 [.ref 581, zi (k : Nat), zi (t : Nat)] (hp M ++ es) (some (zi (bz b))) (hp M ++ es) := by
  have h := c123 (L := L) (xs := xs) (es := es) (M := M) d i_581 (k := k) (t := t) ht (by have := hm.1; omega)
  have e : M.2.1 581 (1152 * ((k : Nat) : Int) + ((t : Nat) : Int)) = b := ((hm.2 k hk).2.2.2.2.2.2.2 t ht).trans hb
  rw [e] at h; exact h
theorem cnt_le (f : Nat → Bool) (n : Nat) : cnt f n ≤ n := by
  induction n with
  | zero => exact Nat.le_refl _
  | succ n ih => show cnt f n + (f n).toNat ≤ n + 1; have : (f n).toNat ≤ 1 := by cases f n <;> decide
                 omega
theorem c133_loop (d : Nat) {a n : Nat} (h : isL a n) {k : Nat} (hk : 18 * k + 18 ≤ n) {Q : ab_Q} (kk : Q (.inl (some (zi ((cnt (mS (M.2.1 a) k) 1093 : Nat) : Int)))) (hp M ++ es)) : ∀ m t : Nat, 1093 - t = m → t ≤ 1093 → ab_W (pg_G L xs) (ab_X (pg_G L xs) (d + 1)) 133 Q 5 [some (.ref 572), some (.ref a), some (zi (k : Nat)), some (zi ((cnt (mS (M.2.1 a) k) t : Nat) : Int)), some (zi (t : Nat))] [] (hp M ++ es) := by
  intro m
  induction m using Nat.strongRecOn with
  | _ m ih =>
    intro t hm ht
    have hcl := cnt_le (mS (M.2.1 a) k) t
    refine x_ld 4 2 0 7 rfl rfl rfl rfl rfl ?_
    refine x_cst (zi 1093) 3 10 rfl rfl rfl ?_
    refine z_icge 37 13 rfl rfl rfl ⟨by omega, by omega⟩ (rg_lit 1093 rfl) (fun c10 => ?_) (fun c10 => ?_)
    · refine x_ld 3 1 0 38 rfl rfl rfl rfl rfl ?_
      refine x_ret rfl rfl rfl rfl ?_
      have e : t = 1093 := by omega
      subst e; exact kk
    · refine x_ld 1 1 2 14 rfl rfl rfl rfl rfl ?_
      refine x_ld 2 1 0 15 rfl rfl rfl rfl rfl ?_
      refine x_ld 4 2 0 17 rfl rfl rfl rfl rfl ?_
      refine x_cv 228 123 20 [.ref a, zi ((k : Nat) : Int), zi ((t : Nat) : Int)] rfl rfl rfl (Nat.le_of_ble_eq_true rfl) rfl rfl (Nat.le_of_ble_eq_true rfl) trivial (Nat.le_of_ble_eq_true rfl) (c123 d h (k := k) (t := t) (by omega) hk) rfl ?_
      cases hb : M.2.1 a (1152 * ((k : Nat) : Int) + ((t : Nat) : Int))
      · refine z_ifeq 29 23 rfl rfl rfl (rg_lit 0 rfl) (fun _ => ?_) (fun c => absurd c (by decide))
        refine x_ld 3 1 0 30 rfl rfl rfl rfl rfl ?_
        refine x_st 3 1 0 31 [some (.ref 572), some (.ref a), some (zi ((k : Nat) : Int)), some (zi ((cnt (mS (M.2.1 a) k) t : Nat) : Int)), some (zi ((t : Nat) : Int))] rfl rfl rfl (Nat.le_of_ble_eq_true rfl) rfl rfl ?_
        refine z_inc 4 34 [some (.ref 572), some (.ref a), some (zi ((k : Nat) : Int)), some (zi ((cnt (mS (M.2.1 a) k) t : Nat) : Int)), some (zi (((t : Nat) : Int) + 1))] rfl rfl (Nat.le_of_ble_eq_true rfl) rfl rfl ?_
        refine x_go 5 rfl rfl ?_
        refine cast ?_ (ih (1093 - (t + 1)) (by omega) (t + 1) rfl (by omega))
        rw [show cnt (mS (M.2.1 a) k) (t + 1) = cnt (mS (M.2.1 a) k) t + (mS (M.2.1 a) k t).toNat from rfl, show mS (M.2.1 a) k t = false from hb]; rfl
      · refine z_ifeq 29 23 rfl rfl rfl (rg_lit 1 rfl) (fun c => absurd c (by decide)) (fun _ => ?_)
        refine x_ld 3 1 0 24 rfl rfl rfl rfl rfl ?_
        refine x_cst (zi 1) 1 25 rfl rfl rfl ?_
        refine z_add 26 rfl rfl ?_
        refine x_go 30 rfl rfl ?_
        refine x_st 3 1 0 31 [some (.ref 572), some (.ref a), some (zi ((k : Nat) : Int)), some (zi (((cnt (mS (M.2.1 a) k) t : Nat) : Int) + 1)), some (zi ((t : Nat) : Int))] rfl rfl rfl (Nat.le_of_ble_eq_true rfl) rfl rfl ?_
        refine z_inc 4 34 [some (.ref 572), some (.ref a), some (zi ((k : Nat) : Int)), some (zi (((cnt (mS (M.2.1 a) k) t : Nat) : Int) + 1)), some (zi (((t : Nat) : Int) + 1))] rfl rfl (Nat.le_of_ble_eq_true rfl) rfl rfl ?_
        refine x_go 5 rfl rfl ?_
        refine cast ?_ (ih (1093 - (t + 1)) (by omega) (t + 1) rfl (by omega))
        rw [show cnt (mS (M.2.1 a) k) (t + 1) = cnt (mS (M.2.1 a) k) t + (mS (M.2.1 a) k t).toNat from rfl, show mS (M.2.1 a) k t = true from hb]; rfl
theorem c133 (d : Nat) {a n : Nat} (h : isL a n) {k : Nat} (hk : 18 * k + 18 ≤ n) : ab_S (pg_G L xs) (d + 2) 133 [.ref 572, .ref a, zi (k : Nat)] (hp M ++ es) (some (zi ((cnt (mS (M.2.1 a) k) 1093 : Nat) : Int))) (hp M ++ es) := by
  show ab_W (pg_G L xs) (ab_X (pg_G L xs) (d + 1)) 133 _ 0 [some (.ref 572), some (.ref a), some (zi ((k : Nat) : Int)), none, none] [] (hp M ++ es)
  refine x_cst (zi 0) 1 1 rfl rfl rfl ?_
  refine x_st 3 1 0 2 [some (.ref 572), some (.ref a), some (zi ((k : Nat) : Int)), some (zi 0), none] rfl rfl rfl (Nat.le_of_ble_eq_true rfl) rfl rfl ?_
  refine x_cst (zi 0) 1 3 rfl rfl rfl ?_
  refine x_st 4 2 0 5 [some (.ref 572), some (.ref a), some (zi ((k : Nat) : Int)), some (zi 0), some (zi 0)] rfl rfl rfl (Nat.le_of_ble_eq_true rfl) rfl rfl ?_
  exact c133_loop d h hk ⟨rfl, rfl⟩ _ 0 rfl (Nat.zero_le _)
theorem cnt_ag {A B : Nat → Bool} {n : Nat} (h : ∀ t, t < n → A t = B t) : cnt A n = cnt B n := by
  induction n with
  | zero => rfl
  | succ n ih => show cnt A n + (A n).toNat = cnt B n + (B n).toNat; rw [ih (fun t ht => h t (by omega)), h n (by omega)]
theorem c133s (d : Nat) {ps : Nat → prt} {c : Nat} (hm : mdl M ps c) {k : Nat} (hk : k < c) : ab_S (pg_G L xs) (d + 2) 133 [.ref 572, .ref 580, zi (k : Nat)] (hp M ++ es) (some (zi ((cnt (sts ps k).1 1093 : Nat) : Int))) (hp M ++ es) := by
  have h := c133 (L := L) (xs := xs) (es := es) (M := M) d i_580 (k := k) (by have := hm.1; omega)
  rw [cnt_ag (B := (sts ps k).1) (fun t ht => (hm.2 k hk).2.2.2.2.2.2.1 t (by omega))] at h; exact h
theorem c133v (d : Nat) {ps : Nat → prt} {c : Nat} (hm : mdl M ps c) {k : Nat} (hk : k < c) : ab_S (pg_G L xs) (d + 2) 133 [.ref 572, .ref 581, zi (k : Nat)] (hp M ++ es) (some (zi ((cnt (sts ps k).2 1093 : Nat) : Int))) (hp M ++ es) := by
  have h := c133 (L := L) (xs := xs) (es := es) (M := M) d i_581 (k := k) (by have := hm.1; omega)
  rw [cnt_ag (B := (sts ps k).2) (fun t ht => (hm.2 k hk).2.2.2.2.2.2.2 t (by omega))] at h; exact h
theorem c138 (d : Nat) {ps : Nat → prt} {k : Nat} (hm : mdl M ps (k + 1)) (h6 : M.1 572 6 = ((k + 1 : Nat) : Int)) {w : List Nat} (hw : tx_L w) (hw6 : w.length ≤ 6) (ms : (sts ps k).1 (tx_num w) = true) (hsl : (sem_sh (pgo ps) k w).length ≤ 250) : ab_Z (pg_G L xs) (d + 8) 138 [.ref 572, zi (tx_num w : Nat)] M es (fun v M' => v = some (zi (nz (sem_sh (pgo ps) k w))) ∧ Fzi M M') := by
  have hc31 := hm.1
  have hsL := sh_L (mdl_gds hm) k (by omega) w hw
  show ab_W (pg_G L xs) (ab_X (pg_G L xs) (d + 7)) 138 _ 0 [some (.ref 572), some (zi ((tx_num w : Nat) : Int))] [] (hp M ++ es)
  refine x_ld 0 1 2 1 rfl rfl rfl rfl rfl ?_
  refine x_ld 1 1 0 2 rfl rfl rfl rfl rfl ?_
  refine x_ld 0 1 2 3 rfl rfl rfl rfl rfl ?_
  refine g_572_37 87 6 rfl rfl rfl ?_
  refine x_ce 372 139 9 [.ref 572, zi ((tx_num w : Nat) : Int), .ref 596] rfl rfl rfl (Nat.le_of_ble_eq_true rfl) rfl rfl (Nat.le_of_ble_eq_true rfl) ⟨_, _, _, rfl, o_572⟩ (Nat.le_of_ble_eq_true rfl) (c139 (M := M) (d + 5) (N := 6) i_596 hw hw6 (by decide)) rfl ?_
  rintro v M2 ⟨rfl, hFM2, hrM2⟩
  have h6M2 : M2.1 572 6 = ((k + 1 : Nat) : Int) := by rw [hFM2.1 572 (by decide)]; exact h6
  refine x_ld 0 1 2 10 rfl rfl rfl rfl rfl ?_
  refine x_ld 0 1 2 11 rfl rfl rfl rfl rfl ?_
  refine g_572_6 271 14 rfl rfl h6M2 rfl ?_
  refine x_cst (zi 1) 1 15 rfl rfl rfl ?_
  refine z_sub 16 rfl rfl ?_
  rw [show ((k + 1 : Nat) : Int) - 1 = ((k : Nat) : Int) from (by omega)]
  refine x_cst (zi 0) 1 17 rfl rfl rfl ?_
  refine x_ld 0 1 2 18 rfl rfl rfl rfl rfl ?_
  refine x_ld 1 1 0 19 rfl rfl rfl rfl rfl ?_
  refine x_cv 221 125 22 [.ref 572, zi ((tx_num w : Nat) : Int)] rfl rfl rfl (Nat.le_of_ble_eq_true rfl) rfl rfl (Nat.le_of_ble_eq_true rfl) ⟨_, _, _, rfl, o_572⟩ (Nat.le_of_ble_eq_true rfl) (c125 (M := M2) (d + 6) hw hw6) rfl ?_
  refine x_ce 348 140 25 [.ref 572, zi ((k : Nat) : Int), zi 0, zi ((w.length : Nat) : Int)] rfl rfl rfl (Nat.le_of_ble_eq_true rfl) rfl rfl (Nat.le_of_ble_eq_true rfl) ⟨_, _, _, rfl, o_572⟩ (Nat.le_of_ble_eq_true rfl) (c140 (M := M2) (d + 2) (mdl_i hm (Fzi_F1 (by decide) hFM2)) (by omega) hw hw6 ms (f := 0) (by omega) hrM2 hsl) rfl ?_
  rintro v M3 ⟨rfl, hF3, h52, hr3⟩
  refine x_ld 0 1 2 26 rfl rfl rfl rfl rfl ?_
  refine x_ld 0 1 2 27 rfl rfl rfl rfl rfl ?_
  refine g_572_51 120 30 rfl rfl rfl ?_
  refine x_cst (zi 0) 1 31 rfl rfl rfl ?_
  refine x_ld 0 1 2 32 rfl rfl rfl rfl rfl ?_
  refine g_572_52 284 35 rfl rfl h52 rfl ?_
  refine x_cv 274 144 38 [.ref 572, .ref 607, zi 0, zi (((sem_sh (pgo ps) k w).length : Nat) : Int)] rfl rfl rfl (Nat.le_of_ble_eq_true rfl) rfl rfl (Nat.le_of_ble_eq_true rfl) ⟨_, _, _, rfl, o_572⟩ (Nat.le_of_ble_eq_true rfl) (c144 (M := M3) (d + 6) (s := 0) i_607 hsL hr3 (by omega)) rfl ?_
  refine x_ret rfl rfl rfl rfl ?_
  exact ⟨_, M3, rfl, rfl, rfl, Fzi_trans (Fzi_F1 (by decide) hFM2) (Fzi_Fs hF3)⟩
theorem c131_n (d : Nat) {x : Int} (hx : rg x) (h5 : M.1 572 5 = 0) : ab_S (pg_G L xs) (d + 12) 131 [.ref 572, zi x] (hp M ++ es) (some (zi 0)) (hp (sI M 572 2 1) ++ es) := by
  show ab_W (pg_G L xs) (ab_X (pg_G L xs) (d + 11)) 131 _ 0 [some (.ref 572), some (zi x)] [] (hp M ++ es)
  refine x_ld 0 1 2 1 rfl rfl rfl rfl rfl ?_
  refine x_ld 0 1 2 2 rfl rfl rfl rfl rfl ?_
  refine g_572_5 267 5 rfl rfl h5 rfl ?_
  refine x_ld 1 1 0 6 rfl rfl rfl rfl rfl ?_
  refine z_ifeq 14 9 rfl rfl rfl hx (fun c6 => ?_) (fun c6 => ?_)
  · refine x_cst (zi 1) 1 15 rfl rfl rfl ?_
    refine x_go 19 rfl rfl ?_
    refine x_cv 361 132 22 [.ref 572, zi 0, zi 1] rfl rfl rfl (Nat.le_of_ble_eq_true rfl) rfl rfl (Nat.le_of_ble_eq_true rfl) ⟨_, _, _, rfl, o_572⟩ (Nat.le_of_ble_eq_true rfl) (c132_n (M := M) (d + 10)) rfl ?_
    refine z_ifeq 27 25 rfl rfl rfl (rg_lit 1 rfl) (fun c => absurd c (by decide)) (fun _ => ?_)
    refine x_cst (zi 0) 1 26 rfl rfl rfl ?_
    refine x_ret rfl rfl rfl rfl ?_
    exact ⟨rfl, rfl⟩
  · refine x_ld 1 1 0 10 rfl rfl rfl rfl rfl ?_
    refine x_cst (zi 1) 1 11 rfl rfl rfl ?_
    refine z_icne 18 14 rfl rfl rfl hx (rg_lit 1 rfl) (fun c11 => ?_) (fun c11 => ?_)
    · refine x_cst (zi 0) 1 19 rfl rfl rfl ?_
      refine x_cv 361 132 22 [.ref 572, zi 0, zi 0] rfl rfl rfl (Nat.le_of_ble_eq_true rfl) rfl rfl (Nat.le_of_ble_eq_true rfl) ⟨_, _, _, rfl, o_572⟩ (Nat.le_of_ble_eq_true rfl) (c132_n (M := M) (d + 10)) rfl ?_
      refine z_ifeq 27 25 rfl rfl rfl (rg_lit 1 rfl) (fun c => absurd c (by decide)) (fun _ => ?_)
      refine x_cst (zi 0) 1 26 rfl rfl rfl ?_
      refine x_ret rfl rfl rfl rfl ?_
      exact ⟨rfl, rfl⟩
    · refine x_cst (zi 1) 1 15 rfl rfl rfl ?_
      refine x_go 19 rfl rfl ?_
      refine x_cv 361 132 22 [.ref 572, zi 0, zi 1] rfl rfl rfl (Nat.le_of_ble_eq_true rfl) rfl rfl (Nat.le_of_ble_eq_true rfl) ⟨_, _, _, rfl, o_572⟩ (Nat.le_of_ble_eq_true rfl) (c132_n (M := M) (d + 10)) rfl ?_
      refine z_ifeq 27 25 rfl rfl rfl (rg_lit 1 rfl) (fun c => absurd c (by decide)) (fun _ => ?_)
      refine x_cst (zi 0) 1 26 rfl rfl rfl ?_
      refine x_ret rfl rfl rfl rfl ?_
      exact ⟨rfl, rfl⟩
theorem c134_n (d : Nat) {x : Int} (hx : rg x) (h5 : M.1 572 5 = 0) : ab_S (pg_G L xs) (d + 12) 134 [.ref 572, zi x] (hp M ++ es) (some (zi 0)) (hp (sI M 572 2 1) ++ es) := by
  show ab_W (pg_G L xs) (ab_X (pg_G L xs) (d + 11)) 134 _ 0 [some (.ref 572), some (zi x)] [] (hp M ++ es)
  refine x_ld 0 1 2 1 rfl rfl rfl rfl rfl ?_
  refine x_ld 0 1 2 2 rfl rfl rfl rfl rfl ?_
  refine g_572_5 267 5 rfl rfl h5 rfl ?_
  refine x_ld 1 1 0 6 rfl rfl rfl rfl rfl ?_
  refine x_cv 369 135 9 [zi x] rfl rfl rfl (Nat.le_of_ble_eq_true rfl) rfl rfl (Nat.le_of_ble_eq_true rfl) trivial (Nat.le_of_ble_eq_true rfl) (c135 (M := M) (d + 10) hx) rfl ?_
  refine x_cv 361 132 12 [.ref 572, zi 0, zi (if 0 ≤ x ∧ x < 1093 then 1 else 0)] rfl rfl rfl (Nat.le_of_ble_eq_true rfl) rfl rfl (Nat.le_of_ble_eq_true rfl) ⟨_, _, _, rfl, o_572⟩ (Nat.le_of_ble_eq_true rfl) (c132_n (M := M) (d + 10)) rfl ?_
  refine z_ifne 36 15 rfl rfl rfl (rg_lit 1 rfl) (fun _ => ?_) (fun c => absurd c (by decide))
  refine x_cst (zi 0) 1 37 rfl rfl rfl ?_
  refine x_ret rfl rfl rfl rfl ?_
  exact ⟨rfl, rfl⟩
theorem c136_n (d : Nat) {x : Int} (hx : rg x) (h5 : M.1 572 5 = 0) : ab_S (pg_G L xs) (d + 12) 136 [.ref 572, zi x] (hp M ++ es) (some (zi 0)) (hp (sI M 572 2 1) ++ es) := by
  show ab_W (pg_G L xs) (ab_X (pg_G L xs) (d + 11)) 136 _ 0 [some (.ref 572), some (zi x)] [] (hp M ++ es)
  refine x_ld 0 1 2 1 rfl rfl rfl rfl rfl ?_
  refine x_ld 0 1 2 2 rfl rfl rfl rfl rfl ?_
  refine g_572_5 267 5 rfl rfl h5 rfl ?_
  refine x_ld 1 1 0 6 rfl rfl rfl rfl rfl ?_
  refine x_cv 369 135 9 [zi x] rfl rfl rfl (Nat.le_of_ble_eq_true rfl) rfl rfl (Nat.le_of_ble_eq_true rfl) trivial (Nat.le_of_ble_eq_true rfl) (c135 (M := M) (d + 10) hx) rfl ?_
  refine x_cv 361 132 12 [.ref 572, zi 0, zi (if 0 ≤ x ∧ x < 1093 then 1 else 0)] rfl rfl rfl (Nat.le_of_ble_eq_true rfl) rfl rfl (Nat.le_of_ble_eq_true rfl) ⟨_, _, _, rfl, o_572⟩ (Nat.le_of_ble_eq_true rfl) (c132_n (M := M) (d + 10)) rfl ?_
  refine z_ifne 36 15 rfl rfl rfl (rg_lit 1 rfl) (fun _ => ?_) (fun c => absurd c (by decide))
  refine x_cst (zi 0) 1 37 rfl rfl rfl ?_
  refine x_ret rfl rfl rfl rfl ?_
  exact ⟨rfl, rfl⟩
theorem c137_n (d : Nat) {x : Int} (hx : rg x) (h5 : M.1 572 5 = 0) : ab_S (pg_G L xs) (d + 12) 137 [.ref 572, zi x] (hp M ++ es) (some (zi 0)) (hp (sI M 572 2 1) ++ es) := by
  show ab_W (pg_G L xs) (ab_X (pg_G L xs) (d + 11)) 137 _ 0 [some (.ref 572), some (zi x)] [] (hp M ++ es)
  refine x_ld 0 1 2 1 rfl rfl rfl rfl rfl ?_
  refine x_ld 0 1 2 2 rfl rfl rfl rfl rfl ?_
  refine g_572_5 267 5 rfl rfl h5 rfl ?_
  refine x_ld 1 1 0 6 rfl rfl rfl rfl rfl ?_
  refine x_cv 369 135 9 [zi x] rfl rfl rfl (Nat.le_of_ble_eq_true rfl) rfl rfl (Nat.le_of_ble_eq_true rfl) trivial (Nat.le_of_ble_eq_true rfl) (c135 (M := M) (d + 10) hx) rfl ?_
  refine x_cv 361 132 12 [.ref 572, zi 0, zi (if 0 ≤ x ∧ x < 1093 then 1 else 0)] rfl rfl rfl (Nat.le_of_ble_eq_true rfl) rfl rfl (Nat.le_of_ble_eq_true rfl) ⟨_, _, _, rfl, o_572⟩ (Nat.le_of_ble_eq_true rfl) (c132_n (M := M) (d + 10)) rfl ?_
  refine z_ifeq 17 15 rfl rfl rfl (rg_lit 1 rfl) (fun c => absurd c (by decide)) (fun _ => ?_)
  refine x_cst (zi 0) 1 16 rfl rfl rfl ?_
  refine x_ret rfl rfl rfl rfl ?_
  exact ⟨rfl, rfl⟩
theorem c148_n (d : Nat) {x : Int} (hx : rg x) (h5 : M.1 572 5 = 0) : ab_S (pg_G L xs) (d + 12) 148 [.ref 572, zi x] (hp M ++ es) (some (zi 0)) (hp (sI M 572 2 1) ++ es) := by
  show ab_W (pg_G L xs) (ab_X (pg_G L xs) (d + 11)) 148 _ 0 [some (.ref 572), some (zi x), none] [] (hp M ++ es)
  refine x_ld 0 1 2 1 rfl rfl rfl rfl rfl ?_
  refine x_ld 0 1 2 2 rfl rfl rfl rfl rfl ?_
  refine g_572_5 267 5 rfl rfl h5 rfl ?_
  refine x_ld 1 1 0 6 rfl rfl rfl rfl rfl ?_
  refine x_cv 369 135 9 [zi x] rfl rfl rfl (Nat.le_of_ble_eq_true rfl) rfl rfl (Nat.le_of_ble_eq_true rfl) trivial (Nat.le_of_ble_eq_true rfl) (c135 (M := M) (d + 10) hx) rfl ?_
  refine x_cv 361 132 12 [.ref 572, zi 0, zi (if 0 ≤ x ∧ x < 1093 then 1 else 0)] rfl rfl rfl (Nat.le_of_ble_eq_true rfl) rfl rfl (Nat.le_of_ble_eq_true rfl) ⟨_, _, _, rfl, o_572⟩ (Nat.le_of_ble_eq_true rfl) (c132_n (M := M) (d + 10)) rfl ?_
  refine z_ifeq 17 15 rfl rfl rfl (rg_lit 1 rfl) (fun c => absurd c (by decide)) (fun _ => ?_)
  refine x_cst (zi 0) 1 16 rfl rfl rfl ?_
  refine x_ret rfl rfl rfl rfl ?_
  exact ⟨rfl, rfl⟩
theorem c149_n (d : Nat) {x : Int} (hx : rg x) (h5 : M.1 572 5 = 0) : ab_S (pg_G L xs) (d + 12) 149 [.ref 572, zi x] (hp M ++ es) (some (zi 0)) (hp (sI M 572 2 1) ++ es) := by
  show ab_W (pg_G L xs) (ab_X (pg_G L xs) (d + 11)) 149 _ 0 [some (.ref 572), some (zi x), none] [] (hp M ++ es)
  refine x_ld 0 1 2 1 rfl rfl rfl rfl rfl ?_
  refine x_ld 0 1 2 2 rfl rfl rfl rfl rfl ?_
  refine g_572_5 267 5 rfl rfl h5 rfl ?_
  refine z_ifeq 19 8 rfl rfl rfl (rg_lit 0 rfl) (fun _ => ?_) (fun c => absurd c (by decide))
  refine x_cst (zi 0) 1 20 rfl rfl rfl ?_
  refine x_ld 1 1 0 21 rfl rfl rfl rfl rfl ?_
  refine x_cv 369 135 24 [zi x] rfl rfl rfl (Nat.le_of_ble_eq_true rfl) rfl rfl (Nat.le_of_ble_eq_true rfl) trivial (Nat.le_of_ble_eq_true rfl) (c135 (M := M) (d + 10) hx) rfl ?_
  refine x_cv 361 132 27 [.ref 572, zi 0, zi (if 0 ≤ x ∧ x < 1093 then 1 else 0)] rfl rfl rfl (Nat.le_of_ble_eq_true rfl) rfl rfl (Nat.le_of_ble_eq_true rfl) ⟨_, _, _, rfl, o_572⟩ (Nat.le_of_ble_eq_true rfl) (c132_n (M := M) (d + 10)) rfl ?_
  refine z_ifeq 32 30 rfl rfl rfl (rg_lit 1 rfl) (fun c => absurd c (by decide)) (fun _ => ?_)
  refine x_cst (zi 0) 1 31 rfl rfl rfl ?_
  refine x_ret rfl rfl rfl rfl ?_
  exact ⟨rfl, rfl⟩
theorem c162_n (d : Nat) {x : Int} (hx : rg x) (h5 : M.1 572 5 = 0) : ab_S (pg_G L xs) (d + 12) 162 [.ref 572, zi x] (hp M ++ es) (some (zi 0)) (hp (sI M 572 2 1) ++ es) := by
  show ab_W (pg_G L xs) (ab_X (pg_G L xs) (d + 11)) 162 _ 0 [some (.ref 572), some (zi x)] [] (hp M ++ es)
  refine x_ld 0 1 2 1 rfl rfl rfl rfl rfl ?_
  refine x_ld 0 1 2 2 rfl rfl rfl rfl rfl ?_
  refine g_572_5 267 5 rfl rfl h5 rfl ?_
  refine x_ld 1 1 0 6 rfl rfl rfl rfl rfl ?_
  refine x_cv 369 135 9 [zi x] rfl rfl rfl (Nat.le_of_ble_eq_true rfl) rfl rfl (Nat.le_of_ble_eq_true rfl) trivial (Nat.le_of_ble_eq_true rfl) (c135 (M := M) (d + 10) hx) rfl ?_
  refine x_cv 361 132 12 [.ref 572, zi 0, zi (if 0 ≤ x ∧ x < 1093 then 1 else 0)] rfl rfl rfl (Nat.le_of_ble_eq_true rfl) rfl rfl (Nat.le_of_ble_eq_true rfl) ⟨_, _, _, rfl, o_572⟩ (Nat.le_of_ble_eq_true rfl) (c132_n (M := M) (d + 10)) rfl ?_
  refine z_ifeq 17 15 rfl rfl rfl (rg_lit 1 rfl) (fun c => absurd c (by decide)) (fun _ => ?_)
  refine x_cst (zi 0) 1 16 rfl rfl rfl ?_
  refine x_ret rfl rfl rfl rfl ?_
  exact ⟨rfl, rfl⟩
theorem c164_n (d : Nat) {x : Int} (hx : rg x) (h5 : M.1 572 5 = 0) : ab_S (pg_G L xs) (d + 12) 164 [.ref 572, zi x] (hp M ++ es) (some (zi 0)) (hp (sI M 572 2 1) ++ es) := by
  show ab_W (pg_G L xs) (ab_X (pg_G L xs) (d + 11)) 164 _ 0 [some (.ref 572), some (zi x)] [] (hp M ++ es)
  refine x_ld 0 1 2 1 rfl rfl rfl rfl rfl ?_
  refine x_ld 0 1 2 2 rfl rfl rfl rfl rfl ?_
  refine g_572_5 267 5 rfl rfl h5 rfl ?_
  refine x_ld 1 1 0 6 rfl rfl rfl rfl rfl ?_
  refine x_cv 369 135 9 [zi x] rfl rfl rfl (Nat.le_of_ble_eq_true rfl) rfl rfl (Nat.le_of_ble_eq_true rfl) trivial (Nat.le_of_ble_eq_true rfl) (c135 (M := M) (d + 10) hx) rfl ?_
  refine x_cv 361 132 12 [.ref 572, zi 0, zi (if 0 ≤ x ∧ x < 1093 then 1 else 0)] rfl rfl rfl (Nat.le_of_ble_eq_true rfl) rfl rfl (Nat.le_of_ble_eq_true rfl) ⟨_, _, _, rfl, o_572⟩ (Nat.le_of_ble_eq_true rfl) (c132_n (M := M) (d + 10)) rfl ?_
  refine z_ifeq 17 15 rfl rfl rfl (rg_lit 1 rfl) (fun c => absurd c (by decide)) (fun _ => ?_)
  refine x_cst (zi 0) 1 16 rfl rfl rfl ?_
  refine x_ret rfl rfl rfl rfl ?_
  exact ⟨rfl, rfl⟩
theorem c165_n (d : Nat) (h5 : M.1 572 5 = 0) : ab_S (pg_G L xs) (d + 12) 165 [.ref 572] (hp M ++ es) (some (zi 0)) (hp (sI M 572 2 1) ++ es) := by
  show ab_W (pg_G L xs) (ab_X (pg_G L xs) (d + 11)) 165 _ 0 [some (.ref 572), none] [] (hp M ++ es)
  refine x_ld 0 1 2 1 rfl rfl rfl rfl rfl ?_
  refine x_ld 0 1 2 2 rfl rfl rfl rfl rfl ?_
  refine g_572_5 267 5 rfl rfl h5 rfl ?_
  refine x_cst (zi 1) 1 6 rfl rfl rfl ?_
  refine x_cv 361 132 9 [.ref 572, zi 0, zi 1] rfl rfl rfl (Nat.le_of_ble_eq_true rfl) rfl rfl (Nat.le_of_ble_eq_true rfl) ⟨_, _, _, rfl, o_572⟩ (Nat.le_of_ble_eq_true rfl) (c132_n (M := M) (d + 10)) rfl ?_
  refine z_ifeq 14 12 rfl rfl rfl (rg_lit 1 rfl) (fun c => absurd c (by decide)) (fun _ => ?_)
  refine x_cst (zi 0) 1 13 rfl rfl rfl ?_
  refine x_ret rfl rfl rfl rfl ?_
  exact ⟨rfl, rfl⟩
theorem c166_n (d : Nat) (h5 : M.1 572 5 = 0) : ab_S (pg_G L xs) (d + 12) 166 [.ref 572] (hp M ++ es) (some (zi 0)) (hp (sI M 572 2 1) ++ es) := by
  show ab_W (pg_G L xs) (ab_X (pg_G L xs) (d + 11)) 166 _ 0 [some (.ref 572), none] [] (hp M ++ es)
  refine x_ld 0 1 2 1 rfl rfl rfl rfl rfl ?_
  refine x_ld 0 1 2 2 rfl rfl rfl rfl rfl ?_
  refine g_572_5 267 5 rfl rfl h5 rfl ?_
  refine z_ifeq 19 8 rfl rfl rfl (rg_lit 0 rfl) (fun _ => ?_) (fun c => absurd c (by decide))
  refine x_cst (zi 0) 1 20 rfl rfl rfl ?_
  refine x_cst (zi 1) 1 21 rfl rfl rfl ?_
  refine x_cv 361 132 24 [.ref 572, zi 0, zi 1] rfl rfl rfl (Nat.le_of_ble_eq_true rfl) rfl rfl (Nat.le_of_ble_eq_true rfl) ⟨_, _, _, rfl, o_572⟩ (Nat.le_of_ble_eq_true rfl) (c132_n (M := M) (d + 10)) rfl ?_
  refine z_ifeq 29 27 rfl rfl rfl (rg_lit 1 rfl) (fun c => absurd c (by decide)) (fun _ => ?_)
  refine x_cst (zi 0) 1 28 rfl rfl rfl ?_
  refine x_ret rfl rfl rfl rfl ?_
  exact ⟨rfl, rfl⟩
theorem c134_b (d : Nat) {x : Int} (hx : rg x) (h5 : M.1 572 5 = 1) (hb : ¬ (0 ≤ x ∧ x < 1093)) : ab_S (pg_G L xs) (d + 12) 134 [.ref 572, zi x] (hp M ++ es) (some (zi 0)) (hp (sI M 572 2 2) ++ es) := by
  show ab_W (pg_G L xs) (ab_X (pg_G L xs) (d + 11)) 134 _ 0 [some (.ref 572), some (zi x)] [] (hp M ++ es)
  refine x_ld 0 1 2 1 rfl rfl rfl rfl rfl ?_
  refine x_ld 0 1 2 2 rfl rfl rfl rfl rfl ?_
  refine g_572_5 267 5 rfl rfl h5 rfl ?_
  refine x_ld 1 1 0 6 rfl rfl rfl rfl rfl ?_
  refine x_cv 369 135 9 [zi x] rfl rfl rfl (Nat.le_of_ble_eq_true rfl) rfl rfl (Nat.le_of_ble_eq_true rfl) trivial (Nat.le_of_ble_eq_true rfl) (c135_f (M := M) (d + 10) hx hb) rfl ?_
  refine x_cv 361 132 12 [.ref 572, zi 1, zi 0] rfl rfl rfl (Nat.le_of_ble_eq_true rfl) rfl rfl (Nat.le_of_ble_eq_true rfl) ⟨_, _, _, rfl, o_572⟩ (Nat.le_of_ble_eq_true rfl) (c132_b (M := M) (d + 10)) rfl ?_
  refine z_ifne 36 15 rfl rfl rfl (rg_lit 1 rfl) (fun _ => ?_) (fun c => absurd c (by decide))
  refine x_cst (zi 0) 1 37 rfl rfl rfl ?_
  refine x_ret rfl rfl rfl rfl ?_
  exact ⟨rfl, rfl⟩
theorem c136_b (d : Nat) {x : Int} (hx : rg x) (h5 : M.1 572 5 = 1) (hb : ¬ (0 ≤ x ∧ x < 1093)) : ab_S (pg_G L xs) (d + 12) 136 [.ref 572, zi x] (hp M ++ es) (some (zi 0)) (hp (sI M 572 2 2) ++ es) := by
  show ab_W (pg_G L xs) (ab_X (pg_G L xs) (d + 11)) 136 _ 0 [some (.ref 572), some (zi x)] [] (hp M ++ es)
  refine x_ld 0 1 2 1 rfl rfl rfl rfl rfl ?_
  refine x_ld 0 1 2 2 rfl rfl rfl rfl rfl ?_
  refine g_572_5 267 5 rfl rfl h5 rfl ?_
  refine x_ld 1 1 0 6 rfl rfl rfl rfl rfl ?_
  refine x_cv 369 135 9 [zi x] rfl rfl rfl (Nat.le_of_ble_eq_true rfl) rfl rfl (Nat.le_of_ble_eq_true rfl) trivial (Nat.le_of_ble_eq_true rfl) (c135_f (M := M) (d + 10) hx hb) rfl ?_
  refine x_cv 361 132 12 [.ref 572, zi 1, zi 0] rfl rfl rfl (Nat.le_of_ble_eq_true rfl) rfl rfl (Nat.le_of_ble_eq_true rfl) ⟨_, _, _, rfl, o_572⟩ (Nat.le_of_ble_eq_true rfl) (c132_b (M := M) (d + 10)) rfl ?_
  refine z_ifne 36 15 rfl rfl rfl (rg_lit 1 rfl) (fun _ => ?_) (fun c => absurd c (by decide))
  refine x_cst (zi 0) 1 37 rfl rfl rfl ?_
  refine x_ret rfl rfl rfl rfl ?_
  exact ⟨rfl, rfl⟩
theorem c137_b (d : Nat) {x : Int} (hx : rg x) (h5 : M.1 572 5 = 1) (hb : ¬ (0 ≤ x ∧ x < 1093)) : ab_S (pg_G L xs) (d + 12) 137 [.ref 572, zi x] (hp M ++ es) (some (zi 0)) (hp (sI M 572 2 2) ++ es) := by
  show ab_W (pg_G L xs) (ab_X (pg_G L xs) (d + 11)) 137 _ 0 [some (.ref 572), some (zi x)] [] (hp M ++ es)
  refine x_ld 0 1 2 1 rfl rfl rfl rfl rfl ?_
  refine x_ld 0 1 2 2 rfl rfl rfl rfl rfl ?_
  refine g_572_5 267 5 rfl rfl h5 rfl ?_
  refine x_ld 1 1 0 6 rfl rfl rfl rfl rfl ?_
  refine x_cv 369 135 9 [zi x] rfl rfl rfl (Nat.le_of_ble_eq_true rfl) rfl rfl (Nat.le_of_ble_eq_true rfl) trivial (Nat.le_of_ble_eq_true rfl) (c135_f (M := M) (d + 10) hx hb) rfl ?_
  refine x_cv 361 132 12 [.ref 572, zi 1, zi 0] rfl rfl rfl (Nat.le_of_ble_eq_true rfl) rfl rfl (Nat.le_of_ble_eq_true rfl) ⟨_, _, _, rfl, o_572⟩ (Nat.le_of_ble_eq_true rfl) (c132_b (M := M) (d + 10)) rfl ?_
  refine z_ifeq 17 15 rfl rfl rfl (rg_lit 1 rfl) (fun c => absurd c (by decide)) (fun _ => ?_)
  refine x_cst (zi 0) 1 16 rfl rfl rfl ?_
  refine x_ret rfl rfl rfl rfl ?_
  exact ⟨rfl, rfl⟩
theorem c148_b (d : Nat) {x : Int} (hx : rg x) (h5 : M.1 572 5 = 1) (hb : ¬ (0 ≤ x ∧ x < 1093)) : ab_S (pg_G L xs) (d + 12) 148 [.ref 572, zi x] (hp M ++ es) (some (zi 0)) (hp (sI M 572 2 2) ++ es) := by
  show ab_W (pg_G L xs) (ab_X (pg_G L xs) (d + 11)) 148 _ 0 [some (.ref 572), some (zi x), none] [] (hp M ++ es)
  refine x_ld 0 1 2 1 rfl rfl rfl rfl rfl ?_
  refine x_ld 0 1 2 2 rfl rfl rfl rfl rfl ?_
  refine g_572_5 267 5 rfl rfl h5 rfl ?_
  refine x_ld 1 1 0 6 rfl rfl rfl rfl rfl ?_
  refine x_cv 369 135 9 [zi x] rfl rfl rfl (Nat.le_of_ble_eq_true rfl) rfl rfl (Nat.le_of_ble_eq_true rfl) trivial (Nat.le_of_ble_eq_true rfl) (c135_f (M := M) (d + 10) hx hb) rfl ?_
  refine x_cv 361 132 12 [.ref 572, zi 1, zi 0] rfl rfl rfl (Nat.le_of_ble_eq_true rfl) rfl rfl (Nat.le_of_ble_eq_true rfl) ⟨_, _, _, rfl, o_572⟩ (Nat.le_of_ble_eq_true rfl) (c132_b (M := M) (d + 10)) rfl ?_
  refine z_ifeq 17 15 rfl rfl rfl (rg_lit 1 rfl) (fun c => absurd c (by decide)) (fun _ => ?_)
  refine x_cst (zi 0) 1 16 rfl rfl rfl ?_
  refine x_ret rfl rfl rfl rfl ?_
  exact ⟨rfl, rfl⟩
theorem c162_b (d : Nat) {x : Int} (hx : rg x) (h5 : M.1 572 5 = 1) (hb : ¬ (0 ≤ x ∧ x < 1093)) : ab_S (pg_G L xs) (d + 12) 162 [.ref 572, zi x] (hp M ++ es) (some (zi 0)) (hp (sI M 572 2 2) ++ es) := by
  show ab_W (pg_G L xs) (ab_X (pg_G L xs) (d + 11)) 162 _ 0 [some (.ref 572), some (zi x)] [] (hp M ++ es)
  refine x_ld 0 1 2 1 rfl rfl rfl rfl rfl ?_
  refine x_ld 0 1 2 2 rfl rfl rfl rfl rfl ?_
  refine g_572_5 267 5 rfl rfl h5 rfl ?_
  refine x_ld 1 1 0 6 rfl rfl rfl rfl rfl ?_
  refine x_cv 369 135 9 [zi x] rfl rfl rfl (Nat.le_of_ble_eq_true rfl) rfl rfl (Nat.le_of_ble_eq_true rfl) trivial (Nat.le_of_ble_eq_true rfl) (c135_f (M := M) (d + 10) hx hb) rfl ?_
  refine x_cv 361 132 12 [.ref 572, zi 1, zi 0] rfl rfl rfl (Nat.le_of_ble_eq_true rfl) rfl rfl (Nat.le_of_ble_eq_true rfl) ⟨_, _, _, rfl, o_572⟩ (Nat.le_of_ble_eq_true rfl) (c132_b (M := M) (d + 10)) rfl ?_
  refine z_ifeq 17 15 rfl rfl rfl (rg_lit 1 rfl) (fun c => absurd c (by decide)) (fun _ => ?_)
  refine x_cst (zi 0) 1 16 rfl rfl rfl ?_
  refine x_ret rfl rfl rfl rfl ?_
  exact ⟨rfl, rfl⟩
theorem c164_b (d : Nat) {x : Int} (hx : rg x) (h5 : M.1 572 5 = 1) (hb : ¬ (0 ≤ x ∧ x < 1093)) : ab_S (pg_G L xs) (d + 12) 164 [.ref 572, zi x] (hp M ++ es) (some (zi 0)) (hp (sI M 572 2 2) ++ es) := by
  show ab_W (pg_G L xs) (ab_X (pg_G L xs) (d + 11)) 164 _ 0 [some (.ref 572), some (zi x)] [] (hp M ++ es)
  refine x_ld 0 1 2 1 rfl rfl rfl rfl rfl ?_
  refine x_ld 0 1 2 2 rfl rfl rfl rfl rfl ?_
  refine g_572_5 267 5 rfl rfl h5 rfl ?_
  refine x_ld 1 1 0 6 rfl rfl rfl rfl rfl ?_
  refine x_cv 369 135 9 [zi x] rfl rfl rfl (Nat.le_of_ble_eq_true rfl) rfl rfl (Nat.le_of_ble_eq_true rfl) trivial (Nat.le_of_ble_eq_true rfl) (c135_f (M := M) (d + 10) hx hb) rfl ?_
  refine x_cv 361 132 12 [.ref 572, zi 1, zi 0] rfl rfl rfl (Nat.le_of_ble_eq_true rfl) rfl rfl (Nat.le_of_ble_eq_true rfl) ⟨_, _, _, rfl, o_572⟩ (Nat.le_of_ble_eq_true rfl) (c132_b (M := M) (d + 10)) rfl ?_
  refine z_ifeq 17 15 rfl rfl rfl (rg_lit 1 rfl) (fun c => absurd c (by decide)) (fun _ => ?_)
  refine x_cst (zi 0) 1 16 rfl rfl rfl ?_
  refine x_ret rfl rfl rfl rfl ?_
  exact ⟨rfl, rfl⟩
theorem c131_b (d : Nat) {x : Int} (hx : rg x) (h5 : M.1 572 5 = 1) (hx0 : x ≠ 0) (hx1 : x ≠ 1) : ab_S (pg_G L xs) (d + 12) 131 [.ref 572, zi x] (hp M ++ es) (some (zi 0)) (hp (sI M 572 2 2) ++ es) := by
  show ab_W (pg_G L xs) (ab_X (pg_G L xs) (d + 11)) 131 _ 0 [some (.ref 572), some (zi x)] [] (hp M ++ es)
  refine x_ld 0 1 2 1 rfl rfl rfl rfl rfl ?_
  refine x_ld 0 1 2 2 rfl rfl rfl rfl rfl ?_
  refine g_572_5 267 5 rfl rfl h5 rfl ?_
  refine x_ld 1 1 0 6 rfl rfl rfl rfl rfl ?_
  refine z_ifeq 14 9 rfl rfl rfl hx (fun c => absurd c hx0) (fun _ => ?_)
  refine x_ld 1 1 0 10 rfl rfl rfl rfl rfl ?_
  refine x_cst (zi 1) 1 11 rfl rfl rfl ?_
  refine z_icne 18 14 rfl rfl rfl hx (rg_lit 1 rfl) (fun _ => ?_) (fun c => absurd c hx1)
  refine x_cst (zi 0) 1 19 rfl rfl rfl ?_
  refine x_cv 361 132 22 [.ref 572, zi 1, zi 0] rfl rfl rfl (Nat.le_of_ble_eq_true rfl) rfl rfl (Nat.le_of_ble_eq_true rfl) ⟨_, _, _, rfl, o_572⟩ (Nat.le_of_ble_eq_true rfl) (c132_b (M := M) (d + 10)) rfl ?_
  refine z_ifeq 27 25 rfl rfl rfl (rg_lit 1 rfl) (fun c => absurd c (by decide)) (fun _ => ?_)
  refine x_cst (zi 0) 1 26 rfl rfl rfl ?_
  refine x_ret rfl rfl rfl rfl ?_
  exact ⟨rfl, rfl⟩
theorem c149_k (d : Nat) {x : Int} (hx : rg x) (h5 : M.1 572 5 = 1) (h32 : M.1 572 32 = -1) : ab_S (pg_G L xs) (d + 12) 149 [.ref 572, zi x] (hp M ++ es) (some (zi 0)) (hp (sI M 572 2 1) ++ es) := by
  show ab_W (pg_G L xs) (ab_X (pg_G L xs) (d + 11)) 149 _ 0 [some (.ref 572), some (zi x), none] [] (hp M ++ es)
  refine x_ld 0 1 2 1 rfl rfl rfl rfl rfl ?_
  refine x_ld 0 1 2 2 rfl rfl rfl rfl rfl ?_
  refine g_572_5 267 5 rfl rfl h5 rfl ?_
  refine z_ifeq 19 8 rfl rfl rfl (rg_lit 1 rfl) (fun c => absurd c (by decide)) (fun _ => ?_)
  refine x_ld 0 1 2 9 rfl rfl rfl rfl rfl ?_
  refine g_572_32 78 12 rfl rfl h32 rfl ?_
  refine z_iflt 19 15 rfl rfl rfl (rg_lit (-1) rfl) (fun _ => ?_) (fun c => absurd c (by decide))
  refine x_cst (zi 0) 1 20 rfl rfl rfl ?_
  refine x_ld 1 1 0 21 rfl rfl rfl rfl rfl ?_
  refine x_cv 369 135 24 [zi x] rfl rfl rfl (Nat.le_of_ble_eq_true rfl) rfl rfl (Nat.le_of_ble_eq_true rfl) trivial (Nat.le_of_ble_eq_true rfl) (c135 (M := M) (d + 10) hx) rfl ?_
  refine x_cv 361 132 27 [.ref 572, zi 0, zi (if 0 ≤ x ∧ x < 1093 then 1 else 0)] rfl rfl rfl (Nat.le_of_ble_eq_true rfl) rfl rfl (Nat.le_of_ble_eq_true rfl) ⟨_, _, _, rfl, o_572⟩ (Nat.le_of_ble_eq_true rfl) (c132_n (M := M) (d + 10)) rfl ?_
  refine z_ifeq 32 30 rfl rfl rfl (rg_lit 1 rfl) (fun c => absurd c (by decide)) (fun _ => ?_)
  refine x_cst (zi 0) 1 31 rfl rfl rfl ?_
  refine x_ret rfl rfl rfl rfl ?_
  exact ⟨rfl, rfl⟩
theorem c149_b (d : Nat) {x : Int} (hx : rg x) (h5 : M.1 572 5 = 1) {s : Nat} (hs : s < 1093) (h32 : M.1 572 32 = (s : Int)) (hb : ¬ (0 ≤ x ∧ x < 1093)) : ab_S (pg_G L xs) (d + 12) 149 [.ref 572, zi x] (hp M ++ es) (some (zi 0)) (hp (sI M 572 2 2) ++ es) := by
  show ab_W (pg_G L xs) (ab_X (pg_G L xs) (d + 11)) 149 _ 0 [some (.ref 572), some (zi x), none] [] (hp M ++ es)
  refine x_ld 0 1 2 1 rfl rfl rfl rfl rfl ?_
  refine x_ld 0 1 2 2 rfl rfl rfl rfl rfl ?_
  refine g_572_5 267 5 rfl rfl h5 rfl ?_
  refine z_ifeq 19 8 rfl rfl rfl (rg_lit 1 rfl) (fun c => absurd c (by decide)) (fun _ => ?_)
  refine x_ld 0 1 2 9 rfl rfl rfl rfl rfl ?_
  refine g_572_32 78 12 rfl rfl h32 rfl ?_
  refine z_iflt 19 15 rfl rfl rfl ⟨by omega, by omega⟩ (fun c => absurd c (by omega)) (fun _ => ?_)
  refine x_cst (zi 1) 1 16 rfl rfl rfl ?_
  refine x_go 20 rfl rfl ?_
  refine x_ld 1 1 0 21 rfl rfl rfl rfl rfl ?_
  refine x_cv 369 135 24 [zi x] rfl rfl rfl (Nat.le_of_ble_eq_true rfl) rfl rfl (Nat.le_of_ble_eq_true rfl) trivial (Nat.le_of_ble_eq_true rfl) (c135_f (M := M) (d + 10) hx hb) rfl ?_
  refine x_cv 361 132 27 [.ref 572, zi 1, zi 0] rfl rfl rfl (Nat.le_of_ble_eq_true rfl) rfl rfl (Nat.le_of_ble_eq_true rfl) ⟨_, _, _, rfl, o_572⟩ (Nat.le_of_ble_eq_true rfl) (c132_b (M := M) (d + 10)) rfl ?_
  refine z_ifeq 32 30 rfl rfl rfl (rg_lit 1 rfl) (fun c => absurd c (by decide)) (fun _ => ?_)
  refine x_cst (zi 0) 1 31 rfl rfl rfl ?_
  refine x_ret rfl rfl rfl rfl ?_
  exact ⟨rfl, rfl⟩
theorem c166_m (d : Nat) (h5 : M.1 572 5 = 1) (h34 : M.1 572 34 = 0) : ab_S (pg_G L xs) (d + 12) 166 [.ref 572] (hp M ++ es) (some (zi 0)) (hp (sI M 572 2 1) ++ es) := by
  show ab_W (pg_G L xs) (ab_X (pg_G L xs) (d + 11)) 166 _ 0 [some (.ref 572), none] [] (hp M ++ es)
  refine x_ld 0 1 2 1 rfl rfl rfl rfl rfl ?_
  refine x_ld 0 1 2 2 rfl rfl rfl rfl rfl ?_
  refine g_572_5 267 5 rfl rfl h5 rfl ?_
  refine z_ifeq 19 8 rfl rfl rfl (rg_lit 1 rfl) (fun c => absurd c (by decide)) (fun _ => ?_)
  refine x_ld 0 1 2 9 rfl rfl rfl rfl rfl ?_
  refine g_572_34 383 12 rfl rfl h34 rfl ?_
  refine z_ifeq 19 15 rfl rfl rfl (rg_lit 0 rfl) (fun _ => ?_) (fun c => absurd c (by decide))
  refine x_cst (zi 0) 1 20 rfl rfl rfl ?_
  refine x_cst (zi 1) 1 21 rfl rfl rfl ?_
  refine x_cv 361 132 24 [.ref 572, zi 0, zi 1] rfl rfl rfl (Nat.le_of_ble_eq_true rfl) rfl rfl (Nat.le_of_ble_eq_true rfl) ⟨_, _, _, rfl, o_572⟩ (Nat.le_of_ble_eq_true rfl) (c132_n (M := M) (d + 10)) rfl ?_
  refine z_ifeq 29 27 rfl rfl rfl (rg_lit 1 rfl) (fun c => absurd c (by decide)) (fun _ => ?_)
  refine x_cst (zi 0) 1 28 rfl rfl rfl ?_
  refine x_ret rfl rfl rfl rfl ?_
  exact ⟨rfl, rfl⟩
theorem c131_0 (d : Nat) {ps : Nat → prt} {k : Nat} (hm : mdl M ps (k + 1)) (h6 : M.1 572 6 = ((k + 1 : Nat) : Int)) (h5 : M.1 572 5 = 1) : ab_S (pg_G L xs) (d + 12) 131 [.ref 572, zi 0] (hp M ++ es) (some (zi ((cnt (sts ps k).1 1093 : Nat) : Int))) (hp (sI M 572 2 0) ++ es) := by
  show ab_W (pg_G L xs) (ab_X (pg_G L xs) (d + 11)) 131 _ 0 [some (.ref 572), some (zi 0)] [] (hp M ++ es)
  refine x_ld 0 1 2 1 rfl rfl rfl rfl rfl ?_
  refine x_ld 0 1 2 2 rfl rfl rfl rfl rfl ?_
  refine g_572_5 267 5 rfl rfl h5 rfl ?_
  refine x_ld 1 1 0 6 rfl rfl rfl rfl rfl ?_
  refine z_ifeq 14 9 rfl rfl rfl (rg_lit 0 rfl) (fun _ => ?_) (fun c => absurd c (by decide))
  refine x_cst (zi 1) 1 15 rfl rfl rfl ?_
  refine x_go 19 rfl rfl ?_
  refine x_cv 361 132 22 [.ref 572, zi 1, zi 1] rfl rfl rfl (Nat.le_of_ble_eq_true rfl) rfl rfl (Nat.le_of_ble_eq_true rfl) ⟨_, _, _, rfl, o_572⟩ (Nat.le_of_ble_eq_true rfl) (c132_o (M := M) (d + 10)) rfl ?_
  refine z_ifeq 27 25 rfl rfl rfl (rg_lit 0 rfl) (fun _ => ?_) (fun c => absurd c (by decide))
  refine x_ld 1 1 0 28 rfl rfl rfl rfl rfl ?_
  refine z_ifne 48 31 rfl rfl rfl (rg_lit 0 rfl) (fun c => absurd c (by decide)) (fun _ => ?_)
  refine x_ld 0 1 2 32 rfl rfl rfl rfl rfl ?_
  refine x_ld 0 1 2 33 rfl rfl rfl rfl rfl ?_
  refine g_572_11 31 36 rfl rfl rfl ?_
  refine x_ld 0 1 2 37 rfl rfl rfl rfl rfl ?_
  refine g_572_6 271 40 rfl rfl ((rd_nk (Ne.symm (by decide))).trans h6) rfl ?_
  refine x_cst (zi 1) 1 41 rfl rfl rfl ?_
  refine z_sub 42 rfl rfl ?_
  rw [show ((k + 1 : Nat) : Int) - 1 = ((k : Nat) : Int) from (by omega)]
  refine x_cv 365 133 45 [.ref 572, .ref 580, zi ((k : Nat) : Int)] rfl rfl rfl (Nat.le_of_ble_eq_true rfl) rfl rfl (Nat.le_of_ble_eq_true rfl) ⟨_, _, _, rfl, o_572⟩ (Nat.le_of_ble_eq_true rfl) (c133s (M := (sI M 572 2 0)) (d + 9) (mdl_f hm) (by omega)) rfl ?_
  refine x_go 62 rfl rfl ?_
  refine x_ret rfl rfl rfl rfl ?_
  exact ⟨rfl, rfl⟩
theorem c131_1 (d : Nat) {ps : Nat → prt} {k : Nat} (hm : mdl M ps (k + 1)) (h6 : M.1 572 6 = ((k + 1 : Nat) : Int)) (h5 : M.1 572 5 = 1) : ab_S (pg_G L xs) (d + 12) 131 [.ref 572, zi 1] (hp M ++ es) (some (zi ((cnt (sts ps k).2 1093 : Nat) : Int))) (hp (sI M 572 2 0) ++ es) := by
  show ab_W (pg_G L xs) (ab_X (pg_G L xs) (d + 11)) 131 _ 0 [some (.ref 572), some (zi 1)] [] (hp M ++ es)
  refine x_ld 0 1 2 1 rfl rfl rfl rfl rfl ?_
  refine x_ld 0 1 2 2 rfl rfl rfl rfl rfl ?_
  refine g_572_5 267 5 rfl rfl h5 rfl ?_
  refine x_ld 1 1 0 6 rfl rfl rfl rfl rfl ?_
  refine z_ifeq 14 9 rfl rfl rfl (rg_lit 1 rfl) (fun c => absurd c (by decide)) (fun _ => ?_)
  refine x_ld 1 1 0 10 rfl rfl rfl rfl rfl ?_
  refine x_cst (zi 1) 1 11 rfl rfl rfl ?_
  refine z_icne 18 14 rfl rfl rfl (rg_lit 1 rfl) (rg_lit 1 rfl) (fun c => absurd c (by decide)) (fun _ => ?_)
  refine x_cst (zi 1) 1 15 rfl rfl rfl ?_
  refine x_go 19 rfl rfl ?_
  refine x_cv 361 132 22 [.ref 572, zi 1, zi 1] rfl rfl rfl (Nat.le_of_ble_eq_true rfl) rfl rfl (Nat.le_of_ble_eq_true rfl) ⟨_, _, _, rfl, o_572⟩ (Nat.le_of_ble_eq_true rfl) (c132_o (M := M) (d + 10)) rfl ?_
  refine z_ifeq 27 25 rfl rfl rfl (rg_lit 0 rfl) (fun _ => ?_) (fun c => absurd c (by decide))
  refine x_ld 1 1 0 28 rfl rfl rfl rfl rfl ?_
  refine z_ifne 48 31 rfl rfl rfl (rg_lit 1 rfl) (fun _ => ?_) (fun c => absurd c (by decide))
  refine x_ld 0 1 2 49 rfl rfl rfl rfl rfl ?_
  refine x_ld 0 1 2 50 rfl rfl rfl rfl rfl ?_
  refine g_572_12 35 53 rfl rfl rfl ?_
  refine x_ld 0 1 2 54 rfl rfl rfl rfl rfl ?_
  refine g_572_6 271 57 rfl rfl ((rd_nk (Ne.symm (by decide))).trans h6) rfl ?_
  refine x_cst (zi 1) 1 58 rfl rfl rfl ?_
  refine z_sub 59 rfl rfl ?_
  rw [show ((k + 1 : Nat) : Int) - 1 = ((k : Nat) : Int) from (by omega)]
  refine x_cv 365 133 62 [.ref 572, .ref 581, zi ((k : Nat) : Int)] rfl rfl rfl (Nat.le_of_ble_eq_true rfl) rfl rfl (Nat.le_of_ble_eq_true rfl) ⟨_, _, _, rfl, o_572⟩ (Nat.le_of_ble_eq_true rfl) (c133v (M := (sI M 572 2 0)) (d + 9) (mdl_f hm) (by omega)) rfl ?_
  refine x_ret rfl rfl rfl rfl ?_
  exact ⟨rfl, rfl⟩
theorem c134_0 (d : Nat) {ps : Nat → prt} {k : Nat} (hm : mdl M ps (k + 1)) (h6 : M.1 572 6 = ((k + 1 : Nat) : Int)) (h5 : M.1 572 5 = 1) {w : List Nat} (hw : tx_L w) (hw6 : w.length ≤ 6) (hb : (sts ps k).1 (tx_num w) = false) : ab_S (pg_G L xs) (d + 12) 134 [.ref 572, zi (tx_num w : Nat)] (hp M ++ es) (some (zi 0)) (hp (sI M 572 2 0) ++ es) := by
  have ht := (tx_six hw).mp hw6
  show ab_W (pg_G L xs) (ab_X (pg_G L xs) (d + 11)) 134 _ 0 [some (.ref 572), some (zi ((tx_num w : Nat) : Int))] [] (hp M ++ es)
  refine x_ld 0 1 2 1 rfl rfl rfl rfl rfl ?_
  refine x_ld 0 1 2 2 rfl rfl rfl rfl rfl ?_
  refine g_572_5 267 5 rfl rfl h5 rfl ?_
  refine x_ld 1 1 0 6 rfl rfl rfl rfl rfl ?_
  refine x_cv 369 135 9 [zi ((tx_num w : Nat) : Int)] rfl rfl rfl (Nat.le_of_ble_eq_true rfl) rfl rfl (Nat.le_of_ble_eq_true rfl) trivial (Nat.le_of_ble_eq_true rfl) (c135_t (M := M) (d + 10) (by omega) (by omega)) rfl ?_
  refine x_cv 361 132 12 [.ref 572, zi 1, zi 1] rfl rfl rfl (Nat.le_of_ble_eq_true rfl) rfl rfl (Nat.le_of_ble_eq_true rfl) ⟨_, _, _, rfl, o_572⟩ (Nat.le_of_ble_eq_true rfl) (c132_o (M := M) (d + 10)) rfl ?_
  refine z_ifne 36 15 rfl rfl rfl (rg_lit 0 rfl) (fun c => absurd c (by decide)) (fun _ => ?_)
  refine x_ld 0 1 2 16 rfl rfl rfl rfl rfl ?_
  refine g_572_11 31 19 rfl rfl rfl ?_
  refine x_ld 0 1 2 20 rfl rfl rfl rfl rfl ?_
  refine g_572_6 271 23 rfl rfl ((rd_nk (Ne.symm (by decide))).trans h6) rfl ?_
  refine x_cst (zi 1) 1 24 rfl rfl rfl ?_
  refine z_sub 25 rfl rfl ?_
  rw [show ((k + 1 : Nat) : Int) - 1 = ((k : Nat) : Int) from (by omega)]
  refine x_ld 1 1 0 26 rfl rfl rfl rfl rfl ?_
  refine x_cv 228 123 29 [.ref 580, zi ((k : Nat) : Int), zi ((tx_num w : Nat) : Int)] rfl rfl rfl (Nat.le_of_ble_eq_true rfl) rfl rfl (Nat.le_of_ble_eq_true rfl) trivial (Nat.le_of_ble_eq_true rfl) (c123s (M := (sI M 572 2 0)) (d + 10) (mdl_f hm) (by omega) (t := tx_num w) (by omega) hb) rfl ?_
  refine z_ifeq 36 32 rfl rfl rfl (rg_lit 0 rfl) (fun _ => ?_) (fun c => absurd c (by decide))
  refine x_cst (zi 0) 1 37 rfl rfl rfl ?_
  refine x_ret rfl rfl rfl rfl ?_
  exact ⟨rfl, rfl⟩
theorem c134_1 (d : Nat) {ps : Nat → prt} {k : Nat} (hm : mdl M ps (k + 1)) (h6 : M.1 572 6 = ((k + 1 : Nat) : Int)) (h5 : M.1 572 5 = 1) {w : List Nat} (hw : tx_L w) (hw6 : w.length ≤ 6) (hb : (sts ps k).1 (tx_num w) = true) : ab_S (pg_G L xs) (d + 12) 134 [.ref 572, zi (tx_num w : Nat)] (hp M ++ es) (some (zi 1)) (hp (sI M 572 2 0) ++ es) := by
  have ht := (tx_six hw).mp hw6
  show ab_W (pg_G L xs) (ab_X (pg_G L xs) (d + 11)) 134 _ 0 [some (.ref 572), some (zi ((tx_num w : Nat) : Int))] [] (hp M ++ es)
  refine x_ld 0 1 2 1 rfl rfl rfl rfl rfl ?_
  refine x_ld 0 1 2 2 rfl rfl rfl rfl rfl ?_
  refine g_572_5 267 5 rfl rfl h5 rfl ?_
  refine x_ld 1 1 0 6 rfl rfl rfl rfl rfl ?_
  refine x_cv 369 135 9 [zi ((tx_num w : Nat) : Int)] rfl rfl rfl (Nat.le_of_ble_eq_true rfl) rfl rfl (Nat.le_of_ble_eq_true rfl) trivial (Nat.le_of_ble_eq_true rfl) (c135_t (M := M) (d + 10) (by omega) (by omega)) rfl ?_
  refine x_cv 361 132 12 [.ref 572, zi 1, zi 1] rfl rfl rfl (Nat.le_of_ble_eq_true rfl) rfl rfl (Nat.le_of_ble_eq_true rfl) ⟨_, _, _, rfl, o_572⟩ (Nat.le_of_ble_eq_true rfl) (c132_o (M := M) (d + 10)) rfl ?_
  refine z_ifne 36 15 rfl rfl rfl (rg_lit 0 rfl) (fun c => absurd c (by decide)) (fun _ => ?_)
  refine x_ld 0 1 2 16 rfl rfl rfl rfl rfl ?_
  refine g_572_11 31 19 rfl rfl rfl ?_
  refine x_ld 0 1 2 20 rfl rfl rfl rfl rfl ?_
  refine g_572_6 271 23 rfl rfl ((rd_nk (Ne.symm (by decide))).trans h6) rfl ?_
  refine x_cst (zi 1) 1 24 rfl rfl rfl ?_
  refine z_sub 25 rfl rfl ?_
  rw [show ((k + 1 : Nat) : Int) - 1 = ((k : Nat) : Int) from (by omega)]
  refine x_ld 1 1 0 26 rfl rfl rfl rfl rfl ?_
  refine x_cv 228 123 29 [.ref 580, zi ((k : Nat) : Int), zi ((tx_num w : Nat) : Int)] rfl rfl rfl (Nat.le_of_ble_eq_true rfl) rfl rfl (Nat.le_of_ble_eq_true rfl) trivial (Nat.le_of_ble_eq_true rfl) (c123s (M := (sI M 572 2 0)) (d + 10) (mdl_f hm) (by omega) (t := tx_num w) (by omega) hb) rfl ?_
  refine z_ifeq 36 32 rfl rfl rfl (rg_lit 1 rfl) (fun c => absurd c (by decide)) (fun _ => ?_)
  refine x_cst (zi 1) 1 33 rfl rfl rfl ?_
  refine x_go 37 rfl rfl ?_
  refine x_ret rfl rfl rfl rfl ?_
  exact ⟨rfl, rfl⟩
theorem c136_0 (d : Nat) {ps : Nat → prt} {k : Nat} (hm : mdl M ps (k + 1)) (h6 : M.1 572 6 = ((k + 1 : Nat) : Int)) (h5 : M.1 572 5 = 1) {w : List Nat} (hw : tx_L w) (hw6 : w.length ≤ 6) (hb : (sts ps k).2 (tx_num w) = false) : ab_S (pg_G L xs) (d + 12) 136 [.ref 572, zi (tx_num w : Nat)] (hp M ++ es) (some (zi 0)) (hp (sI M 572 2 0) ++ es) := by
  have ht := (tx_six hw).mp hw6
  show ab_W (pg_G L xs) (ab_X (pg_G L xs) (d + 11)) 136 _ 0 [some (.ref 572), some (zi ((tx_num w : Nat) : Int))] [] (hp M ++ es)
  refine x_ld 0 1 2 1 rfl rfl rfl rfl rfl ?_
  refine x_ld 0 1 2 2 rfl rfl rfl rfl rfl ?_
  refine g_572_5 267 5 rfl rfl h5 rfl ?_
  refine x_ld 1 1 0 6 rfl rfl rfl rfl rfl ?_
  refine x_cv 369 135 9 [zi ((tx_num w : Nat) : Int)] rfl rfl rfl (Nat.le_of_ble_eq_true rfl) rfl rfl (Nat.le_of_ble_eq_true rfl) trivial (Nat.le_of_ble_eq_true rfl) (c135_t (M := M) (d + 10) (by omega) (by omega)) rfl ?_
  refine x_cv 361 132 12 [.ref 572, zi 1, zi 1] rfl rfl rfl (Nat.le_of_ble_eq_true rfl) rfl rfl (Nat.le_of_ble_eq_true rfl) ⟨_, _, _, rfl, o_572⟩ (Nat.le_of_ble_eq_true rfl) (c132_o (M := M) (d + 10)) rfl ?_
  refine z_ifne 36 15 rfl rfl rfl (rg_lit 0 rfl) (fun c => absurd c (by decide)) (fun _ => ?_)
  refine x_ld 0 1 2 16 rfl rfl rfl rfl rfl ?_
  refine g_572_12 35 19 rfl rfl rfl ?_
  refine x_ld 0 1 2 20 rfl rfl rfl rfl rfl ?_
  refine g_572_6 271 23 rfl rfl ((rd_nk (Ne.symm (by decide))).trans h6) rfl ?_
  refine x_cst (zi 1) 1 24 rfl rfl rfl ?_
  refine z_sub 25 rfl rfl ?_
  rw [show ((k + 1 : Nat) : Int) - 1 = ((k : Nat) : Int) from (by omega)]
  refine x_ld 1 1 0 26 rfl rfl rfl rfl rfl ?_
  refine x_cv 228 123 29 [.ref 581, zi ((k : Nat) : Int), zi ((tx_num w : Nat) : Int)] rfl rfl rfl (Nat.le_of_ble_eq_true rfl) rfl rfl (Nat.le_of_ble_eq_true rfl) trivial (Nat.le_of_ble_eq_true rfl) (c123v (M := (sI M 572 2 0)) (d + 10) (mdl_f hm) (by omega) (t := tx_num w) (by omega) hb) rfl ?_
  refine z_ifeq 36 32 rfl rfl rfl (rg_lit 0 rfl) (fun _ => ?_) (fun c => absurd c (by decide))
  refine x_cst (zi 0) 1 37 rfl rfl rfl ?_
  refine x_ret rfl rfl rfl rfl ?_
  exact ⟨rfl, rfl⟩
theorem c136_1 (d : Nat) {ps : Nat → prt} {k : Nat} (hm : mdl M ps (k + 1)) (h6 : M.1 572 6 = ((k + 1 : Nat) : Int)) (h5 : M.1 572 5 = 1) {w : List Nat} (hw : tx_L w) (hw6 : w.length ≤ 6) (hb : (sts ps k).2 (tx_num w) = true) : ab_S (pg_G L xs) (d + 12) 136 [.ref 572, zi (tx_num w : Nat)] (hp M ++ es) (some (zi 1)) (hp (sI M 572 2 0) ++ es) := by
  have ht := (tx_six hw).mp hw6
  show ab_W (pg_G L xs) (ab_X (pg_G L xs) (d + 11)) 136 _ 0 [some (.ref 572), some (zi ((tx_num w : Nat) : Int))] [] (hp M ++ es)
  refine x_ld 0 1 2 1 rfl rfl rfl rfl rfl ?_
  refine x_ld 0 1 2 2 rfl rfl rfl rfl rfl ?_
  refine g_572_5 267 5 rfl rfl h5 rfl ?_
  refine x_ld 1 1 0 6 rfl rfl rfl rfl rfl ?_
  refine x_cv 369 135 9 [zi ((tx_num w : Nat) : Int)] rfl rfl rfl (Nat.le_of_ble_eq_true rfl) rfl rfl (Nat.le_of_ble_eq_true rfl) trivial (Nat.le_of_ble_eq_true rfl) (c135_t (M := M) (d + 10) (by omega) (by omega)) rfl ?_
  refine x_cv 361 132 12 [.ref 572, zi 1, zi 1] rfl rfl rfl (Nat.le_of_ble_eq_true rfl) rfl rfl (Nat.le_of_ble_eq_true rfl) ⟨_, _, _, rfl, o_572⟩ (Nat.le_of_ble_eq_true rfl) (c132_o (M := M) (d + 10)) rfl ?_
  refine z_ifne 36 15 rfl rfl rfl (rg_lit 0 rfl) (fun c => absurd c (by decide)) (fun _ => ?_)
  refine x_ld 0 1 2 16 rfl rfl rfl rfl rfl ?_
  refine g_572_12 35 19 rfl rfl rfl ?_
  refine x_ld 0 1 2 20 rfl rfl rfl rfl rfl ?_
  refine g_572_6 271 23 rfl rfl ((rd_nk (Ne.symm (by decide))).trans h6) rfl ?_
  refine x_cst (zi 1) 1 24 rfl rfl rfl ?_
  refine z_sub 25 rfl rfl ?_
  rw [show ((k + 1 : Nat) : Int) - 1 = ((k : Nat) : Int) from (by omega)]
  refine x_ld 1 1 0 26 rfl rfl rfl rfl rfl ?_
  refine x_cv 228 123 29 [.ref 581, zi ((k : Nat) : Int), zi ((tx_num w : Nat) : Int)] rfl rfl rfl (Nat.le_of_ble_eq_true rfl) rfl rfl (Nat.le_of_ble_eq_true rfl) trivial (Nat.le_of_ble_eq_true rfl) (c123v (M := (sI M 572 2 0)) (d + 10) (mdl_f hm) (by omega) (t := tx_num w) (by omega) hb) rfl ?_
  refine z_ifeq 36 32 rfl rfl rfl (rg_lit 1 rfl) (fun c => absurd c (by decide)) (fun _ => ?_)
  refine x_cst (zi 1) 1 33 rfl rfl rfl ?_
  refine x_go 37 rfl rfl ?_
  refine x_ret rfl rfl rfl rfl ?_
  exact ⟨rfl, rfl⟩
theorem c137_f (d : Nat) {ps : Nat → prt} {k : Nat} (hm : mdl M ps (k + 1)) (h6 : M.1 572 6 = ((k + 1 : Nat) : Int)) (h5 : M.1 572 5 = 1) {w : List Nat} (hw : tx_L w) (hw6 : w.length ≤ 6) (hb : (sts ps k).1 (tx_num w) = false) : ab_S (pg_G L xs) (d + 12) 137 [.ref 572, zi (tx_num w : Nat)] (hp M ++ es) (some (zi (-1))) (hp (sI M 572 2 0) ++ es) := by
  have ht := (tx_six hw).mp hw6
  show ab_W (pg_G L xs) (ab_X (pg_G L xs) (d + 11)) 137 _ 0 [some (.ref 572), some (zi ((tx_num w : Nat) : Int))] [] (hp M ++ es)
  refine x_ld 0 1 2 1 rfl rfl rfl rfl rfl ?_
  refine x_ld 0 1 2 2 rfl rfl rfl rfl rfl ?_
  refine g_572_5 267 5 rfl rfl h5 rfl ?_
  refine x_ld 1 1 0 6 rfl rfl rfl rfl rfl ?_
  refine x_cv 369 135 9 [zi ((tx_num w : Nat) : Int)] rfl rfl rfl (Nat.le_of_ble_eq_true rfl) rfl rfl (Nat.le_of_ble_eq_true rfl) trivial (Nat.le_of_ble_eq_true rfl) (c135_t (M := M) (d + 10) (by omega) (by omega)) rfl ?_
  refine x_cv 361 132 12 [.ref 572, zi 1, zi 1] rfl rfl rfl (Nat.le_of_ble_eq_true rfl) rfl rfl (Nat.le_of_ble_eq_true rfl) ⟨_, _, _, rfl, o_572⟩ (Nat.le_of_ble_eq_true rfl) (c132_o (M := M) (d + 10)) rfl ?_
  refine z_ifeq 17 15 rfl rfl rfl (rg_lit 0 rfl) (fun _ => ?_) (fun c => absurd c (by decide))
  refine x_ld 0 1 2 18 rfl rfl rfl rfl rfl ?_
  refine g_572_11 31 21 rfl rfl rfl ?_
  refine x_ld 0 1 2 22 rfl rfl rfl rfl rfl ?_
  refine g_572_6 271 25 rfl rfl ((rd_nk (Ne.symm (by decide))).trans h6) rfl ?_
  refine x_cst (zi 1) 1 26 rfl rfl rfl ?_
  refine z_sub 27 rfl rfl ?_
  rw [show ((k + 1 : Nat) : Int) - 1 = ((k : Nat) : Int) from (by omega)]
  refine x_ld 1 1 0 28 rfl rfl rfl rfl rfl ?_
  refine x_cv 228 123 31 [.ref 580, zi ((k : Nat) : Int), zi ((tx_num w : Nat) : Int)] rfl rfl rfl (Nat.le_of_ble_eq_true rfl) rfl rfl (Nat.le_of_ble_eq_true rfl) trivial (Nat.le_of_ble_eq_true rfl) (c123s (M := (sI M 572 2 0)) (d + 10) (mdl_f hm) (by omega) (t := tx_num w) (by omega) hb) rfl ?_
  refine z_ifeq 42 34 rfl rfl rfl (rg_lit 0 rfl) (fun _ => ?_) (fun c => absurd c (by decide))
  refine x_cst (zi (-1)) 1 43 rfl rfl rfl ?_
  refine x_ret rfl rfl rfl rfl ?_
  exact ⟨rfl, rfl⟩
theorem c137_t (d : Nat) {ps : Nat → prt} {k : Nat} (hm : mdl M ps (k + 1)) (h6 : M.1 572 6 = ((k + 1 : Nat) : Int)) (h5 : M.1 572 5 = 1) {w : List Nat} (hw : tx_L w) (hw6 : w.length ≤ 6) (hb : (sts ps k).1 (tx_num w) = true) (hsl : (sem_sh (pgo ps) k w).length ≤ 250) : ab_Z (pg_G L xs) (d + 12) 137 [.ref 572, zi (tx_num w : Nat)] M es (fun v M' => v = some (zi (nz (sem_sh (pgo ps) k w))) ∧ Fzq 0 M M') := by
  have ht := (tx_six hw).mp hw6
  show ab_W (pg_G L xs) (ab_X (pg_G L xs) (d + 11)) 137 _ 0 [some (.ref 572), some (zi ((tx_num w : Nat) : Int))] [] (hp M ++ es)
  refine x_ld 0 1 2 1 rfl rfl rfl rfl rfl ?_
  refine x_ld 0 1 2 2 rfl rfl rfl rfl rfl ?_
  refine g_572_5 267 5 rfl rfl h5 rfl ?_
  refine x_ld 1 1 0 6 rfl rfl rfl rfl rfl ?_
  refine x_cv 369 135 9 [zi ((tx_num w : Nat) : Int)] rfl rfl rfl (Nat.le_of_ble_eq_true rfl) rfl rfl (Nat.le_of_ble_eq_true rfl) trivial (Nat.le_of_ble_eq_true rfl) (c135_t (M := M) (d + 10) (by omega) (by omega)) rfl ?_
  refine x_cv 361 132 12 [.ref 572, zi 1, zi 1] rfl rfl rfl (Nat.le_of_ble_eq_true rfl) rfl rfl (Nat.le_of_ble_eq_true rfl) ⟨_, _, _, rfl, o_572⟩ (Nat.le_of_ble_eq_true rfl) (c132_o (M := M) (d + 10)) rfl ?_
  refine z_ifeq 17 15 rfl rfl rfl (rg_lit 0 rfl) (fun _ => ?_) (fun c => absurd c (by decide))
  refine x_ld 0 1 2 18 rfl rfl rfl rfl rfl ?_
  refine g_572_11 31 21 rfl rfl rfl ?_
  refine x_ld 0 1 2 22 rfl rfl rfl rfl rfl ?_
  refine g_572_6 271 25 rfl rfl ((rd_nk (Ne.symm (by decide))).trans h6) rfl ?_
  refine x_cst (zi 1) 1 26 rfl rfl rfl ?_
  refine z_sub 27 rfl rfl ?_
  rw [show ((k + 1 : Nat) : Int) - 1 = ((k : Nat) : Int) from (by omega)]
  refine x_ld 1 1 0 28 rfl rfl rfl rfl rfl ?_
  refine x_cv 228 123 31 [.ref 580, zi ((k : Nat) : Int), zi ((tx_num w : Nat) : Int)] rfl rfl rfl (Nat.le_of_ble_eq_true rfl) rfl rfl (Nat.le_of_ble_eq_true rfl) trivial (Nat.le_of_ble_eq_true rfl) (c123s (M := (sI M 572 2 0)) (d + 10) (mdl_f hm) (by omega) (t := tx_num w) (by omega) hb) rfl ?_
  refine z_ifeq 42 34 rfl rfl rfl (rg_lit 1 rfl) (fun c => absurd c (by decide)) (fun _ => ?_)
  refine x_ld 0 1 2 35 rfl rfl rfl rfl rfl ?_
  refine x_ld 1 1 0 36 rfl rfl rfl rfl rfl ?_
  refine x_ce 376 138 39 [.ref 572, zi ((tx_num w : Nat) : Int)] rfl rfl rfl (Nat.le_of_ble_eq_true rfl) rfl rfl (Nat.le_of_ble_eq_true rfl) ⟨_, _, _, rfl, o_572⟩ (Nat.le_of_ble_eq_true rfl) (c138 (M := (sI M 572 2 0)) (d + 3) (mdl_f hm) ((rd_nk (by decide)).trans h6) hw hw6 hb hsl) rfl ?_
  rintro v M2 ⟨rfl, hF2⟩
  refine x_go 43 rfl rfl ?_
  refine x_ret rfl rfl rfl rfl ?_
  exact ⟨_, M2, rfl, rfl, rfl, Fzq_i hF2⟩
theorem c148_f (d : Nat) {ps : Nat → prt} {k : Nat} (hm : mdl M ps (k + 1)) (h6 : M.1 572 6 = ((k + 1 : Nat) : Int)) (h5 : M.1 572 5 = 1) {w : List Nat} (hw : tx_L w) (hw6 : w.length ≤ 6) (hb : (sts ps k).1 (tx_num w) = false) : ab_Z (pg_G L xs) (d + 12) 148 [.ref 572, zi (tx_num w : Nat)] M es (fun v M' => v = some (zi 0) ∧ Fzt 0 M M' ∧ M'.1 572 34 = M.1 572 34 ∧ M'.1 572 35 = M.1 572 35 ∧ M'.1 595 = M.1 595 ∧ M'.2.1 594 = M.2.1 594 ∧ M'.1 572 32 = M.1 572 32) := by
  have ht := (tx_six hw).mp hw6
  show ab_W (pg_G L xs) (ab_X (pg_G L xs) (d + 11)) 148 _ 0 [some (.ref 572), some (zi ((tx_num w : Nat) : Int)), none] [] (hp M ++ es)
  refine x_ld 0 1 2 1 rfl rfl rfl rfl rfl ?_
  refine x_ld 0 1 2 2 rfl rfl rfl rfl rfl ?_
  refine g_572_5 267 5 rfl rfl h5 rfl ?_
  refine x_ld 1 1 0 6 rfl rfl rfl rfl rfl ?_
  refine x_cv 369 135 9 [zi ((tx_num w : Nat) : Int)] rfl rfl rfl (Nat.le_of_ble_eq_true rfl) rfl rfl (Nat.le_of_ble_eq_true rfl) trivial (Nat.le_of_ble_eq_true rfl) (c135_t (M := M) (d + 10) (by omega) (by omega)) rfl ?_
  refine x_cv 361 132 12 [.ref 572, zi 1, zi 1] rfl rfl rfl (Nat.le_of_ble_eq_true rfl) rfl rfl (Nat.le_of_ble_eq_true rfl) ⟨_, _, _, rfl, o_572⟩ (Nat.le_of_ble_eq_true rfl) (c132_o (M := M) (d + 10)) rfl ?_
  refine z_ifeq 17 15 rfl rfl rfl (rg_lit 0 rfl) (fun _ => ?_) (fun c => absurd c (by decide))
  refine x_ld 0 1 2 18 rfl rfl rfl rfl rfl ?_
  refine g_572_11 31 21 rfl rfl rfl ?_
  refine x_ld 0 1 2 22 rfl rfl rfl rfl rfl ?_
  refine g_572_6 271 25 rfl rfl ((rd_nk (Ne.symm (by decide))).trans h6) rfl ?_
  refine x_cst (zi 1) 1 26 rfl rfl rfl ?_
  refine z_sub 27 rfl rfl ?_
  rw [show ((k + 1 : Nat) : Int) - 1 = ((k : Nat) : Int) from (by omega)]
  refine x_ld 1 1 0 28 rfl rfl rfl rfl rfl ?_
  refine x_cv 228 123 31 [.ref 580, zi ((k : Nat) : Int), zi ((tx_num w : Nat) : Int)] rfl rfl rfl (Nat.le_of_ble_eq_true rfl) rfl rfl (Nat.le_of_ble_eq_true rfl) trivial (Nat.le_of_ble_eq_true rfl) (c123s (M := (sI M 572 2 0)) (d + 10) (mdl_f hm) (by omega) (t := tx_num w) (by omega) hb) rfl ?_
  refine z_ifeq 46 34 rfl rfl rfl (rg_lit 0 rfl) (fun _ => ?_) (fun c => absurd c (by decide))
  refine x_cst (zi 0) 1 47 rfl rfl rfl ?_
  refine x_st 2 1 0 48 [some (.ref 572), some (zi ((tx_num w : Nat) : Int)), some (zi 0)] rfl rfl rfl (Nat.le_of_ble_eq_true rfl) rfl rfl ?_
  refine x_ld 0 1 2 49 rfl rfl rfl rfl rfl ?_
  refine x_ld 2 1 0 50 rfl rfl rfl rfl rfl ?_
  refine z_ifeq 57 53 rfl rfl rfl (rg_lit 0 rfl) (fun _ => ?_) (fun c => absurd c (by decide))
  refine x_ld 0 1 2 58 rfl rfl rfl rfl rfl ?_
  refine g_572_32 78 61 rfl rfl (rd_nk (Ne.symm (by decide))) rfl ?_
  refine s_572_32 78 64 rfl rfl rfl rfl rfl rfl ?_
  refine x_ld 2 1 0 65 rfl rfl rfl rfl rfl ?_
  refine x_ret rfl rfl rfl rfl ?_
  have hz := Fzq_s 0 M
  refine ⟨_, _, rfl, rfl, rfl, ⟨fun a h1 h2 => (sI_ne h1).trans (hz.1.1 a h1 h2), fun j h1 h2 h3 h4 h5 => (rd_nk h3).trans (hz.1.2.1 j h1 h2 h3 h4 h5), hz.1.2.2.1, hz.1.2.2.2.1, (rd_nk (by decide)).trans hz.1.2.2.2.2⟩, (rd_nk (by decide)).trans hz.2.2.1, (rd_nk (by decide)).trans hz.2.2.2.1, (sI_ne (by decide)).trans hz.2.2.2.2.1, hz.2.2.2.2.2, ?_⟩
  exact rd_eq.trans hz.2.1
theorem c148_l (d : Nat) {ps : Nat → prt} {k : Nat} (hm : mdl M ps (k + 1)) (h6 : M.1 572 6 = ((k + 1 : Nat) : Int)) (h5 : M.1 572 5 = 1) {w : List Nat} (hw : tx_L w) (hw6 : w.length ≤ 6) (hb : (sts ps k).1 (tx_num w) = true) (hsl : (sem_sh (pgo ps) k w).length ≤ 250) (hl : ¬ (sem_sh (pgo ps) k w).length ≤ 6) : ab_Z (pg_G L xs) (d + 12) 148 [.ref 572, zi (tx_num w : Nat)] M es (fun v M' => v = some (zi 0) ∧ Fzt 0 M M' ∧ M'.1 572 34 = M.1 572 34 ∧ M'.1 572 35 = M.1 572 35 ∧ M'.1 595 = M.1 595 ∧ M'.2.1 594 = M.2.1 594 ∧ M'.1 572 32 = M.1 572 32) := by
  have ht := (tx_six hw).mp hw6
  show ab_W (pg_G L xs) (ab_X (pg_G L xs) (d + 11)) 148 _ 0 [some (.ref 572), some (zi ((tx_num w : Nat) : Int)), none] [] (hp M ++ es)
  refine x_ld 0 1 2 1 rfl rfl rfl rfl rfl ?_
  refine x_ld 0 1 2 2 rfl rfl rfl rfl rfl ?_
  refine g_572_5 267 5 rfl rfl h5 rfl ?_
  refine x_ld 1 1 0 6 rfl rfl rfl rfl rfl ?_
  refine x_cv 369 135 9 [zi ((tx_num w : Nat) : Int)] rfl rfl rfl (Nat.le_of_ble_eq_true rfl) rfl rfl (Nat.le_of_ble_eq_true rfl) trivial (Nat.le_of_ble_eq_true rfl) (c135_t (M := M) (d + 10) (by omega) (by omega)) rfl ?_
  refine x_cv 361 132 12 [.ref 572, zi 1, zi 1] rfl rfl rfl (Nat.le_of_ble_eq_true rfl) rfl rfl (Nat.le_of_ble_eq_true rfl) ⟨_, _, _, rfl, o_572⟩ (Nat.le_of_ble_eq_true rfl) (c132_o (M := M) (d + 10)) rfl ?_
  refine z_ifeq 17 15 rfl rfl rfl (rg_lit 0 rfl) (fun _ => ?_) (fun c => absurd c (by decide))
  refine x_ld 0 1 2 18 rfl rfl rfl rfl rfl ?_
  refine g_572_11 31 21 rfl rfl rfl ?_
  refine x_ld 0 1 2 22 rfl rfl rfl rfl rfl ?_
  refine g_572_6 271 25 rfl rfl ((rd_nk (Ne.symm (by decide))).trans h6) rfl ?_
  refine x_cst (zi 1) 1 26 rfl rfl rfl ?_
  refine z_sub 27 rfl rfl ?_
  rw [show ((k + 1 : Nat) : Int) - 1 = ((k : Nat) : Int) from (by omega)]
  refine x_ld 1 1 0 28 rfl rfl rfl rfl rfl ?_
  refine x_cv 228 123 31 [.ref 580, zi ((k : Nat) : Int), zi ((tx_num w : Nat) : Int)] rfl rfl rfl (Nat.le_of_ble_eq_true rfl) rfl rfl (Nat.le_of_ble_eq_true rfl) trivial (Nat.le_of_ble_eq_true rfl) (c123s (M := (sI M 572 2 0)) (d + 10) (mdl_f hm) (by omega) (t := tx_num w) (by omega) hb) rfl ?_
  refine z_ifeq 46 34 rfl rfl rfl (rg_lit 1 rfl) (fun c => absurd c (by decide)) (fun _ => ?_)
  refine x_ld 0 1 2 35 rfl rfl rfl rfl rfl ?_
  refine x_ld 1 1 0 36 rfl rfl rfl rfl rfl ?_
  refine x_ce 376 138 39 [.ref 572, zi ((tx_num w : Nat) : Int)] rfl rfl rfl (Nat.le_of_ble_eq_true rfl) rfl rfl (Nat.le_of_ble_eq_true rfl) ⟨_, _, _, rfl, o_572⟩ (Nat.le_of_ble_eq_true rfl) (c138 (M := (sI M 572 2 0)) (d + 3) (mdl_f hm) ((rd_nk (by decide)).trans h6) hw hw6 hb hsl) rfl ?_
  rintro v M2 ⟨rfl, hF2⟩
  rw [nz_gt hl]
  refine z_iflt 46 42 rfl rfl rfl (rg_lit (-2) rfl) (fun _ => ?_) (fun c => absurd c (by decide))
  refine x_cst (zi 0) 1 47 rfl rfl rfl ?_
  refine x_st 2 1 0 48 [some (.ref 572), some (zi ((tx_num w : Nat) : Int)), some (zi 0)] rfl rfl rfl (Nat.le_of_ble_eq_true rfl) rfl rfl ?_
  refine x_ld 0 1 2 49 rfl rfl rfl rfl rfl ?_
  refine x_ld 2 1 0 50 rfl rfl rfl rfl rfl ?_
  refine z_ifeq 57 53 rfl rfl rfl (rg_lit 0 rfl) (fun _ => ?_) (fun c => absurd c (by decide))
  refine x_ld 0 1 2 58 rfl rfl rfl rfl rfl ?_
  refine g_572_32 78 61 rfl rfl rfl rfl ?_
  refine s_572_32 78 64 rfl rfl rfl rfl rfl rfl ?_
  refine x_ld 2 1 0 65 rfl rfl rfl rfl rfl ?_
  refine x_ret rfl rfl rfl rfl ?_
  have hz := Fzq_i hF2
  refine ⟨_, _, rfl, rfl, rfl, ⟨fun a h1 h2 => (sI_ne h1).trans (hz.1.1 a h1 h2), fun j h1 h2 h3 h4 h5 => (rd_nk h3).trans (hz.1.2.1 j h1 h2 h3 h4 h5), hz.1.2.2.1, hz.1.2.2.2.1, (rd_nk (by decide)).trans hz.1.2.2.2.2⟩, (rd_nk (by decide)).trans hz.2.2.1, (rd_nk (by decide)).trans hz.2.2.2.1, (sI_ne (by decide)).trans hz.2.2.2.2.1, hz.2.2.2.2.2, ?_⟩
  exact rd_eq.trans hz.2.1
theorem c148_y (d : Nat) {ps : Nat → prt} {k : Nat} (hm : mdl M ps (k + 1)) (h6 : M.1 572 6 = ((k + 1 : Nat) : Int)) (h5 : M.1 572 5 = 1) {w : List Nat} (hw : tx_L w) (hw6 : w.length ≤ 6) (hb : (sts ps k).1 (tx_num w) = true) (hsl : (sem_sh (pgo ps) k w).length ≤ 250) (hl : (sem_sh (pgo ps) k w).length ≤ 6) : ab_Z (pg_G L xs) (d + 12) 148 [.ref 572, zi (tx_num w : Nat)] M es (fun v M' => v = some (zi 1) ∧ Fzt 0 M M' ∧ M'.1 572 34 = M.1 572 34 ∧ M'.1 572 35 = M.1 572 35 ∧ M'.1 595 = M.1 595 ∧ M'.2.1 594 = M.2.1 594 ∧ M'.1 572 32 = ((tx_num w : Nat) : Int)) := by
  have ht := (tx_six hw).mp hw6
  show ab_W (pg_G L xs) (ab_X (pg_G L xs) (d + 11)) 148 _ 0 [some (.ref 572), some (zi ((tx_num w : Nat) : Int)), none] [] (hp M ++ es)
  refine x_ld 0 1 2 1 rfl rfl rfl rfl rfl ?_
  refine x_ld 0 1 2 2 rfl rfl rfl rfl rfl ?_
  refine g_572_5 267 5 rfl rfl h5 rfl ?_
  refine x_ld 1 1 0 6 rfl rfl rfl rfl rfl ?_
  refine x_cv 369 135 9 [zi ((tx_num w : Nat) : Int)] rfl rfl rfl (Nat.le_of_ble_eq_true rfl) rfl rfl (Nat.le_of_ble_eq_true rfl) trivial (Nat.le_of_ble_eq_true rfl) (c135_t (M := M) (d + 10) (by omega) (by omega)) rfl ?_
  refine x_cv 361 132 12 [.ref 572, zi 1, zi 1] rfl rfl rfl (Nat.le_of_ble_eq_true rfl) rfl rfl (Nat.le_of_ble_eq_true rfl) ⟨_, _, _, rfl, o_572⟩ (Nat.le_of_ble_eq_true rfl) (c132_o (M := M) (d + 10)) rfl ?_
  refine z_ifeq 17 15 rfl rfl rfl (rg_lit 0 rfl) (fun _ => ?_) (fun c => absurd c (by decide))
  refine x_ld 0 1 2 18 rfl rfl rfl rfl rfl ?_
  refine g_572_11 31 21 rfl rfl rfl ?_
  refine x_ld 0 1 2 22 rfl rfl rfl rfl rfl ?_
  refine g_572_6 271 25 rfl rfl ((rd_nk (Ne.symm (by decide))).trans h6) rfl ?_
  refine x_cst (zi 1) 1 26 rfl rfl rfl ?_
  refine z_sub 27 rfl rfl ?_
  rw [show ((k + 1 : Nat) : Int) - 1 = ((k : Nat) : Int) from (by omega)]
  refine x_ld 1 1 0 28 rfl rfl rfl rfl rfl ?_
  refine x_cv 228 123 31 [.ref 580, zi ((k : Nat) : Int), zi ((tx_num w : Nat) : Int)] rfl rfl rfl (Nat.le_of_ble_eq_true rfl) rfl rfl (Nat.le_of_ble_eq_true rfl) trivial (Nat.le_of_ble_eq_true rfl) (c123s (M := (sI M 572 2 0)) (d + 10) (mdl_f hm) (by omega) (t := tx_num w) (by omega) hb) rfl ?_
  refine z_ifeq 46 34 rfl rfl rfl (rg_lit 1 rfl) (fun c => absurd c (by decide)) (fun _ => ?_)
  refine x_ld 0 1 2 35 rfl rfl rfl rfl rfl ?_
  refine x_ld 1 1 0 36 rfl rfl rfl rfl rfl ?_
  refine x_ce 376 138 39 [.ref 572, zi ((tx_num w : Nat) : Int)] rfl rfl rfl (Nat.le_of_ble_eq_true rfl) rfl rfl (Nat.le_of_ble_eq_true rfl) ⟨_, _, _, rfl, o_572⟩ (Nat.le_of_ble_eq_true rfl) (c138 (M := (sI M 572 2 0)) (d + 3) (mdl_f hm) ((rd_nk (by decide)).trans h6) hw hw6 hb hsl) rfl ?_
  rintro v M2 ⟨rfl, hF2⟩
  rw [nz_le hl]
  have hshl := (tx_six (sh_L (mdl_gds hm) k (by omega) w hw)).mp hl
  refine z_iflt 46 42 rfl rfl rfl ⟨by omega, by omega⟩ (fun c => absurd c (by omega)) (fun _ => ?_)
  refine x_cst (zi 1) 1 43 rfl rfl rfl ?_
  refine x_go 47 rfl rfl ?_
  refine x_st 2 1 0 48 [some (.ref 572), some (zi ((tx_num w : Nat) : Int)), some (zi 1)] rfl rfl rfl (Nat.le_of_ble_eq_true rfl) rfl rfl ?_
  refine x_ld 0 1 2 49 rfl rfl rfl rfl rfl ?_
  refine x_ld 2 1 0 50 rfl rfl rfl rfl rfl ?_
  refine z_ifeq 57 53 rfl rfl rfl (rg_lit 1 rfl) (fun c => absurd c (by decide)) (fun _ => ?_)
  refine x_ld 1 1 0 54 rfl rfl rfl rfl rfl ?_
  refine x_go 61 rfl rfl ?_
  refine s_572_32 78 64 rfl rfl rfl rfl rfl rfl ?_
  refine x_ld 2 1 0 65 rfl rfl rfl rfl rfl ?_
  refine x_ret rfl rfl rfl rfl ?_
  have hz := Fzq_i hF2
  refine ⟨_, _, rfl, rfl, rfl, ⟨fun a h1 h2 => (sI_ne h1).trans (hz.1.1 a h1 h2), fun j h1 h2 h3 h4 h5 => (rd_nk h3).trans (hz.1.2.1 j h1 h2 h3 h4 h5), hz.1.2.2.1, hz.1.2.2.2.1, (rd_nk (by decide)).trans hz.1.2.2.2.2⟩, (rd_nk (by decide)).trans hz.2.2.1, (rd_nk (by decide)).trans hz.2.2.2.1, (sI_ne (by decide)).trans hz.2.2.2.2.1, hz.2.2.2.2.2, ?_⟩
  exact rd_eq
theorem c164_f (d : Nat) {ps : Nat → prt} {k : Nat} (hm : mdl M ps (k + 1)) (h6 : M.1 572 6 = ((k + 1 : Nat) : Int)) (h5 : M.1 572 5 = 1) {w : List Nat} (hw : tx_L w) (hw6 : w.length ≤ 6) (hb : (sts ps k).2 (tx_num w) = false) : ab_S (pg_G L xs) (d + 12) 164 [.ref 572, zi (tx_num w : Nat)] (hp M ++ es) (some (zi (-1))) (hp (sI M 572 2 0) ++ es) := by
  have ht := (tx_six hw).mp hw6
  show ab_W (pg_G L xs) (ab_X (pg_G L xs) (d + 11)) 164 _ 0 [some (.ref 572), some (zi ((tx_num w : Nat) : Int))] [] (hp M ++ es)
  refine x_ld 0 1 2 1 rfl rfl rfl rfl rfl ?_
  refine x_ld 0 1 2 2 rfl rfl rfl rfl rfl ?_
  refine g_572_5 267 5 rfl rfl h5 rfl ?_
  refine x_ld 1 1 0 6 rfl rfl rfl rfl rfl ?_
  refine x_cv 369 135 9 [zi ((tx_num w : Nat) : Int)] rfl rfl rfl (Nat.le_of_ble_eq_true rfl) rfl rfl (Nat.le_of_ble_eq_true rfl) trivial (Nat.le_of_ble_eq_true rfl) (c135_t (M := M) (d + 10) (by omega) (by omega)) rfl ?_
  refine x_cv 361 132 12 [.ref 572, zi 1, zi 1] rfl rfl rfl (Nat.le_of_ble_eq_true rfl) rfl rfl (Nat.le_of_ble_eq_true rfl) ⟨_, _, _, rfl, o_572⟩ (Nat.le_of_ble_eq_true rfl) (c132_o (M := M) (d + 10)) rfl ?_
  refine z_ifeq 17 15 rfl rfl rfl (rg_lit 0 rfl) (fun _ => ?_) (fun c => absurd c (by decide))
  refine x_ld 0 1 2 18 rfl rfl rfl rfl rfl ?_
  refine g_572_12 35 21 rfl rfl rfl ?_
  refine x_ld 0 1 2 22 rfl rfl rfl rfl rfl ?_
  refine g_572_6 271 25 rfl rfl ((rd_nk (Ne.symm (by decide))).trans h6) rfl ?_
  refine x_cst (zi 1) 1 26 rfl rfl rfl ?_
  refine z_sub 27 rfl rfl ?_
  rw [show ((k + 1 : Nat) : Int) - 1 = ((k : Nat) : Int) from (by omega)]
  refine x_ld 1 1 0 28 rfl rfl rfl rfl rfl ?_
  refine x_cv 228 123 31 [.ref 581, zi ((k : Nat) : Int), zi ((tx_num w : Nat) : Int)] rfl rfl rfl (Nat.le_of_ble_eq_true rfl) rfl rfl (Nat.le_of_ble_eq_true rfl) trivial (Nat.le_of_ble_eq_true rfl) (c123v (M := (sI M 572 2 0)) (d + 10) (mdl_f hm) (by omega) (t := tx_num w) (by omega) hb) rfl ?_
  refine z_ifne 36 34 rfl rfl rfl (rg_lit 0 rfl) (fun c => absurd c (by decide)) (fun _ => ?_)
  refine x_cst (zi (-1)) 1 35 rfl rfl rfl ?_
  refine x_ret rfl rfl rfl rfl ?_
  exact ⟨rfl, rfl⟩
theorem c164_t (d : Nat) {ps : Nat → prt} {k : Nat} (hm : mdl M ps (k + 1)) (h6 : M.1 572 6 = ((k + 1 : Nat) : Int)) (h5 : M.1 572 5 = 1) {w : List Nat} (hw : tx_L w) (hw6 : w.length ≤ 6) (hb : (sts ps k).2 (tx_num w) = true) : ab_Z (pg_G L xs) (d + 12) 164 [.ref 572, zi (tx_num w : Nat)] M es (fun v M' => v = some (zi ((tx_num (sem_ky (pgo ps) k w) : Nat) : Int)) ∧ Fzq 0 M M') := by
  have ht := (tx_six hw).mp hw6
  have hc31 := hm.1
  show ab_W (pg_G L xs) (ab_X (pg_G L xs) (d + 11)) 164 _ 0 [some (.ref 572), some (zi ((tx_num w : Nat) : Int))] [] (hp M ++ es)
  refine x_ld 0 1 2 1 rfl rfl rfl rfl rfl ?_
  refine x_ld 0 1 2 2 rfl rfl rfl rfl rfl ?_
  refine g_572_5 267 5 rfl rfl h5 rfl ?_
  refine x_ld 1 1 0 6 rfl rfl rfl rfl rfl ?_
  refine x_cv 369 135 9 [zi ((tx_num w : Nat) : Int)] rfl rfl rfl (Nat.le_of_ble_eq_true rfl) rfl rfl (Nat.le_of_ble_eq_true rfl) trivial (Nat.le_of_ble_eq_true rfl) (c135_t (M := M) (d + 10) (by omega) (by omega)) rfl ?_
  refine x_cv 361 132 12 [.ref 572, zi 1, zi 1] rfl rfl rfl (Nat.le_of_ble_eq_true rfl) rfl rfl (Nat.le_of_ble_eq_true rfl) ⟨_, _, _, rfl, o_572⟩ (Nat.le_of_ble_eq_true rfl) (c132_o (M := M) (d + 10)) rfl ?_
  refine z_ifeq 17 15 rfl rfl rfl (rg_lit 0 rfl) (fun _ => ?_) (fun c => absurd c (by decide))
  refine x_ld 0 1 2 18 rfl rfl rfl rfl rfl ?_
  refine g_572_12 35 21 rfl rfl rfl ?_
  refine x_ld 0 1 2 22 rfl rfl rfl rfl rfl ?_
  refine g_572_6 271 25 rfl rfl ((rd_nk (Ne.symm (by decide))).trans h6) rfl ?_
  refine x_cst (zi 1) 1 26 rfl rfl rfl ?_
  refine z_sub 27 rfl rfl ?_
  rw [show ((k + 1 : Nat) : Int) - 1 = ((k : Nat) : Int) from (by omega)]
  refine x_ld 1 1 0 28 rfl rfl rfl rfl rfl ?_
  refine x_cv 228 123 31 [.ref 581, zi ((k : Nat) : Int), zi ((tx_num w : Nat) : Int)] rfl rfl rfl (Nat.le_of_ble_eq_true rfl) rfl rfl (Nat.le_of_ble_eq_true rfl) trivial (Nat.le_of_ble_eq_true rfl) (c123v (M := (sI M 572 2 0)) (d + 10) (mdl_f hm) (by omega) (t := tx_num w) (by omega) hb) rfl ?_
  refine z_ifne 36 34 rfl rfl rfl (rg_lit 1 rfl) (fun _ => ?_) (fun c => absurd c (by decide))
  refine x_ld 0 1 2 37 rfl rfl rfl rfl rfl ?_
  refine x_ld 1 1 0 38 rfl rfl rfl rfl rfl ?_
  refine x_ld 0 1 2 39 rfl rfl rfl rfl rfl ?_
  refine g_572_38 90 42 rfl rfl rfl ?_
  refine x_ce 372 139 45 [.ref 572, zi ((tx_num w : Nat) : Int), .ref 597] rfl rfl rfl (Nat.le_of_ble_eq_true rfl) rfl rfl (Nat.le_of_ble_eq_true rfl) ⟨_, _, _, rfl, o_572⟩ (Nat.le_of_ble_eq_true rfl) (c139 (M := (sI M 572 2 0)) (d + 9) (N := 6) i_597 hw hw6 (by decide)) rfl ?_
  rintro v M2 ⟨rfl, hFM2, hrM2⟩
  have h6M2 : M2.1 572 6 = ((k + 1 : Nat) : Int) := by rw [hFM2.1 572 (by decide)]; exact ((rd_nk (Ne.symm (by decide))).trans h6)
  refine x_ld 0 1 2 46 rfl rfl rfl rfl rfl ?_
  refine x_ld 0 1 2 47 rfl rfl rfl rfl rfl ?_
  refine g_572_6 271 50 rfl rfl h6M2 rfl ?_
  refine x_cst (zi 1) 1 51 rfl rfl rfl ?_
  refine z_sub 52 rfl rfl ?_
  rw [show ((k + 1 : Nat) : Int) - 1 = ((k : Nat) : Int) from (by omega)]
  refine x_ld 0 1 2 53 rfl rfl rfl rfl rfl ?_
  refine g_572_38 90 56 rfl rfl rfl ?_
  refine x_cst (zi 0) 1 57 rfl rfl rfl ?_
  refine x_ld 0 1 2 58 rfl rfl rfl rfl rfl ?_
  refine x_ld 1 1 0 59 rfl rfl rfl rfl rfl ?_
  refine x_cv 221 125 62 [.ref 572, zi ((tx_num w : Nat) : Int)] rfl rfl rfl (Nat.le_of_ble_eq_true rfl) rfl rfl (Nat.le_of_ble_eq_true rfl) ⟨_, _, _, rfl, o_572⟩ (Nat.le_of_ble_eq_true rfl) (c125 (M := M2) (d + 10) hw hw6) rfl ?_
  refine x_ce 344 158 65 [.ref 572, zi ((k : Nat) : Int), .ref 597, zi 0, zi ((w.length : Nat) : Int)] rfl rfl rfl (Nat.le_of_ble_eq_true rfl) rfl rfl (Nat.le_of_ble_eq_true rfl) ⟨_, _, _, rfl, o_572⟩ (Nat.le_of_ble_eq_true rfl) (c158 (M := M2) (d + 6) (mdl_i (mdl_f hm) (Fzi_F1 (by decide) hFM2)) (by omega) (N := 6) (s := 0) i_597 (by decide) hw hw6 hb hrM2 (by omega)) rfl ?_
  rintro v M3 ⟨rfl, hF3⟩
  refine x_ret rfl rfl rfl rfl ?_
  exact ⟨_, M3, rfl, rfl, rfl, Fzq_i (Fzi_trans (Fzi_F1 (by decide) hFM2) (Fzi_Fyt hF3))⟩
theorem Fzt_o {M M' : mm} {y : Int} (h : Fdr (sI (sI M 572 2 0) 572 35 0) M') : Fzt 0 M (sI M' 572 35 y) ∧ (sI M' 572 35 y).1 572 32 = M.1 572 32 ∧ (sI M' 572 35 y).1 572 34 = M.1 572 34 ∧ (sI M' 572 35 y).2.1 594 = M.2.1 594 ∧ (sI M' 572 35 y).1 572 35 = y := by
  have g : ∀ j, ¬ cF j → j ≠ 35 → j ≠ 2 → (sI M' 572 35 y).1 572 j = M.1 572 j := fun j h1 h2 h3 => (rd_nk h2).trans ((h.2.1 j h1 h2).trans ((rd_nk h2).trans (rd_nk h3)))
  refine ⟨⟨fun a h1 h2 => ?_, fun j h1 h2 _ _ h3 => g j h1 h3 h2, fun a _ => ?_, ?_, ?_⟩, g 32 (by unfold cF; omega) (by decide) (by decide), g 34 (by unfold cF; omega) (by decide) (by decide), ?_, rd_eq⟩
  · rw [sI_ne h1, h.1 a h1 (by omega) (by omega), sI_ne h1, sI_ne h1]
  · rw [show (sI M' 572 35 y).2 = M'.2 from rfl, h.2.2]; rfl
  · rw [show (sI M' 572 35 y).2 = M'.2 from rfl, h.2.2]; rfl
  · exact (rd_nk (by decide)).trans ((h.2.1 2 (by unfold cF; omega) (by decide)).trans ((rd_nk (by decide)).trans rd_eq))
  · rw [show (sI M' 572 35 y).2 = M'.2 from rfl, h.2.2]; rfl
theorem Fdr_1 {b : Nat} {M M' : mm} (hb : b = 596 ∨ b = 597) (h : F1 b M M') : (∀ a, a ≠ b → M'.1 a = M.1 a) ∧ Fk M M' ∧ M'.2 = M.2 := ⟨h.1, ⟨fun a h1 h2 => h.1 a (by omega), h.2⟩, h.2⟩
theorem c162_f (d : Nat) {ps : Nat → prt} {k : Nat} (hm : mdl M ps (k + 1)) (h6 : M.1 572 6 = ((k + 1 : Nat) : Int)) (h5 : M.1 572 5 = 1) {w : List Nat} (hw : tx_L w) (hw6 : w.length ≤ 6) (hb : (sts ps k).2 (tx_num w) = false) : ab_Z (pg_G L xs) (d + 12) 162 [.ref 572, zi (tx_num w : Nat)] M es (fun v M' => v = some (zi (-1)) ∧ Fzt 0 M M' ∧ M'.1 572 32 = M.1 572 32 ∧ M'.1 572 34 = M.1 572 34 ∧ M'.2.1 594 = M.2.1 594 ∧ M'.1 572 35 = 0) := by
  have ht := (tx_six hw).mp hw6
  show ab_W (pg_G L xs) (ab_X (pg_G L xs) (d + 11)) 162 _ 0 [some (.ref 572), some (zi ((tx_num w : Nat) : Int))] [] (hp M ++ es)
  refine x_ld 0 1 2 1 rfl rfl rfl rfl rfl ?_
  refine x_ld 0 1 2 2 rfl rfl rfl rfl rfl ?_
  refine g_572_5 267 5 rfl rfl h5 rfl ?_
  refine x_ld 1 1 0 6 rfl rfl rfl rfl rfl ?_
  refine x_cv 369 135 9 [zi ((tx_num w : Nat) : Int)] rfl rfl rfl (Nat.le_of_ble_eq_true rfl) rfl rfl (Nat.le_of_ble_eq_true rfl) trivial (Nat.le_of_ble_eq_true rfl) (c135_t (M := M) (d + 10) (by omega) (by omega)) rfl ?_
  refine x_cv 361 132 12 [.ref 572, zi 1, zi 1] rfl rfl rfl (Nat.le_of_ble_eq_true rfl) rfl rfl (Nat.le_of_ble_eq_true rfl) ⟨_, _, _, rfl, o_572⟩ (Nat.le_of_ble_eq_true rfl) (c132_o (M := M) (d + 10)) rfl ?_
  refine z_ifeq 17 15 rfl rfl rfl (rg_lit 0 rfl) (fun _ => ?_) (fun c => absurd c (by decide))
  refine x_ld 0 1 2 18 rfl rfl rfl rfl rfl ?_
  refine x_cst (zi 0) 1 19 rfl rfl rfl ?_
  refine s_572_35 156 22 rfl rfl rfl rfl rfl rfl ?_
  refine x_ld 0 1 2 23 rfl rfl rfl rfl rfl ?_
  refine g_572_12 35 26 rfl rfl rfl ?_
  refine x_ld 0 1 2 27 rfl rfl rfl rfl rfl ?_
  refine g_572_6 271 30 rfl rfl ((rd_nk (Ne.symm (by decide))).trans ((rd_nk (Ne.symm (by decide))).trans h6)) rfl ?_
  refine x_cst (zi 1) 1 31 rfl rfl rfl ?_
  refine z_sub 32 rfl rfl ?_
  rw [show ((k + 1 : Nat) : Int) - 1 = ((k : Nat) : Int) from (by omega)]
  refine x_ld 1 1 0 33 rfl rfl rfl rfl rfl ?_
  refine x_cv 228 123 36 [.ref 581, zi ((k : Nat) : Int), zi ((tx_num w : Nat) : Int)] rfl rfl rfl (Nat.le_of_ble_eq_true rfl) rfl rfl (Nat.le_of_ble_eq_true rfl) trivial (Nat.le_of_ble_eq_true rfl) (c123v (M := (sI (sI M 572 2 0) 572 35 0)) (d + 10) (mdl_f (mdl_f hm)) (by omega) (t := tx_num w) (by omega) hb) rfl ?_
  refine z_ifne 41 39 rfl rfl rfl (rg_lit 0 rfl) (fun c => absurd c (by decide)) (fun _ => ?_)
  refine x_cst (zi (-1)) 1 40 rfl rfl rfl ?_
  refine x_ret rfl rfl rfl rfl ?_
  exact ⟨_, _, rfl, rfl, rfl, ⟨fun a h1 h2 => (sI_ne h1).trans (sI_ne h1), fun j h1 h2 _ _ h3 => (rd_nk h3).trans (rd_nk h2), fun _ _ => rfl, rfl, (rd_nk (by decide)).trans rd_eq⟩, (rd_nk (by decide)).trans (rd_nk (by decide)), (rd_nk (by decide)).trans (rd_nk (by decide)), rfl, rd_eq⟩
theorem c149_f (d : Nat) {ps : Nat → prt} {k : Nat} (hm : mdl M ps (k + 1)) (h6 : M.1 572 6 = ((k + 1 : Nat) : Int)) (h5 : M.1 572 5 = 1) {s : Nat} (hs : s < 1093) (h32 : M.1 572 32 = (s : Int)) {w : List Nat} (hw : tx_L w) (hw6 : w.length ≤ 6) (hb : (sts ps k).2 (tx_num w) = false) : ab_Z (pg_G L xs) (d + 12) 149 [.ref 572, zi (tx_num w : Nat)] M es (fun v M' => v = some (zi (-1)) ∧ Fzt 0 M M' ∧ M'.1 572 32 = M.1 572 32 ∧ M'.1 572 34 = M.1 572 34 ∧ M'.2.1 594 = M.2.1 594 ∧ M'.1 572 35 = 0) := by
  have ht := (tx_six hw).mp hw6
  show ab_W (pg_G L xs) (ab_X (pg_G L xs) (d + 11)) 149 _ 0 [some (.ref 572), some (zi ((tx_num w : Nat) : Int)), none] [] (hp M ++ es)
  refine x_ld 0 1 2 1 rfl rfl rfl rfl rfl ?_
  refine x_ld 0 1 2 2 rfl rfl rfl rfl rfl ?_
  refine g_572_5 267 5 rfl rfl h5 rfl ?_
  refine z_ifeq 19 8 rfl rfl rfl (rg_lit 1 rfl) (fun c => absurd c (by decide)) (fun _ => ?_)
  refine x_ld 0 1 2 9 rfl rfl rfl rfl rfl ?_
  refine g_572_32 78 12 rfl rfl h32 rfl ?_
  refine z_iflt 19 15 rfl rfl rfl ⟨by omega, by omega⟩ (fun c => absurd c (by omega)) (fun _ => ?_)
  refine x_cst (zi 1) 1 16 rfl rfl rfl ?_
  refine x_go 20 rfl rfl ?_
  refine x_ld 1 1 0 21 rfl rfl rfl rfl rfl ?_
  refine x_cv 369 135 24 [zi ((tx_num w : Nat) : Int)] rfl rfl rfl (Nat.le_of_ble_eq_true rfl) rfl rfl (Nat.le_of_ble_eq_true rfl) trivial (Nat.le_of_ble_eq_true rfl) (c135_t (M := M) (d + 10) (by omega) (by omega)) rfl ?_
  refine x_cv 361 132 27 [.ref 572, zi 1, zi 1] rfl rfl rfl (Nat.le_of_ble_eq_true rfl) rfl rfl (Nat.le_of_ble_eq_true rfl) ⟨_, _, _, rfl, o_572⟩ (Nat.le_of_ble_eq_true rfl) (c132_o (M := M) (d + 10)) rfl ?_
  refine z_ifeq 32 30 rfl rfl rfl (rg_lit 0 rfl) (fun _ => ?_) (fun c => absurd c (by decide))
  refine x_ld 0 1 2 33 rfl rfl rfl rfl rfl ?_
  refine x_cst (zi 0) 1 34 rfl rfl rfl ?_
  refine s_572_35 156 37 rfl rfl rfl rfl rfl rfl ?_
  refine x_ld 0 1 2 38 rfl rfl rfl rfl rfl ?_
  refine g_572_12 35 41 rfl rfl rfl ?_
  refine x_ld 0 1 2 42 rfl rfl rfl rfl rfl ?_
  refine g_572_6 271 45 rfl rfl ((rd_nk (Ne.symm (by decide))).trans ((rd_nk (Ne.symm (by decide))).trans h6)) rfl ?_
  refine x_cst (zi 1) 1 46 rfl rfl rfl ?_
  refine z_sub 47 rfl rfl ?_
  rw [show ((k + 1 : Nat) : Int) - 1 = ((k : Nat) : Int) from (by omega)]
  refine x_ld 1 1 0 48 rfl rfl rfl rfl rfl ?_
  refine x_cv 228 123 51 [.ref 581, zi ((k : Nat) : Int), zi ((tx_num w : Nat) : Int)] rfl rfl rfl (Nat.le_of_ble_eq_true rfl) rfl rfl (Nat.le_of_ble_eq_true rfl) trivial (Nat.le_of_ble_eq_true rfl) (c123v (M := (sI (sI M 572 2 0) 572 35 0)) (d + 10) (mdl_f (mdl_f hm)) (by omega) (t := tx_num w) (by omega) hb) rfl ?_
  refine z_ifne 56 54 rfl rfl rfl (rg_lit 0 rfl) (fun c => absurd c (by decide)) (fun _ => ?_)
  refine x_cst (zi (-1)) 1 55 rfl rfl rfl ?_
  refine x_ret rfl rfl rfl rfl ?_
  exact ⟨_, _, rfl, rfl, rfl, ⟨fun a h1 h2 => (sI_ne h1).trans (sI_ne h1), fun j h1 h2 _ _ h3 => (rd_nk h3).trans (rd_nk h2), fun _ _ => rfl, rfl, (rd_nk (by decide)).trans rd_eq⟩, (rd_nk (by decide)).trans (rd_nk (by decide)), (rd_nk (by decide)).trans (rd_nk (by decide)), rfl, rd_eq⟩
theorem Fzt_p {M M2 M' : mm} {y : Int} (hi : Fzi (sI (sI M 572 2 0) 572 35 0) M2) (h : Fdr M2 M') : Fzt 0 M (sI M' 572 35 y) ∧ (sI M' 572 35 y).1 572 32 = M.1 572 32 ∧ (sI M' 572 35 y).1 572 34 = M.1 572 34 ∧ (sI M' 572 35 y).2.1 594 = M.2.1 594 ∧ (sI M' 572 35 y).1 572 35 = y := by
  have g : ∀ j, ¬ cF j → j ≠ 35 → j ≠ 2 → (sI M' 572 35 y).1 572 j = M.1 572 j := fun j h1 h2 h3 => (rd_nk h2).trans ((h.2.1 j h1 h2).trans ((hi.2.1 j h1).trans ((rd_nk h2).trans (rd_nk h3))))
  refine ⟨⟨fun a h1 h2 => ?_, fun j h1 h2 _ _ h3 => g j h1 h3 h2, fun a _ => ?_, ?_, ?_⟩, g 32 (by unfold cF; omega) (by decide) (by decide), g 34 (by unfold cF; omega) (by decide) (by decide), ?_, rd_eq⟩
  · rw [sI_ne h1, h.1 a h1 (by omega) (by omega), hi.1 a h1 (by omega), sI_ne h1, sI_ne h1]
  · rw [show (sI M' 572 35 y).2 = M'.2 from rfl, h.2.2, hi.2.2]; rfl
  · rw [show (sI M' 572 35 y).2 = M'.2 from rfl, h.2.2, hi.2.2]; rfl
  · exact (rd_nk (by decide)).trans ((h.2.1 2 (by unfold cF; omega) (by decide)).trans ((hi.2.1 2 (by unfold cF; omega)).trans ((rd_nk (by decide)).trans rd_eq)))
  · rw [show (sI M' 572 35 y).2 = M'.2 from rfl, h.2.2, hi.2.2]; rfl
theorem c162_t (d : Nat) {ps : Nat → prt} {k : Nat} (hm : mdl M ps (k + 1)) (h6 : M.1 572 6 = ((k + 1 : Nat) : Int)) (h5 : M.1 572 5 = 1) {w : List Nat} (hw : tx_L w) (hw6 : w.length ≤ 6) (hb : (sts ps k).2 (tx_num w) = true) (hsl : (sem_cr (pgo ps) k w).length ≤ 250) : ab_Z (pg_G L xs) (d + 12) 162 [.ref 572, zi (tx_num w : Nat)] M es (fun v M' => v = some (zi (nz (sem_cr (pgo ps) k w))) ∧ Fzt 0 M M' ∧ M'.1 572 32 = M.1 572 32 ∧ M'.1 572 34 = M.1 572 34 ∧ M'.2.1 594 = M.2.1 594 ∧ M'.1 572 35 = 0) := by
  have ht := (tx_six hw).mp hw6
  have hc31 := hm.1
  have hcL := cr_L (mdl_gds hm) k (by omega) w hw
  show ab_W (pg_G L xs) (ab_X (pg_G L xs) (d + 11)) 162 _ 0 [some (.ref 572), some (zi ((tx_num w : Nat) : Int))] [] (hp M ++ es)
  refine x_ld 0 1 2 1 rfl rfl rfl rfl rfl ?_
  refine x_ld 0 1 2 2 rfl rfl rfl rfl rfl ?_
  refine g_572_5 267 5 rfl rfl h5 rfl ?_
  refine x_ld 1 1 0 6 rfl rfl rfl rfl rfl ?_
  refine x_cv 369 135 9 [zi ((tx_num w : Nat) : Int)] rfl rfl rfl (Nat.le_of_ble_eq_true rfl) rfl rfl (Nat.le_of_ble_eq_true rfl) trivial (Nat.le_of_ble_eq_true rfl) (c135_t (M := M) (d + 10) (by omega) (by omega)) rfl ?_
  refine x_cv 361 132 12 [.ref 572, zi 1, zi 1] rfl rfl rfl (Nat.le_of_ble_eq_true rfl) rfl rfl (Nat.le_of_ble_eq_true rfl) ⟨_, _, _, rfl, o_572⟩ (Nat.le_of_ble_eq_true rfl) (c132_o (M := M) (d + 10)) rfl ?_
  refine z_ifeq 17 15 rfl rfl rfl (rg_lit 0 rfl) (fun _ => ?_) (fun c => absurd c (by decide))
  refine x_ld 0 1 2 18 rfl rfl rfl rfl rfl ?_
  refine x_cst (zi 0) 1 19 rfl rfl rfl ?_
  refine s_572_35 156 22 rfl rfl rfl rfl rfl rfl ?_
  refine x_ld 0 1 2 23 rfl rfl rfl rfl rfl ?_
  refine g_572_12 35 26 rfl rfl rfl ?_
  refine x_ld 0 1 2 27 rfl rfl rfl rfl rfl ?_
  refine g_572_6 271 30 rfl rfl ((rd_nk (Ne.symm (by decide))).trans ((rd_nk (Ne.symm (by decide))).trans h6)) rfl ?_
  refine x_cst (zi 1) 1 31 rfl rfl rfl ?_
  refine z_sub 32 rfl rfl ?_
  rw [show ((k + 1 : Nat) : Int) - 1 = ((k : Nat) : Int) from (by omega)]
  refine x_ld 1 1 0 33 rfl rfl rfl rfl rfl ?_
  refine x_cv 228 123 36 [.ref 581, zi ((k : Nat) : Int), zi ((tx_num w : Nat) : Int)] rfl rfl rfl (Nat.le_of_ble_eq_true rfl) rfl rfl (Nat.le_of_ble_eq_true rfl) trivial (Nat.le_of_ble_eq_true rfl) (c123v (M := (sI (sI M 572 2 0) 572 35 0)) (d + 10) (mdl_f (mdl_f hm)) (by omega) (t := tx_num w) (by omega) hb) rfl ?_
  refine z_ifne 41 39 rfl rfl rfl (rg_lit 1 rfl) (fun _ => ?_) (fun c => absurd c (by decide))
  refine x_ld 0 1 2 42 rfl rfl rfl rfl rfl ?_
  refine x_ld 1 1 0 43 rfl rfl rfl rfl rfl ?_
  refine x_ld 0 1 2 44 rfl rfl rfl rfl rfl ?_
  refine g_572_38 90 47 rfl rfl rfl ?_
  refine x_ce 372 139 50 [.ref 572, zi ((tx_num w : Nat) : Int), .ref 597] rfl rfl rfl (Nat.le_of_ble_eq_true rfl) rfl rfl (Nat.le_of_ble_eq_true rfl) ⟨_, _, _, rfl, o_572⟩ (Nat.le_of_ble_eq_true rfl) (c139 (M := (sI (sI M 572 2 0) 572 35 0)) (d + 9) (N := 6) i_597 hw hw6 (by decide)) rfl ?_
  rintro v M2 ⟨rfl, hFM2, hrM2⟩
  have h6M2 : M2.1 572 6 = ((k + 1 : Nat) : Int) := by rw [hFM2.1 572 (by decide)]; exact ((rd_nk (Ne.symm (by decide))).trans ((rd_nk (Ne.symm (by decide))).trans h6))
  refine x_ld 0 1 2 51 rfl rfl rfl rfl rfl ?_
  refine x_ld 0 1 2 52 rfl rfl rfl rfl rfl ?_
  refine g_572_6 271 55 rfl rfl h6M2 rfl ?_
  refine x_cst (zi 1) 1 56 rfl rfl rfl ?_
  refine z_sub 57 rfl rfl ?_
  rw [show ((k + 1 : Nat) : Int) - 1 = ((k : Nat) : Int) from (by omega)]
  refine x_ld 0 1 2 58 rfl rfl rfl rfl rfl ?_
  refine x_ld 1 1 0 59 rfl rfl rfl rfl rfl ?_
  refine x_cv 221 125 62 [.ref 572, zi ((tx_num w : Nat) : Int)] rfl rfl rfl (Nat.le_of_ble_eq_true rfl) rfl rfl (Nat.le_of_ble_eq_true rfl) ⟨_, _, _, rfl, o_572⟩ (Nat.le_of_ble_eq_true rfl) (c125 (M := M2) (d + 10) hw hw6) rfl ?_
  refine x_cst (zi (-1)) 1 63 rfl rfl rfl ?_
  refine x_cst (zi 0) 1 64 rfl rfl rfl ?_
  refine x_ce 379 150 67 [.ref 572, zi ((k : Nat) : Int), zi ((w.length : Nat) : Int), zi (-1), zi 0] rfl rfl rfl (Nat.le_of_ble_eq_true rfl) rfl rfl (Nat.le_of_ble_eq_true rfl) ⟨_, _, _, rfl, o_572⟩ (Nat.le_of_ble_eq_true rfl) (c150 (M := M2) (d + 2) (mdl_Fk (mdl_f (mdl_f hm)) (Fdr_1 (.inr rfl) hFM2).2.1) h6M2 (c := k + 1) rfl (w := w) (src := none) ⟨hw, hw6, hb, by show 0 + w.length ≤ 6; omega, hrM2, trivial⟩ hsl) rfl ?_
  rintro v M3 ⟨rfl, hF3, h40, hr3, -, -⟩
  refine x_ld 0 1 2 68 rfl rfl rfl rfl rfl ?_
  refine x_cst (zi 0) 1 69 rfl rfl rfl ?_
  refine s_572_35 156 72 rfl rfl rfl rfl rfl rfl ?_
  refine x_ld 0 1 2 73 rfl rfl rfl rfl rfl ?_
  refine x_ld 0 1 2 74 rfl rfl rfl rfl rfl ?_
  refine g_572_39 93 77 rfl rfl rfl ?_
  refine x_cst (zi 0) 1 78 rfl rfl rfl ?_
  refine x_ld 0 1 2 79 rfl rfl rfl rfl rfl ?_
  refine g_572_40 278 82 rfl rfl ((rd_nk (Ne.symm (by decide))).trans h40) rfl ?_
  refine x_cv 274 144 85 [.ref 572, .ref 598, zi 0, zi (((sem_cr (pgo ps) k w).length : Nat) : Int)] rfl rfl rfl (Nat.le_of_ble_eq_true rfl) rfl rfl (Nat.le_of_ble_eq_true rfl) ⟨_, _, _, rfl, o_572⟩ (Nat.le_of_ble_eq_true rfl) (c144 (M := (sI M3 572 35 0)) (d + 10) (s := 0) i_598 hcL (by rw [sI_ne (by decide)]; exact hr3) (by omega)) rfl ?_
  refine x_ret rfl rfl rfl rfl ?_
  have hF4 : Fzt 0 M (sI M3 572 35 0) ∧ (sI M3 572 35 0).1 572 32 = M.1 572 32 ∧ (sI M3 572 35 0).1 572 34 = M.1 572 34 ∧ (sI M3 572 35 0).2.1 594 = M.2.1 594 ∧ (sI M3 572 35 0).1 572 35 = 0 := Fzt_p (Fzi_F1 (by decide) hFM2) hF3
  exact ⟨_, _, rfl, rfl, rfl, hF4.1, hF4.2.1, hF4.2.2.1, hF4.2.2.2.1, hF4.2.2.2.2⟩
/-- the places the parts of a carried view come of -/
def ogQ (ps : Nat → prt) (k : Nat) (s w : List Nat) (m : Int) (f : Int → Int) : Prop := (((sem_pu (pgo ps) k s w).length ≤ 6 ∧ 7 ≤ (ps k).1) ∧ m = ((rps (sts ps (ps k).2.1).2 (sts ps k).2 w).length : Int) ∧ ∀ i : Nat, i < (rps (sts ps (ps k).2.1).2 (sts ps k).2 w).length → f (i : Int) = oz (ogS ps k w (some (0, s)) i)) ∨ (¬ ((sem_pu (pgo ps) k s w).length ≤ 6 ∧ 7 ≤ (ps k).1) ∧ m = 0)
theorem c149_l (d : Nat) {ps : Nat → prt} {k : Nat} (hm : mdl M ps (k + 1)) (h6 : M.1 572 6 = ((k + 1 : Nat) : Int)) (h5 : M.1 572 5 = 1) {s : List Nat} (hs : tx_L s) (hs6 : s.length ≤ 6) (h32 : M.1 572 32 = ((tx_num s : Nat) : Int)) (hsS : (sts ps k).1 (tx_num s) = true) (hsv : (sem_sh (pgo ps) k s).length ≤ 6) {w : List Nat} (hw : tx_L w) (hw6 : w.length ≤ 6) (hb : (sts ps k).2 (tx_num w) = true) (hsl : (sem_pu (pgo ps) k s w).length ≤ 250) (hl : ¬ (sem_pu (pgo ps) k s w).length ≤ 6) : ab_Z (pg_G L xs) (d + 12) 149 [.ref 572, zi (tx_num w : Nat)] M es (fun v M' => v = some (zi (nz (sem_pu (pgo ps) k s w))) ∧ Fzt 0 M M' ∧ M'.1 572 32 = M.1 572 32 ∧ M'.1 572 34 = M.1 572 34 ∧ M'.2.1 594 = M.2.1 594 ∧ ogQ ps k s w (M'.1 572 35) (M'.1 595)) := by
  have ht := (tx_six hw).mp hw6
  have hts := (tx_six hs).mp hs6
  have hc31 := hm.1
  have hpL := pu_L (mdl_gds hm) k (by omega) s w hs hw
  show ab_W (pg_G L xs) (ab_X (pg_G L xs) (d + 11)) 149 _ 0 [some (.ref 572), some (zi ((tx_num w : Nat) : Int)), none] [] (hp M ++ es)
  refine x_ld 0 1 2 1 rfl rfl rfl rfl rfl ?_
  refine x_ld 0 1 2 2 rfl rfl rfl rfl rfl ?_
  refine g_572_5 267 5 rfl rfl h5 rfl ?_
  refine z_ifeq 19 8 rfl rfl rfl (rg_lit 1 rfl) (fun c => absurd c (by decide)) (fun _ => ?_)
  refine x_ld 0 1 2 9 rfl rfl rfl rfl rfl ?_
  refine g_572_32 78 12 rfl rfl h32 rfl ?_
  refine z_iflt 19 15 rfl rfl rfl ⟨by omega, by omega⟩ (fun c => absurd c (by omega)) (fun _ => ?_)
  refine x_cst (zi 1) 1 16 rfl rfl rfl ?_
  refine x_go 20 rfl rfl ?_
  refine x_ld 1 1 0 21 rfl rfl rfl rfl rfl ?_
  refine x_cv 369 135 24 [zi ((tx_num w : Nat) : Int)] rfl rfl rfl (Nat.le_of_ble_eq_true rfl) rfl rfl (Nat.le_of_ble_eq_true rfl) trivial (Nat.le_of_ble_eq_true rfl) (c135_t (M := M) (d + 10) (by omega) (by omega)) rfl ?_
  refine x_cv 361 132 27 [.ref 572, zi 1, zi 1] rfl rfl rfl (Nat.le_of_ble_eq_true rfl) rfl rfl (Nat.le_of_ble_eq_true rfl) ⟨_, _, _, rfl, o_572⟩ (Nat.le_of_ble_eq_true rfl) (c132_o (M := M) (d + 10)) rfl ?_
  refine z_ifeq 32 30 rfl rfl rfl (rg_lit 0 rfl) (fun _ => ?_) (fun c => absurd c (by decide))
  refine x_ld 0 1 2 33 rfl rfl rfl rfl rfl ?_
  refine x_cst (zi 0) 1 34 rfl rfl rfl ?_
  refine s_572_35 156 37 rfl rfl rfl rfl rfl rfl ?_
  refine x_ld 0 1 2 38 rfl rfl rfl rfl rfl ?_
  refine g_572_12 35 41 rfl rfl rfl ?_
  refine x_ld 0 1 2 42 rfl rfl rfl rfl rfl ?_
  refine g_572_6 271 45 rfl rfl ((rd_nk (Ne.symm (by decide))).trans ((rd_nk (Ne.symm (by decide))).trans h6)) rfl ?_
  refine x_cst (zi 1) 1 46 rfl rfl rfl ?_
  refine z_sub 47 rfl rfl ?_
  rw [show ((k + 1 : Nat) : Int) - 1 = ((k : Nat) : Int) from (by omega)]
  refine x_ld 1 1 0 48 rfl rfl rfl rfl rfl ?_
  refine x_cv 228 123 51 [.ref 581, zi ((k : Nat) : Int), zi ((tx_num w : Nat) : Int)] rfl rfl rfl (Nat.le_of_ble_eq_true rfl) rfl rfl (Nat.le_of_ble_eq_true rfl) trivial (Nat.le_of_ble_eq_true rfl) (c123v (M := (sI (sI M 572 2 0) 572 35 0)) (d + 10) (mdl_f (mdl_f hm)) (by omega) (t := tx_num w) (by omega) hb) rfl ?_
  refine z_ifne 56 54 rfl rfl rfl (rg_lit 1 rfl) (fun _ => ?_) (fun c => absurd c (by decide))
  refine x_ld 0 1 2 57 rfl rfl rfl rfl rfl ?_
  refine x_ld 1 1 0 58 rfl rfl rfl rfl rfl ?_
  refine x_ld 0 1 2 59 rfl rfl rfl rfl rfl ?_
  refine g_572_38 90 62 rfl rfl rfl ?_
  refine x_ce 372 139 65 [.ref 572, zi ((tx_num w : Nat) : Int), .ref 597] rfl rfl rfl (Nat.le_of_ble_eq_true rfl) rfl rfl (Nat.le_of_ble_eq_true rfl) ⟨_, _, _, rfl, o_572⟩ (Nat.le_of_ble_eq_true rfl) (c139 (M := (sI (sI M 572 2 0) 572 35 0)) (d + 9) (N := 6) i_597 hw hw6 (by decide)) rfl ?_
  rintro v M2 ⟨rfl, hFM2, hrM2⟩
  have h6M2 : M2.1 572 6 = ((k + 1 : Nat) : Int) := by rw [hFM2.1 572 (by decide)]; exact ((rd_nk (Ne.symm (by decide))).trans ((rd_nk (Ne.symm (by decide))).trans h6))
  have h32M2 : M2.1 572 32 = ((tx_num s : Nat) : Int) := by rw [hFM2.1 572 (by decide)]; exact (rd_nk (by decide)).trans ((rd_nk (by decide)).trans h32)
  refine x_ld 0 1 2 66 rfl rfl rfl rfl rfl ?_
  refine x_ld 0 1 2 67 rfl rfl rfl rfl rfl ?_
  refine g_572_32 78 70 rfl rfl h32M2 rfl ?_
  refine x_ld 0 1 2 71 rfl rfl rfl rfl rfl ?_
  refine g_572_37 87 74 rfl rfl rfl ?_
  refine x_ce 372 139 77 [.ref 572, zi ((tx_num s : Nat) : Int), .ref 596] rfl rfl rfl (Nat.le_of_ble_eq_true rfl) rfl rfl (Nat.le_of_ble_eq_true rfl) ⟨_, _, _, rfl, o_572⟩ (Nat.le_of_ble_eq_true rfl) (c139 (M := M2) (d + 9) (N := 6) i_596 hs hs6 (by decide)) rfl ?_
  rintro v M4 ⟨rfl, hFM4, hrM4⟩
  have h6M4 : M4.1 572 6 = ((k + 1 : Nat) : Int) := by rw [hFM4.1 572 (by decide)]; exact h6M2
  have h32M4 : M4.1 572 32 = ((tx_num s : Nat) : Int) := by rw [hFM4.1 572 (by decide)]; exact h32M2
  have hFi := Fzi_trans (Fzi_F1 (by decide) hFM2) (Fzi_F1 (by decide) hFM4)
  refine x_ld 0 1 2 78 rfl rfl rfl rfl rfl ?_
  refine x_ld 0 1 2 79 rfl rfl rfl rfl rfl ?_
  refine g_572_6 271 82 rfl rfl h6M4 rfl ?_
  refine x_cst (zi 1) 1 83 rfl rfl rfl ?_
  refine z_sub 84 rfl rfl ?_
  rw [show ((k + 1 : Nat) : Int) - 1 = ((k : Nat) : Int) from (by omega)]
  refine x_ld 0 1 2 85 rfl rfl rfl rfl rfl ?_
  refine x_ld 1 1 0 86 rfl rfl rfl rfl rfl ?_
  refine x_cv 221 125 89 [.ref 572, zi ((tx_num w : Nat) : Int)] rfl rfl rfl (Nat.le_of_ble_eq_true rfl) rfl rfl (Nat.le_of_ble_eq_true rfl) ⟨_, _, _, rfl, o_572⟩ (Nat.le_of_ble_eq_true rfl) (c125 (M := M4) (d + 10) hw hw6) rfl ?_
  refine x_cst (zi 0) 1 90 rfl rfl rfl ?_
  refine x_ld 0 1 2 91 rfl rfl rfl rfl rfl ?_
  refine x_ld 0 1 2 92 rfl rfl rfl rfl rfl ?_
  refine g_572_32 78 95 rfl rfl h32M4 rfl ?_
  refine x_cv 221 125 98 [.ref 572, zi ((tx_num s : Nat) : Int)] rfl rfl rfl (Nat.le_of_ble_eq_true rfl) rfl rfl (Nat.le_of_ble_eq_true rfl) ⟨_, _, _, rfl, o_572⟩ (Nat.le_of_ble_eq_true rfl) (c125 (M := M4) (d + 10) hs hs6) rfl ?_
  refine x_ce 379 150 101 [.ref 572, zi ((k : Nat) : Int), zi ((w.length : Nat) : Int), zi 0, zi ((s.length : Nat) : Int)] rfl rfl rfl (Nat.le_of_ble_eq_true rfl) rfl rfl (Nat.le_of_ble_eq_true rfl) ⟨_, _, _, rfl, o_572⟩ (Nat.le_of_ble_eq_true rfl) (c150 (M := M4) (d + 2) (mdl_i (mdl_f (mdl_f hm)) hFi) h6M4 (c := k + 1) rfl (w := w) (src := some (0, s)) ⟨hw, hw6, hb, by show 0 + w.length ≤ 6; omega, by show roL (M4.1 597) 0 w; rw [hFM4.1 597 (by decide)]; exact hrM2, hs, hs6, hsS, by show 0 + s.length ≤ 6; omega, hrM4, hsv⟩ hsl) rfl ?_
  rintro v M5 ⟨rfl, hF5, h40, hr5, hC5, hO5⟩
  refine x_ld 0 1 2 102 rfl rfl rfl rfl rfl ?_
  refine x_ld 0 1 2 103 rfl rfl rfl rfl rfl ?_
  refine g_572_39 93 106 rfl rfl rfl ?_
  refine x_cst (zi 0) 1 107 rfl rfl rfl ?_
  refine x_ld 0 1 2 108 rfl rfl rfl rfl rfl ?_
  refine g_572_40 278 111 rfl rfl h40 rfl ?_
  refine x_cv 274 144 114 [.ref 572, .ref 598, zi 0, zi (((sem_pu (pgo ps) k s w).length : Nat) : Int)] rfl rfl rfl (Nat.le_of_ble_eq_true rfl) rfl rfl (Nat.le_of_ble_eq_true rfl) ⟨_, _, _, rfl, o_572⟩ (Nat.le_of_ble_eq_true rfl) (c144 (M := M5) (d + 10) (s := 0) i_598 hpL hr5 (by omega)) rfl ?_
  rw [nz_gt hl]
  refine x_st 2 1 0 115 [some (.ref 572), some (zi ((tx_num w : Nat) : Int)), some (zi (-2))] rfl rfl rfl (Nat.le_of_ble_eq_true rfl) rfl rfl ?_
  refine x_ld 0 1 2 116 rfl rfl rfl rfl rfl ?_
  refine x_ld 2 1 0 117 rfl rfl rfl rfl rfl ?_
  refine z_ifge 124 120 rfl rfl rfl (rg_lit (-2) rfl) (fun c => absurd c (by omega)) (fun _ => ?_)
  refine x_cst (zi 0) 1 121 rfl rfl rfl ?_
  refine x_go 128 rfl rfl ?_
  refine s_572_35 156 131 rfl rfl rfl rfl rfl rfl ?_
  refine x_ld 2 1 0 132 rfl rfl rfl rfl rfl ?_
  refine x_ret rfl rfl rfl rfl ?_
  have hz := Fzt_p (M := M) (y := 0) hFi hF5
  refine ⟨_, _, rfl, rfl, rfl, hz.1, hz.2.1, hz.2.2.1, hz.2.2.2.1, ?_⟩
  rw [hz.2.2.2.2, sI_ne (by decide)]
  exact .inr ⟨fun h => hl h.1, rfl⟩
theorem c149_y (d : Nat) {ps : Nat → prt} {k : Nat} (hm : mdl M ps (k + 1)) (h6 : M.1 572 6 = ((k + 1 : Nat) : Int)) (h5 : M.1 572 5 = 1) {s : List Nat} (hs : tx_L s) (hs6 : s.length ≤ 6) (h32 : M.1 572 32 = ((tx_num s : Nat) : Int)) (hsS : (sts ps k).1 (tx_num s) = true) (hsv : (sem_sh (pgo ps) k s).length ≤ 6) {w : List Nat} (hw : tx_L w) (hw6 : w.length ≤ 6) (hb : (sts ps k).2 (tx_num w) = true) (hsl : (sem_pu (pgo ps) k s w).length ≤ 250) (hl : (sem_pu (pgo ps) k s w).length ≤ 6) : ab_Z (pg_G L xs) (d + 12) 149 [.ref 572, zi (tx_num w : Nat)] M es (fun v M' => v = some (zi (nz (sem_pu (pgo ps) k s w))) ∧ Fzt 0 M M' ∧ M'.1 572 32 = M.1 572 32 ∧ M'.1 572 34 = M.1 572 34 ∧ M'.2.1 594 = M.2.1 594 ∧ ogQ ps k s w (M'.1 572 35) (M'.1 595)) := by
  have ht := (tx_six hw).mp hw6
  have hts := (tx_six hs).mp hs6
  have hc31 := hm.1
  have hpL := pu_L (mdl_gds hm) k (by omega) s w hs hw
  have htp := (tx_six hpL).mp hl
  show ab_W (pg_G L xs) (ab_X (pg_G L xs) (d + 11)) 149 _ 0 [some (.ref 572), some (zi ((tx_num w : Nat) : Int)), none] [] (hp M ++ es)
  refine x_ld 0 1 2 1 rfl rfl rfl rfl rfl ?_
  refine x_ld 0 1 2 2 rfl rfl rfl rfl rfl ?_
  refine g_572_5 267 5 rfl rfl h5 rfl ?_
  refine z_ifeq 19 8 rfl rfl rfl (rg_lit 1 rfl) (fun c => absurd c (by decide)) (fun _ => ?_)
  refine x_ld 0 1 2 9 rfl rfl rfl rfl rfl ?_
  refine g_572_32 78 12 rfl rfl h32 rfl ?_
  refine z_iflt 19 15 rfl rfl rfl ⟨by omega, by omega⟩ (fun c => absurd c (by omega)) (fun _ => ?_)
  refine x_cst (zi 1) 1 16 rfl rfl rfl ?_
  refine x_go 20 rfl rfl ?_
  refine x_ld 1 1 0 21 rfl rfl rfl rfl rfl ?_
  refine x_cv 369 135 24 [zi ((tx_num w : Nat) : Int)] rfl rfl rfl (Nat.le_of_ble_eq_true rfl) rfl rfl (Nat.le_of_ble_eq_true rfl) trivial (Nat.le_of_ble_eq_true rfl) (c135_t (M := M) (d + 10) (by omega) (by omega)) rfl ?_
  refine x_cv 361 132 27 [.ref 572, zi 1, zi 1] rfl rfl rfl (Nat.le_of_ble_eq_true rfl) rfl rfl (Nat.le_of_ble_eq_true rfl) ⟨_, _, _, rfl, o_572⟩ (Nat.le_of_ble_eq_true rfl) (c132_o (M := M) (d + 10)) rfl ?_
  refine z_ifeq 32 30 rfl rfl rfl (rg_lit 0 rfl) (fun _ => ?_) (fun c => absurd c (by decide))
  refine x_ld 0 1 2 33 rfl rfl rfl rfl rfl ?_
  refine x_cst (zi 0) 1 34 rfl rfl rfl ?_
  refine s_572_35 156 37 rfl rfl rfl rfl rfl rfl ?_
  refine x_ld 0 1 2 38 rfl rfl rfl rfl rfl ?_
  refine g_572_12 35 41 rfl rfl rfl ?_
  refine x_ld 0 1 2 42 rfl rfl rfl rfl rfl ?_
  refine g_572_6 271 45 rfl rfl ((rd_nk (Ne.symm (by decide))).trans ((rd_nk (Ne.symm (by decide))).trans h6)) rfl ?_
  refine x_cst (zi 1) 1 46 rfl rfl rfl ?_
  refine z_sub 47 rfl rfl ?_
  rw [show ((k + 1 : Nat) : Int) - 1 = ((k : Nat) : Int) from (by omega)]
  refine x_ld 1 1 0 48 rfl rfl rfl rfl rfl ?_
  refine x_cv 228 123 51 [.ref 581, zi ((k : Nat) : Int), zi ((tx_num w : Nat) : Int)] rfl rfl rfl (Nat.le_of_ble_eq_true rfl) rfl rfl (Nat.le_of_ble_eq_true rfl) trivial (Nat.le_of_ble_eq_true rfl) (c123v (M := (sI (sI M 572 2 0) 572 35 0)) (d + 10) (mdl_f (mdl_f hm)) (by omega) (t := tx_num w) (by omega) hb) rfl ?_
  refine z_ifne 56 54 rfl rfl rfl (rg_lit 1 rfl) (fun _ => ?_) (fun c => absurd c (by decide))
  refine x_ld 0 1 2 57 rfl rfl rfl rfl rfl ?_
  refine x_ld 1 1 0 58 rfl rfl rfl rfl rfl ?_
  refine x_ld 0 1 2 59 rfl rfl rfl rfl rfl ?_
  refine g_572_38 90 62 rfl rfl rfl ?_
  refine x_ce 372 139 65 [.ref 572, zi ((tx_num w : Nat) : Int), .ref 597] rfl rfl rfl (Nat.le_of_ble_eq_true rfl) rfl rfl (Nat.le_of_ble_eq_true rfl) ⟨_, _, _, rfl, o_572⟩ (Nat.le_of_ble_eq_true rfl) (c139 (M := (sI (sI M 572 2 0) 572 35 0)) (d + 9) (N := 6) i_597 hw hw6 (by decide)) rfl ?_
  rintro v M2 ⟨rfl, hFM2, hrM2⟩
  have h6M2 : M2.1 572 6 = ((k + 1 : Nat) : Int) := by rw [hFM2.1 572 (by decide)]; exact ((rd_nk (Ne.symm (by decide))).trans ((rd_nk (Ne.symm (by decide))).trans h6))
  have h32M2 : M2.1 572 32 = ((tx_num s : Nat) : Int) := by rw [hFM2.1 572 (by decide)]; exact (rd_nk (by decide)).trans ((rd_nk (by decide)).trans h32)
  refine x_ld 0 1 2 66 rfl rfl rfl rfl rfl ?_
  refine x_ld 0 1 2 67 rfl rfl rfl rfl rfl ?_
  refine g_572_32 78 70 rfl rfl h32M2 rfl ?_
  refine x_ld 0 1 2 71 rfl rfl rfl rfl rfl ?_
  refine g_572_37 87 74 rfl rfl rfl ?_
  refine x_ce 372 139 77 [.ref 572, zi ((tx_num s : Nat) : Int), .ref 596] rfl rfl rfl (Nat.le_of_ble_eq_true rfl) rfl rfl (Nat.le_of_ble_eq_true rfl) ⟨_, _, _, rfl, o_572⟩ (Nat.le_of_ble_eq_true rfl) (c139 (M := M2) (d + 9) (N := 6) i_596 hs hs6 (by decide)) rfl ?_
  rintro v M4 ⟨rfl, hFM4, hrM4⟩
  have h6M4 : M4.1 572 6 = ((k + 1 : Nat) : Int) := by rw [hFM4.1 572 (by decide)]; exact h6M2
  have h32M4 : M4.1 572 32 = ((tx_num s : Nat) : Int) := by rw [hFM4.1 572 (by decide)]; exact h32M2
  have hFi := Fzi_trans (Fzi_F1 (by decide) hFM2) (Fzi_F1 (by decide) hFM4)
  refine x_ld 0 1 2 78 rfl rfl rfl rfl rfl ?_
  refine x_ld 0 1 2 79 rfl rfl rfl rfl rfl ?_
  refine g_572_6 271 82 rfl rfl h6M4 rfl ?_
  refine x_cst (zi 1) 1 83 rfl rfl rfl ?_
  refine z_sub 84 rfl rfl ?_
  rw [show ((k + 1 : Nat) : Int) - 1 = ((k : Nat) : Int) from (by omega)]
  refine x_ld 0 1 2 85 rfl rfl rfl rfl rfl ?_
  refine x_ld 1 1 0 86 rfl rfl rfl rfl rfl ?_
  refine x_cv 221 125 89 [.ref 572, zi ((tx_num w : Nat) : Int)] rfl rfl rfl (Nat.le_of_ble_eq_true rfl) rfl rfl (Nat.le_of_ble_eq_true rfl) ⟨_, _, _, rfl, o_572⟩ (Nat.le_of_ble_eq_true rfl) (c125 (M := M4) (d + 10) hw hw6) rfl ?_
  refine x_cst (zi 0) 1 90 rfl rfl rfl ?_
  refine x_ld 0 1 2 91 rfl rfl rfl rfl rfl ?_
  refine x_ld 0 1 2 92 rfl rfl rfl rfl rfl ?_
  refine g_572_32 78 95 rfl rfl h32M4 rfl ?_
  refine x_cv 221 125 98 [.ref 572, zi ((tx_num s : Nat) : Int)] rfl rfl rfl (Nat.le_of_ble_eq_true rfl) rfl rfl (Nat.le_of_ble_eq_true rfl) ⟨_, _, _, rfl, o_572⟩ (Nat.le_of_ble_eq_true rfl) (c125 (M := M4) (d + 10) hs hs6) rfl ?_
  refine x_ce 379 150 101 [.ref 572, zi ((k : Nat) : Int), zi ((w.length : Nat) : Int), zi 0, zi ((s.length : Nat) : Int)] rfl rfl rfl (Nat.le_of_ble_eq_true rfl) rfl rfl (Nat.le_of_ble_eq_true rfl) ⟨_, _, _, rfl, o_572⟩ (Nat.le_of_ble_eq_true rfl) (c150 (M := M4) (d + 2) (mdl_i (mdl_f (mdl_f hm)) hFi) h6M4 (c := k + 1) rfl (w := w) (src := some (0, s)) ⟨hw, hw6, hb, by show 0 + w.length ≤ 6; omega, by show roL (M4.1 597) 0 w; rw [hFM4.1 597 (by decide)]; exact hrM2, hs, hs6, hsS, by show 0 + s.length ≤ 6; omega, hrM4, hsv⟩ hsl) rfl ?_
  rintro v M5 ⟨rfl, hF5, h40, hr5, hC5, hO5⟩
  refine x_ld 0 1 2 102 rfl rfl rfl rfl rfl ?_
  refine x_ld 0 1 2 103 rfl rfl rfl rfl rfl ?_
  refine g_572_39 93 106 rfl rfl rfl ?_
  refine x_cst (zi 0) 1 107 rfl rfl rfl ?_
  refine x_ld 0 1 2 108 rfl rfl rfl rfl rfl ?_
  refine g_572_40 278 111 rfl rfl h40 rfl ?_
  refine x_cv 274 144 114 [.ref 572, .ref 598, zi 0, zi (((sem_pu (pgo ps) k s w).length : Nat) : Int)] rfl rfl rfl (Nat.le_of_ble_eq_true rfl) rfl rfl (Nat.le_of_ble_eq_true rfl) ⟨_, _, _, rfl, o_572⟩ (Nat.le_of_ble_eq_true rfl) (c144 (M := M5) (d + 10) (s := 0) i_598 hpL hr5 (by omega)) rfl ?_
  rw [nz_le hl]
  refine x_st 2 1 0 115 [some (.ref 572), some (zi ((tx_num w : Nat) : Int)), some (zi ((tx_num (sem_pu (pgo ps) k s w) : Nat) : Int))] rfl rfl rfl (Nat.le_of_ble_eq_true rfl) rfl rfl ?_
  refine x_ld 0 1 2 116 rfl rfl rfl rfl rfl ?_
  refine x_ld 2 1 0 117 rfl rfl rfl rfl rfl ?_
  refine z_ifge 124 120 rfl rfl rfl ⟨by omega, by omega⟩ (fun _ => ?_) (fun c => absurd c (by omega))
  refine x_ld 0 1 2 125 rfl rfl rfl rfl rfl ?_
  refine g_572_35 156 128 rfl rfl rfl rfl ?_
  refine s_572_35 156 131 rfl rfl rfl rfl rfl rfl ?_
  refine x_ld 2 1 0 132 rfl rfl rfl rfl rfl ?_
  refine x_ret rfl rfl rfl rfl ?_
  have hz := Fzt_p (M := M) (y := (M5.1 572 35)) hFi hF5
  refine ⟨_, _, rfl, rfl, rfl, hz.1, hz.2.1, hz.2.2.1, hz.2.2.2.1, ?_⟩
  rw [hz.2.2.2.2, sI_ne (by decide)]
  by_cases hK : 7 ≤ (ps k).1
  · exact .inl ⟨⟨hl, hK⟩, (hO5 hK).1, (hO5 hK).2⟩
  · refine .inr ⟨fun h => hK h.2, ?_⟩
    exact ((hC5 (by omega)).2.1 35 (by unfold cF; omega)).trans ((hFi.2.1 35 (by unfold cF; omega)).trans rd_eq)
theorem c163_y (d : Nat) {x m : Int} (h0 : 0 ≤ x) (h1 : x < m) (hm6 : m ≤ 6) (h35 : M.1 572 35 = m) : ab_S (pg_G L xs) (d + 12) 163 [.ref 572, zi x] (hp M ++ es) (some (zi (M.1 595 x))) (hp (sI M 572 2 0) ++ es) := by
  show ab_W (pg_G L xs) (ab_X (pg_G L xs) (d + 11)) 163 _ 0 [some (.ref 572), some (zi x)] [] (hp M ++ es)
  refine x_ld 0 1 2 1 rfl rfl rfl rfl rfl ?_
  refine x_cst (zi 0) 1 2 rfl rfl rfl ?_
  refine s_572_2 159 5 rfl rfl rfl rfl rfl rfl ?_
  refine x_ld 1 1 0 6 rfl rfl rfl rfl rfl ?_
  refine z_iflt 26 9 rfl rfl rfl ⟨by omega, by omega⟩ (fun c => absurd c (by omega)) (fun _ => ?_)
  refine x_ld 1 1 0 10 rfl rfl rfl rfl rfl ?_
  refine x_ld 0 1 2 11 rfl rfl rfl rfl rfl ?_
  refine g_572_35 156 14 rfl rfl ((rd_nk (Ne.symm (by decide))).trans h35) rfl ?_
  refine z_icge 26 17 rfl rfl rfl ⟨by omega, by omega⟩ ⟨by omega, by omega⟩ (fun c => absurd c (by omega)) (fun _ => ?_)
  refine x_ld 0 1 2 18 rfl rfl rfl rfl rfl ?_
  refine g_572_36 84 21 rfl rfl rfl ?_
  refine x_ld 1 1 0 22 rfl rfl rfl rfl rfl ?_
  refine z_ild (M.1 595 x) 23 rfl i_595 rfl ⟨by omega, by omega⟩ (rd_na (Ne.symm (by decide))) rfl ?_
  refine x_go 27 rfl rfl ?_
  refine x_ret rfl rfl rfl rfl ?_
  exact ⟨rfl, rfl⟩
theorem c163_n (d : Nat) {x m : Int} (hx : rg x) (hb : ¬ (0 ≤ x ∧ x < m)) (hm0 : 0 ≤ m) (hm6 : m ≤ 6) (h35 : M.1 572 35 = m) : ab_S (pg_G L xs) (d + 12) 163 [.ref 572, zi x] (hp M ++ es) (some (zi (-1))) (hp (sI M 572 2 0) ++ es) := by
  show ab_W (pg_G L xs) (ab_X (pg_G L xs) (d + 11)) 163 _ 0 [some (.ref 572), some (zi x)] [] (hp M ++ es)
  refine x_ld 0 1 2 1 rfl rfl rfl rfl rfl ?_
  refine x_cst (zi 0) 1 2 rfl rfl rfl ?_
  refine s_572_2 159 5 rfl rfl rfl rfl rfl rfl ?_
  refine x_ld 1 1 0 6 rfl rfl rfl rfl rfl ?_
  refine z_iflt 26 9 rfl rfl rfl hx (fun c6 => ?_) (fun c6 => ?_)
  · refine x_cst (zi (-1)) 1 27 rfl rfl rfl ?_
    refine x_ret rfl rfl rfl rfl ?_
    exact ⟨rfl, rfl⟩
  · refine x_ld 1 1 0 10 rfl rfl rfl rfl rfl ?_
    refine x_ld 0 1 2 11 rfl rfl rfl rfl rfl ?_
    refine g_572_35 156 14 rfl rfl ((rd_nk (Ne.symm (by decide))).trans h35) rfl ?_
    refine z_icge 26 17 rfl rfl rfl hx ⟨by omega, by omega⟩ (fun _ => ?_) (fun c => absurd c (by omega))
    refine x_cst (zi (-1)) 1 27 rfl rfl rfl ?_
    refine x_ret rfl rfl rfl rfl ?_
    exact ⟨rfl, rfl⟩
theorem c165_loop (d : Nat) {ps : Nat → prt} {k : Nat} (hm : mdl M ps (k + 1)) (h6 : M.1 572 6 = ((k + 1 : Nat) : Int)) {Q : ab_Q} (kk : ∀ M', M'.1 = M.1 → M'.2.2 = M.2.2 → (∀ a, a ≠ 594 → M'.2.1 a = M.2.1 a) → (∀ j : Int, 0 ≤ j → j < 1152 → M'.2.1 594 j = M.2.1 581 (1152 * (k : Int) + j)) → ab_W (pg_G L xs) (ab_X (pg_G L xs) d) 165 Q 50 [some (.ref 572), some (zi ((18 : Nat) : Int))] [] (hp M' ++ es)) : ∀ m i : Nat, 18 - i = m → i ≤ 18 → ∀ M', M'.1 = M.1 → M'.2.2 = M.2.2 → (∀ a, a ≠ 594 → M'.2.1 a = M.2.1 a) → (∀ j : Int, 0 ≤ j → j < 64 * (i : Int) → M'.2.1 594 j = M.2.1 581 (1152 * (k : Int) + j)) → ab_W (pg_G L xs) (ab_X (pg_G L xs) d) 165 Q 16 [some (.ref 572), some (zi (i : Nat))] [] (hp M' ++ es) := by
  have hc31 := hm.1
  intro m
  induction m using Nat.strongRecOn with
  | _ m ih =>
    intro i hmi hi M' e1 e2 hb hj
    have h6' : M'.1 572 6 = ((k + 1 : Nat) : Int) := by rw [e1]; exact h6
    refine x_ld 1 1 0 17 rfl rfl rfl rfl rfl ?_
    refine x_cst (zi 18) 2 19 rfl rfl rfl ?_
    refine z_icge 50 22 rfl rfl rfl ⟨by omega, by omega⟩ (rg_lit 18 rfl) (fun c19 => ?_) (fun c19 => ?_)
    · have e : i = 18 := by omega
      subst e; exact kk M' e1 e2 hb (fun j h0 h1 => hj j h0 (by omega))
    · refine x_ld 0 1 2 23 rfl rfl rfl rfl rfl ?_
      refine g_572_33 81 26 rfl rfl rfl ?_
      refine x_ld 1 1 0 27 rfl rfl rfl rfl rfl ?_
      refine x_ld 0 1 2 28 rfl rfl rfl rfl rfl ?_
      refine g_572_12 35 31 rfl rfl rfl ?_
      refine x_cst (zi 18) 2 33 rfl rfl rfl ?_
      refine x_ld 0 1 2 34 rfl rfl rfl rfl rfl ?_
      refine g_572_6 271 37 rfl rfl h6' rfl ?_
      refine x_cst (zi 1) 1 38 rfl rfl rfl ?_
      refine z_sub 39 rfl rfl ?_
      rw [show ((k + 1 : Nat) : Int) - 1 = ((k : Nat) : Int) from (by omega)]
      refine z_mul 40 rfl rfl ?_
      refine x_ld 1 1 0 41 rfl rfl rfl rfl rfl ?_
      refine z_add 42 rfl rfl ?_
      refine z_lld 43 rfl i_581 rfl ⟨by omega, by omega⟩ rfl ?_
      refine z_lst 44 rfl i_594 rfl ⟨by omega, by omega⟩ rfl ?_
      refine z_inc 1 47 [some (.ref 572), some (zi (((i : Nat) : Int) + 1))] rfl rfl (Nat.le_of_ble_eq_true rfl) rfl rfl ?_
      refine x_go 16 rfl rfl ?_
      refine ih (18 - (i + 1)) (by omega) (i + 1) rfl (by omega) _ e1 e2 (fun a h => ?_) (fun j h0 h1 => ?_)
      · rw [rB_ne h]; exact hb a h
      · rw [rB_at]; unfold upw
        by_cases q : 64 * (i : Int) ≤ j
        · rw [if_pos ⟨q, by omega⟩, hb 581 (by decide)]
          exact congrArg (M.2.1 581) (by omega)
        · rw [if_neg (by omega)]; exact hj j h0 (by omega)
theorem c165_v (d : Nat) {ps : Nat → prt} {k : Nat} (hm : mdl M ps (k + 1)) (h6 : M.1 572 6 = ((k + 1 : Nat) : Int)) (h5 : M.1 572 5 = 1) : ab_Z (pg_G L xs) (d + 12) 165 [.ref 572] M es (fun v M' => v = some (zi ((cnt (sts ps k).2 1093 : Nat) : Int)) ∧ Fzt 0 M M' ∧ M'.1 572 32 = M.1 572 32 ∧ M'.1 572 35 = M.1 572 35 ∧ M'.1 595 = M.1 595 ∧ M'.1 572 34 = 1 ∧ ag (sN (M'.2.1 594)) (sts ps k).2) := by
  have hc31 := hm.1
  show ab_W (pg_G L xs) (ab_X (pg_G L xs) (d + 11)) 165 _ 0 [some (.ref 572), none] [] (hp M ++ es)
  refine x_ld 0 1 2 1 rfl rfl rfl rfl rfl ?_
  refine x_ld 0 1 2 2 rfl rfl rfl rfl rfl ?_
  refine g_572_5 267 5 rfl rfl h5 rfl ?_
  refine x_cst (zi 1) 1 6 rfl rfl rfl ?_
  refine x_cv 361 132 9 [.ref 572, zi 1, zi 1] rfl rfl rfl (Nat.le_of_ble_eq_true rfl) rfl rfl (Nat.le_of_ble_eq_true rfl) ⟨_, _, _, rfl, o_572⟩ (Nat.le_of_ble_eq_true rfl) (c132_o (M := M) (d + 10)) rfl ?_
  refine z_ifeq 14 12 rfl rfl rfl (rg_lit 0 rfl) (fun _ => ?_) (fun c => absurd c (by decide))
  refine x_cst (zi 0) 1 15 rfl rfl rfl ?_
  refine x_st 1 1 0 16 [some (.ref 572), some (zi 0)] rfl rfl rfl (Nat.le_of_ble_eq_true rfl) rfl rfl ?_
  refine c165_loop (L := L) (xs := xs) (es := es) (M := (sI M 572 2 0)) (d + 11) (ps := ps) (k := k) (mdl_f hm) ((rd_nk (by decide)).trans h6) ?_ _ 0 rfl (by decide) _ rfl rfl (fun _ _ => rfl) (fun j h0 h1 => absurd h1 (by omega))
  intro M2 e1 e2 hb hj
  have h62 : M2.1 572 6 = ((k + 1 : Nat) : Int) := by rw [e1]; exact (rd_nk (by decide)).trans h6
  have hm2 : mdl M2 ps (k + 1) := by
    have t : mdl (sI M 572 2 0) ps (k + 1) := mdl_f hm
    refine ⟨t.1, fun q hq => ?_⟩
    have u := t.2 q hq
    rw [e1, hb 580 (by decide), hb 581 (by decide)]; exact u
  refine x_ld 0 1 2 51 rfl rfl rfl rfl rfl ?_
  refine x_cst (zi 1) 1 52 rfl rfl rfl ?_
  refine s_572_34 383 55 rfl rfl rfl rfl rfl rfl ?_
  refine x_ld 0 1 2 56 rfl rfl rfl rfl rfl ?_
  refine x_ld 0 1 2 57 rfl rfl rfl rfl rfl ?_
  refine g_572_12 35 60 rfl rfl rfl ?_
  refine x_ld 0 1 2 61 rfl rfl rfl rfl rfl ?_
  refine g_572_6 271 64 rfl rfl ((rd_nk (Ne.symm (by decide))).trans h62) rfl ?_
  refine x_cst (zi 1) 1 65 rfl rfl rfl ?_
  refine z_sub 66 rfl rfl ?_
  rw [show ((k + 1 : Nat) : Int) - 1 = ((k : Nat) : Int) from (by omega)]
  refine x_cv 365 133 69 [.ref 572, .ref 581, zi ((k : Nat) : Int)] rfl rfl rfl (Nat.le_of_ble_eq_true rfl) rfl rfl (Nat.le_of_ble_eq_true rfl) ⟨_, _, _, rfl, o_572⟩ (Nat.le_of_ble_eq_true rfl) (c133v (M := (sI M2 572 34 1)) (d + 9) (mdl_f hm2) (by omega)) rfl ?_
  refine x_ret rfl rfl rfl rfl ?_
  refine ⟨_, _, rfl, rfl, rfl, ⟨fun a h1 h2 => ?_, fun j h1 h2 h3 h4 h5 => ?_, fun a h => ?_, ?_, ?_⟩, ?_, ?_, ?_, rd_eq, fun u hu => ?_⟩
  · rw [sI_ne h1, e1, sI_ne h1]
  · exact (rd_nk h4).trans ((by rw [e1] : M2.1 572 j = (sI M 572 2 0).1 572 j).trans (rd_nk h2))
  · exact (hb a h)
  · exact e2
  · exact (rd_nk (by decide)).trans ((by rw [e1] : M2.1 572 2 = (sI M 572 2 0).1 572 2).trans rd_eq)
  · exact (rd_nk (by decide)).trans ((by rw [e1] : M2.1 572 32 = (sI M 572 2 0).1 572 32).trans (rd_nk (by decide)))
  · exact (rd_nk (by decide)).trans ((by rw [e1] : M2.1 572 35 = (sI M 572 2 0).1 572 35).trans (rd_nk (by decide)))
  · rw [sI_ne (by decide), e1, sI_ne (by decide)]
  · exact (hj u (by omega) (by omega)).trans ((hm.2 k (by omega)).2.2.2.2.2.2.2 u hu)
theorem bz_ne {a b : Bool} : bz a = bz b ↔ (a ^^ b) = false := by cases a <;> cases b <;> decide
theorem rg_bz (b : Bool) : rg (bz b) := by cases b <;> exact ⟨by decide, by decide⟩
theorem c166_loop (d : Nat) {ps : Nat → prt} {k : Nat} (hm : mdl M ps (k + 1)) (h6 : M.1 572 6 = ((k + 1 : Nat) : Int)) {N : Nat → Bool} (hN : ag (sN (M.2.1 594)) N) {Q : ab_Q} (kk : ∀ x : Int, lst (fun t => t < 1093 ∧ (N t ^^ (sts ps k).2 t) = true) x → Q (.inl (some (zi x))) (hp M ++ es)) : ∀ m i : Nat, 1093 - i = m → i ≤ 1093 → (∀ t, t < i → (N t ^^ (sts ps k).2 t) = false) → ab_W (pg_G L xs) (ab_X (pg_G L xs) (d + 1)) 166 Q 31 [some (.ref 572), some (zi (i : Nat))] [] (hp M ++ es) := by
  have hc31 := hm.1
  intro m
  induction m using Nat.strongRecOn with
  | _ m ih =>
    intro i hmi hi hbef
    refine x_ld 1 1 0 32 rfl rfl rfl rfl rfl ?_
    refine x_cst (zi 1093) 3 35 rfl rfl rfl ?_
    refine z_icge 72 38 rfl rfl rfl ⟨by omega, by omega⟩ (rg_lit 1093 rfl) (fun c35 => ?_) (fun c35 => ?_)
    · refine x_cst (zi (-1)) 1 73 rfl rfl rfl ?_
      refine x_ret rfl rfl rfl rfl ?_
      exact kk (-1) (.inl ⟨rfl, fun t ht => by have h1 : t < 1093 := ht.1; have h2 : (N t ^^ (sts ps k).2 t) = true := ht.2; rw [hbef t (by omega)] at h2; exact absurd h2 (by decide)⟩)
    · refine x_ld 0 1 2 39 rfl rfl rfl rfl rfl ?_
      refine g_572_12 35 42 rfl rfl rfl ?_
      refine x_ld 0 1 2 43 rfl rfl rfl rfl rfl ?_
      refine g_572_6 271 46 rfl rfl h6 rfl ?_
      refine x_cst (zi 1) 1 47 rfl rfl rfl ?_
      refine z_sub 48 rfl rfl ?_
      rw [show ((k + 1 : Nat) : Int) - 1 = ((k : Nat) : Int) from (by omega)]
      refine x_ld 1 1 0 49 rfl rfl rfl rfl rfl ?_
      refine x_cv 228 123 52 [.ref 581, zi ((k : Nat) : Int), zi ((i : Nat) : Int)] rfl rfl rfl (Nat.le_of_ble_eq_true rfl) rfl rfl (Nat.le_of_ble_eq_true rfl) trivial (Nat.le_of_ble_eq_true rfl) (c123v d hm (by omega) (t := i) (by omega) rfl) rfl ?_
      refine x_ld 0 1 2 53 rfl rfl rfl rfl rfl ?_
      refine g_572_33 81 56 rfl rfl rfl ?_
      refine x_cst (zi 0) 1 57 rfl rfl rfl ?_
      refine x_ld 1 1 0 58 rfl rfl rfl rfl rfl ?_
      refine x_cv 228 123 61 [.ref 594, zi 0, zi ((i : Nat) : Int)] rfl rfl rfl (Nat.le_of_ble_eq_true rfl) rfl rfl (Nat.le_of_ble_eq_true rfl) trivial (Nat.le_of_ble_eq_true rfl) (by have q := c123 (L := L) (xs := xs) (es := es) (M := M) d i_594 (k := 0) (t := i) (by omega) (by decide); rw [show M.2.1 594 (1152 * ((0 : Nat) : Int) + ((i : Nat) : Int)) = N i from (congrArg (M.2.1 594) (by omega)).trans (hN i (by omega))] at q; exact q) rfl ?_
      refine z_iceq 66 64 rfl rfl rfl (rg_bz _) (rg_bz _) (fun c61 => ?_) (fun c61 => ?_)
      · refine z_inc 1 69 [some (.ref 572), some (zi (((i : Nat) : Int) + 1))] rfl rfl (Nat.le_of_ble_eq_true rfl) rfl rfl ?_
        refine x_go 31 rfl rfl ?_
        refine ih (1093 - (i + 1)) (by omega) (i + 1) rfl (by omega) (fun t ht => ?_)
        rcases Nat.eq_or_lt_of_le (Nat.le_of_lt_succ ht) with e | e
        · subst e; rw [Bool.xor_comm]; exact bz_ne.mp c61
        · exact hbef t e
      · refine x_ld 1 1 0 65 rfl rfl rfl rfl rfl ?_
        refine x_ret rfl rfl rfl rfl ?_
        exact kk _ (.inr ⟨i, rfl, ⟨by omega, by cases q : (N i ^^ (sts ps k).2 i) with | true => rfl | false => exact absurd (bz_ne.mpr (by rw [Bool.xor_comm]; exact q)) c61⟩, fun s hs hd => by have h2 : (N s ^^ (sts ps k).2 s) = true := hd.2; rw [hbef s hs] at h2; exact absurd h2 (by decide)⟩)
theorem c166_v (d : Nat) {ps : Nat → prt} {k : Nat} (hm : mdl M ps (k + 1)) (h6 : M.1 572 6 = ((k + 1 : Nat) : Int)) (h5 : M.1 572 5 = 1) (h34 : M.1 572 34 = 1) {N : Nat → Bool} (hN : ag (sN (M.2.1 594)) N) : ab_Z (pg_G L xs) (d + 12) 166 [.ref 572] M es (fun v M' => ∃ x, v = some (zi x) ∧ lst (fun t => t < 1093 ∧ (N t ^^ (sts ps k).2 t) = true) x ∧ M' = (sI M 572 2 0)) := by
  show ab_W (pg_G L xs) (ab_X (pg_G L xs) (d + 11)) 166 _ 0 [some (.ref 572), none] [] (hp M ++ es)
  refine x_ld 0 1 2 1 rfl rfl rfl rfl rfl ?_
  refine x_ld 0 1 2 2 rfl rfl rfl rfl rfl ?_
  refine g_572_5 267 5 rfl rfl h5 rfl ?_
  refine z_ifeq 19 8 rfl rfl rfl (rg_lit 1 rfl) (fun c => absurd c (by decide)) (fun _ => ?_)
  refine x_ld 0 1 2 9 rfl rfl rfl rfl rfl ?_
  refine g_572_34 383 12 rfl rfl h34 rfl ?_
  refine z_ifeq 19 15 rfl rfl rfl (rg_lit 1 rfl) (fun c => absurd c (by decide)) (fun _ => ?_)
  refine x_cst (zi 1) 1 16 rfl rfl rfl ?_
  refine x_go 20 rfl rfl ?_
  refine x_cst (zi 1) 1 21 rfl rfl rfl ?_
  refine x_cv 361 132 24 [.ref 572, zi 1, zi 1] rfl rfl rfl (Nat.le_of_ble_eq_true rfl) rfl rfl (Nat.le_of_ble_eq_true rfl) ⟨_, _, _, rfl, o_572⟩ (Nat.le_of_ble_eq_true rfl) (c132_o (M := M) (d + 10)) rfl ?_
  refine z_ifeq 29 27 rfl rfl rfl (rg_lit 0 rfl) (fun _ => ?_) (fun c => absurd c (by decide))
  refine x_cst (zi 0) 1 30 rfl rfl rfl ?_
  refine x_st 1 1 0 31 [some (.ref 572), some (zi 0)] rfl rfl rfl (Nat.le_of_ble_eq_true rfl) rfl rfl ?_
  exact c166_loop (L := L) (xs := xs) (es := es) (M := (sI M 572 2 0)) (d + 10) (ps := ps) (k := k) (mdl_f hm) ((rd_nk (by decide)).trans h6) (N := N) hN (fun x hx => ⟨_, _, rfl, rfl, x, rfl, hx, rfl⟩) _ 0 rfl (by decide) (fun t ht => absurd ht (Nat.not_lt_zero t))
end C43
