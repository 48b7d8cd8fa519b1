/-! OURS, printed by wip/tools/gen984.py: the reference carries repeats. -/
/-- pushing alone; with origins told -/
def Fpu (M M' : mm) : Prop := (∀ a, a ≠ 572 → ¬ (599 ≤ a ∧ a ≤ 603) → M'.1 a = M.1 a) ∧ (∀ j, j ≠ 41 → M'.1 572 j = M.1 572 j) ∧ M'.2 = M.2
def Fpo (M M' : mm) : Prop := (∀ a, a ≠ 572 → a ≠ 595 → ¬ (599 ≤ a ∧ a ≤ 603) → M'.1 a = M.1 a) ∧ (∀ j, j ≠ 41 → M'.1 572 j = M.1 572 j) ∧ M'.2 = M.2
theorem Fpu_refl (M : mm) : Fpu M M := ⟨fun _ _ _ => rfl, fun _ _ => rfl, rfl⟩
theorem Fpo_refl (M : mm) : Fpo M M := ⟨fun _ _ _ _ => rfl, fun _ _ => rfl, rfl⟩
theorem Fpu_trans {M M' M'' : mm} (h : Fpu M M') (g : Fpu M' M'') : Fpu M M'' := ⟨fun a h1 h2 => (g.1 a h1 h2).trans (h.1 a h1 h2), fun j h1 => (g.2.1 j h1).trans (h.2.1 j h1), g.2.2.trans h.2.2⟩
theorem Fpo_trans {M M' M'' : mm} (h : Fpo M M') (g : Fpo M' M'') : Fpo M M'' := ⟨fun a h1 h2 h3 => (g.1 a h1 h2 h3).trans (h.1 a h1 h2 h3), fun j h1 => (g.2.1 j h1).trans (h.2.1 j h1), g.2.2.trans h.2.2⟩
theorem Fpu_Fpo {M M' : mm} (h : Fpu M M') : Fpo M M' := ⟨fun a h1 _ h2 => h.1 a h1 h2, h.2.1, h.2.2⟩
theorem Fpu_Fc {M M' : mm} (h : Fpu M M') : Fc M M' := ⟨fun a h1 h2 => h.1 a h1 (by omega), fun j hj => h.2.1 j (fun e => hj (.inr (.inl e))), h.2.2⟩
theorem Fpo_Fdr {M M' : mm} (h : Fpo M M') : Fdr M M' := ⟨fun a h1 h2 h3 => h.1 a h1 h2 (by omega), fun j hj _ => h.2.1 j (fun e => hj (.inr (.inl e))), h.2.2⟩
theorem ctS_sI {M : mm} {bs : List cI} {u : List Nat} (h : ctS M bs u) {a : Nat} {i x : Int} (ha : a = 595 ∨ (a = 572 ∧ i = 35)) : ctS (sI M a i x) bs u := by
  have n1 : ∀ b : Nat, 598 ≤ b → (sI M a i x).1 b = M.1 b := fun b hb => sI_ne (by omega)
  have n2 : ∀ j : Int, j ≠ 35 → (sI M a i x).1 572 j = M.1 572 j := fun j hj => by
    rcases ha with e | ⟨e1, e2⟩
    · exact rd_na (by omega)
    · exact rd_nk (by omega)
  refine ⟨⟨(n2 41 (by decide)).trans h.1.1, fun i hi => ?_⟩, (n2 40 (by decide)).trans h.2.1, ?_⟩
  · rw [n1 599 (by decide), n1 600 (by decide), n1 601 (by decide), n1 602 (by decide), n1 603 (by decide)]; exact h.1.2 i hi
  · rw [n1 598 (by decide)]; exact h.2.2
/-- items, the last first -/
def dsL {α : Type} (n : Nat) (g : Nat → α) (j : Nat) : List α := (((List.range n).drop j).reverse).map g
theorem dsL_end {α : Type} (n : Nat) (g : Nat → α) : dsL n g n = [] := by unfold dsL; rw [List.drop_of_length_le (by rw [List.length_range]; exact Nat.le_refl _)]; rfl
theorem dsL_step {α : Type} {n j : Nat} (g : Nat → α) (h : j < n) : dsL n g j = dsL n g (j + 1) ++ [g j] := by
  unfold dsL
  rw [List.drop_eq_getElem_cons (by rw [List.length_range]; exact h), List.reverse_cons, List.map_append, List.getElem_range]
  rfl
theorem dsL_len {α : Type} (n : Nat) (g : Nat → α) (j : Nat) : (dsL n g j).length = n - j := by
  unfold dsL
  rw [List.length_map, List.length_reverse, List.length_drop, List.length_range]
/-- where a part of a view is put: place and length in the source -/
def spo (s : Nat) (SP : List (List Nat)) : Option Nat → Int × Nat
  | none => (-1, 0)
  | some o => (((s + off SP o : Nat) : Int), SP[o]!.length)
def ciS (l f s : Nat) (VP SP : List (List Nat)) (og : Nat → Option Nat) (j : Nat) : cI := (l, f + off VP j, VP[j]!.length, spo s SP (og j))
section E4
variable {L : Nat} {xs : Nat → Int32} {M : mm} {es : ab_H}
theorem c151f (d : Nat) {bs : List cI} {u : List Nat} (hS : ctS M bs u) (hb : bs.length < 256) {k f n m : Nat} {so : Int} : ab_Z (pg_G L xs) (d + 1) 151 [.ref 572, zi (k : Nat), zi (f : Nat), zi (n : Nat), zi so, zi (m : Nat)] M es (fun v M' => v = none ∧ ctS M' (bs ++ [(k, f, n, so, m)]) u ∧ Fpu M M') := by
  show ab_W (pg_G L xs) (ab_X (pg_G L xs) d) 151 _ 0 [some (.ref 572), some (zi ((k : Nat) : Int)), some (zi ((f : Nat) : Int)), some (zi ((n : Nat) : Int)), some (zi so), some (zi ((m : Nat) : Int))] [] (hp M ++ es)
  refine x_ld 0 1 2 1 rfl rfl rfl rfl rfl ?_
  refine g_572_42 96 4 rfl rfl rfl ?_
  refine x_ld 0 1 2 5 rfl rfl rfl rfl rfl ?_
  refine g_572_41 320 8 rfl rfl hS.1.1 rfl ?_
  refine x_ld 1 1 0 9 rfl rfl rfl rfl rfl ?_
  refine z_ist 10 rfl i_599 rfl ⟨by omega, by omega⟩ rfl ?_
  refine x_ld 0 1 2 11 rfl rfl rfl rfl rfl ?_
  refine g_572_43 99 14 rfl rfl rfl ?_
  refine x_ld 0 1 2 15 rfl rfl rfl rfl rfl ?_
  refine g_572_41 320 18 rfl rfl ((rd_na (Ne.symm (by decide))).trans hS.1.1) rfl ?_
  refine x_ld 2 1 0 19 rfl rfl rfl rfl rfl ?_
  refine z_ist 20 rfl i_600 rfl ⟨by omega, by omega⟩ rfl ?_
  refine x_ld 0 1 2 21 rfl rfl rfl rfl rfl ?_
  refine g_572_44 102 24 rfl rfl rfl ?_
  refine x_ld 0 1 2 25 rfl rfl rfl rfl rfl ?_
  refine g_572_41 320 28 rfl rfl ((rd_na (Ne.symm (by decide))).trans ((rd_na (Ne.symm (by decide))).trans hS.1.1)) rfl ?_
  refine x_ld 3 1 0 29 rfl rfl rfl rfl rfl ?_
  refine z_ist 30 rfl i_601 rfl ⟨by omega, by omega⟩ rfl ?_
  refine x_ld 0 1 2 31 rfl rfl rfl rfl rfl ?_
  refine g_572_45 105 34 rfl rfl rfl ?_
  refine x_ld 0 1 2 35 rfl rfl rfl rfl rfl ?_
  refine g_572_41 320 38 rfl rfl ((rd_na (Ne.symm (by decide))).trans ((rd_na (Ne.symm (by decide))).trans ((rd_na (Ne.symm (by decide))).trans hS.1.1))) rfl ?_
  refine x_ld 4 2 0 40 rfl rfl rfl rfl rfl ?_
  refine z_ist 41 rfl i_602 rfl ⟨by omega, by omega⟩ rfl ?_
  refine x_ld 0 1 2 42 rfl rfl rfl rfl rfl ?_
  refine g_572_46 108 45 rfl rfl rfl ?_
  refine x_ld 0 1 2 46 rfl rfl rfl rfl rfl ?_
  refine g_572_41 320 49 rfl rfl ((rd_na (Ne.symm (by decide))).trans ((rd_na (Ne.symm (by decide))).trans ((rd_na (Ne.symm (by decide))).trans ((rd_na (Ne.symm (by decide))).trans hS.1.1)))) rfl ?_
  refine x_ld 5 2 0 51 rfl rfl rfl rfl rfl ?_
  refine z_ist 52 rfl i_603 rfl ⟨by omega, by omega⟩ rfl ?_
  refine x_ld 0 1 2 53 rfl rfl rfl rfl rfl ?_
  refine x_dup 54 rfl rfl rfl ?_
  refine g_572_41 320 57 rfl rfl ((rd_na (Ne.symm (by decide))).trans ((rd_na (Ne.symm (by decide))).trans ((rd_na (Ne.symm (by decide))).trans ((rd_na (Ne.symm (by decide))).trans ((rd_na (Ne.symm (by decide))).trans hS.1.1))))) rfl ?_
  refine x_cst (zi 1) 1 58 rfl rfl rfl ?_
  refine z_add 59 rfl rfl ?_
  refine s_572_41 320 62 rfl rfl rfl rfl rfl rfl ?_
  refine x_rtv rfl rfl ?_
  refine ⟨none, _, rfl, rfl, rfl, ⟨⟨?_, fun i hi => ?_⟩, ?_, ?_⟩, ?_⟩
  · rw [rd_eq, List.length_append]; rfl
  · rw [List.length_append, List.length_singleton] at hi
    rcases Nat.eq_or_lt_of_le (Nat.le_of_lt_succ hi) with e | e
    · subst e
      rw [snoc_at]
      exact ⟨(rd_na (by decide)).trans ((rd_na (by decide)).trans ((rd_na (by decide)).trans ((rd_na (by decide)).trans ((rd_na (by decide)).trans (rd_eq))))), (rd_na (by decide)).trans ((rd_na (by decide)).trans ((rd_na (by decide)).trans ((rd_na (by decide)).trans (rd_eq)))), (rd_na (by decide)).trans ((rd_na (by decide)).trans ((rd_na (by decide)).trans (rd_eq))), (rd_na (by decide)).trans ((rd_na (by decide)).trans (rd_eq)), (rd_na (by decide)).trans (rd_eq)⟩
    · rw [snoc_lt e]
      have q := hS.1.2 i e
      exact ⟨(rd_na (by decide)).trans ((rd_na (by decide)).trans ((rd_na (by decide)).trans ((rd_na (by decide)).trans ((rd_na (by decide)).trans ((rd_nk (by omega)).trans (q.1)))))), (rd_na (by decide)).trans ((rd_na (by decide)).trans ((rd_na (by decide)).trans ((rd_na (by decide)).trans ((rd_nk (by omega)).trans ((rd_na (by decide)).trans (q.2.1)))))), (rd_na (by decide)).trans ((rd_na (by decide)).trans ((rd_na (by decide)).trans ((rd_nk (by omega)).trans ((rd_na (by decide)).trans ((rd_na (by decide)).trans (q.2.2.1)))))), (rd_na (by decide)).trans ((rd_na (by decide)).trans ((rd_nk (by omega)).trans ((rd_na (by decide)).trans ((rd_na (by decide)).trans ((rd_na (by decide)).trans (q.2.2.2.1)))))), (rd_na (by decide)).trans ((rd_nk (by omega)).trans ((rd_na (by decide)).trans ((rd_na (by decide)).trans ((rd_na (by decide)).trans ((rd_na (by decide)).trans (q.2.2.2.2))))))⟩
  · exact (rd_nk (by decide)).trans ((rd_na (by decide)).trans ((rd_na (by decide)).trans ((rd_na (by decide)).trans ((rd_na (by decide)).trans ((rd_na (by decide)).trans (hS.2.1))))))
  · rw [sI_ne (by decide), sI_ne (by decide), sI_ne (by decide), sI_ne (by decide), sI_ne (by decide), sI_ne (by decide)]; exact hS.2.2
  · exact ⟨fun a h1 h2 => by rw [sI_ne h1, sI_ne (by omega), sI_ne (by omega), sI_ne (by omega), sI_ne (by omega), sI_ne (by omega)], fun j h1 => (rd_nk h1).trans ((rd_na (by decide)).trans ((rd_na (by decide)).trans ((rd_na (by decide)).trans ((rd_na (by decide)).trans (rd_na (by decide)))))), rfl⟩
theorem c155_si (d : Nat) {k l c f n n2 : Nat} {kv : Int} (hk : k < c) (hc : c ≤ 31) (hrt : k + 1 < c) (h6c : M.1 572 6 = (c : Int)) (hlf : M.1 577 (k : Int) = ((l : Nat) : Int)) {VP : List (List Nat)} (v6 : VP.length ≤ 6) (hvb : ∀ i, i < VP.length → f + off VP i + VP[i]!.length ≤ 6) (hV : lpP M 63 613 614 f VP VP.length) {s : Nat} (hs6 : s ≤ 6) {SP : List (List Nat)} (s6 : SP.length ≤ 6) (hsb : ∀ i, i < SP.length → s + off SP i + SP[i]!.length ≤ 6) (hS : lpP M 67 616 617 s SP SP.length) {og : Nat → Option Nat} (hog : ∀ i o, og i = some o → o < SP.length) (h161 : ∀ M', Fpu M M' → ∀ j, j < VP.length → ab_S (pg_G L xs) (d + 1) 161 [.ref 572, zi (j : Nat), zi kv] (hp M' ++ es) (some (zi (oz (og j)))) (hp M' ++ es)) {bs : List cI} (hbs : bs.length + 6 ≤ 256) {u : List Nat} {Q : ab_Q} (kk : ∀ M', ctS M' (bs ++ dsL VP.length (ciS l f s VP SP og) 0) u → Fc M M' → Q (.inl none) (hp M' ++ es)) : ∀ j : Nat, j ≤ VP.length → ∀ M' o8, Fpu M M' → ctS M' (bs ++ dsL VP.length (ciS l f s VP SP og) j) u → ab_W (pg_G L xs) (ab_X (pg_G L xs) (d + 1)) 155 Q 52 [some (.ref 572), some (zi (k : Nat)), some (zi (f : Nat)), some (zi (n : Nat)), some (zi ((s : Nat) : Int)), some (zi ((n2 : Nat) : Int)), some (zi kv), some (zi ((j : Int) - 1)), o8] [] (hp M' ++ es) := by
  intro j
  induction j with
  | zero =>
    intro hj M' o8 hF hcS
    have q6 : M'.1 572 6 = (c : Int) := (hF.2.1 6 (by decide)).trans h6c
    have q63 : M'.1 572 63 = (VP.length : Int) := (hF.2.1 63 (by decide)).trans hV.1
    refine x_ld 7 2 0 54 rfl rfl rfl rfl rfl ?_
    refine z_iflt 157 57 rfl rfl rfl ⟨by omega, by omega⟩ (fun _ => ?_) (fun c => absurd c (by omega))
    refine x_ld 0 1 2 158 rfl rfl rfl rfl rfl ?_
    refine x_ld 1 1 0 159 rfl rfl rfl rfl rfl ?_
    refine x_ld 0 1 2 160 rfl rfl rfl rfl rfl ?_
    refine g_572_6 271 163 rfl rfl q6 rfl ?_
    refine x_cst (zi 1) 1 164 rfl rfl rfl ?_
    refine z_sub 165 rfl rfl ?_
    refine z_icne 175 168 rfl rfl rfl ⟨by omega, by omega⟩ ⟨by omega, by omega⟩ (fun _ => ?_) (fun c => absurd c (by omega))
    refine x_ld 0 1 2 176 rfl rfl rfl rfl rfl ?_
    refine g_572_35 156 179 rfl rfl rfl rfl ?_
    refine s_572_35 156 182 rfl rfl rfl rfl rfl rfl ?_
    refine x_rtv rfl rfl ?_
    refine kk _ (ctS_sI hcS (.inr ⟨rfl, rfl⟩)) ?_
    refine Fc_trans (Fpu_Fc hF) ⟨fun a h1 _ => sI_ne h1, fun j h1 => ?_, rfl⟩
    by_cases e : j = 35
    · subst e; exact rd_eq
    · exact rd_nk e
  | succ q ih =>
    intro hj M' o8 hF hcS
    have q6 : M'.1 572 6 = (c : Int) := (hF.2.1 6 (by decide)).trans h6c
    have q577 : M'.1 577 (k : Int) = ((l : Nat) : Int) := by rw [hF.1 577 (by decide) (by decide)]; exact hlf
    have q613 : M'.1 613 (q : Int) = ((f + off VP q : Nat) : Int) := by rw [hF.1 613 (by decide) (by decide)]; exact (hV.2 q (by omega)).1
    have q614 : M'.1 614 (q : Int) = ((VP[q]!.length : Nat) : Int) := by rw [hF.1 614 (by decide) (by decide)]; exact (hV.2 q (by omega)).2
    have hlen := dsL_len VP.length (ciS l f s VP SP og) (q + 1)
    rw [show ((q + 1 : Nat) : Int) - 1 = (q : Int) by omega]
    have q616 : ∀ o, o < SP.length → M'.1 616 (o : Int) = ((s + off SP o : Nat) : Int) ∧ M'.1 617 (o : Int) = ((SP[o]!.length : Nat) : Int) := fun o ho => by rw [hF.1 616 (by decide) (by decide), hF.1 617 (by decide) (by decide)]; exact hS.2 o ho
    refine x_ld 7 2 0 54 rfl rfl rfl rfl rfl ?_
    refine z_iflt 157 57 rfl rfl rfl ⟨by omega, by omega⟩ (fun c => absurd c (by omega)) (fun _ => ?_)
    refine x_ld 4 2 0 59 rfl rfl rfl rfl rfl ?_
    refine z_ifge 66 62 rfl rfl rfl ⟨by omega, by omega⟩ (fun _ => ?_) (fun c => absurd c (by omega))
    refine x_ld 0 1 2 67 rfl rfl rfl rfl rfl ?_
    refine x_ld 7 2 0 69 rfl rfl rfl rfl rfl ?_
    refine x_ld 6 2 0 71 rfl rfl rfl rfl rfl ?_
    refine x_cv 357 161 74 [.ref 572, zi ((q : Nat) : Int), zi kv] rfl rfl rfl (Nat.le_of_ble_eq_true rfl) rfl rfl (Nat.le_of_ble_eq_true rfl) ⟨_, _, _, rfl, o_572⟩ (Nat.le_of_ble_eq_true rfl) (h161 M' hF q (by omega)) rfl ?_
    rcases eo : og q with _ | o
    · refine x_st 8 2 0 76 [some (.ref 572), some (zi ((k : Nat) : Int)), some (zi ((f : Nat) : Int)), some (zi ((n : Nat) : Int)), some (zi ((s : Nat) : Int)), some (zi ((n2 : Nat) : Int)), some (zi kv), some (zi ((q : Nat) : Int)), some (zi (-1))] rfl rfl rfl (Nat.le_of_ble_eq_true rfl) rfl rfl ?_
      refine x_ld 0 1 2 77 rfl rfl rfl rfl rfl ?_
      refine x_ld 0 1 2 78 rfl rfl rfl rfl rfl ?_
      refine g_572_8 22 81 rfl rfl rfl ?_
      refine x_ld 1 1 0 82 rfl rfl rfl rfl rfl ?_
      refine z_ild ((l : Nat) : Int) 83 rfl i_577 rfl ⟨by omega, by omega⟩ q577 rfl ?_
      refine x_ld 0 1 2 84 rfl rfl rfl rfl rfl ?_
      refine g_572_60 138 87 rfl rfl rfl ?_
      refine x_ld 7 2 0 89 rfl rfl rfl rfl rfl ?_
      refine z_ild ((f + off VP q : Nat) : Int) 90 rfl i_613 rfl ⟨by omega, by omega⟩ q613 rfl ?_
      refine x_ld 0 1 2 91 rfl rfl rfl rfl rfl ?_
      refine g_572_61 141 94 rfl rfl rfl ?_
      refine x_ld 7 2 0 96 rfl rfl rfl rfl rfl ?_
      refine z_ild ((VP[q]!.length : Nat) : Int) 97 rfl i_614 rfl ⟨by omega, by omega⟩ q614 rfl ?_
      refine x_ld 8 2 0 99 rfl rfl rfl rfl rfl ?_
      refine z_ifge 106 102 rfl rfl rfl (rg_lit (-1) rfl) (fun c => absurd c (by decide)) (fun _ => ?_)
      refine x_cst (zi (-1)) 1 103 rfl rfl rfl ?_
      refine x_go 113 rfl rfl ?_
      refine x_ld 8 2 0 115 rfl rfl rfl rfl rfl ?_
      refine z_ifge 122 118 rfl rfl rfl (rg_lit (-1) rfl) (fun c => absurd c (by decide)) (fun _ => ?_)
      refine x_cst (zi 0) 1 119 rfl rfl rfl ?_
      refine x_go 129 rfl rfl ?_
      refine x_ce 323 151 132 [.ref 572, zi ((l : Nat) : Int), zi ((f + off VP q : Nat) : Int), zi ((VP[q]!.length : Nat) : Int), zi (-1), zi 0] rfl rfl rfl (Nat.le_of_ble_eq_true rfl) rfl rfl (Nat.le_of_ble_eq_true rfl) ⟨_, _, _, rfl, o_572⟩ (Nat.le_of_ble_eq_true rfl) (c151f (m := 0) d hcS (by rw [List.length_append]; omega)) rfl ?_
      rintro v M2 ⟨rfl, hS2, hF2⟩
      have q6b : M2.1 572 6 = (c : Int) := (hF2.2.1 6 (by decide)).trans q6
      have hS3 : ctS M2 (bs ++ dsL VP.length (ciS l f s VP SP og) q) u := by rw [dsL_step _ (by omega), ← List.append_assoc]; unfold ciS; rw [eo]; exact hS2
      refine x_ld 1 1 0 133 rfl rfl rfl rfl rfl ?_
      refine x_ld 0 1 2 134 rfl rfl rfl rfl rfl ?_
      refine g_572_6 271 137 rfl rfl q6b rfl ?_
      refine x_cst (zi 1) 1 138 rfl rfl rfl ?_
      refine z_sub 139 rfl rfl ?_
      refine z_icne 151 142 rfl rfl rfl ⟨by omega, by omega⟩ ⟨by omega, by omega⟩ (fun _ => ?_) (fun c => absurd c (by omega))
      refine z_inc 7 154 [some (.ref 572), some (zi ((k : Nat) : Int)), some (zi ((f : Nat) : Int)), some (zi ((n : Nat) : Int)), some (zi ((s : Nat) : Int)), some (zi ((n2 : Nat) : Int)), some (zi kv), some (zi (((q : Nat) : Int) - 1)), some (zi (-1))] rfl rfl (Nat.le_of_ble_eq_true rfl) rfl rfl ?_
      refine x_go 52 rfl rfl ?_
      exact ih (by omega) _ _ (Fpu_trans hF hF2) hS3
    · have ho := hog q o eo
      refine x_st 8 2 0 76 [some (.ref 572), some (zi ((k : Nat) : Int)), some (zi ((f : Nat) : Int)), some (zi ((n : Nat) : Int)), some (zi ((s : Nat) : Int)), some (zi ((n2 : Nat) : Int)), some (zi kv), some (zi ((q : Nat) : Int)), some (zi ((o : Nat) : Int))] rfl rfl rfl (Nat.le_of_ble_eq_true rfl) rfl rfl ?_
      refine x_ld 0 1 2 77 rfl rfl rfl rfl rfl ?_
      refine x_ld 0 1 2 78 rfl rfl rfl rfl rfl ?_
      refine g_572_8 22 81 rfl rfl rfl ?_
      refine x_ld 1 1 0 82 rfl rfl rfl rfl rfl ?_
      refine z_ild ((l : Nat) : Int) 83 rfl i_577 rfl ⟨by omega, by omega⟩ q577 rfl ?_
      refine x_ld 0 1 2 84 rfl rfl rfl rfl rfl ?_
      refine g_572_60 138 87 rfl rfl rfl ?_
      refine x_ld 7 2 0 89 rfl rfl rfl rfl rfl ?_
      refine z_ild ((f + off VP q : Nat) : Int) 90 rfl i_613 rfl ⟨by omega, by omega⟩ q613 rfl ?_
      refine x_ld 0 1 2 91 rfl rfl rfl rfl rfl ?_
      refine g_572_61 141 94 rfl rfl rfl ?_
      refine x_ld 7 2 0 96 rfl rfl rfl rfl rfl ?_
      refine z_ild ((VP[q]!.length : Nat) : Int) 97 rfl i_614 rfl ⟨by omega, by omega⟩ q614 rfl ?_
      refine x_ld 8 2 0 99 rfl rfl rfl rfl rfl ?_
      refine z_ifge 106 102 rfl rfl rfl ⟨by omega, by omega⟩ (fun _ => ?_) (fun c => absurd c (by omega))
      refine x_ld 0 1 2 107 rfl rfl rfl rfl rfl ?_
      refine g_572_64 147 110 rfl rfl rfl ?_
      refine x_ld 8 2 0 112 rfl rfl rfl rfl rfl ?_
      refine z_ild ((s + off SP o : Nat) : Int) 113 rfl i_616 rfl ⟨by omega, by omega⟩ (q616 o ho).1 rfl ?_
      refine x_ld 8 2 0 115 rfl rfl rfl rfl rfl ?_
      refine z_ifge 122 118 rfl rfl rfl ⟨by omega, by omega⟩ (fun _ => ?_) (fun c => absurd c (by omega))
      refine x_ld 0 1 2 123 rfl rfl rfl rfl rfl ?_
      refine g_572_65 150 126 rfl rfl rfl ?_
      refine x_ld 8 2 0 128 rfl rfl rfl rfl rfl ?_
      refine z_ild ((SP[o]!.length : Nat) : Int) 129 rfl i_617 rfl ⟨by omega, by omega⟩ (q616 o ho).2 rfl ?_
      refine x_ce 323 151 132 [.ref 572, zi ((l : Nat) : Int), zi ((f + off VP q : Nat) : Int), zi ((VP[q]!.length : Nat) : Int), zi ((s + off SP o : Nat) : Int), zi ((SP[o]!.length : Nat) : Int)] rfl rfl rfl (Nat.le_of_ble_eq_true rfl) rfl rfl (Nat.le_of_ble_eq_true rfl) ⟨_, _, _, rfl, o_572⟩ (Nat.le_of_ble_eq_true rfl) (c151f d hcS (by rw [List.length_append]; omega)) rfl ?_
      rintro v M2 ⟨rfl, hS2, hF2⟩
      have q6b : M2.1 572 6 = (c : Int) := (hF2.2.1 6 (by decide)).trans q6
      have hS3 : ctS M2 (bs ++ dsL VP.length (ciS l f s VP SP og) q) u := by rw [dsL_step _ (by omega), ← List.append_assoc]; unfold ciS; rw [eo]; exact hS2
      refine x_ld 1 1 0 133 rfl rfl rfl rfl rfl ?_
      refine x_ld 0 1 2 134 rfl rfl rfl rfl rfl ?_
      refine g_572_6 271 137 rfl rfl q6b rfl ?_
      refine x_cst (zi 1) 1 138 rfl rfl rfl ?_
      refine z_sub 139 rfl rfl ?_
      refine z_icne 151 142 rfl rfl rfl ⟨by omega, by omega⟩ ⟨by omega, by omega⟩ (fun _ => ?_) (fun c => absurd c (by omega))
      refine z_inc 7 154 [some (.ref 572), some (zi ((k : Nat) : Int)), some (zi ((f : Nat) : Int)), some (zi ((n : Nat) : Int)), some (zi ((s : Nat) : Int)), some (zi ((n2 : Nat) : Int)), some (zi kv), some (zi (((q : Nat) : Int) - 1)), some (zi ((o : Nat) : Int))] rfl rfl (Nat.le_of_ble_eq_true rfl) rfl rfl ?_
      refine x_go 52 rfl rfl ?_
      exact ih (by omega) _ _ (Fpu_trans hF hF2) hS3
theorem c155_ni (d : Nat) {k l c f n n2 : Nat} {kv : Int} (hk : k < c) (hc : c ≤ 31) (hrt : k + 1 < c) (h6c : M.1 572 6 = (c : Int)) (hlf : M.1 577 (k : Int) = ((l : Nat) : Int)) {VP : List (List Nat)} (v6 : VP.length ≤ 6) (hvb : ∀ i, i < VP.length → f + off VP i + VP[i]!.length ≤ 6) (hV : lpP M 63 613 614 f VP VP.length) {bs : List cI} (hbs : bs.length + 6 ≤ 256) {u : List Nat} {Q : ab_Q} (kk : ∀ M', ctS M' (bs ++ dsL VP.length (ciS l f 0 VP [] (fun _ => none)) 0) u → Fc M M' → Q (.inl none) (hp M' ++ es)) : ∀ j : Nat, j ≤ VP.length → ∀ M' o8, Fpu M M' → ctS M' (bs ++ dsL VP.length (ciS l f 0 VP [] (fun _ => none)) j) u → ab_W (pg_G L xs) (ab_X (pg_G L xs) (d + 1)) 155 Q 52 [some (.ref 572), some (zi (k : Nat)), some (zi (f : Nat)), some (zi (n : Nat)), some (zi (-1)), some (zi ((n2 : Nat) : Int)), some (zi kv), some (zi ((j : Int) - 1)), o8] [] (hp M' ++ es) := by
  intro j
  induction j with
  | zero =>
    intro hj M' o8 hF hcS
    have q6 : M'.1 572 6 = (c : Int) := (hF.2.1 6 (by decide)).trans h6c
    have q63 : M'.1 572 63 = (VP.length : Int) := (hF.2.1 63 (by decide)).trans hV.1
    refine x_ld 7 2 0 54 rfl rfl rfl rfl rfl ?_
    refine z_iflt 157 57 rfl rfl rfl ⟨by omega, by omega⟩ (fun _ => ?_) (fun c => absurd c (by omega))
    refine x_ld 0 1 2 158 rfl rfl rfl rfl rfl ?_
    refine x_ld 1 1 0 159 rfl rfl rfl rfl rfl ?_
    refine x_ld 0 1 2 160 rfl rfl rfl rfl rfl ?_
    refine g_572_6 271 163 rfl rfl q6 rfl ?_
    refine x_cst (zi 1) 1 164 rfl rfl rfl ?_
    refine z_sub 165 rfl rfl ?_
    refine z_icne 175 168 rfl rfl rfl ⟨by omega, by omega⟩ ⟨by omega, by omega⟩ (fun _ => ?_) (fun c => absurd c (by omega))
    refine x_ld 0 1 2 176 rfl rfl rfl rfl rfl ?_
    refine g_572_35 156 179 rfl rfl rfl rfl ?_
    refine s_572_35 156 182 rfl rfl rfl rfl rfl rfl ?_
    refine x_rtv rfl rfl ?_
    refine kk _ (ctS_sI hcS (.inr ⟨rfl, rfl⟩)) ?_
    refine Fc_trans (Fpu_Fc hF) ⟨fun a h1 _ => sI_ne h1, fun j h1 => ?_, rfl⟩
    by_cases e : j = 35
    · subst e; exact rd_eq
    · exact rd_nk e
  | succ q ih =>
    intro hj M' o8 hF hcS
    have q6 : M'.1 572 6 = (c : Int) := (hF.2.1 6 (by decide)).trans h6c
    have q577 : M'.1 577 (k : Int) = ((l : Nat) : Int) := by rw [hF.1 577 (by decide) (by decide)]; exact hlf
    have q613 : M'.1 613 (q : Int) = ((f + off VP q : Nat) : Int) := by rw [hF.1 613 (by decide) (by decide)]; exact (hV.2 q (by omega)).1
    have q614 : M'.1 614 (q : Int) = ((VP[q]!.length : Nat) : Int) := by rw [hF.1 614 (by decide) (by decide)]; exact (hV.2 q (by omega)).2
    have hlen := dsL_len VP.length (ciS l f 0 VP [] (fun _ => none)) (q + 1)
    rw [show ((q + 1 : Nat) : Int) - 1 = (q : Int) by omega]
    refine x_ld 7 2 0 54 rfl rfl rfl rfl rfl ?_
    refine z_iflt 157 57 rfl rfl rfl ⟨by omega, by omega⟩ (fun c => absurd c (by omega)) (fun _ => ?_)
    refine x_ld 4 2 0 59 rfl rfl rfl rfl rfl ?_
    refine z_ifge 66 62 rfl rfl rfl (rg_lit (-1) rfl) (fun c => absurd c (by decide)) (fun _ => ?_)
    refine x_cst (zi (-1)) 1 63 rfl rfl rfl ?_
    refine x_go 74 rfl rfl ?_
    refine x_st 8 2 0 76 [some (.ref 572), some (zi ((k : Nat) : Int)), some (zi ((f : Nat) : Int)), some (zi ((n : Nat) : Int)), some (zi (-1)), some (zi ((n2 : Nat) : Int)), some (zi kv), some (zi ((q : Nat) : Int)), some (zi (-1))] rfl rfl rfl (Nat.le_of_ble_eq_true rfl) rfl rfl ?_
    refine x_ld 0 1 2 77 rfl rfl rfl rfl rfl ?_
    refine x_ld 0 1 2 78 rfl rfl rfl rfl rfl ?_
    refine g_572_8 22 81 rfl rfl rfl ?_
    refine x_ld 1 1 0 82 rfl rfl rfl rfl rfl ?_
    refine z_ild ((l : Nat) : Int) 83 rfl i_577 rfl ⟨by omega, by omega⟩ q577 rfl ?_
    refine x_ld 0 1 2 84 rfl rfl rfl rfl rfl ?_
    refine g_572_60 138 87 rfl rfl rfl ?_
    refine x_ld 7 2 0 89 rfl rfl rfl rfl rfl ?_
    refine z_ild ((f + off VP q : Nat) : Int) 90 rfl i_613 rfl ⟨by omega, by omega⟩ q613 rfl ?_
    refine x_ld 0 1 2 91 rfl rfl rfl rfl rfl ?_
    refine g_572_61 141 94 rfl rfl rfl ?_
    refine x_ld 7 2 0 96 rfl rfl rfl rfl rfl ?_
    refine z_ild ((VP[q]!.length : Nat) : Int) 97 rfl i_614 rfl ⟨by omega, by omega⟩ q614 rfl ?_
    refine x_ld 8 2 0 99 rfl rfl rfl rfl rfl ?_
    refine z_ifge 106 102 rfl rfl rfl (rg_lit (-1) rfl) (fun c => absurd c (by decide)) (fun _ => ?_)
    refine x_cst (zi (-1)) 1 103 rfl rfl rfl ?_
    refine x_go 113 rfl rfl ?_
    refine x_ld 8 2 0 115 rfl rfl rfl rfl rfl ?_
    refine z_ifge 122 118 rfl rfl rfl (rg_lit (-1) rfl) (fun c => absurd c (by decide)) (fun _ => ?_)
    refine x_cst (zi 0) 1 119 rfl rfl rfl ?_
    refine x_go 129 rfl rfl ?_
    refine x_ce 323 151 132 [.ref 572, zi ((l : Nat) : Int), zi ((f + off VP q : Nat) : Int), zi ((VP[q]!.length : Nat) : Int), zi (-1), zi 0] rfl rfl rfl (Nat.le_of_ble_eq_true rfl) rfl rfl (Nat.le_of_ble_eq_true rfl) ⟨_, _, _, rfl, o_572⟩ (Nat.le_of_ble_eq_true rfl) (c151f (m := 0) d hcS (by rw [List.length_append]; omega)) rfl ?_
    rintro v M2 ⟨rfl, hS2, hF2⟩
    have q6b : M2.1 572 6 = (c : Int) := (hF2.2.1 6 (by decide)).trans q6
    have hS3 : ctS M2 (bs ++ dsL VP.length (ciS l f 0 VP [] (fun _ => none)) q) u := by rw [dsL_step _ (by omega), ← List.append_assoc]; unfold ciS; exact hS2
    refine x_ld 1 1 0 133 rfl rfl rfl rfl rfl ?_
    refine x_ld 0 1 2 134 rfl rfl rfl rfl rfl ?_
    refine g_572_6 271 137 rfl rfl q6b rfl ?_
    refine x_cst (zi 1) 1 138 rfl rfl rfl ?_
    refine z_sub 139 rfl rfl ?_
    refine z_icne 151 142 rfl rfl rfl ⟨by omega, by omega⟩ ⟨by omega, by omega⟩ (fun _ => ?_) (fun c => absurd c (by omega))
    refine z_inc 7 154 [some (.ref 572), some (zi ((k : Nat) : Int)), some (zi ((f : Nat) : Int)), some (zi ((n : Nat) : Int)), some (zi (-1)), some (zi ((n2 : Nat) : Int)), some (zi kv), some (zi (((q : Nat) : Int) - 1)), some (zi (-1))] rfl rfl (Nat.le_of_ble_eq_true rfl) rfl rfl ?_
    refine x_go 52 rfl rfl ?_
    exact ih (by omega) _ _ (Fpu_trans hF hF2) hS3
theorem c155_sr (d : Nat) {k l c f n n2 : Nat} {kv : Int} (hk : k < c) (hc : c ≤ 31) (hrt : k + 1 = c) (h6c : M.1 572 6 = (c : Int)) (hlf : M.1 577 (k : Int) = ((l : Nat) : Int)) {VP : List (List Nat)} (v6 : VP.length ≤ 6) (hvb : ∀ i, i < VP.length → f + off VP i + VP[i]!.length ≤ 6) (hV : lpP M 63 613 614 f VP VP.length) {s : Nat} (hs6 : s ≤ 6) {SP : List (List Nat)} (s6 : SP.length ≤ 6) (hsb : ∀ i, i < SP.length → s + off SP i + SP[i]!.length ≤ 6) (hS : lpP M 67 616 617 s SP SP.length) {og : Nat → Option Nat} (hog : ∀ i o, og i = some o → o < SP.length) (h161 : ∀ M', Fpo M M' → ∀ j, j < VP.length → ab_S (pg_G L xs) (d + 1) 161 [.ref 572, zi (j : Nat), zi kv] (hp M' ++ es) (some (zi (oz (og j)))) (hp M' ++ es)) {bs : List cI} (hbs : bs.length + 6 ≤ 256) {u : List Nat} {Q : ab_Q} (kk : ∀ M', ctS M' (bs ++ dsL VP.length (ciS l f s VP SP og) 0) u → Fdr M M' → M'.1 572 35 = (VP.length : Int) → (∀ i : Nat, 0 ≤ i → i < VP.length → M'.1 595 (i : Int) = oz (og i)) → Q (.inl none) (hp M' ++ es)) : ∀ j : Nat, j ≤ VP.length → ∀ M' o8, Fpo M M' → ctS M' (bs ++ dsL VP.length (ciS l f s VP SP og) j) u → (∀ i : Nat, j ≤ i → i < VP.length → M'.1 595 (i : Int) = oz (og i)) → ab_W (pg_G L xs) (ab_X (pg_G L xs) (d + 1)) 155 Q 52 [some (.ref 572), some (zi (k : Nat)), some (zi (f : Nat)), some (zi (n : Nat)), some (zi ((s : Nat) : Int)), some (zi ((n2 : Nat) : Int)), some (zi kv), some (zi ((j : Int) - 1)), o8] [] (hp M' ++ es) := by
  intro j
  induction j with
  | zero =>
    intro hj M' o8 hF hcS hog9
    have q6 : M'.1 572 6 = (c : Int) := (hF.2.1 6 (by decide)).trans h6c
    have q63 : M'.1 572 63 = (VP.length : Int) := (hF.2.1 63 (by decide)).trans hV.1
    refine x_ld 7 2 0 54 rfl rfl rfl rfl rfl ?_
    refine z_iflt 157 57 rfl rfl rfl ⟨by omega, by omega⟩ (fun _ => ?_) (fun c => absurd c (by omega))
    refine x_ld 0 1 2 158 rfl rfl rfl rfl rfl ?_
    refine x_ld 1 1 0 159 rfl rfl rfl rfl rfl ?_
    refine x_ld 0 1 2 160 rfl rfl rfl rfl rfl ?_
    refine g_572_6 271 163 rfl rfl q6 rfl ?_
    refine x_cst (zi 1) 1 164 rfl rfl rfl ?_
    refine z_sub 165 rfl rfl ?_
    refine z_icne 175 168 rfl rfl rfl ⟨by omega, by omega⟩ ⟨by omega, by omega⟩ (fun c => absurd c (by omega)) (fun _ => ?_)
    refine x_ld 0 1 2 169 rfl rfl rfl rfl rfl ?_
    refine g_572_63 338 172 rfl rfl q63 rfl ?_
    refine x_go 179 rfl rfl ?_
    refine s_572_35 156 182 rfl rfl rfl rfl rfl rfl ?_
    refine x_rtv rfl rfl ?_
    refine kk _ (ctS_sI hcS (.inr ⟨rfl, rfl⟩)) ?_ rd_eq (fun i h1 h2 => (rd_na (by decide)).trans (hog9 i h1 h2))
    exact Fdr_trans (Fpo_Fdr hF) ⟨fun a h1 _ _ => sI_ne h1, fun j h1 h2 => rd_nk h2, rfl⟩
  | succ q ih =>
    intro hj M' o8 hF hcS hog9
    have q6 : M'.1 572 6 = (c : Int) := (hF.2.1 6 (by decide)).trans h6c
    have q577 : M'.1 577 (k : Int) = ((l : Nat) : Int) := by rw [hF.1 577 (by decide) (by decide) (by decide)]; exact hlf
    have q613 : M'.1 613 (q : Int) = ((f + off VP q : Nat) : Int) := by rw [hF.1 613 (by decide) (by decide) (by decide)]; exact (hV.2 q (by omega)).1
    have q614 : M'.1 614 (q : Int) = ((VP[q]!.length : Nat) : Int) := by rw [hF.1 614 (by decide) (by decide) (by decide)]; exact (hV.2 q (by omega)).2
    have hlen := dsL_len VP.length (ciS l f s VP SP og) (q + 1)
    rw [show ((q + 1 : Nat) : Int) - 1 = (q : Int) by omega]
    have q616 : ∀ o, o < SP.length → M'.1 616 (o : Int) = ((s + off SP o : Nat) : Int) ∧ M'.1 617 (o : Int) = ((SP[o]!.length : Nat) : Int) := fun o ho => by rw [hF.1 616 (by decide) (by decide) (by decide), hF.1 617 (by decide) (by decide) (by decide)]; exact hS.2 o ho
    refine x_ld 7 2 0 54 rfl rfl rfl rfl rfl ?_
    refine z_iflt 157 57 rfl rfl rfl ⟨by omega, by omega⟩ (fun c => absurd c (by omega)) (fun _ => ?_)
    refine x_ld 4 2 0 59 rfl rfl rfl rfl rfl ?_
    refine z_ifge 66 62 rfl rfl rfl ⟨by omega, by omega⟩ (fun _ => ?_) (fun c => absurd c (by omega))
    refine x_ld 0 1 2 67 rfl rfl rfl rfl rfl ?_
    refine x_ld 7 2 0 69 rfl rfl rfl rfl rfl ?_
    refine x_ld 6 2 0 71 rfl rfl rfl rfl rfl ?_
    refine x_cv 357 161 74 [.ref 572, zi ((q : Nat) : Int), zi kv] rfl rfl rfl (Nat.le_of_ble_eq_true rfl) rfl rfl (Nat.le_of_ble_eq_true rfl) ⟨_, _, _, rfl, o_572⟩ (Nat.le_of_ble_eq_true rfl) (h161 M' hF q (by omega)) rfl ?_
    rcases eo : og q with _ | o
    · refine x_st 8 2 0 76 [some (.ref 572), some (zi ((k : Nat) : Int)), some (zi ((f : Nat) : Int)), some (zi ((n : Nat) : Int)), some (zi ((s : Nat) : Int)), some (zi ((n2 : Nat) : Int)), some (zi kv), some (zi ((q : Nat) : Int)), some (zi (-1))] rfl rfl rfl (Nat.le_of_ble_eq_true rfl) rfl rfl ?_
      refine x_ld 0 1 2 77 rfl rfl rfl rfl rfl ?_
      refine x_ld 0 1 2 78 rfl rfl rfl rfl rfl ?_
      refine g_572_8 22 81 rfl rfl rfl ?_
      refine x_ld 1 1 0 82 rfl rfl rfl rfl rfl ?_
      refine z_ild ((l : Nat) : Int) 83 rfl i_577 rfl ⟨by omega, by omega⟩ q577 rfl ?_
      refine x_ld 0 1 2 84 rfl rfl rfl rfl rfl ?_
      refine g_572_60 138 87 rfl rfl rfl ?_
      refine x_ld 7 2 0 89 rfl rfl rfl rfl rfl ?_
      refine z_ild ((f + off VP q : Nat) : Int) 90 rfl i_613 rfl ⟨by omega, by omega⟩ q613 rfl ?_
      refine x_ld 0 1 2 91 rfl rfl rfl rfl rfl ?_
      refine g_572_61 141 94 rfl rfl rfl ?_
      refine x_ld 7 2 0 96 rfl rfl rfl rfl rfl ?_
      refine z_ild ((VP[q]!.length : Nat) : Int) 97 rfl i_614 rfl ⟨by omega, by omega⟩ q614 rfl ?_
      refine x_ld 8 2 0 99 rfl rfl rfl rfl rfl ?_
      refine z_ifge 106 102 rfl rfl rfl (rg_lit (-1) rfl) (fun c => absurd c (by decide)) (fun _ => ?_)
      refine x_cst (zi (-1)) 1 103 rfl rfl rfl ?_
      refine x_go 113 rfl rfl ?_
      refine x_ld 8 2 0 115 rfl rfl rfl rfl rfl ?_
      refine z_ifge 122 118 rfl rfl rfl (rg_lit (-1) rfl) (fun c => absurd c (by decide)) (fun _ => ?_)
      refine x_cst (zi 0) 1 119 rfl rfl rfl ?_
      refine x_go 129 rfl rfl ?_
      refine x_ce 323 151 132 [.ref 572, zi ((l : Nat) : Int), zi ((f + off VP q : Nat) : Int), zi ((VP[q]!.length : Nat) : Int), zi (-1), zi 0] rfl rfl rfl (Nat.le_of_ble_eq_true rfl) rfl rfl (Nat.le_of_ble_eq_true rfl) ⟨_, _, _, rfl, o_572⟩ (Nat.le_of_ble_eq_true rfl) (c151f (m := 0) d hcS (by rw [List.length_append]; omega)) rfl ?_
      rintro v M2 ⟨rfl, hS2, hF2⟩
      have q6b : M2.1 572 6 = (c : Int) := (hF2.2.1 6 (by decide)).trans q6
      have hS3 : ctS M2 (bs ++ dsL VP.length (ciS l f s VP SP og) q) u := by rw [dsL_step _ (by omega), ← List.append_assoc]; unfold ciS; rw [eo]; exact hS2
      refine x_ld 1 1 0 133 rfl rfl rfl rfl rfl ?_
      refine x_ld 0 1 2 134 rfl rfl rfl rfl rfl ?_
      refine g_572_6 271 137 rfl rfl q6b rfl ?_
      refine x_cst (zi 1) 1 138 rfl rfl rfl ?_
      refine z_sub 139 rfl rfl ?_
      refine z_icne 151 142 rfl rfl rfl ⟨by omega, by omega⟩ ⟨by omega, by omega⟩ (fun c => absurd c (by omega)) (fun _ => ?_)
      refine x_ld 0 1 2 143 rfl rfl rfl rfl rfl ?_
      refine g_572_36 84 146 rfl rfl rfl ?_
      refine x_ld 7 2 0 148 rfl rfl rfl rfl rfl ?_
      refine x_ld 8 2 0 150 rfl rfl rfl rfl rfl ?_
      refine z_ist 151 rfl i_595 rfl ⟨by omega, by omega⟩ rfl ?_
      refine z_inc 7 154 [some (.ref 572), some (zi ((k : Nat) : Int)), some (zi ((f : Nat) : Int)), some (zi ((n : Nat) : Int)), some (zi ((s : Nat) : Int)), some (zi ((n2 : Nat) : Int)), some (zi kv), some (zi (((q : Nat) : Int) - 1)), some (zi (-1))] rfl rfl (Nat.le_of_ble_eq_true rfl) rfl rfl ?_
      refine x_go 52 rfl rfl ?_
      refine ih (by omega) _ _ (Fpo_trans (Fpo_trans hF (Fpu_Fpo hF2)) ⟨fun a h1 h2 h3 => sI_ne h2, fun j h1 => rd_na (by decide), rfl⟩) (ctS_sI hS3 (.inl rfl)) (fun i h1 h2 => ?_)
      rcases Nat.eq_or_lt_of_le h1 with e | e
      · subst e; rw [eo]; exact rd_eq
      · exact (rd_nk (by omega)).trans ((congrFun (hF2.1 595 (by decide) (by decide)) _).trans (hog9 i (by omega) h2))
    · have ho := hog q o eo
      refine x_st 8 2 0 76 [some (.ref 572), some (zi ((k : Nat) : Int)), some (zi ((f : Nat) : Int)), some (zi ((n : Nat) : Int)), some (zi ((s : Nat) : Int)), some (zi ((n2 : Nat) : Int)), some (zi kv), some (zi ((q : Nat) : Int)), some (zi ((o : Nat) : Int))] rfl rfl rfl (Nat.le_of_ble_eq_true rfl) rfl rfl ?_
      refine x_ld 0 1 2 77 rfl rfl rfl rfl rfl ?_
      refine x_ld 0 1 2 78 rfl rfl rfl rfl rfl ?_
      refine g_572_8 22 81 rfl rfl rfl ?_
      refine x_ld 1 1 0 82 rfl rfl rfl rfl rfl ?_
      refine z_ild ((l : Nat) : Int) 83 rfl i_577 rfl ⟨by omega, by omega⟩ q577 rfl ?_
      refine x_ld 0 1 2 84 rfl rfl rfl rfl rfl ?_
      refine g_572_60 138 87 rfl rfl rfl ?_
      refine x_ld 7 2 0 89 rfl rfl rfl rfl rfl ?_
      refine z_ild ((f + off VP q : Nat) : Int) 90 rfl i_613 rfl ⟨by omega, by omega⟩ q613 rfl ?_
      refine x_ld 0 1 2 91 rfl rfl rfl rfl rfl ?_
      refine g_572_61 141 94 rfl rfl rfl ?_
      refine x_ld 7 2 0 96 rfl rfl rfl rfl rfl ?_
      refine z_ild ((VP[q]!.length : Nat) : Int) 97 rfl i_614 rfl ⟨by omega, by omega⟩ q614 rfl ?_
      refine x_ld 8 2 0 99 rfl rfl rfl rfl rfl ?_
      refine z_ifge 106 102 rfl rfl rfl ⟨by omega, by omega⟩ (fun _ => ?_) (fun c => absurd c (by omega))
      refine x_ld 0 1 2 107 rfl rfl rfl rfl rfl ?_
      refine g_572_64 147 110 rfl rfl rfl ?_
      refine x_ld 8 2 0 112 rfl rfl rfl rfl rfl ?_
      refine z_ild ((s + off SP o : Nat) : Int) 113 rfl i_616 rfl ⟨by omega, by omega⟩ (q616 o ho).1 rfl ?_
      refine x_ld 8 2 0 115 rfl rfl rfl rfl rfl ?_
      refine z_ifge 122 118 rfl rfl rfl ⟨by omega, by omega⟩ (fun _ => ?_) (fun c => absurd c (by omega))
      refine x_ld 0 1 2 123 rfl rfl rfl rfl rfl ?_
      refine g_572_65 150 126 rfl rfl rfl ?_
      refine x_ld 8 2 0 128 rfl rfl rfl rfl rfl ?_
      refine z_ild ((SP[o]!.length : Nat) : Int) 129 rfl i_617 rfl ⟨by omega, by omega⟩ (q616 o ho).2 rfl ?_
      refine x_ce 323 151 132 [.ref 572, zi ((l : Nat) : Int), zi ((f + off VP q : Nat) : Int), zi ((VP[q]!.length : Nat) : Int), zi ((s + off SP o : Nat) : Int), zi ((SP[o]!.length : Nat) : Int)] rfl rfl rfl (Nat.le_of_ble_eq_true rfl) rfl rfl (Nat.le_of_ble_eq_true rfl) ⟨_, _, _, rfl, o_572⟩ (Nat.le_of_ble_eq_true rfl) (c151f d hcS (by rw [List.length_append]; omega)) rfl ?_
      rintro v M2 ⟨rfl, hS2, hF2⟩
      have q6b : M2.1 572 6 = (c : Int) := (hF2.2.1 6 (by decide)).trans q6
      have hS3 : ctS M2 (bs ++ dsL VP.length (ciS l f s VP SP og) q) u := by rw [dsL_step _ (by omega), ← List.append_assoc]; unfold ciS; rw [eo]; exact hS2
      refine x_ld 1 1 0 133 rfl rfl rfl rfl rfl ?_
      refine x_ld 0 1 2 134 rfl rfl rfl rfl rfl ?_
      refine g_572_6 271 137 rfl rfl q6b rfl ?_
      refine x_cst (zi 1) 1 138 rfl rfl rfl ?_
      refine z_sub 139 rfl rfl ?_
      refine z_icne 151 142 rfl rfl rfl ⟨by omega, by omega⟩ ⟨by omega, by omega⟩ (fun c => absurd c (by omega)) (fun _ => ?_)
      refine x_ld 0 1 2 143 rfl rfl rfl rfl rfl ?_
      refine g_572_36 84 146 rfl rfl rfl ?_
      refine x_ld 7 2 0 148 rfl rfl rfl rfl rfl ?_
      refine x_ld 8 2 0 150 rfl rfl rfl rfl rfl ?_
      refine z_ist 151 rfl i_595 rfl ⟨by omega, by omega⟩ rfl ?_
      refine z_inc 7 154 [some (.ref 572), some (zi ((k : Nat) : Int)), some (zi ((f : Nat) : Int)), some (zi ((n : Nat) : Int)), some (zi ((s : Nat) : Int)), some (zi ((n2 : Nat) : Int)), some (zi kv), some (zi (((q : Nat) : Int) - 1)), some (zi ((o : Nat) : Int))] rfl rfl (Nat.le_of_ble_eq_true rfl) rfl rfl ?_
      refine x_go 52 rfl rfl ?_
      refine ih (by omega) _ _ (Fpo_trans (Fpo_trans hF (Fpu_Fpo hF2)) ⟨fun a h1 h2 h3 => sI_ne h2, fun j h1 => rd_na (by decide), rfl⟩) (ctS_sI hS3 (.inl rfl)) (fun i h1 h2 => ?_)
      rcases Nat.eq_or_lt_of_le h1 with e | e
      · subst e; rw [eo]; exact rd_eq
      · exact (rd_nk (by omega)).trans ((congrFun (hF2.1 595 (by decide) (by decide)) _).trans (hog9 i (by omega) h2))
theorem c155_nr (d : Nat) {k l c f n n2 : Nat} {kv : Int} (hk : k < c) (hc : c ≤ 31) (hrt : k + 1 = c) (h6c : M.1 572 6 = (c : Int)) (hlf : M.1 577 (k : Int) = ((l : Nat) : Int)) {VP : List (List Nat)} (v6 : VP.length ≤ 6) (hvb : ∀ i, i < VP.length → f + off VP i + VP[i]!.length ≤ 6) (hV : lpP M 63 613 614 f VP VP.length) {bs : List cI} (hbs : bs.length + 6 ≤ 256) {u : List Nat} {Q : ab_Q} (kk : ∀ M', ctS M' (bs ++ dsL VP.length (ciS l f 0 VP [] (fun _ => none)) 0) u → Fdr M M' → M'.1 572 35 = (VP.length : Int) → (∀ i : Nat, 0 ≤ i → i < VP.length → M'.1 595 (i : Int) = oz none) → Q (.inl none) (hp M' ++ es)) : ∀ j : Nat, j ≤ VP.length → ∀ M' o8, Fpo M M' → ctS M' (bs ++ dsL VP.length (ciS l f 0 VP [] (fun _ => none)) j) u → (∀ i : Nat, j ≤ i → i < VP.length → M'.1 595 (i : Int) = oz none) → ab_W (pg_G L xs) (ab_X (pg_G L xs) (d + 1)) 155 Q 52 [some (.ref 572), some (zi (k : Nat)), some (zi (f : Nat)), some (zi (n : Nat)), some (zi (-1)), some (zi ((n2 : Nat) : Int)), some (zi kv), some (zi ((j : Int) - 1)), o8] [] (hp M' ++ es) := by
  intro j
  induction j with
  | zero =>
    intro hj M' o8 hF hcS hog9
    have q6 : M'.1 572 6 = (c : Int) := (hF.2.1 6 (by decide)).trans h6c
    have q63 : M'.1 572 63 = (VP.length : Int) := (hF.2.1 63 (by decide)).trans hV.1
    refine x_ld 7 2 0 54 rfl rfl rfl rfl rfl ?_
    refine z_iflt 157 57 rfl rfl rfl ⟨by omega, by omega⟩ (fun _ => ?_) (fun c => absurd c (by omega))
    refine x_ld 0 1 2 158 rfl rfl rfl rfl rfl ?_
    refine x_ld 1 1 0 159 rfl rfl rfl rfl rfl ?_
    refine x_ld 0 1 2 160 rfl rfl rfl rfl rfl ?_
    refine g_572_6 271 163 rfl rfl q6 rfl ?_
    refine x_cst (zi 1) 1 164 rfl rfl rfl ?_
    refine z_sub 165 rfl rfl ?_
    refine z_icne 175 168 rfl rfl rfl ⟨by omega, by omega⟩ ⟨by omega, by omega⟩ (fun c => absurd c (by omega)) (fun _ => ?_)
    refine x_ld 0 1 2 169 rfl rfl rfl rfl rfl ?_
    refine g_572_63 338 172 rfl rfl q63 rfl ?_
    refine x_go 179 rfl rfl ?_
    refine s_572_35 156 182 rfl rfl rfl rfl rfl rfl ?_
    refine x_rtv rfl rfl ?_
    refine kk _ (ctS_sI hcS (.inr ⟨rfl, rfl⟩)) ?_ rd_eq (fun i h1 h2 => (rd_na (by decide)).trans (hog9 i h1 h2))
    exact Fdr_trans (Fpo_Fdr hF) ⟨fun a h1 _ _ => sI_ne h1, fun j h1 h2 => rd_nk h2, rfl⟩
  | succ q ih =>
    intro hj M' o8 hF hcS hog9
    have q6 : M'.1 572 6 = (c : Int) := (hF.2.1 6 (by decide)).trans h6c
    have q577 : M'.1 577 (k : Int) = ((l : Nat) : Int) := by rw [hF.1 577 (by decide) (by decide) (by decide)]; exact hlf
    have q613 : M'.1 613 (q : Int) = ((f + off VP q : Nat) : Int) := by rw [hF.1 613 (by decide) (by decide) (by decide)]; exact (hV.2 q (by omega)).1
    have q614 : M'.1 614 (q : Int) = ((VP[q]!.length : Nat) : Int) := by rw [hF.1 614 (by decide) (by decide) (by decide)]; exact (hV.2 q (by omega)).2
    have hlen := dsL_len VP.length (ciS l f 0 VP [] (fun _ => none)) (q + 1)
    rw [show ((q + 1 : Nat) : Int) - 1 = (q : Int) by omega]
    refine x_ld 7 2 0 54 rfl rfl rfl rfl rfl ?_
    refine z_iflt 157 57 rfl rfl rfl ⟨by omega, by omega⟩ (fun c => absurd c (by omega)) (fun _ => ?_)
    refine x_ld 4 2 0 59 rfl rfl rfl rfl rfl ?_
    refine z_ifge 66 62 rfl rfl rfl (rg_lit (-1) rfl) (fun c => absurd c (by decide)) (fun _ => ?_)
    refine x_cst (zi (-1)) 1 63 rfl rfl rfl ?_
    refine x_go 74 rfl rfl ?_
    refine x_st 8 2 0 76 [some (.ref 572), some (zi ((k : Nat) : Int)), some (zi ((f : Nat) : Int)), some (zi ((n : Nat) : Int)), some (zi (-1)), some (zi ((n2 : Nat) : Int)), some (zi kv), some (zi ((q : Nat) : Int)), some (zi (-1))] rfl rfl rfl (Nat.le_of_ble_eq_true rfl) rfl rfl ?_
    refine x_ld 0 1 2 77 rfl rfl rfl rfl rfl ?_
    refine x_ld 0 1 2 78 rfl rfl rfl rfl rfl ?_
    refine g_572_8 22 81 rfl rfl rfl ?_
    refine x_ld 1 1 0 82 rfl rfl rfl rfl rfl ?_
    refine z_ild ((l : Nat) : Int) 83 rfl i_577 rfl ⟨by omega, by omega⟩ q577 rfl ?_
    refine x_ld 0 1 2 84 rfl rfl rfl rfl rfl ?_
    refine g_572_60 138 87 rfl rfl rfl ?_
    refine x_ld 7 2 0 89 rfl rfl rfl rfl rfl ?_
    refine z_ild ((f + off VP q : Nat) : Int) 90 rfl i_613 rfl ⟨by omega, by omega⟩ q613 rfl ?_
    refine x_ld 0 1 2 91 rfl rfl rfl rfl rfl ?_
    refine g_572_61 141 94 rfl rfl rfl ?_
    refine x_ld 7 2 0 96 rfl rfl rfl rfl rfl ?_
    refine z_ild ((VP[q]!.length : Nat) : Int) 97 rfl i_614 rfl ⟨by omega, by omega⟩ q614 rfl ?_
    refine x_ld 8 2 0 99 rfl rfl rfl rfl rfl ?_
    refine z_ifge 106 102 rfl rfl rfl (rg_lit (-1) rfl) (fun c => absurd c (by decide)) (fun _ => ?_)
    refine x_cst (zi (-1)) 1 103 rfl rfl rfl ?_
    refine x_go 113 rfl rfl ?_
    refine x_ld 8 2 0 115 rfl rfl rfl rfl rfl ?_
    refine z_ifge 122 118 rfl rfl rfl (rg_lit (-1) rfl) (fun c => absurd c (by decide)) (fun _ => ?_)
    refine x_cst (zi 0) 1 119 rfl rfl rfl ?_
    refine x_go 129 rfl rfl ?_
    refine x_ce 323 151 132 [.ref 572, zi ((l : Nat) : Int), zi ((f + off VP q : Nat) : Int), zi ((VP[q]!.length : Nat) : Int), zi (-1), zi 0] rfl rfl rfl (Nat.le_of_ble_eq_true rfl) rfl rfl (Nat.le_of_ble_eq_true rfl) ⟨_, _, _, rfl, o_572⟩ (Nat.le_of_ble_eq_true rfl) (c151f (m := 0) d hcS (by rw [List.length_append]; omega)) rfl ?_
    rintro v M2 ⟨rfl, hS2, hF2⟩
    have q6b : M2.1 572 6 = (c : Int) := (hF2.2.1 6 (by decide)).trans q6
    have hS3 : ctS M2 (bs ++ dsL VP.length (ciS l f 0 VP [] (fun _ => none)) q) u := by rw [dsL_step _ (by omega), ← List.append_assoc]; unfold ciS; exact hS2
    refine x_ld 1 1 0 133 rfl rfl rfl rfl rfl ?_
    refine x_ld 0 1 2 134 rfl rfl rfl rfl rfl ?_
    refine g_572_6 271 137 rfl rfl q6b rfl ?_
    refine x_cst (zi 1) 1 138 rfl rfl rfl ?_
    refine z_sub 139 rfl rfl ?_
    refine z_icne 151 142 rfl rfl rfl ⟨by omega, by omega⟩ ⟨by omega, by omega⟩ (fun c => absurd c (by omega)) (fun _ => ?_)
    refine x_ld 0 1 2 143 rfl rfl rfl rfl rfl ?_
    refine g_572_36 84 146 rfl rfl rfl ?_
    refine x_ld 7 2 0 148 rfl rfl rfl rfl rfl ?_
    refine x_ld 8 2 0 150 rfl rfl rfl rfl rfl ?_
    refine z_ist 151 rfl i_595 rfl ⟨by omega, by omega⟩ rfl ?_
    refine z_inc 7 154 [some (.ref 572), some (zi ((k : Nat) : Int)), some (zi ((f : Nat) : Int)), some (zi ((n : Nat) : Int)), some (zi (-1)), some (zi ((n2 : Nat) : Int)), some (zi kv), some (zi (((q : Nat) : Int) - 1)), some (zi (-1))] rfl rfl (Nat.le_of_ble_eq_true rfl) rfl rfl ?_
    refine x_go 52 rfl rfl ?_
    refine ih (by omega) _ _ (Fpo_trans (Fpo_trans hF (Fpu_Fpo hF2)) ⟨fun a h1 h2 h3 => sI_ne h2, fun j h1 => rd_na (by decide), rfl⟩) (ctS_sI hS3 (.inl rfl)) (fun i h1 h2 => ?_)
    rcases Nat.eq_or_lt_of_le h1 with e | e
    · subst e; exact rd_eq
    · exact (rd_nk (by omega)).trans ((congrFun (hF2.1 595 (by decide) (by decide)) _).trans (hog9 i (by omega) h2))
theorem rp_v {A B : Nat → Bool} (hB : ∀ t, B t = true ↔ rq A t) {w : List Nat} (hw : tx_L w) (h6 : w.length ≤ 6) (ms : B (tx_num w) = true) {f : Nat} (hf : f + w.length ≤ 6) {r : Int → Int} (hr : roL r f w) : ∀ i, i < (rps A B w).length → tx_L (rps A B w)[i]! ∧ (rps A B w)[i]!.length ≤ 6 ∧ A (tx_num (rps A B w)[i]!) = true ∧ roL r (f + off (rps A B w) i) (rps A B w)[i]! ∧ f + off (rps A B w) i + (rps A B w)[i]!.length ≤ 6 := by
  intro i hi
  have h1 := rps_mem hB hw ms _ (get_mem hi)
  have h2 := off_succ hi
  have h3 := off_le A B w (i + 1)
  refine ⟨h1.2.1, by omega, h1.1, ?_, by omega⟩
  rw [(rps_nth hi).2]
  exact roL_take (roL_drop hr _) _
theorem c155si_7 (d : Nat) {ps : Nat → prt} {c : Nat} (hm : mdl M ps c) (h6c : M.1 572 6 = (c : Int)) {k : Nat} (hk : k < c) {w : List Nat} (hw : tx_L w) (h6 : w.length ≤ 6) (ms : (sts ps k).2 (tx_num w) = true) {f : Nat} (hf : f + w.length ≤ 6) (hr : roL (M.1 597) f w) {bs : List cI} (hbs : bs.length + 6 ≤ 256) {u : List Nat} (hu : u.length < 256) (hS : ctS M bs u) {s : Nat} {sw : List Nat} (hs : tx_L sw) (s6 : sw.length ≤ 6) (mss : (sts ps k).1 (tx_num sw) = true) (hsf : s + sw.length ≤ 6) (hsr : roL (M.1 596) s sw) (hshl : (sem_sh (pgo ps) k sw).length ≤ 6) (hK : (ps k).1 = 7) (hrt : k + 1 < c) : ab_Z (pg_G L xs) (d + 7) 155 [.ref 572, zi (k : Nat), zi (f : Nat), zi (w.length : Nat), zi ((s : Nat) : Int), zi ((sw.length : Nat) : Int)] M es (fun v M' => v = none ∧ ctS M' (bs ++ dsL (rps (sts ps (ps k).2.1).2 (sts ps k).2 w).length (ciS (ps k).2.1 f s (rps (sts ps (ps k).2.1).2 (sts ps k).2 w) (rps (sts ps (ps k).2.1).1 (sts ps k).1 sw) (org false ((rps (sts ps (ps k).2.1).1 (sts ps k).1 sw).map (fun u => tx_num (sem_ky (pgo ps) (ps k).2.1 (sem_sh (pgo ps) (ps k).2.1 u)))) ((rps (sts ps (ps k).2.1).2 (sts ps k).2 w).map (fun u => tx_num (sem_ky (pgo ps) (ps k).2.1 u))))) 0) u ∧ Fc M M') := by
  have hc31 := hm.1
  obtain ⟨hwf, hok, qkd, qlf, qrt, qlt, _, _⟩ := hm.2 k hk
  have hlk := hwf.2.2.2 (by omega)
  rw [hK] at qkd qlf qrt
  have hkd : M.1 576 (k : Int) = 8 := qkd
  have hlf : M.1 577 (k : Int) = (((ps k).2.1 : Nat) : Int) := qlf
  have g2 := (mdl_gds hm k hk).2
  rw [show pK (pgo ps) k = 7 from hK] at g2
  have hPl := rps_len (sts ps (ps k).2.1).2 (sts ps k).2 w
  have hvv := rp_v (A := (sts ps (ps k).2.1).2) (B := (sts ps k).2) g2.2.2.2.2.2 hw h6 ms hf hr
  have hSl := rps_len (sts ps (ps k).2.1).1 (sts ps k).1 sw
  have hss := rp_v (A := (sts ps (ps k).2.1).1) (B := (sts ps k).1) g2.2.2.2.2.1 hs s6 mss hsf hsr
  have hsh : ∀ i, i < (rps (sts ps (ps k).2.1).1 (sts ps k).1 sw).length → (sem_sh (pgo ps) (ps k).2.1 (rps (sts ps (ps k).2.1).1 (sts ps k).1 sw)[i]!).length ≤ 6 := by
    intro i hi
    have e := sh_7 (show pK (pgo ps) k = 7 from hK) g2.2.1 sw
    rw [e] at hshl
    exact Nat.le_trans (len_fm (g := fun u => sem_sh (pgo ps) (ps k).2.1 u) (get_mem hi)) hshl
  show ab_W (pg_G L xs) (ab_X (pg_G L xs) (d + 6)) 155 _ 0 [some (.ref 572), some (zi ((k : Nat) : Int)), some (zi ((f : Nat) : Int)), some (zi ((w.length : Nat) : Int)), some (zi ((s : Nat) : Int)), some (zi ((sw.length : Nat) : Int)), none, none, none] [] (hp M ++ es)
  refine x_ld 0 1 2 1 rfl rfl rfl rfl rfl ?_
  refine g_572_7 19 4 rfl rfl rfl ?_
  refine x_ld 1 1 0 5 rfl rfl rfl rfl rfl ?_
  refine z_ild 8 6 rfl i_576 rfl ⟨by omega, by omega⟩ hkd rfl ?_
  refine x_cst (zi 9) 2 8 rfl rfl rfl ?_
  refine z_icne 15 11 rfl rfl rfl (rg_lit 8 rfl) (rg_lit 9 rfl) (fun _ => ?_) (fun c => absurd c (by decide))
  refine x_cst (zi 0) 1 16 rfl rfl rfl ?_
  refine x_st 6 2 0 18 [some (.ref 572), some (zi ((k : Nat) : Int)), some (zi ((f : Nat) : Int)), some (zi ((w.length : Nat) : Int)), some (zi ((s : Nat) : Int)), some (zi ((sw.length : Nat) : Int)), some (zi 0), none, none] rfl rfl rfl (Nat.le_of_ble_eq_true rfl) rfl rfl ?_
  refine x_ld 0 1 2 19 rfl rfl rfl rfl rfl ?_
  refine x_ld 1 1 0 20 rfl rfl rfl rfl rfl ?_
  refine x_ld 2 1 0 21 rfl rfl rfl rfl rfl ?_
  refine x_ld 3 1 0 22 rfl rfl rfl rfl rfl ?_
  refine x_ld 4 2 0 24 rfl rfl rfl rfl rfl ?_
  refine x_ld 5 2 0 26 rfl rfl rfl rfl rfl ?_
  refine x_ce 351 156 29 [.ref 572, zi ((k : Nat) : Int), zi ((f : Nat) : Int), zi ((w.length : Nat) : Int), zi ((s : Nat) : Int), zi ((sw.length : Nat) : Int)] rfl rfl rfl (Nat.le_of_ble_eq_true rfl) rfl rfl (Nat.le_of_ble_eq_true rfl) ⟨_, _, _, rfl, o_572⟩ (Nat.le_of_ble_eq_true rfl) (c156s (d + 3) hm hk (by omega) hw h6 ms hf hr hs s6 mss hsf hsr) rfl ?_
  rintro v M2 ⟨rfl, hF2, hL2, hL3⟩
  refine x_ld 6 2 0 31 rfl rfl rfl rfl rfl ?_
  refine z_ifeq 44 34 rfl rfl rfl (rg_lit 0 rfl) (fun _ => ?_) (fun c => absurd c (by decide))
  refine x_ld 0 1 2 45 rfl rfl rfl rfl rfl ?_
  refine g_572_63 338 48 rfl rfl hL2.1 rfl ?_
  refine x_cst (zi 1) 1 49 rfl rfl rfl ?_
  refine z_sub 50 rfl rfl ?_
  refine x_st 7 2 0 52 [some (.ref 572), some (zi ((k : Nat) : Int)), some (zi ((f : Nat) : Int)), some (zi ((w.length : Nat) : Int)), some (zi ((s : Nat) : Int)), some (zi ((sw.length : Nat) : Int)), some (zi 0), some (zi ((((rps (sts ps (ps k).2.1).2 (sts ps k).2 w).length : Nat) : Int) - 1)), none] rfl rfl rfl (Nat.le_of_ble_eq_true rfl) rfl rfl ?_
  have hFc := Fw_Fc hF2
  have hcS := Fw_ctS hF2 hS
  have hLV := hL2
  have hLS := hL3
  have hog : ∀ i o, (org false ((rps (sts ps (ps k).2.1).1 (sts ps k).1 sw).map (fun u => tx_num (sem_ky (pgo ps) (ps k).2.1 (sem_sh (pgo ps) (ps k).2.1 u)))) ((rps (sts ps (ps k).2.1).2 (sts ps k).2 w).map (fun u => tx_num (sem_ky (pgo ps) (ps k).2.1 u)))) i = some o → o < (rps (sts ps (ps k).2.1).1 (sts ps k).1 sw).length := fun i o e => by have := org_lt e; rwa [List.length_map] at this
  have h161 : ∀ M', Fpu M2 M' → ∀ j, j < (rps (sts ps (ps k).2.1).2 (sts ps k).2 w).length → ab_S (pg_G L xs) (d + 6) 161 [.ref 572, zi (j : Nat), zi 0] (hp M' ++ es) (some (zi (oz ((org false ((rps (sts ps (ps k).2.1).1 (sts ps k).1 sw).map (fun u => tx_num (sem_ky (pgo ps) (ps k).2.1 (sem_sh (pgo ps) (ps k).2.1 u)))) ((rps (sts ps (ps k).2.1).2 (sts ps k).2 w).map (fun u => tx_num (sem_ky (pgo ps) (ps k).2.1 u)))) j)))) (hp M' ++ es) := by
    intro M' hF j hj
    exact c161p (d + 5) (by rw [List.length_map]; omega) (by omega) (by rw [List.length_map]; exact (hF.2.1 67 (by decide)).trans hLS.1)
  exact c155_si (L := L) (xs := xs) (es := es) (M := M2) (d + 5) (n := w.length) (n2 := sw.length) (l := (ps k).2.1) (c := c) hk hc31 hrt ((hFc.2.1 6 (by unfold cF; omega)).trans h6c) (by rw [hFc.1 577 (by decide) (by decide)]; exact hlf) (by omega) (fun i hi => (hvv i hi).2.2.2.2) hLV (by omega) (by omega) (fun i hi => (hss i hi).2.2.2.2) hLS hog h161 hbs (u := u) (Q := fun r' h' => ∃ v M', r' = .inl v ∧ h' = hp M' ++ es ∧ v = none ∧ ctS M' (bs ++ dsL (rps (sts ps (ps k).2.1).2 (sts ps k).2 w).length (ciS (ps k).2.1 f s (rps (sts ps (ps k).2.1).2 (sts ps k).2 w) (rps (sts ps (ps k).2.1).1 (sts ps k).1 sw) (org false ((rps (sts ps (ps k).2.1).1 (sts ps k).1 sw).map (fun u => tx_num (sem_ky (pgo ps) (ps k).2.1 (sem_sh (pgo ps) (ps k).2.1 u)))) ((rps (sts ps (ps k).2.1).2 (sts ps k).2 w).map (fun u => tx_num (sem_ky (pgo ps) (ps k).2.1 u))))) 0) u ∧ Fc M M') (fun M4 hS4 hF4 => ⟨none, M4, rfl, rfl, rfl, hS4, Fc_trans hFc hF4⟩) _ (Nat.le_refl _) M2 none (Fpu_refl _) (by rw [dsL_end, List.append_nil]; exact hcS)
theorem c152si_7 (d : Nat) {ps : Nat → prt} {c : Nat} (hm : mdl M ps c) (h6c : M.1 572 6 = (c : Int)) {k : Nat} (hk : k < c) {w : List Nat} (hw : tx_L w) (h6 : w.length ≤ 6) (ms : (sts ps k).2 (tx_num w) = true) {f : Nat} (hf : f + w.length ≤ 6) (hr : roL (M.1 597) f w) {bs : List cI} (hbs : bs.length + 6 ≤ 256) {u : List Nat} (hu : u.length < 256) (hS : ctS M bs u) {s : Nat} {sw : List Nat} (hs : tx_L sw) (s6 : sw.length ≤ 6) (mss : (sts ps k).1 (tx_num sw) = true) (hsf : s + sw.length ≤ 6) (hsr : roL (M.1 596) s sw) (hshl : (sem_sh (pgo ps) k sw).length ≤ 6) (hK : (ps k).1 = 7) (hrt : k + 1 < c) : ab_Z (pg_G L xs) (d + 8) 152 [.ref 572, zi (k : Nat), zi (f : Nat), zi (w.length : Nat), zi ((s : Nat) : Int), zi ((sw.length : Nat) : Int)] M es (fun v M' => v = none ∧ ctS M' (bs ++ dsL (rps (sts ps (ps k).2.1).2 (sts ps k).2 w).length (ciS (ps k).2.1 f s (rps (sts ps (ps k).2.1).2 (sts ps k).2 w) (rps (sts ps (ps k).2.1).1 (sts ps k).1 sw) (org false ((rps (sts ps (ps k).2.1).1 (sts ps k).1 sw).map (fun u => tx_num (sem_ky (pgo ps) (ps k).2.1 (sem_sh (pgo ps) (ps k).2.1 u)))) ((rps (sts ps (ps k).2.1).2 (sts ps k).2 w).map (fun u => tx_num (sem_ky (pgo ps) (ps k).2.1 u))))) 0) u ∧ Fc M M') := by
  have hc31 := hm.1
  obtain ⟨hwf, hok, qkd, qlf, qrt, qlt, _, _⟩ := hm.2 k hk
  rw [hK] at qkd qlf qrt
  have hkd : M.1 576 (k : Int) = 8 := qkd
  have hlf : M.1 577 (k : Int) = (((ps k).2.1 : Nat) : Int) := qlf
  have hrt2 : M.1 578 (k : Int) = -1 := qrt
  show ab_W (pg_G L xs) (ab_X (pg_G L xs) (d + 7)) 152 _ 0 [some (.ref 572), some (zi ((k : Nat) : Int)), some (zi ((f : Nat) : Int)), some (zi ((w.length : Nat) : Int)), some (zi ((s : Nat) : Int)), some (zi ((sw.length : Nat) : Int)), none, none, none, none, none, none, none] [] (hp M ++ es)
  refine x_ld 0 1 2 1 rfl rfl rfl rfl rfl ?_
  refine g_572_8 22 4 rfl rfl rfl ?_
  refine x_ld 1 1 0 5 rfl rfl rfl rfl rfl ?_
  refine z_ild (((ps k).2.1 : Nat) : Int) 6 rfl i_577 rfl ⟨by omega, by omega⟩ hlf rfl ?_
  refine x_st 6 2 0 8 [some (.ref 572), some (zi ((k : Nat) : Int)), some (zi ((f : Nat) : Int)), some (zi ((w.length : Nat) : Int)), some (zi ((s : Nat) : Int)), some (zi ((sw.length : Nat) : Int)), some (zi (((ps k).2.1 : Nat) : Int)), none, none, none, none, none, none] rfl rfl rfl (Nat.le_of_ble_eq_true rfl) rfl rfl ?_
  refine x_ld 0 1 2 9 rfl rfl rfl rfl rfl ?_
  refine g_572_9 25 12 rfl rfl rfl ?_
  refine x_ld 1 1 0 13 rfl rfl rfl rfl rfl ?_
  refine z_ild (-1) 14 rfl i_578 rfl ⟨by omega, by omega⟩ hrt2 rfl ?_
  refine x_st 7 2 0 16 [some (.ref 572), some (zi ((k : Nat) : Int)), some (zi ((f : Nat) : Int)), some (zi ((w.length : Nat) : Int)), some (zi ((s : Nat) : Int)), some (zi ((sw.length : Nat) : Int)), some (zi (((ps k).2.1 : Nat) : Int)), some (zi (-1)), none, none, none, none, none] rfl rfl rfl (Nat.le_of_ble_eq_true rfl) rfl rfl ?_
  refine x_ld 0 1 2 17 rfl rfl rfl rfl rfl ?_
  refine g_572_7 19 20 rfl rfl rfl ?_
  refine x_ld 1 1 0 21 rfl rfl rfl rfl rfl ?_
  refine z_ild 8 22 rfl i_576 rfl ⟨by omega, by omega⟩ hkd rfl ?_
  refine x_tin 163 rfl (by decide) (by decide) rfl rfl ?_
  refine x_ld 0 1 2 164 rfl rfl rfl rfl rfl ?_
  refine x_ld 1 1 0 165 rfl rfl rfl rfl rfl ?_
  refine x_ld 2 1 0 166 rfl rfl rfl rfl rfl ?_
  refine x_ld 3 1 0 167 rfl rfl rfl rfl rfl ?_
  refine x_ld 4 2 0 169 rfl rfl rfl rfl rfl ?_
  refine x_ld 5 2 0 171 rfl rfl rfl rfl rfl ?_
  refine x_ce 335 155 174 [.ref 572, zi ((k : Nat) : Int), zi ((f : Nat) : Int), zi ((w.length : Nat) : Int), zi ((s : Nat) : Int), zi ((sw.length : Nat) : Int)] rfl rfl rfl (Nat.le_of_ble_eq_true rfl) rfl rfl (Nat.le_of_ble_eq_true rfl) ⟨_, _, _, rfl, o_572⟩ (Nat.le_of_ble_eq_true rfl) (c155si_7 d hm h6c hk hw h6 ms hf hr hbs hu hS hs s6 mss hsf hsr hshl hK hrt) rfl ?_
  rintro v M2 ⟨rfl, hp2⟩
  refine x_go 368 rfl rfl ?_
  refine x_rtv rfl rfl ?_
  exact ⟨none, M2, rfl, rfl, rfl, hp2⟩
theorem c155sr_7 (d : Nat) {ps : Nat → prt} {c : Nat} (hm : mdl M ps c) (h6c : M.1 572 6 = (c : Int)) {k : Nat} (hk : k < c) {w : List Nat} (hw : tx_L w) (h6 : w.length ≤ 6) (ms : (sts ps k).2 (tx_num w) = true) {f : Nat} (hf : f + w.length ≤ 6) (hr : roL (M.1 597) f w) {bs : List cI} (hbs : bs.length + 6 ≤ 256) {u : List Nat} (hu : u.length < 256) (hS : ctS M bs u) {s : Nat} {sw : List Nat} (hs : tx_L sw) (s6 : sw.length ≤ 6) (mss : (sts ps k).1 (tx_num sw) = true) (hsf : s + sw.length ≤ 6) (hsr : roL (M.1 596) s sw) (hshl : (sem_sh (pgo ps) k sw).length ≤ 6) (hK : (ps k).1 = 7) (hrt : k + 1 = c) : ab_Z (pg_G L xs) (d + 7) 155 [.ref 572, zi (k : Nat), zi (f : Nat), zi (w.length : Nat), zi ((s : Nat) : Int), zi ((sw.length : Nat) : Int)] M es (fun v M' => v = none ∧ ctS M' (bs ++ dsL (rps (sts ps (ps k).2.1).2 (sts ps k).2 w).length (ciS (ps k).2.1 f s (rps (sts ps (ps k).2.1).2 (sts ps k).2 w) (rps (sts ps (ps k).2.1).1 (sts ps k).1 sw) (org false ((rps (sts ps (ps k).2.1).1 (sts ps k).1 sw).map (fun u => tx_num (sem_ky (pgo ps) (ps k).2.1 (sem_sh (pgo ps) (ps k).2.1 u)))) ((rps (sts ps (ps k).2.1).2 (sts ps k).2 w).map (fun u => tx_num (sem_ky (pgo ps) (ps k).2.1 u))))) 0) u ∧ Fdr M M' ∧ M'.1 572 35 = ((rps (sts ps (ps k).2.1).2 (sts ps k).2 w).length : Int) ∧ ∀ i : Nat, 0 ≤ i → i < (rps (sts ps (ps k).2.1).2 (sts ps k).2 w).length → M'.1 595 (i : Int) = oz ((org false ((rps (sts ps (ps k).2.1).1 (sts ps k).1 sw).map (fun u => tx_num (sem_ky (pgo ps) (ps k).2.1 (sem_sh (pgo ps) (ps k).2.1 u)))) ((rps (sts ps (ps k).2.1).2 (sts ps k).2 w).map (fun u => tx_num (sem_ky (pgo ps) (ps k).2.1 u)))) i)) := by
  have hc31 := hm.1
  obtain ⟨hwf, hok, qkd, qlf, qrt, qlt, _, _⟩ := hm.2 k hk
  have hlk := hwf.2.2.2 (by omega)
  rw [hK] at qkd qlf qrt
  have hkd : M.1 576 (k : Int) = 8 := qkd
  have hlf : M.1 577 (k : Int) = (((ps k).2.1 : Nat) : Int) := qlf
  have g2 := (mdl_gds hm k hk).2
  rw [show pK (pgo ps) k = 7 from hK] at g2
  have hPl := rps_len (sts ps (ps k).2.1).2 (sts ps k).2 w
  have hvv := rp_v (A := (sts ps (ps k).2.1).2) (B := (sts ps k).2) g2.2.2.2.2.2 hw h6 ms hf hr
  have hSl := rps_len (sts ps (ps k).2.1).1 (sts ps k).1 sw
  have hss := rp_v (A := (sts ps (ps k).2.1).1) (B := (sts ps k).1) g2.2.2.2.2.1 hs s6 mss hsf hsr
  have hsh : ∀ i, i < (rps (sts ps (ps k).2.1).1 (sts ps k).1 sw).length → (sem_sh (pgo ps) (ps k).2.1 (rps (sts ps (ps k).2.1).1 (sts ps k).1 sw)[i]!).length ≤ 6 := by
    intro i hi
    have e := sh_7 (show pK (pgo ps) k = 7 from hK) g2.2.1 sw
    rw [e] at hshl
    exact Nat.le_trans (len_fm (g := fun u => sem_sh (pgo ps) (ps k).2.1 u) (get_mem hi)) hshl
  show ab_W (pg_G L xs) (ab_X (pg_G L xs) (d + 6)) 155 _ 0 [some (.ref 572), some (zi ((k : Nat) : Int)), some (zi ((f : Nat) : Int)), some (zi ((w.length : Nat) : Int)), some (zi ((s : Nat) : Int)), some (zi ((sw.length : Nat) : Int)), none, none, none] [] (hp M ++ es)
  refine x_ld 0 1 2 1 rfl rfl rfl rfl rfl ?_
  refine g_572_7 19 4 rfl rfl rfl ?_
  refine x_ld 1 1 0 5 rfl rfl rfl rfl rfl ?_
  refine z_ild 8 6 rfl i_576 rfl ⟨by omega, by omega⟩ hkd rfl ?_
  refine x_cst (zi 9) 2 8 rfl rfl rfl ?_
  refine z_icne 15 11 rfl rfl rfl (rg_lit 8 rfl) (rg_lit 9 rfl) (fun _ => ?_) (fun c => absurd c (by decide))
  refine x_cst (zi 0) 1 16 rfl rfl rfl ?_
  refine x_st 6 2 0 18 [some (.ref 572), some (zi ((k : Nat) : Int)), some (zi ((f : Nat) : Int)), some (zi ((w.length : Nat) : Int)), some (zi ((s : Nat) : Int)), some (zi ((sw.length : Nat) : Int)), some (zi 0), none, none] rfl rfl rfl (Nat.le_of_ble_eq_true rfl) rfl rfl ?_
  refine x_ld 0 1 2 19 rfl rfl rfl rfl rfl ?_
  refine x_ld 1 1 0 20 rfl rfl rfl rfl rfl ?_
  refine x_ld 2 1 0 21 rfl rfl rfl rfl rfl ?_
  refine x_ld 3 1 0 22 rfl rfl rfl rfl rfl ?_
  refine x_ld 4 2 0 24 rfl rfl rfl rfl rfl ?_
  refine x_ld 5 2 0 26 rfl rfl rfl rfl rfl ?_
  refine x_ce 351 156 29 [.ref 572, zi ((k : Nat) : Int), zi ((f : Nat) : Int), zi ((w.length : Nat) : Int), zi ((s : Nat) : Int), zi ((sw.length : Nat) : Int)] rfl rfl rfl (Nat.le_of_ble_eq_true rfl) rfl rfl (Nat.le_of_ble_eq_true rfl) ⟨_, _, _, rfl, o_572⟩ (Nat.le_of_ble_eq_true rfl) (c156s (d + 3) hm hk (by omega) hw h6 ms hf hr hs s6 mss hsf hsr) rfl ?_
  rintro v M2 ⟨rfl, hF2, hL2, hL3⟩
  refine x_ld 6 2 0 31 rfl rfl rfl rfl rfl ?_
  refine z_ifeq 44 34 rfl rfl rfl (rg_lit 0 rfl) (fun _ => ?_) (fun c => absurd c (by decide))
  refine x_ld 0 1 2 45 rfl rfl rfl rfl rfl ?_
  refine g_572_63 338 48 rfl rfl hL2.1 rfl ?_
  refine x_cst (zi 1) 1 49 rfl rfl rfl ?_
  refine z_sub 50 rfl rfl ?_
  refine x_st 7 2 0 52 [some (.ref 572), some (zi ((k : Nat) : Int)), some (zi ((f : Nat) : Int)), some (zi ((w.length : Nat) : Int)), some (zi ((s : Nat) : Int)), some (zi ((sw.length : Nat) : Int)), some (zi 0), some (zi ((((rps (sts ps (ps k).2.1).2 (sts ps k).2 w).length : Nat) : Int) - 1)), none] rfl rfl rfl (Nat.le_of_ble_eq_true rfl) rfl rfl ?_
  have hFc := Fw_Fc hF2
  have hcS := Fw_ctS hF2 hS
  have hLV := hL2
  have hLS := hL3
  have hog : ∀ i o, (org false ((rps (sts ps (ps k).2.1).1 (sts ps k).1 sw).map (fun u => tx_num (sem_ky (pgo ps) (ps k).2.1 (sem_sh (pgo ps) (ps k).2.1 u)))) ((rps (sts ps (ps k).2.1).2 (sts ps k).2 w).map (fun u => tx_num (sem_ky (pgo ps) (ps k).2.1 u)))) i = some o → o < (rps (sts ps (ps k).2.1).1 (sts ps k).1 sw).length := fun i o e => by have := org_lt e; rwa [List.length_map] at this
  have h161 : ∀ M', Fpo M2 M' → ∀ j, j < (rps (sts ps (ps k).2.1).2 (sts ps k).2 w).length → ab_S (pg_G L xs) (d + 6) 161 [.ref 572, zi (j : Nat), zi 0] (hp M' ++ es) (some (zi (oz ((org false ((rps (sts ps (ps k).2.1).1 (sts ps k).1 sw).map (fun u => tx_num (sem_ky (pgo ps) (ps k).2.1 (sem_sh (pgo ps) (ps k).2.1 u)))) ((rps (sts ps (ps k).2.1).2 (sts ps k).2 w).map (fun u => tx_num (sem_ky (pgo ps) (ps k).2.1 u)))) j)))) (hp M' ++ es) := by
    intro M' hF j hj
    exact c161p (d + 5) (by rw [List.length_map]; omega) (by omega) (by rw [List.length_map]; exact (hF.2.1 67 (by decide)).trans hLS.1)
  exact c155_sr (L := L) (xs := xs) (es := es) (M := M2) (d + 5) (n := w.length) (n2 := sw.length) (l := (ps k).2.1) (c := c) hk hc31 hrt ((hFc.2.1 6 (by unfold cF; omega)).trans h6c) (by rw [hFc.1 577 (by decide) (by decide)]; exact hlf) (by omega) (fun i hi => (hvv i hi).2.2.2.2) hLV (by omega) (by omega) (fun i hi => (hss i hi).2.2.2.2) hLS hog h161 hbs (u := u) (Q := fun r' h' => ∃ v M', r' = .inl v ∧ h' = hp M' ++ es ∧ v = none ∧ ctS M' (bs ++ dsL (rps (sts ps (ps k).2.1).2 (sts ps k).2 w).length (ciS (ps k).2.1 f s (rps (sts ps (ps k).2.1).2 (sts ps k).2 w) (rps (sts ps (ps k).2.1).1 (sts ps k).1 sw) (org false ((rps (sts ps (ps k).2.1).1 (sts ps k).1 sw).map (fun u => tx_num (sem_ky (pgo ps) (ps k).2.1 (sem_sh (pgo ps) (ps k).2.1 u)))) ((rps (sts ps (ps k).2.1).2 (sts ps k).2 w).map (fun u => tx_num (sem_ky (pgo ps) (ps k).2.1 u))))) 0) u ∧ Fdr M M' ∧ M'.1 572 35 = ((rps (sts ps (ps k).2.1).2 (sts ps k).2 w).length : Int) ∧ ∀ i : Nat, 0 ≤ i → i < (rps (sts ps (ps k).2.1).2 (sts ps k).2 w).length → M'.1 595 (i : Int) = oz ((org false ((rps (sts ps (ps k).2.1).1 (sts ps k).1 sw).map (fun u => tx_num (sem_ky (pgo ps) (ps k).2.1 (sem_sh (pgo ps) (ps k).2.1 u)))) ((rps (sts ps (ps k).2.1).2 (sts ps k).2 w).map (fun u => tx_num (sem_ky (pgo ps) (ps k).2.1 u)))) i)) (fun M4 hS4 hF4 h35 h595 => ⟨none, M4, rfl, rfl, rfl, hS4, Fdr_trans (Fc_Fdr hFc) hF4, h35, h595⟩) _ (Nat.le_refl _) M2 none (Fpo_refl _) (by rw [dsL_end, List.append_nil]; exact hcS) (fun i h1 h2 => absurd h2 (by omega))
theorem c152sr_7 (d : Nat) {ps : Nat → prt} {c : Nat} (hm : mdl M ps c) (h6c : M.1 572 6 = (c : Int)) {k : Nat} (hk : k < c) {w : List Nat} (hw : tx_L w) (h6 : w.length ≤ 6) (ms : (sts ps k).2 (tx_num w) = true) {f : Nat} (hf : f + w.length ≤ 6) (hr : roL (M.1 597) f w) {bs : List cI} (hbs : bs.length + 6 ≤ 256) {u : List Nat} (hu : u.length < 256) (hS : ctS M bs u) {s : Nat} {sw : List Nat} (hs : tx_L sw) (s6 : sw.length ≤ 6) (mss : (sts ps k).1 (tx_num sw) = true) (hsf : s + sw.length ≤ 6) (hsr : roL (M.1 596) s sw) (hshl : (sem_sh (pgo ps) k sw).length ≤ 6) (hK : (ps k).1 = 7) (hrt : k + 1 = c) : ab_Z (pg_G L xs) (d + 8) 152 [.ref 572, zi (k : Nat), zi (f : Nat), zi (w.length : Nat), zi ((s : Nat) : Int), zi ((sw.length : Nat) : Int)] M es (fun v M' => v = none ∧ ctS M' (bs ++ dsL (rps (sts ps (ps k).2.1).2 (sts ps k).2 w).length (ciS (ps k).2.1 f s (rps (sts ps (ps k).2.1).2 (sts ps k).2 w) (rps (sts ps (ps k).2.1).1 (sts ps k).1 sw) (org false ((rps (sts ps (ps k).2.1).1 (sts ps k).1 sw).map (fun u => tx_num (sem_ky (pgo ps) (ps k).2.1 (sem_sh (pgo ps) (ps k).2.1 u)))) ((rps (sts ps (ps k).2.1).2 (sts ps k).2 w).map (fun u => tx_num (sem_ky (pgo ps) (ps k).2.1 u))))) 0) u ∧ Fdr M M' ∧ M'.1 572 35 = ((rps (sts ps (ps k).2.1).2 (sts ps k).2 w).length : Int) ∧ ∀ i : Nat, 0 ≤ i → i < (rps (sts ps (ps k).2.1).2 (sts ps k).2 w).length → M'.1 595 (i : Int) = oz ((org false ((rps (sts ps (ps k).2.1).1 (sts ps k).1 sw).map (fun u => tx_num (sem_ky (pgo ps) (ps k).2.1 (sem_sh (pgo ps) (ps k).2.1 u)))) ((rps (sts ps (ps k).2.1).2 (sts ps k).2 w).map (fun u => tx_num (sem_ky (pgo ps) (ps k).2.1 u)))) i)) := by
  have hc31 := hm.1
  obtain ⟨hwf, hok, qkd, qlf, qrt, qlt, _, _⟩ := hm.2 k hk
  rw [hK] at qkd qlf qrt
  have hkd : M.1 576 (k : Int) = 8 := qkd
  have hlf : M.1 577 (k : Int) = (((ps k).2.1 : Nat) : Int) := qlf
  have hrt2 : M.1 578 (k : Int) = -1 := qrt
  show ab_W (pg_G L xs) (ab_X (pg_G L xs) (d + 7)) 152 _ 0 [some (.ref 572), some (zi ((k : Nat) : Int)), some (zi ((f : Nat) : Int)), some (zi ((w.length : Nat) : Int)), some (zi ((s : Nat) : Int)), some (zi ((sw.length : Nat) : Int)), none, none, none, none, none, none, none] [] (hp M ++ es)
  refine x_ld 0 1 2 1 rfl rfl rfl rfl rfl ?_
  refine g_572_8 22 4 rfl rfl rfl ?_
  refine x_ld 1 1 0 5 rfl rfl rfl rfl rfl ?_
  refine z_ild (((ps k).2.1 : Nat) : Int) 6 rfl i_577 rfl ⟨by omega, by omega⟩ hlf rfl ?_
  refine x_st 6 2 0 8 [some (.ref 572), some (zi ((k : Nat) : Int)), some (zi ((f : Nat) : Int)), some (zi ((w.length : Nat) : Int)), some (zi ((s : Nat) : Int)), some (zi ((sw.length : Nat) : Int)), some (zi (((ps k).2.1 : Nat) : Int)), none, none, none, none, none, none] rfl rfl rfl (Nat.le_of_ble_eq_true rfl) rfl rfl ?_
  refine x_ld 0 1 2 9 rfl rfl rfl rfl rfl ?_
  refine g_572_9 25 12 rfl rfl rfl ?_
  refine x_ld 1 1 0 13 rfl rfl rfl rfl rfl ?_
  refine z_ild (-1) 14 rfl i_578 rfl ⟨by omega, by omega⟩ hrt2 rfl ?_
  refine x_st 7 2 0 16 [some (.ref 572), some (zi ((k : Nat) : Int)), some (zi ((f : Nat) : Int)), some (zi ((w.length : Nat) : Int)), some (zi ((s : Nat) : Int)), some (zi ((sw.length : Nat) : Int)), some (zi (((ps k).2.1 : Nat) : Int)), some (zi (-1)), none, none, none, none, none] rfl rfl rfl (Nat.le_of_ble_eq_true rfl) rfl rfl ?_
  refine x_ld 0 1 2 17 rfl rfl rfl rfl rfl ?_
  refine g_572_7 19 20 rfl rfl rfl ?_
  refine x_ld 1 1 0 21 rfl rfl rfl rfl rfl ?_
  refine z_ild 8 22 rfl i_576 rfl ⟨by omega, by omega⟩ hkd rfl ?_
  refine x_tin 163 rfl (by decide) (by decide) rfl rfl ?_
  refine x_ld 0 1 2 164 rfl rfl rfl rfl rfl ?_
  refine x_ld 1 1 0 165 rfl rfl rfl rfl rfl ?_
  refine x_ld 2 1 0 166 rfl rfl rfl rfl rfl ?_
  refine x_ld 3 1 0 167 rfl rfl rfl rfl rfl ?_
  refine x_ld 4 2 0 169 rfl rfl rfl rfl rfl ?_
  refine x_ld 5 2 0 171 rfl rfl rfl rfl rfl ?_
  refine x_ce 335 155 174 [.ref 572, zi ((k : Nat) : Int), zi ((f : Nat) : Int), zi ((w.length : Nat) : Int), zi ((s : Nat) : Int), zi ((sw.length : Nat) : Int)] rfl rfl rfl (Nat.le_of_ble_eq_true rfl) rfl rfl (Nat.le_of_ble_eq_true rfl) ⟨_, _, _, rfl, o_572⟩ (Nat.le_of_ble_eq_true rfl) (c155sr_7 d hm h6c hk hw h6 ms hf hr hbs hu hS hs s6 mss hsf hsr hshl hK hrt) rfl ?_
  rintro v M2 ⟨rfl, hp2⟩
  refine x_go 368 rfl rfl ?_
  refine x_rtv rfl rfl ?_
  exact ⟨none, M2, rfl, rfl, rfl, hp2⟩
theorem c155ni_7 (d : Nat) {ps : Nat → prt} {c : Nat} (hm : mdl M ps c) (h6c : M.1 572 6 = (c : Int)) {k : Nat} (hk : k < c) {w : List Nat} (hw : tx_L w) (h6 : w.length ≤ 6) (ms : (sts ps k).2 (tx_num w) = true) {f : Nat} (hf : f + w.length ≤ 6) (hr : roL (M.1 597) f w) {bs : List cI} (hbs : bs.length + 6 ≤ 256) {u : List Nat} (hu : u.length < 256) (hS : ctS M bs u) (hK : (ps k).1 = 7) (hrt : k + 1 < c) : ab_Z (pg_G L xs) (d + 7) 155 [.ref 572, zi (k : Nat), zi (f : Nat), zi (w.length : Nat), zi (-1), zi 0] M es (fun v M' => v = none ∧ ctS M' (bs ++ dsL (rps (sts ps (ps k).2.1).2 (sts ps k).2 w).length (ciS (ps k).2.1 f 0 (rps (sts ps (ps k).2.1).2 (sts ps k).2 w) [] (fun _ => none)) 0) u ∧ Fc M M') := by
  have hc31 := hm.1
  obtain ⟨hwf, hok, qkd, qlf, qrt, qlt, _, _⟩ := hm.2 k hk
  have hlk := hwf.2.2.2 (by omega)
  rw [hK] at qkd qlf qrt
  have hkd : M.1 576 (k : Int) = 8 := qkd
  have hlf : M.1 577 (k : Int) = (((ps k).2.1 : Nat) : Int) := qlf
  have g2 := (mdl_gds hm k hk).2
  rw [show pK (pgo ps) k = 7 from hK] at g2
  have hPl := rps_len (sts ps (ps k).2.1).2 (sts ps k).2 w
  have hvv := rp_v (A := (sts ps (ps k).2.1).2) (B := (sts ps k).2) g2.2.2.2.2.2 hw h6 ms hf hr
  show ab_W (pg_G L xs) (ab_X (pg_G L xs) (d + 6)) 155 _ 0 [some (.ref 572), some (zi ((k : Nat) : Int)), some (zi ((f : Nat) : Int)), some (zi ((w.length : Nat) : Int)), some (zi (-1)), some (zi 0), none, none, none] [] (hp M ++ es)
  refine x_ld 0 1 2 1 rfl rfl rfl rfl rfl ?_
  refine g_572_7 19 4 rfl rfl rfl ?_
  refine x_ld 1 1 0 5 rfl rfl rfl rfl rfl ?_
  refine z_ild 8 6 rfl i_576 rfl ⟨by omega, by omega⟩ hkd rfl ?_
  refine x_cst (zi 9) 2 8 rfl rfl rfl ?_
  refine z_icne 15 11 rfl rfl rfl (rg_lit 8 rfl) (rg_lit 9 rfl) (fun _ => ?_) (fun c => absurd c (by decide))
  refine x_cst (zi 0) 1 16 rfl rfl rfl ?_
  refine x_st 6 2 0 18 [some (.ref 572), some (zi ((k : Nat) : Int)), some (zi ((f : Nat) : Int)), some (zi ((w.length : Nat) : Int)), some (zi (-1)), some (zi 0), some (zi 0), none, none] rfl rfl rfl (Nat.le_of_ble_eq_true rfl) rfl rfl ?_
  refine x_ld 0 1 2 19 rfl rfl rfl rfl rfl ?_
  refine x_ld 1 1 0 20 rfl rfl rfl rfl rfl ?_
  refine x_ld 2 1 0 21 rfl rfl rfl rfl rfl ?_
  refine x_ld 3 1 0 22 rfl rfl rfl rfl rfl ?_
  refine x_ld 4 2 0 24 rfl rfl rfl rfl rfl ?_
  refine x_ld 5 2 0 26 rfl rfl rfl rfl rfl ?_
  refine x_ce 351 156 29 [.ref 572, zi ((k : Nat) : Int), zi ((f : Nat) : Int), zi ((w.length : Nat) : Int), zi (-1), zi 0] rfl rfl rfl (Nat.le_of_ble_eq_true rfl) rfl rfl (Nat.le_of_ble_eq_true rfl) ⟨_, _, _, rfl, o_572⟩ (Nat.le_of_ble_eq_true rfl) (c156n (d + 3) hm hk (by omega) hw h6 ms hf hr) rfl ?_
  rintro v M2 ⟨rfl, hF2, hL2, hL3⟩
  refine x_ld 6 2 0 31 rfl rfl rfl rfl rfl ?_
  refine z_ifeq 44 34 rfl rfl rfl (rg_lit 0 rfl) (fun _ => ?_) (fun c => absurd c (by decide))
  refine x_ld 0 1 2 45 rfl rfl rfl rfl rfl ?_
  refine g_572_63 338 48 rfl rfl hL2.1 rfl ?_
  refine x_cst (zi 1) 1 49 rfl rfl rfl ?_
  refine z_sub 50 rfl rfl ?_
  refine x_st 7 2 0 52 [some (.ref 572), some (zi ((k : Nat) : Int)), some (zi ((f : Nat) : Int)), some (zi ((w.length : Nat) : Int)), some (zi (-1)), some (zi 0), some (zi 0), some (zi ((((rps (sts ps (ps k).2.1).2 (sts ps k).2 w).length : Nat) : Int) - 1)), none] rfl rfl rfl (Nat.le_of_ble_eq_true rfl) rfl rfl ?_
  have hFc := Fw_Fc hF2
  have hcS := Fw_ctS hF2 hS
  have hLV := hL2
  exact c155_ni (L := L) (xs := xs) (es := es) (M := M2) (d + 5) (n := w.length) (n2 := 0) (l := (ps k).2.1) (c := c) hk hc31 hrt ((hFc.2.1 6 (by unfold cF; omega)).trans h6c) (by rw [hFc.1 577 (by decide) (by decide)]; exact hlf) (by omega) (fun i hi => (hvv i hi).2.2.2.2) hLV hbs (u := u) (Q := fun r' h' => ∃ v M', r' = .inl v ∧ h' = hp M' ++ es ∧ v = none ∧ ctS M' (bs ++ dsL (rps (sts ps (ps k).2.1).2 (sts ps k).2 w).length (ciS (ps k).2.1 f 0 (rps (sts ps (ps k).2.1).2 (sts ps k).2 w) [] (fun _ => none)) 0) u ∧ Fc M M') (fun M4 hS4 hF4 => ⟨none, M4, rfl, rfl, rfl, hS4, Fc_trans hFc hF4⟩) _ (Nat.le_refl _) M2 none (Fpu_refl _) (by rw [dsL_end, List.append_nil]; exact hcS)
theorem c152ni_7 (d : Nat) {ps : Nat → prt} {c : Nat} (hm : mdl M ps c) (h6c : M.1 572 6 = (c : Int)) {k : Nat} (hk : k < c) {w : List Nat} (hw : tx_L w) (h6 : w.length ≤ 6) (ms : (sts ps k).2 (tx_num w) = true) {f : Nat} (hf : f + w.length ≤ 6) (hr : roL (M.1 597) f w) {bs : List cI} (hbs : bs.length + 6 ≤ 256) {u : List Nat} (hu : u.length < 256) (hS : ctS M bs u) (hK : (ps k).1 = 7) (hrt : k + 1 < c) : ab_Z (pg_G L xs) (d + 8) 152 [.ref 572, zi (k : Nat), zi (f : Nat), zi (w.length : Nat), zi (-1), zi 0] M es (fun v M' => v = none ∧ ctS M' (bs ++ dsL (rps (sts ps (ps k).2.1).2 (sts ps k).2 w).length (ciS (ps k).2.1 f 0 (rps (sts ps (ps k).2.1).2 (sts ps k).2 w) [] (fun _ => none)) 0) u ∧ Fc M M') := by
  have hc31 := hm.1
  obtain ⟨hwf, hok, qkd, qlf, qrt, qlt, _, _⟩ := hm.2 k hk
  rw [hK] at qkd qlf qrt
  have hkd : M.1 576 (k : Int) = 8 := qkd
  have hlf : M.1 577 (k : Int) = (((ps k).2.1 : Nat) : Int) := qlf
  have hrt2 : M.1 578 (k : Int) = -1 := qrt
  show ab_W (pg_G L xs) (ab_X (pg_G L xs) (d + 7)) 152 _ 0 [some (.ref 572), some (zi ((k : Nat) : Int)), some (zi ((f : Nat) : Int)), some (zi ((w.length : Nat) : Int)), some (zi (-1)), some (zi 0), none, none, none, none, none, none, none] [] (hp M ++ es)
  refine x_ld 0 1 2 1 rfl rfl rfl rfl rfl ?_
  refine g_572_8 22 4 rfl rfl rfl ?_
  refine x_ld 1 1 0 5 rfl rfl rfl rfl rfl ?_
  refine z_ild (((ps k).2.1 : Nat) : Int) 6 rfl i_577 rfl ⟨by omega, by omega⟩ hlf rfl ?_
  refine x_st 6 2 0 8 [some (.ref 572), some (zi ((k : Nat) : Int)), some (zi ((f : Nat) : Int)), some (zi ((w.length : Nat) : Int)), some (zi (-1)), some (zi 0), some (zi (((ps k).2.1 : Nat) : Int)), none, none, none, none, none, none] rfl rfl rfl (Nat.le_of_ble_eq_true rfl) rfl rfl ?_
  refine x_ld 0 1 2 9 rfl rfl rfl rfl rfl ?_
  refine g_572_9 25 12 rfl rfl rfl ?_
  refine x_ld 1 1 0 13 rfl rfl rfl rfl rfl ?_
  refine z_ild (-1) 14 rfl i_578 rfl ⟨by omega, by omega⟩ hrt2 rfl ?_
  refine x_st 7 2 0 16 [some (.ref 572), some (zi ((k : Nat) : Int)), some (zi ((f : Nat) : Int)), some (zi ((w.length : Nat) : Int)), some (zi (-1)), some (zi 0), some (zi (((ps k).2.1 : Nat) : Int)), some (zi (-1)), none, none, none, none, none] rfl rfl rfl (Nat.le_of_ble_eq_true rfl) rfl rfl ?_
  refine x_ld 0 1 2 17 rfl rfl rfl rfl rfl ?_
  refine g_572_7 19 20 rfl rfl rfl ?_
  refine x_ld 1 1 0 21 rfl rfl rfl rfl rfl ?_
  refine z_ild 8 22 rfl i_576 rfl ⟨by omega, by omega⟩ hkd rfl ?_
  refine x_tin 163 rfl (by decide) (by decide) rfl rfl ?_
  refine x_ld 0 1 2 164 rfl rfl rfl rfl rfl ?_
  refine x_ld 1 1 0 165 rfl rfl rfl rfl rfl ?_
  refine x_ld 2 1 0 166 rfl rfl rfl rfl rfl ?_
  refine x_ld 3 1 0 167 rfl rfl rfl rfl rfl ?_
  refine x_ld 4 2 0 169 rfl rfl rfl rfl rfl ?_
  refine x_ld 5 2 0 171 rfl rfl rfl rfl rfl ?_
  refine x_ce 335 155 174 [.ref 572, zi ((k : Nat) : Int), zi ((f : Nat) : Int), zi ((w.length : Nat) : Int), zi (-1), zi 0] rfl rfl rfl (Nat.le_of_ble_eq_true rfl) rfl rfl (Nat.le_of_ble_eq_true rfl) ⟨_, _, _, rfl, o_572⟩ (Nat.le_of_ble_eq_true rfl) (c155ni_7 d hm h6c hk hw h6 ms hf hr hbs hu hS hK hrt) rfl ?_
  rintro v M2 ⟨rfl, hp2⟩
  refine x_go 368 rfl rfl ?_
  refine x_rtv rfl rfl ?_
  exact ⟨none, M2, rfl, rfl, rfl, hp2⟩
theorem c155nr_7 (d : Nat) {ps : Nat → prt} {c : Nat} (hm : mdl M ps c) (h6c : M.1 572 6 = (c : Int)) {k : Nat} (hk : k < c) {w : List Nat} (hw : tx_L w) (h6 : w.length ≤ 6) (ms : (sts ps k).2 (tx_num w) = true) {f : Nat} (hf : f + w.length ≤ 6) (hr : roL (M.1 597) f w) {bs : List cI} (hbs : bs.length + 6 ≤ 256) {u : List Nat} (hu : u.length < 256) (hS : ctS M bs u) (hK : (ps k).1 = 7) (hrt : k + 1 = c) : ab_Z (pg_G L xs) (d + 7) 155 [.ref 572, zi (k : Nat), zi (f : Nat), zi (w.length : Nat), zi (-1), zi 0] M es (fun v M' => v = none ∧ ctS M' (bs ++ dsL (rps (sts ps (ps k).2.1).2 (sts ps k).2 w).length (ciS (ps k).2.1 f 0 (rps (sts ps (ps k).2.1).2 (sts ps k).2 w) [] (fun _ => none)) 0) u ∧ Fdr M M' ∧ M'.1 572 35 = ((rps (sts ps (ps k).2.1).2 (sts ps k).2 w).length : Int) ∧ ∀ i : Nat, 0 ≤ i → i < (rps (sts ps (ps k).2.1).2 (sts ps k).2 w).length → M'.1 595 (i : Int) = oz none) := by
  have hc31 := hm.1
  obtain ⟨hwf, hok, qkd, qlf, qrt, qlt, _, _⟩ := hm.2 k hk
  have hlk := hwf.2.2.2 (by omega)
  rw [hK] at qkd qlf qrt
  have hkd : M.1 576 (k : Int) = 8 := qkd
  have hlf : M.1 577 (k : Int) = (((ps k).2.1 : Nat) : Int) := qlf
  have g2 := (mdl_gds hm k hk).2
  rw [show pK (pgo ps) k = 7 from hK] at g2
  have hPl := rps_len (sts ps (ps k).2.1).2 (sts ps k).2 w
  have hvv := rp_v (A := (sts ps (ps k).2.1).2) (B := (sts ps k).2) g2.2.2.2.2.2 hw h6 ms hf hr
  show ab_W (pg_G L xs) (ab_X (pg_G L xs) (d + 6)) 155 _ 0 [some (.ref 572), some (zi ((k : Nat) : Int)), some (zi ((f : Nat) : Int)), some (zi ((w.length : Nat) : Int)), some (zi (-1)), some (zi 0), none, none, none] [] (hp M ++ es)
  refine x_ld 0 1 2 1 rfl rfl rfl rfl rfl ?_
  refine g_572_7 19 4 rfl rfl rfl ?_
  refine x_ld 1 1 0 5 rfl rfl rfl rfl rfl ?_
  refine z_ild 8 6 rfl i_576 rfl ⟨by omega, by omega⟩ hkd rfl ?_
  refine x_cst (zi 9) 2 8 rfl rfl rfl ?_
  refine z_icne 15 11 rfl rfl rfl (rg_lit 8 rfl) (rg_lit 9 rfl) (fun _ => ?_) (fun c => absurd c (by decide))
  refine x_cst (zi 0) 1 16 rfl rfl rfl ?_
  refine x_st 6 2 0 18 [some (.ref 572), some (zi ((k : Nat) : Int)), some (zi ((f : Nat) : Int)), some (zi ((w.length : Nat) : Int)), some (zi (-1)), some (zi 0), some (zi 0), none, none] rfl rfl rfl (Nat.le_of_ble_eq_true rfl) rfl rfl ?_
  refine x_ld 0 1 2 19 rfl rfl rfl rfl rfl ?_
  refine x_ld 1 1 0 20 rfl rfl rfl rfl rfl ?_
  refine x_ld 2 1 0 21 rfl rfl rfl rfl rfl ?_
  refine x_ld 3 1 0 22 rfl rfl rfl rfl rfl ?_
  refine x_ld 4 2 0 24 rfl rfl rfl rfl rfl ?_
  refine x_ld 5 2 0 26 rfl rfl rfl rfl rfl ?_
  refine x_ce 351 156 29 [.ref 572, zi ((k : Nat) : Int), zi ((f : Nat) : Int), zi ((w.length : Nat) : Int), zi (-1), zi 0] rfl rfl rfl (Nat.le_of_ble_eq_true rfl) rfl rfl (Nat.le_of_ble_eq_true rfl) ⟨_, _, _, rfl, o_572⟩ (Nat.le_of_ble_eq_true rfl) (c156n (d + 3) hm hk (by omega) hw h6 ms hf hr) rfl ?_
  rintro v M2 ⟨rfl, hF2, hL2, hL3⟩
  refine x_ld 6 2 0 31 rfl rfl rfl rfl rfl ?_
  refine z_ifeq 44 34 rfl rfl rfl (rg_lit 0 rfl) (fun _ => ?_) (fun c => absurd c (by decide))
  refine x_ld 0 1 2 45 rfl rfl rfl rfl rfl ?_
  refine g_572_63 338 48 rfl rfl hL2.1 rfl ?_
  refine x_cst (zi 1) 1 49 rfl rfl rfl ?_
  refine z_sub 50 rfl rfl ?_
  refine x_st 7 2 0 52 [some (.ref 572), some (zi ((k : Nat) : Int)), some (zi ((f : Nat) : Int)), some (zi ((w.length : Nat) : Int)), some (zi (-1)), some (zi 0), some (zi 0), some (zi ((((rps (sts ps (ps k).2.1).2 (sts ps k).2 w).length : Nat) : Int) - 1)), none] rfl rfl rfl (Nat.le_of_ble_eq_true rfl) rfl rfl ?_
  have hFc := Fw_Fc hF2
  have hcS := Fw_ctS hF2 hS
  have hLV := hL2
  exact c155_nr (L := L) (xs := xs) (es := es) (M := M2) (d + 5) (n := w.length) (n2 := 0) (l := (ps k).2.1) (c := c) hk hc31 hrt ((hFc.2.1 6 (by unfold cF; omega)).trans h6c) (by rw [hFc.1 577 (by decide) (by decide)]; exact hlf) (by omega) (fun i hi => (hvv i hi).2.2.2.2) hLV hbs (u := u) (Q := fun r' h' => ∃ v M', r' = .inl v ∧ h' = hp M' ++ es ∧ v = none ∧ ctS M' (bs ++ dsL (rps (sts ps (ps k).2.1).2 (sts ps k).2 w).length (ciS (ps k).2.1 f 0 (rps (sts ps (ps k).2.1).2 (sts ps k).2 w) [] (fun _ => none)) 0) u ∧ Fdr M M' ∧ M'.1 572 35 = ((rps (sts ps (ps k).2.1).2 (sts ps k).2 w).length : Int) ∧ ∀ i : Nat, 0 ≤ i → i < (rps (sts ps (ps k).2.1).2 (sts ps k).2 w).length → M'.1 595 (i : Int) = oz none) (fun M4 hS4 hF4 h35 h595 => ⟨none, M4, rfl, rfl, rfl, hS4, Fdr_trans (Fc_Fdr hFc) hF4, h35, h595⟩) _ (Nat.le_refl _) M2 none (Fpo_refl _) (by rw [dsL_end, List.append_nil]; exact hcS) (fun i h1 h2 => absurd h2 (by omega))
theorem c152nr_7 (d : Nat) {ps : Nat → prt} {c : Nat} (hm : mdl M ps c) (h6c : M.1 572 6 = (c : Int)) {k : Nat} (hk : k < c) {w : List Nat} (hw : tx_L w) (h6 : w.length ≤ 6) (ms : (sts ps k).2 (tx_num w) = true) {f : Nat} (hf : f + w.length ≤ 6) (hr : roL (M.1 597) f w) {bs : List cI} (hbs : bs.length + 6 ≤ 256) {u : List Nat} (hu : u.length < 256) (hS : ctS M bs u) (hK : (ps k).1 = 7) (hrt : k + 1 = c) : ab_Z (pg_G L xs) (d + 8) 152 [.ref 572, zi (k : Nat), zi (f : Nat), zi (w.length : Nat), zi (-1), zi 0] M es (fun v M' => v = none ∧ ctS M' (bs ++ dsL (rps (sts ps (ps k).2.1).2 (sts ps k).2 w).length (ciS (ps k).2.1 f 0 (rps (sts ps (ps k).2.1).2 (sts ps k).2 w) [] (fun _ => none)) 0) u ∧ Fdr M M' ∧ M'.1 572 35 = ((rps (sts ps (ps k).2.1).2 (sts ps k).2 w).length : Int) ∧ ∀ i : Nat, 0 ≤ i → i < (rps (sts ps (ps k).2.1).2 (sts ps k).2 w).length → M'.1 595 (i : Int) = oz none) := by
  have hc31 := hm.1
  obtain ⟨hwf, hok, qkd, qlf, qrt, qlt, _, _⟩ := hm.2 k hk
  rw [hK] at qkd qlf qrt
  have hkd : M.1 576 (k : Int) = 8 := qkd
  have hlf : M.1 577 (k : Int) = (((ps k).2.1 : Nat) : Int) := qlf
  have hrt2 : M.1 578 (k : Int) = -1 := qrt
  show ab_W (pg_G L xs) (ab_X (pg_G L xs) (d + 7)) 152 _ 0 [some (.ref 572), some (zi ((k : Nat) : Int)), some (zi ((f : Nat) : Int)), some (zi ((w.length : Nat) : Int)), some (zi (-1)), some (zi 0), none, none, none, none, none, none, none] [] (hp M ++ es)
  refine x_ld 0 1 2 1 rfl rfl rfl rfl rfl ?_
  refine g_572_8 22 4 rfl rfl rfl ?_
  refine x_ld 1 1 0 5 rfl rfl rfl rfl rfl ?_
  refine z_ild (((ps k).2.1 : Nat) : Int) 6 rfl i_577 rfl ⟨by omega, by omega⟩ hlf rfl ?_
  refine x_st 6 2 0 8 [some (.ref 572), some (zi ((k : Nat) : Int)), some (zi ((f : Nat) : Int)), some (zi ((w.length : Nat) : Int)), some (zi (-1)), some (zi 0), some (zi (((ps k).2.1 : Nat) : Int)), none, none, none, none, none, none] rfl rfl rfl (Nat.le_of_ble_eq_true rfl) rfl rfl ?_
  refine x_ld 0 1 2 9 rfl rfl rfl rfl rfl ?_
  refine g_572_9 25 12 rfl rfl rfl ?_
  refine x_ld 1 1 0 13 rfl rfl rfl rfl rfl ?_
  refine z_ild (-1) 14 rfl i_578 rfl ⟨by omega, by omega⟩ hrt2 rfl ?_
  refine x_st 7 2 0 16 [some (.ref 572), some (zi ((k : Nat) : Int)), some (zi ((f : Nat) : Int)), some (zi ((w.length : Nat) : Int)), some (zi (-1)), some (zi 0), some (zi (((ps k).2.1 : Nat) : Int)), some (zi (-1)), none, none, none, none, none] rfl rfl rfl (Nat.le_of_ble_eq_true rfl) rfl rfl ?_
  refine x_ld 0 1 2 17 rfl rfl rfl rfl rfl ?_
  refine g_572_7 19 20 rfl rfl rfl ?_
  refine x_ld 1 1 0 21 rfl rfl rfl rfl rfl ?_
  refine z_ild 8 22 rfl i_576 rfl ⟨by omega, by omega⟩ hkd rfl ?_
  refine x_tin 163 rfl (by decide) (by decide) rfl rfl ?_
  refine x_ld 0 1 2 164 rfl rfl rfl rfl rfl ?_
  refine x_ld 1 1 0 165 rfl rfl rfl rfl rfl ?_
  refine x_ld 2 1 0 166 rfl rfl rfl rfl rfl ?_
  refine x_ld 3 1 0 167 rfl rfl rfl rfl rfl ?_
  refine x_ld 4 2 0 169 rfl rfl rfl rfl rfl ?_
  refine x_ld 5 2 0 171 rfl rfl rfl rfl rfl ?_
  refine x_ce 335 155 174 [.ref 572, zi ((k : Nat) : Int), zi ((f : Nat) : Int), zi ((w.length : Nat) : Int), zi (-1), zi 0] rfl rfl rfl (Nat.le_of_ble_eq_true rfl) rfl rfl (Nat.le_of_ble_eq_true rfl) ⟨_, _, _, rfl, o_572⟩ (Nat.le_of_ble_eq_true rfl) (c155nr_7 d hm h6c hk hw h6 ms hf hr hbs hu hS hK hrt) rfl ?_
  rintro v M2 ⟨rfl, hp2⟩
  refine x_go 368 rfl rfl ?_
  refine x_rtv rfl rfl ?_
  exact ⟨none, M2, rfl, rfl, rfl, hp2⟩
theorem c155si_8 (d : Nat) {ps : Nat → prt} {c : Nat} (hm : mdl M ps c) (h6c : M.1 572 6 = (c : Int)) {k : Nat} (hk : k < c) {w : List Nat} (hw : tx_L w) (h6 : w.length ≤ 6) (ms : (sts ps k).2 (tx_num w) = true) {f : Nat} (hf : f + w.length ≤ 6) (hr : roL (M.1 597) f w) {bs : List cI} (hbs : bs.length + 6 ≤ 256) {u : List Nat} (hu : u.length < 256) (hS : ctS M bs u) {s : Nat} {sw : List Nat} (hs : tx_L sw) (s6 : sw.length ≤ 6) (mss : (sts ps k).1 (tx_num sw) = true) (hsf : s + sw.length ≤ 6) (hsr : roL (M.1 596) s sw) (hshl : (sem_sh (pgo ps) k sw).length ≤ 6) (hK : (ps k).1 = 8) (hrt : k + 1 < c) : ab_Z (pg_G L xs) (d + 7) 155 [.ref 572, zi (k : Nat), zi (f : Nat), zi (w.length : Nat), zi ((s : Nat) : Int), zi ((sw.length : Nat) : Int)] M es (fun v M' => v = none ∧ ctS M' (bs ++ dsL (rps (sts ps (ps k).2.1).2 (sts ps k).2 w).length (ciS (ps k).2.1 f s (rps (sts ps (ps k).2.1).2 (sts ps k).2 w) (rps (sts ps (ps k).2.1).1 (sts ps k).1 sw) (org true ((rps (sts ps (ps k).2.1).1 (sts ps k).1 sw).map (fun u => tx_num (sem_ky (pgo ps) (ps k).2.1 (sem_sh (pgo ps) (ps k).2.1 u)))) ((rps (sts ps (ps k).2.1).2 (sts ps k).2 w).map (fun u => tx_num (sem_ky (pgo ps) (ps k).2.1 u))))) 0) u ∧ Fc M M') := by
  have hc31 := hm.1
  obtain ⟨hwf, hok, qkd, qlf, qrt, qlt, _, _⟩ := hm.2 k hk
  have hlk := hwf.2.2.2 (by omega)
  rw [hK] at qkd qlf qrt
  have hkd : M.1 576 (k : Int) = 9 := qkd
  have hlf : M.1 577 (k : Int) = (((ps k).2.1 : Nat) : Int) := qlf
  have g2 := (mdl_gds hm k hk).2
  rw [show pK (pgo ps) k = 8 from hK] at g2
  have hPl := rps_len (sts ps (ps k).2.1).2 (sts ps k).2 w
  have hvv := rp_v (A := (sts ps (ps k).2.1).2) (B := (sts ps k).2) g2.2.2.2.2.2 hw h6 ms hf hr
  have hSl := rps_len (sts ps (ps k).2.1).1 (sts ps k).1 sw
  have hss := rp_v (A := (sts ps (ps k).2.1).1) (B := (sts ps k).1) g2.2.2.2.2.1 hs s6 mss hsf hsr
  have hsh : ∀ i, i < (rps (sts ps (ps k).2.1).1 (sts ps k).1 sw).length → (sem_sh (pgo ps) (ps k).2.1 (rps (sts ps (ps k).2.1).1 (sts ps k).1 sw)[i]!).length ≤ 6 := by
    intro i hi
    have e := sh_8 (show pK (pgo ps) k = 8 from hK) g2.2.1 sw
    rw [e] at hshl
    exact Nat.le_trans (len_fm (g := fun u => sem_sh (pgo ps) (ps k).2.1 u) (get_mem hi)) hshl
  show ab_W (pg_G L xs) (ab_X (pg_G L xs) (d + 6)) 155 _ 0 [some (.ref 572), some (zi ((k : Nat) : Int)), some (zi ((f : Nat) : Int)), some (zi ((w.length : Nat) : Int)), some (zi ((s : Nat) : Int)), some (zi ((sw.length : Nat) : Int)), none, none, none] [] (hp M ++ es)
  refine x_ld 0 1 2 1 rfl rfl rfl rfl rfl ?_
  refine g_572_7 19 4 rfl rfl rfl ?_
  refine x_ld 1 1 0 5 rfl rfl rfl rfl rfl ?_
  refine z_ild 9 6 rfl i_576 rfl ⟨by omega, by omega⟩ hkd rfl ?_
  refine x_cst (zi 9) 2 8 rfl rfl rfl ?_
  refine z_icne 15 11 rfl rfl rfl (rg_lit 9 rfl) (rg_lit 9 rfl) (fun c => absurd c (by decide)) (fun _ => ?_)
  refine x_cst (zi 1) 1 12 rfl rfl rfl ?_
  refine x_go 16 rfl rfl ?_
  refine x_st 6 2 0 18 [some (.ref 572), some (zi ((k : Nat) : Int)), some (zi ((f : Nat) : Int)), some (zi ((w.length : Nat) : Int)), some (zi ((s : Nat) : Int)), some (zi ((sw.length : Nat) : Int)), some (zi 1), none, none] rfl rfl rfl (Nat.le_of_ble_eq_true rfl) rfl rfl ?_
  refine x_ld 0 1 2 19 rfl rfl rfl rfl rfl ?_
  refine x_ld 1 1 0 20 rfl rfl rfl rfl rfl ?_
  refine x_ld 2 1 0 21 rfl rfl rfl rfl rfl ?_
  refine x_ld 3 1 0 22 rfl rfl rfl rfl rfl ?_
  refine x_ld 4 2 0 24 rfl rfl rfl rfl rfl ?_
  refine x_ld 5 2 0 26 rfl rfl rfl rfl rfl ?_
  refine x_ce 351 156 29 [.ref 572, zi ((k : Nat) : Int), zi ((f : Nat) : Int), zi ((w.length : Nat) : Int), zi ((s : Nat) : Int), zi ((sw.length : Nat) : Int)] rfl rfl rfl (Nat.le_of_ble_eq_true rfl) rfl rfl (Nat.le_of_ble_eq_true rfl) ⟨_, _, _, rfl, o_572⟩ (Nat.le_of_ble_eq_true rfl) (c156s (d + 3) hm hk (by omega) hw h6 ms hf hr hs s6 mss hsf hsr) rfl ?_
  rintro v M2 ⟨rfl, hF2, hL2, hL3⟩
  refine x_ld 6 2 0 31 rfl rfl rfl rfl rfl ?_
  refine z_ifeq 44 34 rfl rfl rfl (rg_lit 1 rfl) (fun c => absurd c (by decide)) (fun _ => ?_)
  refine x_ld 4 2 0 36 rfl rfl rfl rfl rfl ?_
  refine z_iflt 44 39 rfl rfl rfl ⟨by omega, by omega⟩ (fun c => absurd c (by omega)) (fun _ => ?_)
  refine x_ld 0 1 2 40 rfl rfl rfl rfl rfl ?_
  refine x_ld 1 1 0 41 rfl rfl rfl rfl rfl ?_
  refine x_ce 354 157 44 [.ref 572, zi ((k : Nat) : Int)] rfl rfl rfl (Nat.le_of_ble_eq_true rfl) rfl rfl (Nat.le_of_ble_eq_true rfl) ⟨_, _, _, rfl, o_572⟩ (Nat.le_of_ble_eq_true rfl) (c157 (M := M2) d (mdl_Fk hm (Fw_Fk hF2)) hk (by omega) (by omega) (fun i hi => by rw [hF2.1 597 (by decide) (by decide)]; exact hvv i hi) hL2 (by omega) (fun i hi => by have t := hss i hi; rw [hF2.1 596 (by decide) (by decide)]; exact ⟨t.1, t.2.1, t.2.2.1, t.2.2.2.1, t.2.2.2.2, hsh i hi⟩) hL3) rfl ?_
  rintro v M3 ⟨rfl, hF3, hL4, hL5⟩
  refine x_ld 0 1 2 45 rfl rfl rfl rfl rfl ?_
  refine g_572_63 338 48 rfl rfl ((hF3.2.1 63 (by decide) (by decide) (by decide) (by decide)).trans hL2.1) rfl ?_
  refine x_cst (zi 1) 1 49 rfl rfl rfl ?_
  refine z_sub 50 rfl rfl ?_
  refine x_st 7 2 0 52 [some (.ref 572), some (zi ((k : Nat) : Int)), some (zi ((f : Nat) : Int)), some (zi ((w.length : Nat) : Int)), some (zi ((s : Nat) : Int)), some (zi ((sw.length : Nat) : Int)), some (zi 1), some (zi ((((rps (sts ps (ps k).2.1).2 (sts ps k).2 w).length : Nat) : Int) - 1)), none] rfl rfl rfl (Nat.le_of_ble_eq_true rfl) rfl rfl ?_
  have hFc := Fc_trans (Fw_Fc hF2) (Fvk_Fc hF3)
  have hcS := Fvk_ctS hF3 (Fw_ctS hF2 hS)
  have hLV : lpP M3 63 613 614 f (rps (sts ps (ps k).2.1).2 (sts ps k).2 w) (rps (sts ps (ps k).2.1).2 (sts ps k).2 w).length := ⟨(hF3.2.1 63 (by decide) (by decide) (by decide) (by decide)).trans hL2.1, fun i hi => by rw [hF3.1 613 (by decide) (by decide), hF3.1 614 (by decide) (by decide)]; exact hL2.2 i hi⟩
  have hLS : lpP M3 67 616 617 s (rps (sts ps (ps k).2.1).1 (sts ps k).1 sw) (rps (sts ps (ps k).2.1).1 (sts ps k).1 sw).length := ⟨(hF3.2.1 67 (by decide) (by decide) (by decide) (by decide)).trans hL3.1, fun i hi => by rw [hF3.1 616 (by decide) (by decide), hF3.1 617 (by decide) (by decide)]; exact hL3.2 i hi⟩
  have hog : ∀ i o, (org true ((rps (sts ps (ps k).2.1).1 (sts ps k).1 sw).map (fun u => tx_num (sem_ky (pgo ps) (ps k).2.1 (sem_sh (pgo ps) (ps k).2.1 u)))) ((rps (sts ps (ps k).2.1).2 (sts ps k).2 w).map (fun u => tx_num (sem_ky (pgo ps) (ps k).2.1 u)))) i = some o → o < (rps (sts ps (ps k).2.1).1 (sts ps k).1 sw).length := fun i o e => by have := org_lt e; rwa [List.length_map] at this
  have h161 : ∀ M', Fpu M3 M' → ∀ j, j < (rps (sts ps (ps k).2.1).2 (sts ps k).2 w).length → ab_S (pg_G L xs) (d + 6) 161 [.ref 572, zi (j : Nat), zi 1] (hp M' ++ es) (some (zi (oz ((org true ((rps (sts ps (ps k).2.1).1 (sts ps k).1 sw).map (fun u => tx_num (sem_ky (pgo ps) (ps k).2.1 (sem_sh (pgo ps) (ps k).2.1 u)))) ((rps (sts ps (ps k).2.1).2 (sts ps k).2 w).map (fun u => tx_num (sem_ky (pgo ps) (ps k).2.1 u)))) j)))) (hp M' ++ es) := by
    intro M' hF j hj
    refine c161 (d + 5) (by rw [List.length_map]; omega) (by rw [List.length_map]; omega) ?_ ?_ (by rw [List.length_map]; exact hj) ?_ ?_ ?_
    · intro i hi; rw [List.length_map] at hi; rw [getE _ hi]; exact num_lt (ky_L (mdl_gds hm) _ (Nat.lt_trans hlk.1 hk) _ (sh_L (mdl_gds hm) _ (Nat.lt_trans hlk.1 hk) _ (hss i hi).1)) (Nat.le_trans (ky_len (mdl_gds hm) _ (Nat.lt_trans hlk.1 hk) _) (hsh i hi))
    · intro i hi; rw [List.length_map] at hi; rw [getE _ hi]; exact num_lt (ky_L (mdl_gds hm) _ (Nat.lt_trans hlk.1 hk) _ (hvv i hi).1) (Nat.le_trans (ky_len (mdl_gds hm) _ (Nat.lt_trans hlk.1 hk) _) (hvv i hi).2.1)
    · rw [List.length_map]; exact (hF.2.1 67 (by decide)).trans hLS.1
    · intro i hi; rw [List.length_map] at hi; rw [hF.1 615 (by decide) (by decide)]; exact hL4 i hi
    · intro i hi; rw [List.length_map] at hi; rw [hF.1 618 (by decide) (by decide)]; exact hL5 i hi
  exact c155_si (L := L) (xs := xs) (es := es) (M := M3) (d + 5) (n := w.length) (n2 := sw.length) (l := (ps k).2.1) (c := c) hk hc31 hrt ((hFc.2.1 6 (by unfold cF; omega)).trans h6c) (by rw [hFc.1 577 (by decide) (by decide)]; exact hlf) (by omega) (fun i hi => (hvv i hi).2.2.2.2) hLV (by omega) (by omega) (fun i hi => (hss i hi).2.2.2.2) hLS hog h161 hbs (u := u) (Q := fun r' h' => ∃ v M', r' = .inl v ∧ h' = hp M' ++ es ∧ v = none ∧ ctS M' (bs ++ dsL (rps (sts ps (ps k).2.1).2 (sts ps k).2 w).length (ciS (ps k).2.1 f s (rps (sts ps (ps k).2.1).2 (sts ps k).2 w) (rps (sts ps (ps k).2.1).1 (sts ps k).1 sw) (org true ((rps (sts ps (ps k).2.1).1 (sts ps k).1 sw).map (fun u => tx_num (sem_ky (pgo ps) (ps k).2.1 (sem_sh (pgo ps) (ps k).2.1 u)))) ((rps (sts ps (ps k).2.1).2 (sts ps k).2 w).map (fun u => tx_num (sem_ky (pgo ps) (ps k).2.1 u))))) 0) u ∧ Fc M M') (fun M4 hS4 hF4 => ⟨none, M4, rfl, rfl, rfl, hS4, Fc_trans hFc hF4⟩) _ (Nat.le_refl _) M3 none (Fpu_refl _) (by rw [dsL_end, List.append_nil]; exact hcS)
theorem c152si_8 (d : Nat) {ps : Nat → prt} {c : Nat} (hm : mdl M ps c) (h6c : M.1 572 6 = (c : Int)) {k : Nat} (hk : k < c) {w : List Nat} (hw : tx_L w) (h6 : w.length ≤ 6) (ms : (sts ps k).2 (tx_num w) = true) {f : Nat} (hf : f + w.length ≤ 6) (hr : roL (M.1 597) f w) {bs : List cI} (hbs : bs.length + 6 ≤ 256) {u : List Nat} (hu : u.length < 256) (hS : ctS M bs u) {s : Nat} {sw : List Nat} (hs : tx_L sw) (s6 : sw.length ≤ 6) (mss : (sts ps k).1 (tx_num sw) = true) (hsf : s + sw.length ≤ 6) (hsr : roL (M.1 596) s sw) (hshl : (sem_sh (pgo ps) k sw).length ≤ 6) (hK : (ps k).1 = 8) (hrt : k + 1 < c) : ab_Z (pg_G L xs) (d + 8) 152 [.ref 572, zi (k : Nat), zi (f : Nat), zi (w.length : Nat), zi ((s : Nat) : Int), zi ((sw.length : Nat) : Int)] M es (fun v M' => v = none ∧ ctS M' (bs ++ dsL (rps (sts ps (ps k).2.1).2 (sts ps k).2 w).length (ciS (ps k).2.1 f s (rps (sts ps (ps k).2.1).2 (sts ps k).2 w) (rps (sts ps (ps k).2.1).1 (sts ps k).1 sw) (org true ((rps (sts ps (ps k).2.1).1 (sts ps k).1 sw).map (fun u => tx_num (sem_ky (pgo ps) (ps k).2.1 (sem_sh (pgo ps) (ps k).2.1 u)))) ((rps (sts ps (ps k).2.1).2 (sts ps k).2 w).map (fun u => tx_num (sem_ky (pgo ps) (ps k).2.1 u))))) 0) u ∧ Fc M M') := by
  have hc31 := hm.1
  obtain ⟨hwf, hok, qkd, qlf, qrt, qlt, _, _⟩ := hm.2 k hk
  rw [hK] at qkd qlf qrt
  have hkd : M.1 576 (k : Int) = 9 := qkd
  have hlf : M.1 577 (k : Int) = (((ps k).2.1 : Nat) : Int) := qlf
  have hrt2 : M.1 578 (k : Int) = -1 := qrt
  show ab_W (pg_G L xs) (ab_X (pg_G L xs) (d + 7)) 152 _ 0 [some (.ref 572), some (zi ((k : Nat) : Int)), some (zi ((f : Nat) : Int)), some (zi ((w.length : Nat) : Int)), some (zi ((s : Nat) : Int)), some (zi ((sw.length : Nat) : Int)), none, none, none, none, none, none, none] [] (hp M ++ es)
  refine x_ld 0 1 2 1 rfl rfl rfl rfl rfl ?_
  refine g_572_8 22 4 rfl rfl rfl ?_
  refine x_ld 1 1 0 5 rfl rfl rfl rfl rfl ?_
  refine z_ild (((ps k).2.1 : Nat) : Int) 6 rfl i_577 rfl ⟨by omega, by omega⟩ hlf rfl ?_
  refine x_st 6 2 0 8 [some (.ref 572), some (zi ((k : Nat) : Int)), some (zi ((f : Nat) : Int)), some (zi ((w.length : Nat) : Int)), some (zi ((s : Nat) : Int)), some (zi ((sw.length : Nat) : Int)), some (zi (((ps k).2.1 : Nat) : Int)), none, none, none, none, none, none] rfl rfl rfl (Nat.le_of_ble_eq_true rfl) rfl rfl ?_
  refine x_ld 0 1 2 9 rfl rfl rfl rfl rfl ?_
  refine g_572_9 25 12 rfl rfl rfl ?_
  refine x_ld 1 1 0 13 rfl rfl rfl rfl rfl ?_
  refine z_ild (-1) 14 rfl i_578 rfl ⟨by omega, by omega⟩ hrt2 rfl ?_
  refine x_st 7 2 0 16 [some (.ref 572), some (zi ((k : Nat) : Int)), some (zi ((f : Nat) : Int)), some (zi ((w.length : Nat) : Int)), some (zi ((s : Nat) : Int)), some (zi ((sw.length : Nat) : Int)), some (zi (((ps k).2.1 : Nat) : Int)), some (zi (-1)), none, none, none, none, none] rfl rfl rfl (Nat.le_of_ble_eq_true rfl) rfl rfl ?_
  refine x_ld 0 1 2 17 rfl rfl rfl rfl rfl ?_
  refine g_572_7 19 20 rfl rfl rfl ?_
  refine x_ld 1 1 0 21 rfl rfl rfl rfl rfl ?_
  refine z_ild 9 22 rfl i_576 rfl ⟨by omega, by omega⟩ hkd rfl ?_
  refine x_tin 163 rfl (by decide) (by decide) rfl rfl ?_
  refine x_ld 0 1 2 164 rfl rfl rfl rfl rfl ?_
  refine x_ld 1 1 0 165 rfl rfl rfl rfl rfl ?_
  refine x_ld 2 1 0 166 rfl rfl rfl rfl rfl ?_
  refine x_ld 3 1 0 167 rfl rfl rfl rfl rfl ?_
  refine x_ld 4 2 0 169 rfl rfl rfl rfl rfl ?_
  refine x_ld 5 2 0 171 rfl rfl rfl rfl rfl ?_
  refine x_ce 335 155 174 [.ref 572, zi ((k : Nat) : Int), zi ((f : Nat) : Int), zi ((w.length : Nat) : Int), zi ((s : Nat) : Int), zi ((sw.length : Nat) : Int)] rfl rfl rfl (Nat.le_of_ble_eq_true rfl) rfl rfl (Nat.le_of_ble_eq_true rfl) ⟨_, _, _, rfl, o_572⟩ (Nat.le_of_ble_eq_true rfl) (c155si_8 d hm h6c hk hw h6 ms hf hr hbs hu hS hs s6 mss hsf hsr hshl hK hrt) rfl ?_
  rintro v M2 ⟨rfl, hp2⟩
  refine x_go 368 rfl rfl ?_
  refine x_rtv rfl rfl ?_
  exact ⟨none, M2, rfl, rfl, rfl, hp2⟩
theorem c155sr_8 (d : Nat) {ps : Nat → prt} {c : Nat} (hm : mdl M ps c) (h6c : M.1 572 6 = (c : Int)) {k : Nat} (hk : k < c) {w : List Nat} (hw : tx_L w) (h6 : w.length ≤ 6) (ms : (sts ps k).2 (tx_num w) = true) {f : Nat} (hf : f + w.length ≤ 6) (hr : roL (M.1 597) f w) {bs : List cI} (hbs : bs.length + 6 ≤ 256) {u : List Nat} (hu : u.length < 256) (hS : ctS M bs u) {s : Nat} {sw : List Nat} (hs : tx_L sw) (s6 : sw.length ≤ 6) (mss : (sts ps k).1 (tx_num sw) = true) (hsf : s + sw.length ≤ 6) (hsr : roL (M.1 596) s sw) (hshl : (sem_sh (pgo ps) k sw).length ≤ 6) (hK : (ps k).1 = 8) (hrt : k + 1 = c) : ab_Z (pg_G L xs) (d + 7) 155 [.ref 572, zi (k : Nat), zi (f : Nat), zi (w.length : Nat), zi ((s : Nat) : Int), zi ((sw.length : Nat) : Int)] M es (fun v M' => v = none ∧ ctS M' (bs ++ dsL (rps (sts ps (ps k).2.1).2 (sts ps k).2 w).length (ciS (ps k).2.1 f s (rps (sts ps (ps k).2.1).2 (sts ps k).2 w) (rps (sts ps (ps k).2.1).1 (sts ps k).1 sw) (org true ((rps (sts ps (ps k).2.1).1 (sts ps k).1 sw).map (fun u => tx_num (sem_ky (pgo ps) (ps k).2.1 (sem_sh (pgo ps) (ps k).2.1 u)))) ((rps (sts ps (ps k).2.1).2 (sts ps k).2 w).map (fun u => tx_num (sem_ky (pgo ps) (ps k).2.1 u))))) 0) u ∧ Fdr M M' ∧ M'.1 572 35 = ((rps (sts ps (ps k).2.1).2 (sts ps k).2 w).length : Int) ∧ ∀ i : Nat, 0 ≤ i → i < (rps (sts ps (ps k).2.1).2 (sts ps k).2 w).length → M'.1 595 (i : Int) = oz ((org true ((rps (sts ps (ps k).2.1).1 (sts ps k).1 sw).map (fun u => tx_num (sem_ky (pgo ps) (ps k).2.1 (sem_sh (pgo ps) (ps k).2.1 u)))) ((rps (sts ps (ps k).2.1).2 (sts ps k).2 w).map (fun u => tx_num (sem_ky (pgo ps) (ps k).2.1 u)))) i)) := by
  have hc31 := hm.1
  obtain ⟨hwf, hok, qkd, qlf, qrt, qlt, _, _⟩ := hm.2 k hk
  have hlk := hwf.2.2.2 (by omega)
  rw [hK] at qkd qlf qrt
  have hkd : M.1 576 (k : Int) = 9 := qkd
  have hlf : M.1 577 (k : Int) = (((ps k).2.1 : Nat) : Int) := qlf
  have g2 := (mdl_gds hm k hk).2
  rw [show pK (pgo ps) k = 8 from hK] at g2
  have hPl := rps_len (sts ps (ps k).2.1).2 (sts ps k).2 w
  have hvv := rp_v (A := (sts ps (ps k).2.1).2) (B := (sts ps k).2) g2.2.2.2.2.2 hw h6 ms hf hr
  have hSl := rps_len (sts ps (ps k).2.1).1 (sts ps k).1 sw
  have hss := rp_v (A := (sts ps (ps k).2.1).1) (B := (sts ps k).1) g2.2.2.2.2.1 hs s6 mss hsf hsr
  have hsh : ∀ i, i < (rps (sts ps (ps k).2.1).1 (sts ps k).1 sw).length → (sem_sh (pgo ps) (ps k).2.1 (rps (sts ps (ps k).2.1).1 (sts ps k).1 sw)[i]!).length ≤ 6 := by
    intro i hi
    have e := sh_8 (show pK (pgo ps) k = 8 from hK) g2.2.1 sw
    rw [e] at hshl
    exact Nat.le_trans (len_fm (g := fun u => sem_sh (pgo ps) (ps k).2.1 u) (get_mem hi)) hshl
  show ab_W (pg_G L xs) (ab_X (pg_G L xs) (d + 6)) 155 _ 0 [some (.ref 572), some (zi ((k : Nat) : Int)), some (zi ((f : Nat) : Int)), some (zi ((w.length : Nat) : Int)), some (zi ((s : Nat) : Int)), some (zi ((sw.length : Nat) : Int)), none, none, none] [] (hp M ++ es)
  refine x_ld 0 1 2 1 rfl rfl rfl rfl rfl ?_
  refine g_572_7 19 4 rfl rfl rfl ?_
  refine x_ld 1 1 0 5 rfl rfl rfl rfl rfl ?_
  refine z_ild 9 6 rfl i_576 rfl ⟨by omega, by omega⟩ hkd rfl ?_
  refine x_cst (zi 9) 2 8 rfl rfl rfl ?_
  refine z_icne 15 11 rfl rfl rfl (rg_lit 9 rfl) (rg_lit 9 rfl) (fun c => absurd c (by decide)) (fun _ => ?_)
  refine x_cst (zi 1) 1 12 rfl rfl rfl ?_
  refine x_go 16 rfl rfl ?_
  refine x_st 6 2 0 18 [some (.ref 572), some (zi ((k : Nat) : Int)), some (zi ((f : Nat) : Int)), some (zi ((w.length : Nat) : Int)), some (zi ((s : Nat) : Int)), some (zi ((sw.length : Nat) : Int)), some (zi 1), none, none] rfl rfl rfl (Nat.le_of_ble_eq_true rfl) rfl rfl ?_
  refine x_ld 0 1 2 19 rfl rfl rfl rfl rfl ?_
  refine x_ld 1 1 0 20 rfl rfl rfl rfl rfl ?_
  refine x_ld 2 1 0 21 rfl rfl rfl rfl rfl ?_
  refine x_ld 3 1 0 22 rfl rfl rfl rfl rfl ?_
  refine x_ld 4 2 0 24 rfl rfl rfl rfl rfl ?_
  refine x_ld 5 2 0 26 rfl rfl rfl rfl rfl ?_
  refine x_ce 351 156 29 [.ref 572, zi ((k : Nat) : Int), zi ((f : Nat) : Int), zi ((w.length : Nat) : Int), zi ((s : Nat) : Int), zi ((sw.length : Nat) : Int)] rfl rfl rfl (Nat.le_of_ble_eq_true rfl) rfl rfl (Nat.le_of_ble_eq_true rfl) ⟨_, _, _, rfl, o_572⟩ (Nat.le_of_ble_eq_true rfl) (c156s (d + 3) hm hk (by omega) hw h6 ms hf hr hs s6 mss hsf hsr) rfl ?_
  rintro v M2 ⟨rfl, hF2, hL2, hL3⟩
  refine x_ld 6 2 0 31 rfl rfl rfl rfl rfl ?_
  refine z_ifeq 44 34 rfl rfl rfl (rg_lit 1 rfl) (fun c => absurd c (by decide)) (fun _ => ?_)
  refine x_ld 4 2 0 36 rfl rfl rfl rfl rfl ?_
  refine z_iflt 44 39 rfl rfl rfl ⟨by omega, by omega⟩ (fun c => absurd c (by omega)) (fun _ => ?_)
  refine x_ld 0 1 2 40 rfl rfl rfl rfl rfl ?_
  refine x_ld 1 1 0 41 rfl rfl rfl rfl rfl ?_
  refine x_ce 354 157 44 [.ref 572, zi ((k : Nat) : Int)] rfl rfl rfl (Nat.le_of_ble_eq_true rfl) rfl rfl (Nat.le_of_ble_eq_true rfl) ⟨_, _, _, rfl, o_572⟩ (Nat.le_of_ble_eq_true rfl) (c157 (M := M2) d (mdl_Fk hm (Fw_Fk hF2)) hk (by omega) (by omega) (fun i hi => by rw [hF2.1 597 (by decide) (by decide)]; exact hvv i hi) hL2 (by omega) (fun i hi => by have t := hss i hi; rw [hF2.1 596 (by decide) (by decide)]; exact ⟨t.1, t.2.1, t.2.2.1, t.2.2.2.1, t.2.2.2.2, hsh i hi⟩) hL3) rfl ?_
  rintro v M3 ⟨rfl, hF3, hL4, hL5⟩
  refine x_ld 0 1 2 45 rfl rfl rfl rfl rfl ?_
  refine g_572_63 338 48 rfl rfl ((hF3.2.1 63 (by decide) (by decide) (by decide) (by decide)).trans hL2.1) rfl ?_
  refine x_cst (zi 1) 1 49 rfl rfl rfl ?_
  refine z_sub 50 rfl rfl ?_
  refine x_st 7 2 0 52 [some (.ref 572), some (zi ((k : Nat) : Int)), some (zi ((f : Nat) : Int)), some (zi ((w.length : Nat) : Int)), some (zi ((s : Nat) : Int)), some (zi ((sw.length : Nat) : Int)), some (zi 1), some (zi ((((rps (sts ps (ps k).2.1).2 (sts ps k).2 w).length : Nat) : Int) - 1)), none] rfl rfl rfl (Nat.le_of_ble_eq_true rfl) rfl rfl ?_
  have hFc := Fc_trans (Fw_Fc hF2) (Fvk_Fc hF3)
  have hcS := Fvk_ctS hF3 (Fw_ctS hF2 hS)
  have hLV : lpP M3 63 613 614 f (rps (sts ps (ps k).2.1).2 (sts ps k).2 w) (rps (sts ps (ps k).2.1).2 (sts ps k).2 w).length := ⟨(hF3.2.1 63 (by decide) (by decide) (by decide) (by decide)).trans hL2.1, fun i hi => by rw [hF3.1 613 (by decide) (by decide), hF3.1 614 (by decide) (by decide)]; exact hL2.2 i hi⟩
  have hLS : lpP M3 67 616 617 s (rps (sts ps (ps k).2.1).1 (sts ps k).1 sw) (rps (sts ps (ps k).2.1).1 (sts ps k).1 sw).length := ⟨(hF3.2.1 67 (by decide) (by decide) (by decide) (by decide)).trans hL3.1, fun i hi => by rw [hF3.1 616 (by decide) (by decide), hF3.1 617 (by decide) (by decide)]; exact hL3.2 i hi⟩
  have hog : ∀ i o, (org true ((rps (sts ps (ps k).2.1).1 (sts ps k).1 sw).map (fun u => tx_num (sem_ky (pgo ps) (ps k).2.1 (sem_sh (pgo ps) (ps k).2.1 u)))) ((rps (sts ps (ps k).2.1).2 (sts ps k).2 w).map (fun u => tx_num (sem_ky (pgo ps) (ps k).2.1 u)))) i = some o → o < (rps (sts ps (ps k).2.1).1 (sts ps k).1 sw).length := fun i o e => by have := org_lt e; rwa [List.length_map] at this
  have h161 : ∀ M', Fpo M3 M' → ∀ j, j < (rps (sts ps (ps k).2.1).2 (sts ps k).2 w).length → ab_S (pg_G L xs) (d + 6) 161 [.ref 572, zi (j : Nat), zi 1] (hp M' ++ es) (some (zi (oz ((org true ((rps (sts ps (ps k).2.1).1 (sts ps k).1 sw).map (fun u => tx_num (sem_ky (pgo ps) (ps k).2.1 (sem_sh (pgo ps) (ps k).2.1 u)))) ((rps (sts ps (ps k).2.1).2 (sts ps k).2 w).map (fun u => tx_num (sem_ky (pgo ps) (ps k).2.1 u)))) j)))) (hp M' ++ es) := by
    intro M' hF j hj
    refine c161 (d + 5) (by rw [List.length_map]; omega) (by rw [List.length_map]; omega) ?_ ?_ (by rw [List.length_map]; exact hj) ?_ ?_ ?_
    · intro i hi; rw [List.length_map] at hi; rw [getE _ hi]; exact num_lt (ky_L (mdl_gds hm) _ (Nat.lt_trans hlk.1 hk) _ (sh_L (mdl_gds hm) _ (Nat.lt_trans hlk.1 hk) _ (hss i hi).1)) (Nat.le_trans (ky_len (mdl_gds hm) _ (Nat.lt_trans hlk.1 hk) _) (hsh i hi))
    · intro i hi; rw [List.length_map] at hi; rw [getE _ hi]; exact num_lt (ky_L (mdl_gds hm) _ (Nat.lt_trans hlk.1 hk) _ (hvv i hi).1) (Nat.le_trans (ky_len (mdl_gds hm) _ (Nat.lt_trans hlk.1 hk) _) (hvv i hi).2.1)
    · rw [List.length_map]; exact (hF.2.1 67 (by decide)).trans hLS.1
    · intro i hi; rw [List.length_map] at hi; rw [hF.1 615 (by decide) (by decide) (by decide)]; exact hL4 i hi
    · intro i hi; rw [List.length_map] at hi; rw [hF.1 618 (by decide) (by decide) (by decide)]; exact hL5 i hi
  exact c155_sr (L := L) (xs := xs) (es := es) (M := M3) (d + 5) (n := w.length) (n2 := sw.length) (l := (ps k).2.1) (c := c) hk hc31 hrt ((hFc.2.1 6 (by unfold cF; omega)).trans h6c) (by rw [hFc.1 577 (by decide) (by decide)]; exact hlf) (by omega) (fun i hi => (hvv i hi).2.2.2.2) hLV (by omega) (by omega) (fun i hi => (hss i hi).2.2.2.2) hLS hog h161 hbs (u := u) (Q := fun r' h' => ∃ v M', r' = .inl v ∧ h' = hp M' ++ es ∧ v = none ∧ ctS M' (bs ++ dsL (rps (sts ps (ps k).2.1).2 (sts ps k).2 w).length (ciS (ps k).2.1 f s (rps (sts ps (ps k).2.1).2 (sts ps k).2 w) (rps (sts ps (ps k).2.1).1 (sts ps k).1 sw) (org true ((rps (sts ps (ps k).2.1).1 (sts ps k).1 sw).map (fun u => tx_num (sem_ky (pgo ps) (ps k).2.1 (sem_sh (pgo ps) (ps k).2.1 u)))) ((rps (sts ps (ps k).2.1).2 (sts ps k).2 w).map (fun u => tx_num (sem_ky (pgo ps) (ps k).2.1 u))))) 0) u ∧ Fdr M M' ∧ M'.1 572 35 = ((rps (sts ps (ps k).2.1).2 (sts ps k).2 w).length : Int) ∧ ∀ i : Nat, 0 ≤ i → i < (rps (sts ps (ps k).2.1).2 (sts ps k).2 w).length → M'.1 595 (i : Int) = oz ((org true ((rps (sts ps (ps k).2.1).1 (sts ps k).1 sw).map (fun u => tx_num (sem_ky (pgo ps) (ps k).2.1 (sem_sh (pgo ps) (ps k).2.1 u)))) ((rps (sts ps (ps k).2.1).2 (sts ps k).2 w).map (fun u => tx_num (sem_ky (pgo ps) (ps k).2.1 u)))) i)) (fun M4 hS4 hF4 h35 h595 => ⟨none, M4, rfl, rfl, rfl, hS4, Fdr_trans (Fc_Fdr hFc) hF4, h35, h595⟩) _ (Nat.le_refl _) M3 none (Fpo_refl _) (by rw [dsL_end, List.append_nil]; exact hcS) (fun i h1 h2 => absurd h2 (by omega))
theorem c152sr_8 (d : Nat) {ps : Nat → prt} {c : Nat} (hm : mdl M ps c) (h6c : M.1 572 6 = (c : Int)) {k : Nat} (hk : k < c) {w : List Nat} (hw : tx_L w) (h6 : w.length ≤ 6) (ms : (sts ps k).2 (tx_num w) = true) {f : Nat} (hf : f + w.length ≤ 6) (hr : roL (M.1 597) f w) {bs : List cI} (hbs : bs.length + 6 ≤ 256) {u : List Nat} (hu : u.length < 256) (hS : ctS M bs u) {s : Nat} {sw : List Nat} (hs : tx_L sw) (s6 : sw.length ≤ 6) (mss : (sts ps k).1 (tx_num sw) = true) (hsf : s + sw.length ≤ 6) (hsr : roL (M.1 596) s sw) (hshl : (sem_sh (pgo ps) k sw).length ≤ 6) (hK : (ps k).1 = 8) (hrt : k + 1 = c) : ab_Z (pg_G L xs) (d + 8) 152 [.ref 572, zi (k : Nat), zi (f : Nat), zi (w.length : Nat), zi ((s : Nat) : Int), zi ((sw.length : Nat) : Int)] M es (fun v M' => v = none ∧ ctS M' (bs ++ dsL (rps (sts ps (ps k).2.1).2 (sts ps k).2 w).length (ciS (ps k).2.1 f s (rps (sts ps (ps k).2.1).2 (sts ps k).2 w) (rps (sts ps (ps k).2.1).1 (sts ps k).1 sw) (org true ((rps (sts ps (ps k).2.1).1 (sts ps k).1 sw).map (fun u => tx_num (sem_ky (pgo ps) (ps k).2.1 (sem_sh (pgo ps) (ps k).2.1 u)))) ((rps (sts ps (ps k).2.1).2 (sts ps k).2 w).map (fun u => tx_num (sem_ky (pgo ps) (ps k).2.1 u))))) 0) u ∧ Fdr M M' ∧ M'.1 572 35 = ((rps (sts ps (ps k).2.1).2 (sts ps k).2 w).length : Int) ∧ ∀ i : Nat, 0 ≤ i → i < (rps (sts ps (ps k).2.1).2 (sts ps k).2 w).length → M'.1 595 (i : Int) = oz ((org true ((rps (sts ps (ps k).2.1).1 (sts ps k).1 sw).map (fun u => tx_num (sem_ky (pgo ps) (ps k).2.1 (sem_sh (pgo ps) (ps k).2.1 u)))) ((rps (sts ps (ps k).2.1).2 (sts ps k).2 w).map (fun u => tx_num (sem_ky (pgo ps) (ps k).2.1 u)))) i)) := by
  have hc31 := hm.1
  obtain ⟨hwf, hok, qkd, qlf, qrt, qlt, _, _⟩ := hm.2 k hk
  rw [hK] at qkd qlf qrt
  have hkd : M.1 576 (k : Int) = 9 := qkd
  have hlf : M.1 577 (k : Int) = (((ps k).2.1 : Nat) : Int) := qlf
  have hrt2 : M.1 578 (k : Int) = -1 := qrt
  show ab_W (pg_G L xs) (ab_X (pg_G L xs) (d + 7)) 152 _ 0 [some (.ref 572), some (zi ((k : Nat) : Int)), some (zi ((f : Nat) : Int)), some (zi ((w.length : Nat) : Int)), some (zi ((s : Nat) : Int)), some (zi ((sw.length : Nat) : Int)), none, none, none, none, none, none, none] [] (hp M ++ es)
  refine x_ld 0 1 2 1 rfl rfl rfl rfl rfl ?_
  refine g_572_8 22 4 rfl rfl rfl ?_
  refine x_ld 1 1 0 5 rfl rfl rfl rfl rfl ?_
  refine z_ild (((ps k).2.1 : Nat) : Int) 6 rfl i_577 rfl ⟨by omega, by omega⟩ hlf rfl ?_
  refine x_st 6 2 0 8 [some (.ref 572), some (zi ((k : Nat) : Int)), some (zi ((f : Nat) : Int)), some (zi ((w.length : Nat) : Int)), some (zi ((s : Nat) : Int)), some (zi ((sw.length : Nat) : Int)), some (zi (((ps k).2.1 : Nat) : Int)), none, none, none, none, none, none] rfl rfl rfl (Nat.le_of_ble_eq_true rfl) rfl rfl ?_
  refine x_ld 0 1 2 9 rfl rfl rfl rfl rfl ?_
  refine g_572_9 25 12 rfl rfl rfl ?_
  refine x_ld 1 1 0 13 rfl rfl rfl rfl rfl ?_
  refine z_ild (-1) 14 rfl i_578 rfl ⟨by omega, by omega⟩ hrt2 rfl ?_
  refine x_st 7 2 0 16 [some (.ref 572), some (zi ((k : Nat) : Int)), some (zi ((f : Nat) : Int)), some (zi ((w.length : Nat) : Int)), some (zi ((s : Nat) : Int)), some (zi ((sw.length : Nat) : Int)), some (zi (((ps k).2.1 : Nat) : Int)), some (zi (-1)), none, none, none, none, none] rfl rfl rfl (Nat.le_of_ble_eq_true rfl) rfl rfl ?_
  refine x_ld 0 1 2 17 rfl rfl rfl rfl rfl ?_
  refine g_572_7 19 20 rfl rfl rfl ?_
  refine x_ld 1 1 0 21 rfl rfl rfl rfl rfl ?_
  refine z_ild 9 22 rfl i_576 rfl ⟨by omega, by omega⟩ hkd rfl ?_
  refine x_tin 163 rfl (by decide) (by decide) rfl rfl ?_
  refine x_ld 0 1 2 164 rfl rfl rfl rfl rfl ?_
  refine x_ld 1 1 0 165 rfl rfl rfl rfl rfl ?_
  refine x_ld 2 1 0 166 rfl rfl rfl rfl rfl ?_
  refine x_ld 3 1 0 167 rfl rfl rfl rfl rfl ?_
  refine x_ld 4 2 0 169 rfl rfl rfl rfl rfl ?_
  refine x_ld 5 2 0 171 rfl rfl rfl rfl rfl ?_
  refine x_ce 335 155 174 [.ref 572, zi ((k : Nat) : Int), zi ((f : Nat) : Int), zi ((w.length : Nat) : Int), zi ((s : Nat) : Int), zi ((sw.length : Nat) : Int)] rfl rfl rfl (Nat.le_of_ble_eq_true rfl) rfl rfl (Nat.le_of_ble_eq_true rfl) ⟨_, _, _, rfl, o_572⟩ (Nat.le_of_ble_eq_true rfl) (c155sr_8 d hm h6c hk hw h6 ms hf hr hbs hu hS hs s6 mss hsf hsr hshl hK hrt) rfl ?_
  rintro v M2 ⟨rfl, hp2⟩
  refine x_go 368 rfl rfl ?_
  refine x_rtv rfl rfl ?_
  exact ⟨none, M2, rfl, rfl, rfl, hp2⟩
theorem c155ni_8 (d : Nat) {ps : Nat → prt} {c : Nat} (hm : mdl M ps c) (h6c : M.1 572 6 = (c : Int)) {k : Nat} (hk : k < c) {w : List Nat} (hw : tx_L w) (h6 : w.length ≤ 6) (ms : (sts ps k).2 (tx_num w) = true) {f : Nat} (hf : f + w.length ≤ 6) (hr : roL (M.1 597) f w) {bs : List cI} (hbs : bs.length + 6 ≤ 256) {u : List Nat} (hu : u.length < 256) (hS : ctS M bs u) (hK : (ps k).1 = 8) (hrt : k + 1 < c) : ab_Z (pg_G L xs) (d + 7) 155 [.ref 572, zi (k : Nat), zi (f : Nat), zi (w.length : Nat), zi (-1), zi 0] M es (fun v M' => v = none ∧ ctS M' (bs ++ dsL (rps (sts ps (ps k).2.1).2 (sts ps k).2 w).length (ciS (ps k).2.1 f 0 (rps (sts ps (ps k).2.1).2 (sts ps k).2 w) [] (fun _ => none)) 0) u ∧ Fc M M') := by
  have hc31 := hm.1
  obtain ⟨hwf, hok, qkd, qlf, qrt, qlt, _, _⟩ := hm.2 k hk
  have hlk := hwf.2.2.2 (by omega)
  rw [hK] at qkd qlf qrt
  have hkd : M.1 576 (k : Int) = 9 := qkd
  have hlf : M.1 577 (k : Int) = (((ps k).2.1 : Nat) : Int) := qlf
  have g2 := (mdl_gds hm k hk).2
  rw [show pK (pgo ps) k = 8 from hK] at g2
  have hPl := rps_len (sts ps (ps k).2.1).2 (sts ps k).2 w
  have hvv := rp_v (A := (sts ps (ps k).2.1).2) (B := (sts ps k).2) g2.2.2.2.2.2 hw h6 ms hf hr
  show ab_W (pg_G L xs) (ab_X (pg_G L xs) (d + 6)) 155 _ 0 [some (.ref 572), some (zi ((k : Nat) : Int)), some (zi ((f : Nat) : Int)), some (zi ((w.length : Nat) : Int)), some (zi (-1)), some (zi 0), none, none, none] [] (hp M ++ es)
  refine x_ld 0 1 2 1 rfl rfl rfl rfl rfl ?_
  refine g_572_7 19 4 rfl rfl rfl ?_
  refine x_ld 1 1 0 5 rfl rfl rfl rfl rfl ?_
  refine z_ild 9 6 rfl i_576 rfl ⟨by omega, by omega⟩ hkd rfl ?_
  refine x_cst (zi 9) 2 8 rfl rfl rfl ?_
  refine z_icne 15 11 rfl rfl rfl (rg_lit 9 rfl) (rg_lit 9 rfl) (fun c => absurd c (by decide)) (fun _ => ?_)
  refine x_cst (zi 1) 1 12 rfl rfl rfl ?_
  refine x_go 16 rfl rfl ?_
  refine x_st 6 2 0 18 [some (.ref 572), some (zi ((k : Nat) : Int)), some (zi ((f : Nat) : Int)), some (zi ((w.length : Nat) : Int)), some (zi (-1)), some (zi 0), some (zi 1), none, none] rfl rfl rfl (Nat.le_of_ble_eq_true rfl) rfl rfl ?_
  refine x_ld 0 1 2 19 rfl rfl rfl rfl rfl ?_
  refine x_ld 1 1 0 20 rfl rfl rfl rfl rfl ?_
  refine x_ld 2 1 0 21 rfl rfl rfl rfl rfl ?_
  refine x_ld 3 1 0 22 rfl rfl rfl rfl rfl ?_
  refine x_ld 4 2 0 24 rfl rfl rfl rfl rfl ?_
  refine x_ld 5 2 0 26 rfl rfl rfl rfl rfl ?_
  refine x_ce 351 156 29 [.ref 572, zi ((k : Nat) : Int), zi ((f : Nat) : Int), zi ((w.length : Nat) : Int), zi (-1), zi 0] rfl rfl rfl (Nat.le_of_ble_eq_true rfl) rfl rfl (Nat.le_of_ble_eq_true rfl) ⟨_, _, _, rfl, o_572⟩ (Nat.le_of_ble_eq_true rfl) (c156n (d + 3) hm hk (by omega) hw h6 ms hf hr) rfl ?_
  rintro v M2 ⟨rfl, hF2, hL2, hL3⟩
  refine x_ld 6 2 0 31 rfl rfl rfl rfl rfl ?_
  refine z_ifeq 44 34 rfl rfl rfl (rg_lit 1 rfl) (fun c => absurd c (by decide)) (fun _ => ?_)
  refine x_ld 4 2 0 36 rfl rfl rfl rfl rfl ?_
  refine z_iflt 44 39 rfl rfl rfl (rg_lit (-1) rfl) (fun _ => ?_) (fun c => absurd c (by decide))
  refine x_ld 0 1 2 45 rfl rfl rfl rfl rfl ?_
  refine g_572_63 338 48 rfl rfl hL2.1 rfl ?_
  refine x_cst (zi 1) 1 49 rfl rfl rfl ?_
  refine z_sub 50 rfl rfl ?_
  refine x_st 7 2 0 52 [some (.ref 572), some (zi ((k : Nat) : Int)), some (zi ((f : Nat) : Int)), some (zi ((w.length : Nat) : Int)), some (zi (-1)), some (zi 0), some (zi 1), some (zi ((((rps (sts ps (ps k).2.1).2 (sts ps k).2 w).length : Nat) : Int) - 1)), none] rfl rfl rfl (Nat.le_of_ble_eq_true rfl) rfl rfl ?_
  have hFc := Fw_Fc hF2
  have hcS := Fw_ctS hF2 hS
  have hLV := hL2
  exact c155_ni (L := L) (xs := xs) (es := es) (M := M2) (d + 5) (n := w.length) (n2 := 0) (l := (ps k).2.1) (c := c) hk hc31 hrt ((hFc.2.1 6 (by unfold cF; omega)).trans h6c) (by rw [hFc.1 577 (by decide) (by decide)]; exact hlf) (by omega) (fun i hi => (hvv i hi).2.2.2.2) hLV hbs (u := u) (Q := fun r' h' => ∃ v M', r' = .inl v ∧ h' = hp M' ++ es ∧ v = none ∧ ctS M' (bs ++ dsL (rps (sts ps (ps k).2.1).2 (sts ps k).2 w).length (ciS (ps k).2.1 f 0 (rps (sts ps (ps k).2.1).2 (sts ps k).2 w) [] (fun _ => none)) 0) u ∧ Fc M M') (fun M4 hS4 hF4 => ⟨none, M4, rfl, rfl, rfl, hS4, Fc_trans hFc hF4⟩) _ (Nat.le_refl _) M2 none (Fpu_refl _) (by rw [dsL_end, List.append_nil]; exact hcS)
theorem c152ni_8 (d : Nat) {ps : Nat → prt} {c : Nat} (hm : mdl M ps c) (h6c : M.1 572 6 = (c : Int)) {k : Nat} (hk : k < c) {w : List Nat} (hw : tx_L w) (h6 : w.length ≤ 6) (ms : (sts ps k).2 (tx_num w) = true) {f : Nat} (hf : f + w.length ≤ 6) (hr : roL (M.1 597) f w) {bs : List cI} (hbs : bs.length + 6 ≤ 256) {u : List Nat} (hu : u.length < 256) (hS : ctS M bs u) (hK : (ps k).1 = 8) (hrt : k + 1 < c) : ab_Z (pg_G L xs) (d + 8) 152 [.ref 572, zi (k : Nat), zi (f : Nat), zi (w.length : Nat), zi (-1), zi 0] M es (fun v M' => v = none ∧ ctS M' (bs ++ dsL (rps (sts ps (ps k).2.1).2 (sts ps k).2 w).length (ciS (ps k).2.1 f 0 (rps (sts ps (ps k).2.1).2 (sts ps k).2 w) [] (fun _ => none)) 0) u ∧ Fc M M') := by
  have hc31 := hm.1
  obtain ⟨hwf, hok, qkd, qlf, qrt, qlt, _, _⟩ := hm.2 k hk
  rw [hK] at qkd qlf qrt
  have hkd : M.1 576 (k : Int) = 9 := qkd
  have hlf : M.1 577 (k : Int) = (((ps k).2.1 : Nat) : Int) := qlf
  have hrt2 : M.1 578 (k : Int) = -1 := qrt
  show ab_W (pg_G L xs) (ab_X (pg_G L xs) (d + 7)) 152 _ 0 [some (.ref 572), some (zi ((k : Nat) : Int)), some (zi ((f : Nat) : Int)), some (zi ((w.length : Nat) : Int)), some (zi (-1)), some (zi 0), none, none, none, none, none, none, none] [] (hp M ++ es)
  refine x_ld 0 1 2 1 rfl rfl rfl rfl rfl ?_
  refine g_572_8 22 4 rfl rfl rfl ?_
  refine x_ld 1 1 0 5 rfl rfl rfl rfl rfl ?_
  refine z_ild (((ps k).2.1 : Nat) : Int) 6 rfl i_577 rfl ⟨by omega, by omega⟩ hlf rfl ?_
  refine x_st 6 2 0 8 [some (.ref 572), some (zi ((k : Nat) : Int)), some (zi ((f : Nat) : Int)), some (zi ((w.length : Nat) : Int)), some (zi (-1)), some (zi 0), some (zi (((ps k).2.1 : Nat) : Int)), none, none, none, none, none, none] rfl rfl rfl (Nat.le_of_ble_eq_true rfl) rfl rfl ?_
  refine x_ld 0 1 2 9 rfl rfl rfl rfl rfl ?_
  refine g_572_9 25 12 rfl rfl rfl ?_
  refine x_ld 1 1 0 13 rfl rfl rfl rfl rfl ?_
  refine z_ild (-1) 14 rfl i_578 rfl ⟨by omega, by omega⟩ hrt2 rfl ?_
  refine x_st 7 2 0 16 [some (.ref 572), some (zi ((k : Nat) : Int)), some (zi ((f : Nat) : Int)), some (zi ((w.length : Nat) : Int)), some (zi (-1)), some (zi 0), some (zi (((ps k).2.1 : Nat) : Int)), some (zi (-1)), none, none, none, none, none] rfl rfl rfl (Nat.le_of_ble_eq_true rfl) rfl rfl ?_
  refine x_ld 0 1 2 17 rfl rfl rfl rfl rfl ?_
  refine g_572_7 19 20 rfl rfl rfl ?_
  refine x_ld 1 1 0 21 rfl rfl rfl rfl rfl ?_
  refine z_ild 9 22 rfl i_576 rfl ⟨by omega, by omega⟩ hkd rfl ?_
  refine x_tin 163 rfl (by decide) (by decide) rfl rfl ?_
  refine x_ld 0 1 2 164 rfl rfl rfl rfl rfl ?_
  refine x_ld 1 1 0 165 rfl rfl rfl rfl rfl ?_
  refine x_ld 2 1 0 166 rfl rfl rfl rfl rfl ?_
  refine x_ld 3 1 0 167 rfl rfl rfl rfl rfl ?_
  refine x_ld 4 2 0 169 rfl rfl rfl rfl rfl ?_
  refine x_ld 5 2 0 171 rfl rfl rfl rfl rfl ?_
  refine x_ce 335 155 174 [.ref 572, zi ((k : Nat) : Int), zi ((f : Nat) : Int), zi ((w.length : Nat) : Int), zi (-1), zi 0] rfl rfl rfl (Nat.le_of_ble_eq_true rfl) rfl rfl (Nat.le_of_ble_eq_true rfl) ⟨_, _, _, rfl, o_572⟩ (Nat.le_of_ble_eq_true rfl) (c155ni_8 d hm h6c hk hw h6 ms hf hr hbs hu hS hK hrt) rfl ?_
  rintro v M2 ⟨rfl, hp2⟩
  refine x_go 368 rfl rfl ?_
  refine x_rtv rfl rfl ?_
  exact ⟨none, M2, rfl, rfl, rfl, hp2⟩
theorem c155nr_8 (d : Nat) {ps : Nat → prt} {c : Nat} (hm : mdl M ps c) (h6c : M.1 572 6 = (c : Int)) {k : Nat} (hk : k < c) {w : List Nat} (hw : tx_L w) (h6 : w.length ≤ 6) (ms : (sts ps k).2 (tx_num w) = true) {f : Nat} (hf : f + w.length ≤ 6) (hr : roL (M.1 597) f w) {bs : List cI} (hbs : bs.length + 6 ≤ 256) {u : List Nat} (hu : u.length < 256) (hS : ctS M bs u) (hK : (ps k).1 = 8) (hrt : k + 1 = c) : ab_Z (pg_G L xs) (d + 7) 155 [.ref 572, zi (k : Nat), zi (f : Nat), zi (w.length : Nat), zi (-1), zi 0] M es (fun v M' => v = none ∧ ctS M' (bs ++ dsL (rps (sts ps (ps k).2.1).2 (sts ps k).2 w).length (ciS (ps k).2.1 f 0 (rps (sts ps (ps k).2.1).2 (sts ps k).2 w) [] (fun _ => none)) 0) u ∧ Fdr M M' ∧ M'.1 572 35 = ((rps (sts ps (ps k).2.1).2 (sts ps k).2 w).length : Int) ∧ ∀ i : Nat, 0 ≤ i → i < (rps (sts ps (ps k).2.1).2 (sts ps k).2 w).length → M'.1 595 (i : Int) = oz none) := by
  have hc31 := hm.1
  obtain ⟨hwf, hok, qkd, qlf, qrt, qlt, _, _⟩ := hm.2 k hk
  have hlk := hwf.2.2.2 (by omega)
  rw [hK] at qkd qlf qrt
  have hkd : M.1 576 (k : Int) = 9 := qkd
  have hlf : M.1 577 (k : Int) = (((ps k).2.1 : Nat) : Int) := qlf
  have g2 := (mdl_gds hm k hk).2
  rw [show pK (pgo ps) k = 8 from hK] at g2
  have hPl := rps_len (sts ps (ps k).2.1).2 (sts ps k).2 w
  have hvv := rp_v (A := (sts ps (ps k).2.1).2) (B := (sts ps k).2) g2.2.2.2.2.2 hw h6 ms hf hr
  show ab_W (pg_G L xs) (ab_X (pg_G L xs) (d + 6)) 155 _ 0 [some (.ref 572), some (zi ((k : Nat) : Int)), some (zi ((f : Nat) : Int)), some (zi ((w.length : Nat) : Int)), some (zi (-1)), some (zi 0), none, none, none] [] (hp M ++ es)
  refine x_ld 0 1 2 1 rfl rfl rfl rfl rfl ?_
  refine g_572_7 19 4 rfl rfl rfl ?_
  refine x_ld 1 1 0 5 rfl rfl rfl rfl rfl ?_
  refine z_ild 9 6 rfl i_576 rfl ⟨by omega, by omega⟩ hkd rfl ?_
  refine x_cst (zi 9) 2 8 rfl rfl rfl ?_
  refine z_icne 15 11 rfl rfl rfl (rg_lit 9 rfl) (rg_lit 9 rfl) (fun c => absurd c (by decide)) (fun _ => ?_)
  refine x_cst (zi 1) 1 12 rfl rfl rfl ?_
  refine x_go 16 rfl rfl ?_
  refine x_st 6 2 0 18 [some (.ref 572), some (zi ((k : Nat) : Int)), some (zi ((f : Nat) : Int)), some (zi ((w.length : Nat) : Int)), some (zi (-1)), some (zi 0), some (zi 1), none, none] rfl rfl rfl (Nat.le_of_ble_eq_true rfl) rfl rfl ?_
  refine x_ld 0 1 2 19 rfl rfl rfl rfl rfl ?_
  refine x_ld 1 1 0 20 rfl rfl rfl rfl rfl ?_
  refine x_ld 2 1 0 21 rfl rfl rfl rfl rfl ?_
  refine x_ld 3 1 0 22 rfl rfl rfl rfl rfl ?_
  refine x_ld 4 2 0 24 rfl rfl rfl rfl rfl ?_
  refine x_ld 5 2 0 26 rfl rfl rfl rfl rfl ?_
  refine x_ce 351 156 29 [.ref 572, zi ((k : Nat) : Int), zi ((f : Nat) : Int), zi ((w.length : Nat) : Int), zi (-1), zi 0] rfl rfl rfl (Nat.le_of_ble_eq_true rfl) rfl rfl (Nat.le_of_ble_eq_true rfl) ⟨_, _, _, rfl, o_572⟩ (Nat.le_of_ble_eq_true rfl) (c156n (d + 3) hm hk (by omega) hw h6 ms hf hr) rfl ?_
  rintro v M2 ⟨rfl, hF2, hL2, hL3⟩
  refine x_ld 6 2 0 31 rfl rfl rfl rfl rfl ?_
  refine z_ifeq 44 34 rfl rfl rfl (rg_lit 1 rfl) (fun c => absurd c (by decide)) (fun _ => ?_)
  refine x_ld 4 2 0 36 rfl rfl rfl rfl rfl ?_
  refine z_iflt 44 39 rfl rfl rfl (rg_lit (-1) rfl) (fun _ => ?_) (fun c => absurd c (by decide))
  refine x_ld 0 1 2 45 rfl rfl rfl rfl rfl ?_
  refine g_572_63 338 48 rfl rfl hL2.1 rfl ?_
  refine x_cst (zi 1) 1 49 rfl rfl rfl ?_
  refine z_sub 50 rfl rfl ?_
  refine x_st 7 2 0 52 [some (.ref 572), some (zi ((k : Nat) : Int)), some (zi ((f : Nat) : Int)), some (zi ((w.length : Nat) : Int)), some (zi (-1)), some (zi 0), some (zi 1), some (zi ((((rps (sts ps (ps k).2.1).2 (sts ps k).2 w).length : Nat) : Int) - 1)), none] rfl rfl rfl (Nat.le_of_ble_eq_true rfl) rfl rfl ?_
  have hFc := Fw_Fc hF2
  have hcS := Fw_ctS hF2 hS
  have hLV := hL2
  exact c155_nr (L := L) (xs := xs) (es := es) (M := M2) (d + 5) (n := w.length) (n2 := 0) (l := (ps k).2.1) (c := c) hk hc31 hrt ((hFc.2.1 6 (by unfold cF; omega)).trans h6c) (by rw [hFc.1 577 (by decide) (by decide)]; exact hlf) (by omega) (fun i hi => (hvv i hi).2.2.2.2) hLV hbs (u := u) (Q := fun r' h' => ∃ v M', r' = .inl v ∧ h' = hp M' ++ es ∧ v = none ∧ ctS M' (bs ++ dsL (rps (sts ps (ps k).2.1).2 (sts ps k).2 w).length (ciS (ps k).2.1 f 0 (rps (sts ps (ps k).2.1).2 (sts ps k).2 w) [] (fun _ => none)) 0) u ∧ Fdr M M' ∧ M'.1 572 35 = ((rps (sts ps (ps k).2.1).2 (sts ps k).2 w).length : Int) ∧ ∀ i : Nat, 0 ≤ i → i < (rps (sts ps (ps k).2.1).2 (sts ps k).2 w).length → M'.1 595 (i : Int) = oz none) (fun M4 hS4 hF4 h35 h595 => ⟨none, M4, rfl, rfl, rfl, hS4, Fdr_trans (Fc_Fdr hFc) hF4, h35, h595⟩) _ (Nat.le_refl _) M2 none (Fpo_refl _) (by rw [dsL_end, List.append_nil]; exact hcS) (fun i h1 h2 => absurd h2 (by omega))
theorem c152nr_8 (d : Nat) {ps : Nat → prt} {c : Nat} (hm : mdl M ps c) (h6c : M.1 572 6 = (c : Int)) {k : Nat} (hk : k < c) {w : List Nat} (hw : tx_L w) (h6 : w.length ≤ 6) (ms : (sts ps k).2 (tx_num w) = true) {f : Nat} (hf : f + w.length ≤ 6) (hr : roL (M.1 597) f w) {bs : List cI} (hbs : bs.length + 6 ≤ 256) {u : List Nat} (hu : u.length < 256) (hS : ctS M bs u) (hK : (ps k).1 = 8) (hrt : k + 1 = c) : ab_Z (pg_G L xs) (d + 8) 152 [.ref 572, zi (k : Nat), zi (f : Nat), zi (w.length : Nat), zi (-1), zi 0] M es (fun v M' => v = none ∧ ctS M' (bs ++ dsL (rps (sts ps (ps k).2.1).2 (sts ps k).2 w).length (ciS (ps k).2.1 f 0 (rps (sts ps (ps k).2.1).2 (sts ps k).2 w) [] (fun _ => none)) 0) u ∧ Fdr M M' ∧ M'.1 572 35 = ((rps (sts ps (ps k).2.1).2 (sts ps k).2 w).length : Int) ∧ ∀ i : Nat, 0 ≤ i → i < (rps (sts ps (ps k).2.1).2 (sts ps k).2 w).length → M'.1 595 (i : Int) = oz none) := by
  have hc31 := hm.1
  obtain ⟨hwf, hok, qkd, qlf, qrt, qlt, _, _⟩ := hm.2 k hk
  rw [hK] at qkd qlf qrt
  have hkd : M.1 576 (k : Int) = 9 := qkd
  have hlf : M.1 577 (k : Int) = (((ps k).2.1 : Nat) : Int) := qlf
  have hrt2 : M.1 578 (k : Int) = -1 := qrt
  show ab_W (pg_G L xs) (ab_X (pg_G L xs) (d + 7)) 152 _ 0 [some (.ref 572), some (zi ((k : Nat) : Int)), some (zi ((f : Nat) : Int)), some (zi ((w.length : Nat) : Int)), some (zi (-1)), some (zi 0), none, none, none, none, none, none, none] [] (hp M ++ es)
  refine x_ld 0 1 2 1 rfl rfl rfl rfl rfl ?_
  refine g_572_8 22 4 rfl rfl rfl ?_
  refine x_ld 1 1 0 5 rfl rfl rfl rfl rfl ?_
  refine z_ild (((ps k).2.1 : Nat) : Int) 6 rfl i_577 rfl ⟨by omega, by omega⟩ hlf rfl ?_
  refine x_st 6 2 0 8 [some (.ref 572), some (zi ((k : Nat) : Int)), some (zi ((f : Nat) : Int)), some (zi ((w.length : Nat) : Int)), some (zi (-1)), some (zi 0), some (zi (((ps k).2.1 : Nat) : Int)), none, none, none, none, none, none] rfl rfl rfl (Nat.le_of_ble_eq_true rfl) rfl rfl ?_
  refine x_ld 0 1 2 9 rfl rfl rfl rfl rfl ?_
  refine g_572_9 25 12 rfl rfl rfl ?_
  refine x_ld 1 1 0 13 rfl rfl rfl rfl rfl ?_
  refine z_ild (-1) 14 rfl i_578 rfl ⟨by omega, by omega⟩ hrt2 rfl ?_
  refine x_st 7 2 0 16 [some (.ref 572), some (zi ((k : Nat) : Int)), some (zi ((f : Nat) : Int)), some (zi ((w.length : Nat) : Int)), some (zi (-1)), some (zi 0), some (zi (((ps k).2.1 : Nat) : Int)), some (zi (-1)), none, none, none, none, none] rfl rfl rfl (Nat.le_of_ble_eq_true rfl) rfl rfl ?_
  refine x_ld 0 1 2 17 rfl rfl rfl rfl rfl ?_
  refine g_572_7 19 20 rfl rfl rfl ?_
  refine x_ld 1 1 0 21 rfl rfl rfl rfl rfl ?_
  refine z_ild 9 22 rfl i_576 rfl ⟨by omega, by omega⟩ hkd rfl ?_
  refine x_tin 163 rfl (by decide) (by decide) rfl rfl ?_
  refine x_ld 0 1 2 164 rfl rfl rfl rfl rfl ?_
  refine x_ld 1 1 0 165 rfl rfl rfl rfl rfl ?_
  refine x_ld 2 1 0 166 rfl rfl rfl rfl rfl ?_
  refine x_ld 3 1 0 167 rfl rfl rfl rfl rfl ?_
  refine x_ld 4 2 0 169 rfl rfl rfl rfl rfl ?_
  refine x_ld 5 2 0 171 rfl rfl rfl rfl rfl ?_
  refine x_ce 335 155 174 [.ref 572, zi ((k : Nat) : Int), zi ((f : Nat) : Int), zi ((w.length : Nat) : Int), zi (-1), zi 0] rfl rfl rfl (Nat.le_of_ble_eq_true rfl) rfl rfl (Nat.le_of_ble_eq_true rfl) ⟨_, _, _, rfl, o_572⟩ (Nat.le_of_ble_eq_true rfl) (c155nr_8 d hm h6c hk hw h6 ms hf hr hbs hu hS hK hrt) rfl ?_
  rintro v M2 ⟨rfl, hp2⟩
  refine x_go 368 rfl rfl ?_
  refine x_rtv rfl rfl ?_
  exact ⟨none, M2, rfl, rfl, rfl, hp2⟩
end E4
