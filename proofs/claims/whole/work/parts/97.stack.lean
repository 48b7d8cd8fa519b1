/-! OURS, printed by wip/tools/gen97.py: the reference's stack of what is to be shown. -/
def mLf (K l : Nat) : Int := if 3 ≤ K then (l : Int) else -1
def mRt (K r : Nat) : Int := if K = 4 ∨ K = 5 ∨ K = 6 then (r : Int) else -1
/-- the reference's program -/
def mdl (M : mm) (ps : Nat → prt) (c : Nat) : Prop := c ≤ 31 ∧ ∀ k, k < c → wfp ps k ∧ okp ps k ∧ M.1 576 (k : Int) = mKd (ps k).1 (ps k).2.2.2 ∧ M.1 577 (k : Int) = mLf (ps k).1 (ps k).2.1 ∧ M.1 578 (k : Int) = mRt (ps k).1 (ps k).2.2.1 ∧ ((ps k).1 < 3 → M.1 579 (k : Int) = mLt (ps k).2.2.2) ∧ ag (mS (M.2.1 580) k) (sts ps k).1 ∧ ag (mS (M.2.1 581) k) (sts ps k).2
theorem mdl_gds {M : mm} {ps : Nat → prt} {c : Nat} (h : mdl M ps c) : gds (pgo ps) c := fun k hk => gd_of (h.2 k hk).1 (h.2 k hk).2.1
/-- the program's rows are as they were -/
def Fk (M M' : mm) : Prop := (∀ a, 576 ≤ a → a ≤ 579 → M'.1 a = M.1 a) ∧ M'.2 = M.2
theorem mdl_Fk {M M' : mm} {ps : Nat → prt} {c : Nat} (h : mdl M ps c) (hF : Fk M M') : mdl M' ps c := by
  refine ⟨h.1, fun k hk => ?_⟩
  rw [hF.1 576 (by decide) (by decide), hF.1 577 (by decide) (by decide), hF.1 578 (by decide) (by decide), hF.1 579 (by decide) (by decide), hF.2]
  exact h.2 k hk
/-- places of the parts of a repeated text -/
def off (P : List (List Nat)) (j : Nat) : Nat := (P.take j).flatten.length
theorem off_0 (P : List (List Nat)) : off P 0 = 0 := by unfold off; simp
theorem off_succ {P : List (List Nat)} {j : Nat} (h : j < P.length) : off P (j + 1) = off P j + (P[j]!).length := by
  unfold off
  rw [List.take_add_one, List.getElem?_eq_getElem h, getElem!_pos P j h, List.flatten_append, List.length_append]
  simp
theorem rps_drop (A B : Nat → Bool) (j : Nat) : ∀ w : List Nat, rps A B (w.drop (off (rps A B w) j)) = (rps A B w).drop j := by
  induction j with
  | zero => intro w; rw [off_0]; simp
  | succ j ih =>
    intro w
    by_cases hw : w = []
    · subst hw
      rw [rps_nil]
      simp [off, rps_nil]
    · have hle := cuf_le A B w
      have e : off (rps A B w) (j + 1) = cuf A B w + off (rps A B (w.drop (cuf A B w))) j := by
        rw [rps_cons hw]
        unfold off
        rw [List.take_succ_cons, List.flatten_cons, List.length_append, List.length_take, Nat.min_eq_left hle]
      rw [e, ← List.drop_drop, ih (w.drop (cuf A B w)), rps_cons hw, List.drop_succ_cons]
theorem rps_at {A B : Nat → Bool} (hB : ∀ t, B t = true ↔ rq A t) {w : List Nat} (hw : tx_L w) (hm : B (tx_num w) = true) (j : Nat) : B (tx_num (w.drop (off (rps A B w) j))) = true := by
  induction j generalizing w with
  | zero => rw [off_0]; exact hm
  | succ j ih =>
    by_cases hn : w = []
    · subst hn; simpa [rps_nil, off] using hm
    · have hle := cuf_le A B w
      have hc := rq_cuf hw hB hn hm
      have e : off (rps A B w) (j + 1) = cuf A B w + off (rps A B (w.drop (cuf A B w))) j := by
        rw [rps_cons hn]
        unfold off
        rw [List.take_succ_cons, List.flatten_cons, List.length_append, List.length_take, Nat.min_eq_left hle]
      rw [e, ← List.drop_drop]
      exact ih (tx_L_drop hw _) hc.2
theorem off_le (A B : Nat → Bool) (w : List Nat) (j : Nat) : off (rps A B w) j ≤ w.length := by
  have h := rps_flat A B w
  have h2 : (rps A B w).flatten.length = off (rps A B w) j + ((rps A B w).drop j).flatten.length := by
    unfold off
    rw [← List.length_append, ← List.flatten_append, List.take_append_drop]
  rw [h] at h2
  omega
theorem rps_nth {A B : Nat → Bool} {w : List Nat} {j : Nat} (h : j < (rps A B w).length) : w.drop (off (rps A B w) j) ≠ [] ∧ (rps A B w)[j]! = (w.drop (off (rps A B w) j)).take (cuf A B (w.drop (off (rps A B w) j))) := by
  have e := rps_drop A B j w
  have hne : w.drop (off (rps A B w) j) ≠ [] := by
    intro e2
    rw [e2, rps_nil] at e
    have := congrArg List.length e
    rw [List.length_drop, List.length_nil] at this
    omega
  refine ⟨hne, ?_⟩
  rw [rps_cons hne, List.drop_eq_getElem_cons h] at e
  rw [getElem!_pos _ j h]
  exact (List.cons.inj e).1.symm
theorem rps_nth_len {A B : Nat → Bool} {w : List Nat} {j : Nat} (h : j < (rps A B w).length) : ((rps A B w)[j]!).length = cuf A B (w.drop (off (rps A B w) j)) := by
  rw [(rps_nth h).2, List.length_take, Nat.min_eq_left (cuf_le _ _ _)]
theorem rps_end {A B : Nat → Bool} {w : List Nat} {j : Nat} (hj : j ≤ (rps A B w).length) : off (rps A B w) j < w.length ↔ j < (rps A B w).length := by
  constructor
  · intro h
    rcases Nat.eq_or_lt_of_le hj with e | e
    · exfalso
      have e2 := rps_drop A B j w
      rw [e, List.drop_length] at e2
      rw [← e] at e2
      have hne : w.drop (off (rps A B w) j) ≠ [] := by
        intro q
        have := congrArg List.length q
        rw [List.length_drop, List.length_nil] at this
        omega
      rw [rps_cons hne] at e2
      cases e2
    · exact e
  · intro h
    have := ne_len (rps_nth h).1
    rw [List.length_drop] at this
    omega
/-- a stack of three rows, a row of letters behind it -/
def stS (M : mm) (fl : Int) (a1 a2 a3 : Nat) (bs : List (Nat × Nat × Nat)) : Prop := M.1 572 fl = (bs.length : Int) ∧ ∀ i, i < bs.length → M.1 a1 (i : Int) = ((bs[i]!.1 : Nat) : Int) ∧ M.1 a2 (i : Int) = ((bs[i]!.2.1 : Nat) : Int) ∧ M.1 a3 (i : Int) = ((bs[i]!.2.2 : Nat) : Int)
def shS (M : mm) (bs : List (Nat × Nat × Nat)) (u : List Nat) : Prop := stS M 47 604 605 606 bs ∧ M.1 572 52 = (u.length : Int) ∧ roL (M.1 607) 0 u
def Fs (M M' : mm) : Prop := (∀ a, a ≠ 572 → ¬ (604 ≤ a ∧ a ≤ 607) → M'.1 a = M.1 a) ∧ (∀ j, j ≠ 47 → j ≠ 52 → M'.1 572 j = M.1 572 j) ∧ M'.2 = M.2
theorem Fs_refl (M : mm) : Fs M M := ⟨fun _ _ _ => rfl, fun _ _ _ => rfl, rfl⟩
theorem Fs_trans {M M' M'' : mm} (h : Fs M M') (g : Fs M' M'') : Fs M M'' := ⟨fun a h1 h2 => (g.1 a h1 h2).trans (h.1 a h1 h2), fun j h1 h2 => (g.2.1 j h1 h2).trans (h.2.1 j h1 h2), g.2.2.trans h.2.2⟩
theorem Fs_Fk {M M' : mm} (h : Fs M M') : Fk M M' := ⟨fun a h1 h2 => h.1 a (by omega) (by omega), h.2.2⟩
theorem snoc_at {α : Type} [Inhabited α] (l : List α) (x : α) : (l ++ [x])[l.length]! = x := by
  rw [getElem!_pos (l ++ [x]) l.length (by simp)]
  simp
theorem snoc_lt {α : Type} [Inhabited α] {l : List α} {x : α} {i : Nat} (h : i < l.length) : (l ++ [x])[i]! = l[i]! := by
  rw [getElem!_pos (l ++ [x]) i (by simp; omega), getElem!_pos l i h, List.getElem_append_left h]
theorem roL_snoc {f g : Int → Int} {u : List Nat} {x : Nat} (h : roL f 0 u) (hg : ∀ i : Nat, i < u.length → g (i : Int) = f (i : Int)) (hx : g (u.length : Int) = (x : Int)) : roL g 0 (u ++ [x]) := by
  intro i hi
  rw [List.length_append, List.length_singleton] at hi
  rw [Nat.zero_add]
  rcases Nat.eq_or_lt_of_le (Nat.le_of_lt_succ hi) with e | e
  · subst e; rw [hx, snoc_at]
  · rw [hg i e, snoc_lt e]
    have := h i e
    rwa [Nat.zero_add] at this
section D7
variable {L : Nat} {xs : Nat → Int32} {M : mm} {es : ab_H}
theorem c141 (d : Nat) {bs : List (Nat × Nat × Nat)} {u : List Nat} (hS : shS M bs u) (hb : bs.length < 256) {k f n : Nat} : ab_Z (pg_G L xs) (d + 1) 141 [.ref 572, zi (k : Nat), zi (f : Nat), zi (n : Nat)] M es (fun v M' => v = none ∧ shS M' (bs ++ [(k, f, n)]) u ∧ Fs M M') := by
  show ab_W (pg_G L xs) (ab_X (pg_G L xs) d) 141 _ 0 [some (.ref 572), some (zi ((k : Nat) : Int)), some (zi ((f : Nat) : Int)), some (zi ((n : Nat) : Int))] [] (hp M ++ es)
  refine x_ld 0 1 2 1 rfl rfl rfl rfl rfl ?_
  refine g_572_48 111 4 rfl rfl rfl ?_
  refine x_ld 0 1 2 5 rfl rfl rfl rfl rfl ?_
  refine g_572_47 281 8 rfl rfl hS.1.1 rfl ?_
  refine x_ld 1 1 0 9 rfl rfl rfl rfl rfl ?_
  refine z_ist 10 rfl i_604 rfl ⟨by omega, by omega⟩ rfl ?_
  refine x_ld 0 1 2 11 rfl rfl rfl rfl rfl ?_
  refine g_572_49 114 14 rfl rfl rfl ?_
  refine x_ld 0 1 2 15 rfl rfl rfl rfl rfl ?_
  refine g_572_47 281 18 rfl rfl ((rd_na (Ne.symm (by decide))).trans hS.1.1) rfl ?_
  refine x_ld 2 1 0 19 rfl rfl rfl rfl rfl ?_
  refine z_ist 20 rfl i_605 rfl ⟨by omega, by omega⟩ rfl ?_
  refine x_ld 0 1 2 21 rfl rfl rfl rfl rfl ?_
  refine g_572_50 117 24 rfl rfl rfl ?_
  refine x_ld 0 1 2 25 rfl rfl rfl rfl rfl ?_
  refine g_572_47 281 28 rfl rfl ((rd_na (Ne.symm (by decide))).trans ((rd_na (Ne.symm (by decide))).trans hS.1.1)) rfl ?_
  refine x_ld 3 1 0 29 rfl rfl rfl rfl rfl ?_
  refine z_ist 30 rfl i_606 rfl ⟨by omega, by omega⟩ rfl ?_
  refine x_ld 0 1 2 31 rfl rfl rfl rfl rfl ?_
  refine x_dup 32 rfl rfl rfl ?_
  refine g_572_47 281 35 rfl rfl ((rd_na (Ne.symm (by decide))).trans ((rd_na (Ne.symm (by decide))).trans ((rd_na (Ne.symm (by decide))).trans hS.1.1))) rfl ?_
  refine x_cst (zi 1) 1 36 rfl rfl rfl ?_
  refine z_add 37 rfl rfl ?_
  refine s_572_47 281 40 rfl rfl rfl rfl rfl rfl ?_
  refine x_rtv rfl rfl ?_
  refine ⟨none, _, rfl, rfl, rfl, ⟨⟨?_, fun i hi => ?_⟩, ?_, ?_⟩, ?_⟩
  · rw [rd_eq, List.length_append]; rfl
  · rw [List.length_append, List.length_singleton] at hi
    rcases Nat.eq_or_lt_of_le (Nat.le_of_lt_succ hi) with e | e
    · subst e
      rw [snoc_at]
      exact ⟨(rd_na (by decide)).trans ((rd_na (by decide)).trans ((rd_na (by decide)).trans rd_eq)), (rd_na (by decide)).trans ((rd_na (by decide)).trans rd_eq), (rd_na (by decide)).trans rd_eq⟩
    · rw [snoc_lt e]
      have q := hS.1.2 i e
      exact ⟨(rd_na (by decide)).trans ((rd_na (by decide)).trans ((rd_na (by decide)).trans ((rd_nk (by omega)).trans q.1))), (rd_na (by decide)).trans ((rd_na (by decide)).trans ((rd_nk (by omega)).trans ((rd_na (by decide)).trans q.2.1))), (rd_na (by decide)).trans ((rd_nk (by omega)).trans ((rd_na (by decide)).trans ((rd_na (by decide)).trans q.2.2)))⟩
  · exact (rd_nk (by decide)).trans ((rd_na (by decide)).trans ((rd_na (by decide)).trans ((rd_na (by decide)).trans hS.2.1)))
  · rw [sI_ne (by decide), sI_ne (by decide), sI_ne (by decide), sI_ne (by decide)]; exact hS.2.2
  · exact ⟨fun a h1 h2 => by rw [sI_ne h1, sI_ne (by omega), sI_ne (by omega), sI_ne (by omega)], fun j h1 _ => (rd_nk h1).trans ((rd_na (by decide)).trans ((rd_na (by decide)).trans (rd_na (by decide)))), rfl⟩
theorem c143 (d : Nat) {bs : List (Nat × Nat × Nat)} {u : List Nat} (hS : shS M bs u) (hu : u.length < 256) {x : Nat} : ab_Z (pg_G L xs) (d + 1) 143 [.ref 572, zi (x : Nat)] M es (fun v M' => v = none ∧ shS M' bs (u ++ [x]) ∧ Fs M M') := by
  show ab_W (pg_G L xs) (ab_X (pg_G L xs) d) 143 _ 0 [some (.ref 572), some (zi ((x : Nat) : Int))] [] (hp M ++ es)
  refine x_ld 0 1 2 1 rfl rfl rfl rfl rfl ?_
  refine g_572_51 120 4 rfl rfl rfl ?_
  refine x_ld 0 1 2 5 rfl rfl rfl rfl rfl ?_
  refine g_572_52 284 8 rfl rfl hS.2.1 rfl ?_
  refine x_ld 1 1 0 9 rfl rfl rfl rfl rfl ?_
  refine z_ist 10 rfl i_607 rfl ⟨by omega, by omega⟩ rfl ?_
  refine x_ld 0 1 2 11 rfl rfl rfl rfl rfl ?_
  refine x_dup 12 rfl rfl rfl ?_
  refine g_572_52 284 15 rfl rfl ((rd_na (Ne.symm (by decide))).trans hS.2.1) rfl ?_
  refine x_cst (zi 1) 1 16 rfl rfl rfl ?_
  refine z_add 17 rfl rfl ?_
  refine s_572_52 284 20 rfl rfl rfl rfl rfl rfl ?_
  refine x_rtv rfl rfl ?_
  refine ⟨none, _, rfl, rfl, rfl, ⟨⟨?_, fun i hi => ?_⟩, ?_, ?_⟩, ?_⟩
  · exact (rd_nk (by decide)).trans ((rd_na (by decide)).trans hS.1.1)
  · have q := hS.1.2 i hi
    exact ⟨(rd_na (by decide)).trans ((rd_na (by decide)).trans q.1), (rd_na (by decide)).trans ((rd_na (by decide)).trans q.2.1), (rd_na (by decide)).trans ((rd_na (by decide)).trans q.2.2)⟩
  · rw [rd_eq, List.length_append]; rfl
  · rw [sI_ne (by decide)]
    exact roL_snoc hS.2.2 (fun i hi => rd_nk (by omega)) rd_eq
  · exact ⟨fun a h1 h2 => by rw [sI_ne h1, sI_ne (by omega)], fun j _ h1 => (rd_nk h1).trans (rd_na (by decide)), rfl⟩
theorem c145_a (d : Nat) {ps : Nat → prt} {c : Nat} (hm : mdl M ps c) {k : Nat} (hk : k < c) (hK : 7 ≤ (ps k).1) {w : List Nat} (hw : tx_L w) (h6 : w.length ≤ 6) (ms : (sts ps k).1 (tx_num w) = true) {f : Nat} (hf : f + w.length ≤ 6) (hr : roL (M.1 596) f w) {Q : ab_Q} {M' : mm} (hF : Fs M M') (kk : ∀ o6 o7 o8, ab_W (pg_G L xs) (ab_X (pg_G L xs) (d + 2)) 145 Q 46 [some (.ref 572), some (zi (k : Nat)), some (zi (f : Nat)), some (zi (w.length : Nat)), some (zi ((rps (sts ps (ps k).2.1).1 (sts ps k).1 w).length : Nat)), some (zi ((f + w.length : Nat) : Int)), o6, o7, o8] [] (hp M' ++ es)) : ∀ m j : Nat, (rps (sts ps (ps k).2.1).1 (sts ps k).1 w).length - j = m → j ≤ (rps (sts ps (ps k).2.1).1 (sts ps k).1 w).length → ∀ o6 o7 o8, ab_W (pg_G L xs) (ab_X (pg_G L xs) (d + 2)) 145 Q 6 [some (.ref 572), some (zi (k : Nat)), some (zi (f : Nat)), some (zi (w.length : Nat)), some (zi (j : Nat)), some (zi ((f + off (rps (sts ps (ps k).2.1).1 (sts ps k).1 w) j : Nat) : Int)), o6, o7, o8] [] (hp M' ++ es) := by
  have hlk := (hm.2 k hk).1.2.2.2 (by omega)
  have hc31 := hm.1
  have gk := (mdl_gds hm k hk).2
  have hSB : ∀ t, (sts ps k).1 t = true ↔ rq (sts ps (ps k).2.1).1 t := by
    have hK8 := (hm.2 k hk).1.1
    rcases (show (ps k).1 = 7 ∨ (ps k).1 = 8 by omega) with e | e
    · rw [show pK (pgo ps) k = 7 from e] at gk; exact gk.2.2.2.2.1
    · rw [show pK (pgo ps) k = 8 from e] at gk; exact gk.2.2.2.2.1
  have hlf : M.1 577 (k : Int) = (((ps k).2.1 : Nat) : Int) := by
    have := (hm.2 k hk).2.2.2.1
    unfold mLf at this
    rw [if_pos (by omega)] at this
    exact this
  have a1 := (hm.2 _ (Nat.lt_trans hlk.1 hk)).2.2.2.2.2.2.1
  have a2 := (hm.2 k hk).2.2.2.2.2.2.1
  have hPl := rps_len (sts ps (ps k).2.1).1 (sts ps k).1 w
  have c146x : ∀ (j : Nat), j < (rps (sts ps (ps k).2.1).1 (sts ps k).1 w).length → ab_S (pg_G L xs) (d + 2) 146 [.ref 572, .ref 580, zi (k : Nat), .ref 596, zi ((f + off (rps (sts ps (ps k).2.1).1 (sts ps k).1 w) j : Nat) : Int), zi ((w.length - off (rps (sts ps (ps k).2.1).1 (sts ps k).1 w) j : Nat) : Int)] (hp M' ++ es) (some (zi (((rps (sts ps (ps k).2.1).1 (sts ps k).1 w)[j]!).length : Nat))) (hp M' ++ es) := by
    intro j hj
    have ho := off_le (sts ps (ps k).2.1).1 (sts ps k).1 w j
    have hne := (rps_nth hj).1
    have q := c146 (L := L) (xs := xs) (es := es) (M := M') d i_580 (f := (ps k).2.1) (g := k) (by omega) (by omega) i_596 (w := w.drop (off (rps (sts ps (ps k).2.1).1 (sts ps k).1 w) j)) (tx_L_drop hw _) (by rw [List.length_drop]; omega) (s := f + off (rps (sts ps (ps k).2.1).1 (sts ps k).1 w) j) (by rw [hF.1 596 (by decide) (by decide)]; exact roL_drop hr _) (by rw [List.length_drop]; omega) (by rw [hF.1 577 (by decide) (by decide)]; exact hlf) (by omega) hne
    rw [List.length_drop] at q
    rw [rps_nth_len hj]
    rw [show cuf (sts ps (ps k).2.1).1 (sts ps k).1 (w.drop (off (rps (sts ps (ps k).2.1).1 (sts ps k).1 w) j)) = cuf (mS (M'.2.1 580) (ps k).2.1) (mS (M'.2.1 580) k) (w.drop (off (rps (sts ps (ps k).2.1).1 (sts ps k).1 w) j)) from fi_congr (fun i _ => by rw [hF.2.2]; exact (cp_agw a1 a2 (tx_L_drop hw _) (by rw [List.length_drop]; omega) i).symm) 1]
    exact q
  intro m
  induction m using Nat.strongRecOn with
  | _ m ih =>
    intro j hm2 hj o6 o7 o8
    have ho := off_le (sts ps (ps k).2.1).1 (sts ps k).1 w j
    have he := rps_end (A := (sts ps (ps k).2.1).1) (B := (sts ps k).1) (w := w) hj
    refine x_ld 5 2 0 8 rfl rfl rfl rfl rfl ?_
    refine x_ld 2 1 0 9 rfl rfl rfl rfl rfl ?_
    refine x_ld 3 1 0 10 rfl rfl rfl rfl rfl ?_
    refine z_add 11 rfl rfl ?_
    refine z_icge 46 14 rfl rfl rfl ⟨by omega, by omega⟩ ⟨by omega, by omega⟩ (fun c11 => ?_) (fun c11 => ?_)
    · have e : j = (rps (sts ps (ps k).2.1).1 (sts ps k).1 w).length := by omega
      have e2 : off (rps (sts ps (ps k).2.1).1 (sts ps k).1 w) j = w.length := by omega
      rw [e2, e]; exact kk _ _ _
    · refine x_ld 5 2 0 16 rfl rfl rfl rfl rfl ?_
      refine x_ld 0 1 2 17 rfl rfl rfl rfl rfl ?_
      refine x_ld 0 1 2 18 rfl rfl rfl rfl rfl ?_
      refine g_572_11 31 21 rfl rfl rfl ?_
      refine x_ld 1 1 0 22 rfl rfl rfl rfl rfl ?_
      refine x_ld 0 1 2 23 rfl rfl rfl rfl rfl ?_
      refine g_572_37 87 26 rfl rfl rfl ?_
      refine x_ld 5 2 0 28 rfl rfl rfl rfl rfl ?_
      refine x_ld 2 1 0 29 rfl rfl rfl rfl rfl ?_
      refine x_ld 3 1 0 30 rfl rfl rfl rfl rfl ?_
      refine z_add 31 rfl rfl ?_
      refine x_ld 5 2 0 33 rfl rfl rfl rfl rfl ?_
      refine z_sub 34 rfl rfl ?_
      rw [show (((f : Nat) : Int) + ((w.length : Nat) : Int)) - ((f + off (rps (sts ps (ps k).2.1).1 (sts ps k).1 w) j : Nat) : Int) = ((w.length - off (rps (sts ps (ps k).2.1).1 (sts ps k).1 w) j : Nat) : Int) from (by omega)]
      refine x_cv 287 146 37 [.ref 572, .ref 580, zi ((k : Nat) : Int), .ref 596, zi ((f + off (rps (sts ps (ps k).2.1).1 (sts ps k).1 w) j : Nat) : Int), zi ((w.length - off (rps (sts ps (ps k).2.1).1 (sts ps k).1 w) j : Nat) : Int)] rfl rfl rfl (Nat.le_of_ble_eq_true rfl) rfl rfl (Nat.le_of_ble_eq_true rfl) ⟨_, _, _, rfl, o_572⟩ (Nat.le_of_ble_eq_true rfl) (c146x j (by omega)) rfl ?_
      refine z_add 38 rfl rfl ?_
      rw [show ((f + off (rps (sts ps (ps k).2.1).1 (sts ps k).1 w) j : Nat) : Int) + ((((rps (sts ps (ps k).2.1).1 (sts ps k).1 w)[j]!).length : Nat) : Int) = ((f + off (rps (sts ps (ps k).2.1).1 (sts ps k).1 w) (j + 1) : Nat) : Int) from (by rw [off_succ (by omega)]; omega)]
      refine x_st 5 2 0 40 [some (.ref 572), some (zi ((k : Nat) : Int)), some (zi ((f : Nat) : Int)), some (zi ((w.length : Nat) : Int)), some (zi ((j : Nat) : Int)), some (zi ((f + off (rps (sts ps (ps k).2.1).1 (sts ps k).1 w) (j + 1) : Nat) : Int)), o6, o7, o8] rfl rfl rfl (Nat.le_of_ble_eq_true rfl) rfl rfl ?_
      refine z_inc 4 43 [some (.ref 572), some (zi ((k : Nat) : Int)), some (zi ((f : Nat) : Int)), some (zi ((w.length : Nat) : Int)), some (zi (((j : Nat) : Int) + 1)), some (zi ((f + off (rps (sts ps (ps k).2.1).1 (sts ps k).1 w) (j + 1) : Nat) : Int)), o6, o7, o8] rfl rfl (Nat.le_of_ble_eq_true rfl) rfl rfl ?_
      refine x_go 6 rfl rfl ?_
      exact ih (_ - (j + 1)) (by omega) (j + 1) rfl (by omega) _ _ _
theorem c145_b (d : Nat) {ps : Nat → prt} {c : Nat} (hm : mdl M ps c) {k : Nat} (hk : k < c) (hK : 7 ≤ (ps k).1) {w : List Nat} (hw : tx_L w) (h6 : w.length ≤ 6) (ms : (sts ps k).1 (tx_num w) = true) {f : Nat} (hf : f + w.length ≤ 6) (hr : roL (M.1 596) f w) {Q : ab_Q} {M' : mm} (hF : Fs M M') {q : Nat} (hq : q < (rps (sts ps (ps k).2.1).1 (sts ps k).1 w).length) (kk : ab_W (pg_G L xs) (ab_X (pg_G L xs) (d + 2)) 145 Q 102 [some (.ref 572), some (zi (k : Nat)), some (zi (f : Nat)), some (zi (w.length : Nat)), some (zi ((rps (sts ps (ps k).2.1).1 (sts ps k).1 w).length : Nat)), some (zi ((f + w.length : Nat) : Int)), some (zi (q : Nat)), some (zi ((f + off (rps (sts ps (ps k).2.1).1 (sts ps k).1 w) q : Nat) : Int)), some (zi (q : Nat))] [] (hp M' ++ es)) : ∀ m j : Nat, q - j = m → j ≤ q → ab_W (pg_G L xs) (ab_X (pg_G L xs) (d + 2)) 145 Q 63 [some (.ref 572), some (zi (k : Nat)), some (zi (f : Nat)), some (zi (w.length : Nat)), some (zi ((rps (sts ps (ps k).2.1).1 (sts ps k).1 w).length : Nat)), some (zi ((f + w.length : Nat) : Int)), some (zi (q : Nat)), some (zi ((f + off (rps (sts ps (ps k).2.1).1 (sts ps k).1 w) j : Nat) : Int)), some (zi (j : Nat))] [] (hp M' ++ es) := by
  have hlk := (hm.2 k hk).1.2.2.2 (by omega)
  have hc31 := hm.1
  have gk := (mdl_gds hm k hk).2
  have hSB : ∀ t, (sts ps k).1 t = true ↔ rq (sts ps (ps k).2.1).1 t := by
    have hK8 := (hm.2 k hk).1.1
    rcases (show (ps k).1 = 7 ∨ (ps k).1 = 8 by omega) with e | e
    · rw [show pK (pgo ps) k = 7 from e] at gk; exact gk.2.2.2.2.1
    · rw [show pK (pgo ps) k = 8 from e] at gk; exact gk.2.2.2.2.1
  have hlf : M.1 577 (k : Int) = (((ps k).2.1 : Nat) : Int) := by
    have := (hm.2 k hk).2.2.2.1
    unfold mLf at this
    rw [if_pos (by omega)] at this
    exact this
  have a1 := (hm.2 _ (Nat.lt_trans hlk.1 hk)).2.2.2.2.2.2.1
  have a2 := (hm.2 k hk).2.2.2.2.2.2.1
  have hPl := rps_len (sts ps (ps k).2.1).1 (sts ps k).1 w
  have c146x : ∀ (j : Nat), j < (rps (sts ps (ps k).2.1).1 (sts ps k).1 w).length → ab_S (pg_G L xs) (d + 2) 146 [.ref 572, .ref 580, zi (k : Nat), .ref 596, zi ((f + off (rps (sts ps (ps k).2.1).1 (sts ps k).1 w) j : Nat) : Int), zi ((w.length - off (rps (sts ps (ps k).2.1).1 (sts ps k).1 w) j : Nat) : Int)] (hp M' ++ es) (some (zi (((rps (sts ps (ps k).2.1).1 (sts ps k).1 w)[j]!).length : Nat))) (hp M' ++ es) := by
    intro j hj
    have ho := off_le (sts ps (ps k).2.1).1 (sts ps k).1 w j
    have hne := (rps_nth hj).1
    have q := c146 (L := L) (xs := xs) (es := es) (M := M') d i_580 (f := (ps k).2.1) (g := k) (by omega) (by omega) i_596 (w := w.drop (off (rps (sts ps (ps k).2.1).1 (sts ps k).1 w) j)) (tx_L_drop hw _) (by rw [List.length_drop]; omega) (s := f + off (rps (sts ps (ps k).2.1).1 (sts ps k).1 w) j) (by rw [hF.1 596 (by decide) (by decide)]; exact roL_drop hr _) (by rw [List.length_drop]; omega) (by rw [hF.1 577 (by decide) (by decide)]; exact hlf) (by omega) hne
    rw [List.length_drop] at q
    rw [rps_nth_len hj]
    rw [show cuf (sts ps (ps k).2.1).1 (sts ps k).1 (w.drop (off (rps (sts ps (ps k).2.1).1 (sts ps k).1 w) j)) = cuf (mS (M'.2.1 580) (ps k).2.1) (mS (M'.2.1 580) k) (w.drop (off (rps (sts ps (ps k).2.1).1 (sts ps k).1 w) j)) from fi_congr (fun i _ => by rw [hF.2.2]; exact (cp_agw a1 a2 (tx_L_drop hw _) (by rw [List.length_drop]; omega) i).symm) 1]
    exact q
  intro m
  induction m using Nat.strongRecOn with
  | _ m ih =>
    intro j hm2 hj
    have ho := off_le (sts ps (ps k).2.1).1 (sts ps k).1 w j
    refine x_ld 8 2 0 65 rfl rfl rfl rfl rfl ?_
    refine x_ld 6 2 0 67 rfl rfl rfl rfl rfl ?_
    refine z_icge 102 70 rfl rfl rfl ⟨by omega, by omega⟩ ⟨by omega, by omega⟩ (fun c67 => ?_) (fun c67 => ?_)
    · have e : j = q := by omega
      subst e; exact kk
    · refine x_ld 7 2 0 72 rfl rfl rfl rfl rfl ?_
      refine x_ld 0 1 2 73 rfl rfl rfl rfl rfl ?_
      refine x_ld 0 1 2 74 rfl rfl rfl rfl rfl ?_
      refine g_572_11 31 77 rfl rfl rfl ?_
      refine x_ld 1 1 0 78 rfl rfl rfl rfl rfl ?_
      refine x_ld 0 1 2 79 rfl rfl rfl rfl rfl ?_
      refine g_572_37 87 82 rfl rfl rfl ?_
      refine x_ld 7 2 0 84 rfl rfl rfl rfl rfl ?_
      refine x_ld 2 1 0 85 rfl rfl rfl rfl rfl ?_
      refine x_ld 3 1 0 86 rfl rfl rfl rfl rfl ?_
      refine z_add 87 rfl rfl ?_
      refine x_ld 7 2 0 89 rfl rfl rfl rfl rfl ?_
      refine z_sub 90 rfl rfl ?_
      rw [show (((f : Nat) : Int) + ((w.length : Nat) : Int)) - ((f + off (rps (sts ps (ps k).2.1).1 (sts ps k).1 w) j : Nat) : Int) = ((w.length - off (rps (sts ps (ps k).2.1).1 (sts ps k).1 w) j : Nat) : Int) from (by omega)]
      refine x_cv 287 146 93 [.ref 572, .ref 580, zi ((k : Nat) : Int), .ref 596, zi ((f + off (rps (sts ps (ps k).2.1).1 (sts ps k).1 w) j : Nat) : Int), zi ((w.length - off (rps (sts ps (ps k).2.1).1 (sts ps k).1 w) j : Nat) : Int)] rfl rfl rfl (Nat.le_of_ble_eq_true rfl) rfl rfl (Nat.le_of_ble_eq_true rfl) ⟨_, _, _, rfl, o_572⟩ (Nat.le_of_ble_eq_true rfl) (c146x j (by omega)) rfl ?_
      refine z_add 94 rfl rfl ?_
      rw [show ((f + off (rps (sts ps (ps k).2.1).1 (sts ps k).1 w) j : Nat) : Int) + ((((rps (sts ps (ps k).2.1).1 (sts ps k).1 w)[j]!).length : Nat) : Int) = ((f + off (rps (sts ps (ps k).2.1).1 (sts ps k).1 w) (j + 1) : Nat) : Int) from (by rw [off_succ (by omega)]; omega)]
      refine x_st 7 2 0 96 [some (.ref 572), some (zi ((k : Nat) : Int)), some (zi ((f : Nat) : Int)), some (zi ((w.length : Nat) : Int)), some (zi (((rps (sts ps (ps k).2.1).1 (sts ps k).1 w).length : Nat) : Int)), some (zi ((f + w.length : Nat) : Int)), some (zi ((q : Nat) : Int)), some (zi ((f + off (rps (sts ps (ps k).2.1).1 (sts ps k).1 w) (j + 1) : Nat) : Int)), some (zi ((j : Nat) : Int))] rfl rfl rfl (Nat.le_of_ble_eq_true rfl) rfl rfl ?_
      refine z_inc 8 99 [some (.ref 572), some (zi ((k : Nat) : Int)), some (zi ((f : Nat) : Int)), some (zi ((w.length : Nat) : Int)), some (zi (((rps (sts ps (ps k).2.1).1 (sts ps k).1 w).length : Nat) : Int)), some (zi ((f + w.length : Nat) : Int)), some (zi ((q : Nat) : Int)), some (zi ((f + off (rps (sts ps (ps k).2.1).1 (sts ps k).1 w) (j + 1) : Nat) : Int)), some (zi (((j : Nat) : Int) + 1))] rfl rfl (Nat.le_of_ble_eq_true rfl) rfl rfl ?_
      refine x_go 63 rfl rfl ?_
      exact ih (q - (j + 1)) (by omega) (j + 1) rfl (by omega)
/-- the items of a repeated text, the first on top -/
def itm (l f : Nat) (P : List (List Nat)) (j : Nat) : Nat × Nat × Nat := (l, f + off P j, (P[j]!).length)
def itL (l f : Nat) (P : List (List Nat)) (j : Nat) : List (Nat × Nat × Nat) := (((List.range P.length).drop j).reverse).map (itm l f P)
theorem itL_end (l f : Nat) (P : List (List Nat)) : itL l f P P.length = [] := by unfold itL; rw [List.drop_of_length_le (by rw [List.length_range]; exact Nat.le_refl _)]; rfl
theorem itL_step (l f : Nat) {P : List (List Nat)} {j : Nat} (h : j < P.length) : itL l f P j = itL l f P (j + 1) ++ [itm l f P j] := by
  unfold itL
  rw [List.drop_eq_getElem_cons (by rw [List.length_range]; exact h), List.reverse_cons, List.map_append, List.getElem_range]
  rfl
theorem itL_len (l f : Nat) (P : List (List Nat)) (j : Nat) : (itL l f P j).length = P.length - j := by
  unfold itL
  rw [List.length_map, List.length_reverse, List.length_drop, List.length_range]
theorem c145_c (d : Nat) {ps : Nat → prt} {c : Nat} (hm : mdl M ps c) {k : Nat} (hk : k < c) (hK : 7 ≤ (ps k).1) {w : List Nat} (hw : tx_L w) (h6 : w.length ≤ 6) (ms : (sts ps k).1 (tx_num w) = true) {f : Nat} (hf : f + w.length ≤ 6) (hr : roL (M.1 596) f w) {bs : List (Nat × Nat × Nat)} (hbs : bs.length + 6 ≤ 256) {u : List Nat} {Q : ab_Q} (kk : ∀ M', Fs M M' → shS M' (bs ++ itL (ps k).2.1 f (rps (sts ps (ps k).2.1).1 (sts ps k).1 w) 0) u → Q (.inl none) (hp M' ++ es)) : ∀ m : Nat, m ≤ (rps (sts ps (ps k).2.1).1 (sts ps k).1 w).length → ∀ M', Fs M M' → shS M' (bs ++ itL (ps k).2.1 f (rps (sts ps (ps k).2.1).1 (sts ps k).1 w) m) u → ∀ o7 o8, ab_W (pg_G L xs) (ab_X (pg_G L xs) (d + 2)) 145 Q 52 [some (.ref 572), some (zi (k : Nat)), some (zi (f : Nat)), some (zi (w.length : Nat)), some (zi ((rps (sts ps (ps k).2.1).1 (sts ps k).1 w).length : Nat)), some (zi ((f + w.length : Nat) : Int)), some (zi ((m : Int) - 1)), o7, o8] [] (hp M' ++ es) := by
  intro m
  induction m with
  | zero =>
    intro _ M' hF hS o7 o8
    refine x_ld 6 2 0 54 rfl rfl rfl rfl rfl ?_
    refine z_iflt 141 57 rfl rfl rfl ⟨by omega, by omega⟩ (fun _ => ?_) (fun c => absurd c (by omega))
    refine x_rtv rfl rfl ?_
    exact kk M' hF hS
  | succ m ih =>
    intro hm2 M' hF hS o7 o8
    have hlk := (hm.2 k hk).1.2.2.2 (by omega)
    have hc31 := hm.1
    have gk := (mdl_gds hm k hk).2
    have hSB : ∀ t, (sts ps k).1 t = true ↔ rq (sts ps (ps k).2.1).1 t := by
      have hK8 := (hm.2 k hk).1.1
      rcases (show (ps k).1 = 7 ∨ (ps k).1 = 8 by omega) with e | e
      · rw [show pK (pgo ps) k = 7 from e] at gk; exact gk.2.2.2.2.1
      · rw [show pK (pgo ps) k = 8 from e] at gk; exact gk.2.2.2.2.1
    have hlf : M.1 577 (k : Int) = (((ps k).2.1 : Nat) : Int) := by
      have := (hm.2 k hk).2.2.2.1
      unfold mLf at this
      rw [if_pos (by omega)] at this
      exact this
    have a1 := (hm.2 _ (Nat.lt_trans hlk.1 hk)).2.2.2.2.2.2.1
    have a2 := (hm.2 k hk).2.2.2.2.2.2.1
    have hPl := rps_len (sts ps (ps k).2.1).1 (sts ps k).1 w
    have c146x : ∀ (j : Nat), j < (rps (sts ps (ps k).2.1).1 (sts ps k).1 w).length → ab_S (pg_G L xs) (d + 2) 146 [.ref 572, .ref 580, zi (k : Nat), .ref 596, zi ((f + off (rps (sts ps (ps k).2.1).1 (sts ps k).1 w) j : Nat) : Int), zi ((w.length - off (rps (sts ps (ps k).2.1).1 (sts ps k).1 w) j : Nat) : Int)] (hp M' ++ es) (some (zi (((rps (sts ps (ps k).2.1).1 (sts ps k).1 w)[j]!).length : Nat))) (hp M' ++ es) := by
      intro j hj
      have ho := off_le (sts ps (ps k).2.1).1 (sts ps k).1 w j
      have hne := (rps_nth hj).1
      have q := c146 (L := L) (xs := xs) (es := es) (M := M') d i_580 (f := (ps k).2.1) (g := k) (by omega) (by omega) i_596 (w := w.drop (off (rps (sts ps (ps k).2.1).1 (sts ps k).1 w) j)) (tx_L_drop hw _) (by rw [List.length_drop]; omega) (s := f + off (rps (sts ps (ps k).2.1).1 (sts ps k).1 w) j) (by rw [hF.1 596 (by decide) (by decide)]; exact roL_drop hr _) (by rw [List.length_drop]; omega) (by rw [hF.1 577 (by decide) (by decide)]; exact hlf) (by omega) hne
      rw [List.length_drop] at q
      rw [rps_nth_len hj]
      rw [show cuf (sts ps (ps k).2.1).1 (sts ps k).1 (w.drop (off (rps (sts ps (ps k).2.1).1 (sts ps k).1 w) j)) = cuf (mS (M'.2.1 580) (ps k).2.1) (mS (M'.2.1 580) k) (w.drop (off (rps (sts ps (ps k).2.1).1 (sts ps k).1 w) j)) from fi_congr (fun i _ => by rw [hF.2.2]; exact (cp_agw a1 a2 (tx_L_drop hw _) (by rw [List.length_drop]; omega) i).symm) 1]
      exact q
    have ho := off_le (sts ps (ps k).2.1).1 (sts ps k).1 w m
    have hlfM : M'.1 577 (k : Int) = (((ps k).2.1 : Nat) : Int) := by rw [hF.1 577 (by decide) (by decide)]; exact hlf
    have hil := itL_len (ps k).2.1 f (rps (sts ps (ps k).2.1).1 (sts ps k).1 w) (m + 1)
    rw [show ((m + 1 : Nat) : Int) - 1 = (m : Int) by omega]
    refine x_ld 6 2 0 54 rfl rfl rfl rfl rfl ?_
    refine z_iflt 141 57 rfl rfl rfl ⟨by omega, by omega⟩ (fun c => absurd c (by omega)) (fun _ => ?_)
    refine x_ld 2 1 0 58 rfl rfl rfl rfl rfl ?_
    refine x_st 7 2 0 60 [some (.ref 572), some (zi ((k : Nat) : Int)), some (zi ((f : Nat) : Int)), some (zi ((w.length : Nat) : Int)), some (zi (((rps (sts ps (ps k).2.1).1 (sts ps k).1 w).length : Nat) : Int)), some (zi ((f + w.length : Nat) : Int)), some (zi (m : Int)), some (zi ((f : Nat) : Int)), o8] rfl rfl rfl (Nat.le_of_ble_eq_true rfl) rfl rfl ?_
    refine x_cst (zi 0) 1 61 rfl rfl rfl ?_
    refine x_st 8 2 0 63 [some (.ref 572), some (zi ((k : Nat) : Int)), some (zi ((f : Nat) : Int)), some (zi ((w.length : Nat) : Int)), some (zi (((rps (sts ps (ps k).2.1).1 (sts ps k).1 w).length : Nat) : Int)), some (zi ((f + w.length : Nat) : Int)), some (zi (m : Int)), some (zi ((f : Nat) : Int)), some (zi 0)] rfl rfl rfl (Nat.le_of_ble_eq_true rfl) rfl rfl ?_
    have e0 : ((f : Nat) : Int) = ((f + off (rps (sts ps (ps k).2.1).1 (sts ps k).1 w) 0 : Nat) : Int) := by rw [off_0]; omega
    have q0 := c145_b (L := L) (xs := xs) (es := es) d hm hk hK hw h6 ms hf hr hF (q := m) (by omega) (Q := Q) ?_ _ 0 rfl (Nat.zero_le _)
    · rw [← e0] at q0; exact q0
    · refine x_ld 0 1 2 103 rfl rfl rfl rfl rfl ?_
      refine x_ld 0 1 2 104 rfl rfl rfl rfl rfl ?_
      refine g_572_8 22 107 rfl rfl rfl ?_
      refine x_ld 1 1 0 108 rfl rfl rfl rfl rfl ?_
      refine z_ild (((ps k).2.1 : Nat) : Int) 109 rfl i_577 rfl ⟨by omega, by omega⟩ hlfM rfl ?_
      refine x_ld 7 2 0 111 rfl rfl rfl rfl rfl ?_
      refine x_ld 0 1 2 112 rfl rfl rfl rfl rfl ?_
      refine x_ld 0 1 2 113 rfl rfl rfl rfl rfl ?_
      refine g_572_11 31 116 rfl rfl rfl ?_
      refine x_ld 1 1 0 117 rfl rfl rfl rfl rfl ?_
      refine x_ld 0 1 2 118 rfl rfl rfl rfl rfl ?_
      refine g_572_37 87 121 rfl rfl rfl ?_
      refine x_ld 7 2 0 123 rfl rfl rfl rfl rfl ?_
      refine x_ld 2 1 0 124 rfl rfl rfl rfl rfl ?_
      refine x_ld 3 1 0 125 rfl rfl rfl rfl rfl ?_
      refine z_add 126 rfl rfl ?_
      refine x_ld 7 2 0 128 rfl rfl rfl rfl rfl ?_
      refine z_sub 129 rfl rfl ?_
      rw [show (((f : Nat) : Int) + ((w.length : Nat) : Int)) - ((f + off (rps (sts ps (ps k).2.1).1 (sts ps k).1 w) m : Nat) : Int) = ((w.length - off (rps (sts ps (ps k).2.1).1 (sts ps k).1 w) m : Nat) : Int) from (by omega)]
      refine x_cv 287 146 132 [.ref 572, .ref 580, zi ((k : Nat) : Int), .ref 596, zi ((f + off (rps (sts ps (ps k).2.1).1 (sts ps k).1 w) m : Nat) : Int), zi ((w.length - off (rps (sts ps (ps k).2.1).1 (sts ps k).1 w) m : Nat) : Int)] rfl rfl rfl (Nat.le_of_ble_eq_true rfl) rfl rfl (Nat.le_of_ble_eq_true rfl) ⟨_, _, _, rfl, o_572⟩ (Nat.le_of_ble_eq_true rfl) (c146x m (by omega)) rfl ?_
      refine x_ce 291 141 135 [.ref 572, zi (((ps k).2.1 : Nat) : Int), zi ((f + off (rps (sts ps (ps k).2.1).1 (sts ps k).1 w) m : Nat) : Int), zi ((((rps (sts ps (ps k).2.1).1 (sts ps k).1 w)[m]!).length : Nat) : Int)] rfl rfl rfl (Nat.le_of_ble_eq_true rfl) rfl rfl (Nat.le_of_ble_eq_true rfl) ⟨_, _, _, rfl, o_572⟩ (Nat.le_of_ble_eq_true rfl) (c141 (d + 1) hS (by rw [List.length_append]; omega)) rfl ?_
      rintro v M2 ⟨rfl, hS2, F2⟩
      refine z_inc 6 138 [some (.ref 572), some (zi ((k : Nat) : Int)), some (zi ((f : Nat) : Int)), some (zi ((w.length : Nat) : Int)), some (zi (((rps (sts ps (ps k).2.1).1 (sts ps k).1 w).length : Nat) : Int)), some (zi ((f + w.length : Nat) : Int)), some (zi (((m : Nat) : Int) + (-1))), some (zi ((f + off (rps (sts ps (ps k).2.1).1 (sts ps k).1 w) m : Nat) : Int)), some (zi ((m : Nat) : Int))] rfl rfl (Nat.le_of_ble_eq_true rfl) rfl rfl ?_
      refine x_go 52 rfl rfl ?_
      rw [List.append_assoc, show [((ps k).2.1, f + off (rps (sts ps (ps k).2.1).1 (sts ps k).1 w) m, ((rps (sts ps (ps k).2.1).1 (sts ps k).1 w)[m]!).length)] = [itm (ps k).2.1 f (rps (sts ps (ps k).2.1).1 (sts ps k).1 w) m] from rfl, ← itL_step _ _ (by omega)] at hS2
      exact ih (by omega) M2 (Fs_trans hF F2) hS2 _ _
theorem c145 (d : Nat) {ps : Nat → prt} {c : Nat} (hm : mdl M ps c) {k : Nat} (hk : k < c) (hK : 7 ≤ (ps k).1) {w : List Nat} (hw : tx_L w) (h6 : w.length ≤ 6) (ms : (sts ps k).1 (tx_num w) = true) {f : Nat} (hf : f + w.length ≤ 6) (hr : roL (M.1 596) f w) {bs : List (Nat × Nat × Nat)} (hbs : bs.length + 6 ≤ 256) {u : List Nat} (hS : shS M bs u) : ab_Z (pg_G L xs) (d + 3) 145 [.ref 572, zi (k : Nat), zi (f : Nat), zi (w.length : Nat)] M es (fun v M' => v = none ∧ shS M' (bs ++ itL (ps k).2.1 f (rps (sts ps (ps k).2.1).1 (sts ps k).1 w) 0) u ∧ Fs M M') := by
  show ab_W (pg_G L xs) (ab_X (pg_G L xs) (d + 2)) 145 _ 0 [some (.ref 572), some (zi ((k : Nat) : Int)), some (zi ((f : Nat) : Int)), some (zi ((w.length : Nat) : Int)), none, none, none, none, none] [] (hp M ++ es)
  refine x_cst (zi 0) 1 1 rfl rfl rfl ?_
  refine x_st 4 2 0 3 [some (.ref 572), some (zi ((k : Nat) : Int)), some (zi ((f : Nat) : Int)), some (zi ((w.length : Nat) : Int)), some (zi 0), none, none, none, none] rfl rfl rfl (Nat.le_of_ble_eq_true rfl) rfl rfl ?_
  refine x_ld 2 1 0 4 rfl rfl rfl rfl rfl ?_
  refine x_st 5 2 0 6 [some (.ref 572), some (zi ((k : Nat) : Int)), some (zi ((f : Nat) : Int)), some (zi ((w.length : Nat) : Int)), some (zi 0), some (zi ((f : Nat) : Int)), none, none, none] rfl rfl rfl (Nat.le_of_ble_eq_true rfl) rfl rfl ?_
  have e0 : ((f : Nat) : Int) = ((f + off (rps (sts ps (ps k).2.1).1 (sts ps k).1 w) 0 : Nat) : Int) := by rw [off_0]; omega
  have q0 := c145_a (L := L) (xs := xs) (es := es) d hm hk hK hw h6 ms hf hr (Fs_refl M) (Q := fun r h' => ∃ v M', r = .inl v ∧ h' = hp M' ++ es ∧ v = none ∧ shS M' (bs ++ itL (ps k).2.1 f (rps (sts ps (ps k).2.1).1 (sts ps k).1 w) 0) u ∧ Fs M M') ?_ _ 0 rfl (Nat.zero_le _) none none none
  · rw [← e0] at q0; exact q0
  · intro o6 o7 o8
    refine x_ld 4 2 0 48 rfl rfl rfl rfl rfl ?_
    refine x_cst (zi 1) 1 49 rfl rfl rfl ?_
    refine z_sub 50 rfl rfl ?_
    refine x_st 6 2 0 52 [some (.ref 572), some (zi (k : Nat)), some (zi (f : Nat)), some (zi (w.length : Nat)), some (zi ((rps (sts ps (ps k).2.1).1 (sts ps k).1 w).length : Nat)), some (zi ((f + w.length : Nat) : Int)), some (zi (((rps (sts ps (ps k).2.1).1 (sts ps k).1 w).length : Int) - 1)), o7, o8] rfl rfl rfl (Nat.le_of_ble_eq_true rfl) rfl rfl ?_
    exact c145_c d hm hk hK hw h6 ms hf hr hbs (fun M' a b => ⟨none, M', rfl, rfl, rfl, b, a⟩) _ (Nat.le_refl _) M (Fs_refl M) (by rw [itL_end, List.append_nil]; exact hS) _ _
end D7
