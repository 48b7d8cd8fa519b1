/-! OURS, printed by wip/tools/gen981.py: the reference carries: its stack; all kinds but repeats. -/
/-- part, place and length of the view, place and length of the source (-1: none) -/
abbrev cI : Type := Nat × Nat × Nat × Int × Nat
def ctS (M : mm) (bs : List cI) (u : List Nat) : Prop := (M.1 572 41 = (bs.length : Int) ∧ ∀ i, i < bs.length → M.1 599 (i : Int) = ((bs[i]!.1 : Nat) : Int) ∧ M.1 600 (i : Int) = ((bs[i]!.2.1 : Nat) : Int) ∧ M.1 601 (i : Int) = ((bs[i]!.2.2.1 : Nat) : Int) ∧ M.1 602 (i : Int) = bs[i]!.2.2.2.1 ∧ M.1 603 (i : Int) = ((bs[i]!.2.2.2.2 : Nat) : Int)) ∧ M.1 572 40 = (u.length : Int) ∧ roL (M.1 598) 0 u
/-- fields that carrying may change, but what tells origins -/
def cF (j : Int) : Prop := j = 40 ∨ j = 41 ∨ j = 47 ∨ j = 52 ∨ j = 53 ∨ j = 59 ∨ j = 63 ∨ j = 67
def Fc (M M' : mm) : Prop := (∀ a, a ≠ 572 → a ≤ 597 → M'.1 a = M.1 a) ∧ (∀ j, ¬ cF j → M'.1 572 j = M.1 572 j) ∧ M'.2 = M.2
/-- the same, origins free -/
def Fdr (M M' : mm) : Prop := (∀ a, a ≠ 572 → a ≠ 595 → a ≤ 597 → M'.1 a = M.1 a) ∧ (∀ j, ¬ cF j → j ≠ 35 → M'.1 572 j = M.1 572 j) ∧ M'.2 = M.2
theorem Fc_refl (M : mm) : Fc M M := ⟨fun _ _ _ => rfl, fun _ _ => rfl, rfl⟩
theorem Fc_trans {M M' M'' : mm} (h : Fc M M') (g : Fc M' M'') : Fc M M'' := ⟨fun a h1 h2 => (g.1 a h1 h2).trans (h.1 a h1 h2), fun j h1 => (g.2.1 j h1).trans (h.2.1 j h1), g.2.2.trans h.2.2⟩
theorem Fc_Fdr {M M' : mm} (h : Fc M M') : Fdr M M' := ⟨fun a h1 _ h2 => h.1 a h1 h2, fun j h1 _ => h.2.1 j h1, h.2.2⟩
theorem Fdr_trans {M M' M'' : mm} (h : Fdr M M') (g : Fdr M' M'') : Fdr M M'' := ⟨fun a h1 h2 h3 => (g.1 a h1 h2 h3).trans (h.1 a h1 h2 h3), fun j h1 h2 => (g.2.1 j h1 h2).trans (h.2.1 j h1 h2), g.2.2.trans h.2.2⟩
theorem Fdr_Fk {M M' : mm} (h : Fdr M M') : Fk M M' := ⟨fun a h1 h2 => h.1 a (by omega) (by omega) (by omega), h.2.2⟩
theorem Fc_Fk {M M' : mm} (h : Fc M M') : Fk M M' := Fdr_Fk (Fc_Fdr h)
theorem ncF {j : Int} (h : (decide (j = 40) || decide (j = 41) || decide (j = 47) || decide (j = 52) || decide (j = 53) || decide (j = 59) || decide (j = 63) || decide (j = 67)) = false) : ¬ cF j := by
  simp only [Bool.or_eq_false_iff, decide_eq_false_iff_not] at h
  rintro (e | e | e | e | e | e | e | e)
  · exact h.1.1.1.1.1.1.1 e
  · exact h.1.1.1.1.1.1.2 e
  · exact h.1.1.1.1.1.2 e
  · exact h.1.1.1.1.2 e
  · exact h.1.1.1.2 e
  · exact h.1.1.2 e
  · exact h.1.2 e
  · exact h.2 e
theorem ctS_pop {M : mm} {bs : List cI} {x : cI} {u : List Nat} (h : ctS M (bs ++ [x]) u) {y : Int} (hy : y = (bs.length : Int)) : ctS (sI M 572 41 y) bs u := by
  refine ⟨⟨rd_eq.trans hy, fun i hi => ?_⟩, (rd_nk (by decide)).trans h.2.1, ?_⟩
  · have := h.1.2 i (by rw [List.length_append]; omega)
    rw [snoc_lt hi] at this
    exact ⟨(rd_na (by decide)).trans this.1, (rd_na (by decide)).trans this.2.1, (rd_na (by decide)).trans this.2.2.1, (rd_na (by decide)).trans this.2.2.2.1, (rd_na (by decide)).trans this.2.2.2.2⟩
  · rw [sI_ne (by decide)]; exact h.2.2
theorem Fc_pop (M : mm) (y : Int) : Fc M (sI M 572 41 y) := ⟨fun a h _ => sI_ne h, fun j h => rd_nk (fun e => h (.inr (.inl e))), rfl⟩
section E1
variable {L : Nat} {xs : Nat → Int32} {M : mm} {es : ab_H}
theorem c151 (d : Nat) {bs : List cI} {u : List Nat} (hS : ctS M bs u) (hb : bs.length < 256) {k f n m : Nat} {so : Int} : ab_Z (pg_G L xs) (d + 1) 151 [.ref 572, zi (k : Nat), zi (f : Nat), zi (n : Nat), zi so, zi (m : Nat)] M es (fun v M' => v = none ∧ ctS M' (bs ++ [(k, f, n, so, m)]) u ∧ Fc M M') := by
  show ab_W (pg_G L xs) (ab_X (pg_G L xs) d) 151 _ 0 [some (.ref 572), some (zi ((k : Nat) : Int)), some (zi ((f : Nat) : Int)), some (zi ((n : Nat) : Int)), some (zi so), some (zi ((m : Nat) : Int))] [] (hp M ++ es)
  refine x_ld 0 1 2 1 rfl rfl rfl rfl rfl ?_
  refine g_572_42 96 4 rfl rfl rfl ?_
  refine x_ld 0 1 2 5 rfl rfl rfl rfl rfl ?_
  refine g_572_41 320 8 rfl rfl hS.1.1 rfl ?_
  refine x_ld 1 1 0 9 rfl rfl rfl rfl rfl ?_
  refine z_ist 10 rfl i_599 rfl ⟨by omega, by omega⟩ rfl ?_
  refine x_ld 0 1 2 11 rfl rfl rfl rfl rfl ?_
  refine g_572_43 99 14 rfl rfl rfl ?_
  refine x_ld 0 1 2 15 rfl rfl rfl rfl rfl ?_
  refine g_572_41 320 18 rfl rfl ((rd_na (Ne.symm (by decide))).trans hS.1.1) rfl ?_
  refine x_ld 2 1 0 19 rfl rfl rfl rfl rfl ?_
  refine z_ist 20 rfl i_600 rfl ⟨by omega, by omega⟩ rfl ?_
  refine x_ld 0 1 2 21 rfl rfl rfl rfl rfl ?_
  refine g_572_44 102 24 rfl rfl rfl ?_
  refine x_ld 0 1 2 25 rfl rfl rfl rfl rfl ?_
  refine g_572_41 320 28 rfl rfl ((rd_na (Ne.symm (by decide))).trans ((rd_na (Ne.symm (by decide))).trans hS.1.1)) rfl ?_
  refine x_ld 3 1 0 29 rfl rfl rfl rfl rfl ?_
  refine z_ist 30 rfl i_601 rfl ⟨by omega, by omega⟩ rfl ?_
  refine x_ld 0 1 2 31 rfl rfl rfl rfl rfl ?_
  refine g_572_45 105 34 rfl rfl rfl ?_
  refine x_ld 0 1 2 35 rfl rfl rfl rfl rfl ?_
  refine g_572_41 320 38 rfl rfl ((rd_na (Ne.symm (by decide))).trans ((rd_na (Ne.symm (by decide))).trans ((rd_na (Ne.symm (by decide))).trans hS.1.1))) rfl ?_
  refine x_ld 4 2 0 40 rfl rfl rfl rfl rfl ?_
  refine z_ist 41 rfl i_602 rfl ⟨by omega, by omega⟩ rfl ?_
  refine x_ld 0 1 2 42 rfl rfl rfl rfl rfl ?_
  refine g_572_46 108 45 rfl rfl rfl ?_
  refine x_ld 0 1 2 46 rfl rfl rfl rfl rfl ?_
  refine g_572_41 320 49 rfl rfl ((rd_na (Ne.symm (by decide))).trans ((rd_na (Ne.symm (by decide))).trans ((rd_na (Ne.symm (by decide))).trans ((rd_na (Ne.symm (by decide))).trans hS.1.1)))) rfl ?_
  refine x_ld 5 2 0 51 rfl rfl rfl rfl rfl ?_
  refine z_ist 52 rfl i_603 rfl ⟨by omega, by omega⟩ rfl ?_
  refine x_ld 0 1 2 53 rfl rfl rfl rfl rfl ?_
  refine x_dup 54 rfl rfl rfl ?_
  refine g_572_41 320 57 rfl rfl ((rd_na (Ne.symm (by decide))).trans ((rd_na (Ne.symm (by decide))).trans ((rd_na (Ne.symm (by decide))).trans ((rd_na (Ne.symm (by decide))).trans ((rd_na (Ne.symm (by decide))).trans hS.1.1))))) rfl ?_
  refine x_cst (zi 1) 1 58 rfl rfl rfl ?_
  refine z_add 59 rfl rfl ?_
  refine s_572_41 320 62 rfl rfl rfl rfl rfl rfl ?_
  refine x_rtv rfl rfl ?_
  refine ⟨none, _, rfl, rfl, rfl, ⟨⟨?_, fun i hi => ?_⟩, ?_, ?_⟩, ?_⟩
  · rw [rd_eq, List.length_append]; rfl
  · rw [List.length_append, List.length_singleton] at hi
    rcases Nat.eq_or_lt_of_le (Nat.le_of_lt_succ hi) with e | e
    · subst e
      rw [snoc_at]
      exact ⟨(rd_na (by decide)).trans ((rd_na (by decide)).trans ((rd_na (by decide)).trans ((rd_na (by decide)).trans ((rd_na (by decide)).trans (rd_eq))))), (rd_na (by decide)).trans ((rd_na (by decide)).trans ((rd_na (by decide)).trans ((rd_na (by decide)).trans (rd_eq)))), (rd_na (by decide)).trans ((rd_na (by decide)).trans ((rd_na (by decide)).trans (rd_eq))), (rd_na (by decide)).trans ((rd_na (by decide)).trans (rd_eq)), (rd_na (by decide)).trans (rd_eq)⟩
    · rw [snoc_lt e]
      have q := hS.1.2 i e
      exact ⟨(rd_na (by decide)).trans ((rd_na (by decide)).trans ((rd_na (by decide)).trans ((rd_na (by decide)).trans ((rd_na (by decide)).trans ((rd_nk (by omega)).trans (q.1)))))), (rd_na (by decide)).trans ((rd_na (by decide)).trans ((rd_na (by decide)).trans ((rd_na (by decide)).trans ((rd_nk (by omega)).trans ((rd_na (by decide)).trans (q.2.1)))))), (rd_na (by decide)).trans ((rd_na (by decide)).trans ((rd_na (by decide)).trans ((rd_nk (by omega)).trans ((rd_na (by decide)).trans ((rd_na (by decide)).trans (q.2.2.1)))))), (rd_na (by decide)).trans ((rd_na (by decide)).trans ((rd_nk (by omega)).trans ((rd_na (by decide)).trans ((rd_na (by decide)).trans ((rd_na (by decide)).trans (q.2.2.2.1)))))), (rd_na (by decide)).trans ((rd_nk (by omega)).trans ((rd_na (by decide)).trans ((rd_na (by decide)).trans ((rd_na (by decide)).trans ((rd_na (by decide)).trans (q.2.2.2.2))))))⟩
  · exact (rd_nk (by decide)).trans ((rd_na (by decide)).trans ((rd_na (by decide)).trans ((rd_na (by decide)).trans ((rd_na (by decide)).trans ((rd_na (by decide)).trans (hS.2.1))))))
  · rw [sI_ne (by decide), sI_ne (by decide), sI_ne (by decide), sI_ne (by decide), sI_ne (by decide), sI_ne (by decide)]; exact hS.2.2
  · exact ⟨fun a h1 h2 => by rw [sI_ne h1, sI_ne (by omega), sI_ne (by omega), sI_ne (by omega), sI_ne (by omega), sI_ne (by omega)], fun j h1 => (rd_nk (fun e => h1 (.inr (.inl e)))).trans ((rd_na (by decide)).trans ((rd_na (by decide)).trans ((rd_na (by decide)).trans ((rd_na (by decide)).trans (rd_na (by decide)))))), rfl⟩
theorem c153 (d : Nat) {bs : List cI} {u : List Nat} (hS : ctS M bs u) (hu : u.length < 256) {x : Nat} : ab_Z (pg_G L xs) (d + 1) 153 [.ref 572, zi (x : Nat)] M es (fun v M' => v = none ∧ ctS M' bs (u ++ [x]) ∧ Fc M M') := by
  show ab_W (pg_G L xs) (ab_X (pg_G L xs) d) 153 _ 0 [some (.ref 572), some (zi ((x : Nat) : Int))] [] (hp M ++ es)
  refine x_ld 0 1 2 1 rfl rfl rfl rfl rfl ?_
  refine g_572_39 93 4 rfl rfl rfl ?_
  refine x_ld 0 1 2 5 rfl rfl rfl rfl rfl ?_
  refine g_572_40 278 8 rfl rfl hS.2.1 rfl ?_
  refine x_ld 1 1 0 9 rfl rfl rfl rfl rfl ?_
  refine z_ist 10 rfl i_598 rfl ⟨by omega, by omega⟩ rfl ?_
  refine x_ld 0 1 2 11 rfl rfl rfl rfl rfl ?_
  refine x_dup 12 rfl rfl rfl ?_
  refine g_572_40 278 15 rfl rfl ((rd_na (Ne.symm (by decide))).trans hS.2.1) rfl ?_
  refine x_cst (zi 1) 1 16 rfl rfl rfl ?_
  refine z_add 17 rfl rfl ?_
  refine s_572_40 278 20 rfl rfl rfl rfl rfl rfl ?_
  refine x_rtv rfl rfl ?_
  refine ⟨none, _, rfl, rfl, rfl, ⟨⟨?_, fun i hi => ?_⟩, ?_, ?_⟩, ?_⟩
  · exact (rd_nk (by decide)).trans ((rd_na (by decide)).trans hS.1.1)
  · have q := hS.1.2 i hi
    exact ⟨(rd_na (by decide)).trans ((rd_na (by decide)).trans q.1), (rd_na (by decide)).trans ((rd_na (by decide)).trans q.2.1), (rd_na (by decide)).trans ((rd_na (by decide)).trans q.2.2.1), (rd_na (by decide)).trans ((rd_na (by decide)).trans q.2.2.2.1), (rd_na (by decide)).trans ((rd_na (by decide)).trans q.2.2.2.2)⟩
  · rw [rd_eq, List.length_append]; rfl
  · rw [sI_ne (by decide)]
    exact roL_snoc hS.2.2 (fun i hi => rd_nk (by omega)) rd_eq
  · exact ⟨fun a h1 h2 => by rw [sI_ne h1, sI_ne (by omega)], fun j h1 => (rd_nk (fun e => h1 (.inl e))).trans (rd_na (by decide)), rfl⟩
theorem c152n_0a (d : Nat) {ps : Nat → prt} {c : Nat} (hm : mdl M ps c) {k : Nat} (hk : k < c) {w : List Nat} (hw : tx_L w) (h6 : w.length ≤ 6) (ms : (sts ps k).2 (tx_num w) = true) {f : Nat} (hf : f + w.length ≤ 6) (hr : roL (M.1 597) f w) {bs : List cI} (hbs : bs.length + 6 ≤ 256) {u : List Nat} (hu : u.length < 256) (hS : ctS M bs u) (hK : (ps k).1 = 0) (hT : (ps k).2.2.2 = 0) : ab_Z (pg_G L xs) (d + 4) 152 [.ref 572, zi (k : Nat), zi (f : Nat), zi (w.length : Nat), zi (-1), zi 0] M es (fun v M' => v = none ∧ ctS M' (bs ++ []) (u ++ w) ∧ Fc M M') := by
  have hc31 := hm.1
  obtain ⟨hwf, hok, qkd, qlf, qrt, qlt, _, _⟩ := hm.2 k hk
  have hl := hwf.2.2.2
  rw [hK] at qkd qlf qrt
  rw [show mKd 0 (ps k).2.2.2 = (if (ps k).2.2.2 = 0 then 1 else 0) from rfl] at qkd
  have hkd : M.1 576 (k : Int) = 1 := by rw [qkd, if_pos hT]
  have hlf : M.1 577 (k : Int) = -1 := qlf
  have hrt : M.1 578 (k : Int) = -1 := qrt
  have g := (mdl_gds hm k hk).2
  rw [show pK (pgo ps) k = 0 from hK] at g
  have h1 := one_len hw ((g.2 _).symm.trans ms)
  have hr0 : M.1 597 (f : Int) = ((w[0]! : Nat) : Int) := by have := hr 0 (by omega); rwa [Nat.add_zero] at this
  have hw1 : w = [w[0]!] := by obtain ⟨a, ha⟩ := List.length_eq_one_iff.mp h1; rw [ha]; rfl
  show ab_W (pg_G L xs) (ab_X (pg_G L xs) (d + 3)) 152 _ 0 [some (.ref 572), some (zi ((k : Nat) : Int)), some (zi ((f : Nat) : Int)), some (zi ((w.length : Nat) : Int)), some (zi (-1)), some (zi 0), none, none, none, none, none, none, none] [] (hp M ++ es)
  refine x_ld 0 1 2 1 rfl rfl rfl rfl rfl ?_
  refine g_572_8 22 4 rfl rfl rfl ?_
  refine x_ld 1 1 0 5 rfl rfl rfl rfl rfl ?_
  refine z_ild (-1) 6 rfl i_577 rfl ⟨by omega, by omega⟩ hlf rfl ?_
  refine x_st 6 2 0 8 [some (.ref 572), some (zi ((k : Nat) : Int)), some (zi ((f : Nat) : Int)), some (zi ((w.length : Nat) : Int)), some (zi (-1)), some (zi 0), some (zi (-1)), none, none, none, none, none, none] rfl rfl rfl (Nat.le_of_ble_eq_true rfl) rfl rfl ?_
  refine x_ld 0 1 2 9 rfl rfl rfl rfl rfl ?_
  refine g_572_9 25 12 rfl rfl rfl ?_
  refine x_ld 1 1 0 13 rfl rfl rfl rfl rfl ?_
  refine z_ild (-1) 14 rfl i_578 rfl ⟨by omega, by omega⟩ hrt rfl ?_
  refine x_st 7 2 0 16 [some (.ref 572), some (zi ((k : Nat) : Int)), some (zi ((f : Nat) : Int)), some (zi ((w.length : Nat) : Int)), some (zi (-1)), some (zi 0), some (zi (-1)), some (zi (-1)), none, none, none, none, none] rfl rfl rfl (Nat.le_of_ble_eq_true rfl) rfl rfl ?_
  refine x_ld 0 1 2 17 rfl rfl rfl rfl rfl ?_
  refine g_572_7 19 20 rfl rfl rfl ?_
  refine x_ld 1 1 0 21 rfl rfl rfl rfl rfl ?_
  refine z_ild 1 22 rfl i_576 rfl ⟨by omega, by omega⟩ hkd rfl ?_
  refine x_tin 76 rfl (by decide) (by decide) rfl rfl ?_
  refine x_ld 0 1 2 77 rfl rfl rfl rfl rfl ?_
  refine x_ld 0 1 2 78 rfl rfl rfl rfl rfl ?_
  refine g_572_38 90 81 rfl rfl rfl ?_
  refine x_ld 2 1 0 82 rfl rfl rfl rfl rfl ?_
  refine z_ild ((w[0]! : Nat) : Int) 83 rfl i_597 rfl ⟨by omega, by omega⟩ hr0 rfl ?_
  refine x_ce 329 153 86 [.ref 572, zi ((w[0]! : Nat) : Int)] rfl rfl rfl (Nat.le_of_ble_eq_true rfl) rfl rfl (Nat.le_of_ble_eq_true rfl) ⟨_, _, _, rfl, o_572⟩ (Nat.le_of_ble_eq_true rfl) (c153 (d + 2) hS hu) rfl ?_
  rintro v M2 ⟨rfl, hS2, hF2⟩
  refine x_go 368 rfl rfl ?_
  refine x_rtv rfl rfl ?_
  exact ⟨none, M2, rfl, rfl, rfl, by rw [List.append_nil, hw1]; exact hS2, hF2⟩
theorem c152n_0b (d : Nat) {ps : Nat → prt} {c : Nat} (hm : mdl M ps c) {k : Nat} (hk : k < c) {w : List Nat} (hw : tx_L w) (h6 : w.length ≤ 6) (ms : (sts ps k).2 (tx_num w) = true) {f : Nat} (hf : f + w.length ≤ 6) (hr : roL (M.1 597) f w) {bs : List cI} (hbs : bs.length + 6 ≤ 256) {u : List Nat} (hu : u.length < 256) (hS : ctS M bs u) (hK : (ps k).1 = 0) (hT : ¬ (ps k).2.2.2 = 0) : ab_Z (pg_G L xs) (d + 4) 152 [.ref 572, zi (k : Nat), zi (f : Nat), zi (w.length : Nat), zi (-1), zi 0] M es (fun v M' => v = none ∧ ctS M' (bs ++ []) (u ++ w) ∧ Fc M M') := by
  have hc31 := hm.1
  obtain ⟨hwf, hok, qkd, qlf, qrt, qlt, _, _⟩ := hm.2 k hk
  have hl := hwf.2.2.2
  rw [hK] at qkd qlf qrt
  rw [show mKd 0 (ps k).2.2.2 = (if (ps k).2.2.2 = 0 then 1 else 0) from rfl] at qkd
  have hkd : M.1 576 (k : Int) = 0 := by rw [qkd, if_neg hT]
  have hlf : M.1 577 (k : Int) = -1 := qlf
  have hrt : M.1 578 (k : Int) = -1 := qrt
  have g := (mdl_gds hm k hk).2
  rw [show pK (pgo ps) k = 0 from hK] at g
  have h1 := one_len hw ((g.2 _).symm.trans ms)
  have hr0 : M.1 597 (f : Int) = ((w[0]! : Nat) : Int) := by have := hr 0 (by omega); rwa [Nat.add_zero] at this
  have hw1 : w = [w[0]!] := by obtain ⟨a, ha⟩ := List.length_eq_one_iff.mp h1; rw [ha]; rfl
  show ab_W (pg_G L xs) (ab_X (pg_G L xs) (d + 3)) 152 _ 0 [some (.ref 572), some (zi ((k : Nat) : Int)), some (zi ((f : Nat) : Int)), some (zi ((w.length : Nat) : Int)), some (zi (-1)), some (zi 0), none, none, none, none, none, none, none] [] (hp M ++ es)
  refine x_ld 0 1 2 1 rfl rfl rfl rfl rfl ?_
  refine g_572_8 22 4 rfl rfl rfl ?_
  refine x_ld 1 1 0 5 rfl rfl rfl rfl rfl ?_
  refine z_ild (-1) 6 rfl i_577 rfl ⟨by omega, by omega⟩ hlf rfl ?_
  refine x_st 6 2 0 8 [some (.ref 572), some (zi ((k : Nat) : Int)), some (zi ((f : Nat) : Int)), some (zi ((w.length : Nat) : Int)), some (zi (-1)), some (zi 0), some (zi (-1)), none, none, none, none, none, none] rfl rfl rfl (Nat.le_of_ble_eq_true rfl) rfl rfl ?_
  refine x_ld 0 1 2 9 rfl rfl rfl rfl rfl ?_
  refine g_572_9 25 12 rfl rfl rfl ?_
  refine x_ld 1 1 0 13 rfl rfl rfl rfl rfl ?_
  refine z_ild (-1) 14 rfl i_578 rfl ⟨by omega, by omega⟩ hrt rfl ?_
  refine x_st 7 2 0 16 [some (.ref 572), some (zi ((k : Nat) : Int)), some (zi ((f : Nat) : Int)), some (zi ((w.length : Nat) : Int)), some (zi (-1)), some (zi 0), some (zi (-1)), some (zi (-1)), none, none, none, none, none] rfl rfl rfl (Nat.le_of_ble_eq_true rfl) rfl rfl ?_
  refine x_ld 0 1 2 17 rfl rfl rfl rfl rfl ?_
  refine g_572_7 19 20 rfl rfl rfl ?_
  refine x_ld 1 1 0 21 rfl rfl rfl rfl rfl ?_
  refine z_ild 0 22 rfl i_576 rfl ⟨by omega, by omega⟩ hkd rfl ?_
  refine x_tin 76 rfl (by decide) (by decide) rfl rfl ?_
  refine x_ld 0 1 2 77 rfl rfl rfl rfl rfl ?_
  refine x_ld 0 1 2 78 rfl rfl rfl rfl rfl ?_
  refine g_572_38 90 81 rfl rfl rfl ?_
  refine x_ld 2 1 0 82 rfl rfl rfl rfl rfl ?_
  refine z_ild ((w[0]! : Nat) : Int) 83 rfl i_597 rfl ⟨by omega, by omega⟩ hr0 rfl ?_
  refine x_ce 329 153 86 [.ref 572, zi ((w[0]! : Nat) : Int)] rfl rfl rfl (Nat.le_of_ble_eq_true rfl) rfl rfl (Nat.le_of_ble_eq_true rfl) ⟨_, _, _, rfl, o_572⟩ (Nat.le_of_ble_eq_true rfl) (c153 (d + 2) hS hu) rfl ?_
  rintro v M2 ⟨rfl, hS2, hF2⟩
  refine x_go 368 rfl rfl ?_
  refine x_rtv rfl rfl ?_
  exact ⟨none, M2, rfl, rfl, rfl, by rw [List.append_nil, hw1]; exact hS2, hF2⟩
theorem c152n_1a (d : Nat) {ps : Nat → prt} {c : Nat} (hm : mdl M ps c) {k : Nat} (hk : k < c) {w : List Nat} (hw : tx_L w) (h6 : w.length ≤ 6) (ms : (sts ps k).2 (tx_num w) = true) {f : Nat} (hf : f + w.length ≤ 6) (hr : roL (M.1 597) f w) {bs : List cI} (hbs : bs.length + 6 ≤ 256) {u : List Nat} (hu : u.length < 256) (hS : ctS M bs u) (hK : (ps k).1 = 1) (hT : (ps k).2.2.2 = 0) : ab_Z (pg_G L xs) (d + 4) 152 [.ref 572, zi (k : Nat), zi (f : Nat), zi (w.length : Nat), zi (-1), zi 0] M es (fun v M' => v = none ∧ ctS M' (bs ++ []) (u ++ [(ps k).2.2.2 - 1]) ∧ Fc M M') := by
  have hc31 := hm.1
  obtain ⟨hwf, hok, qkd, qlf, qrt, qlt, _, _⟩ := hm.2 k hk
  have hl := hwf.2.2.2
  rw [hK] at qkd qlf qrt
  have hkd : M.1 576 (k : Int) = 2 := qkd
  have hlf : M.1 577 (k : Int) = -1 := qlf
  have hrt : M.1 578 (k : Int) = -1 := qrt
  have hlt := qlt (by omega)
  unfold mLt at hlt
  have hT3 := hwf.2.1
  have hlt4 : M.1 579 (k : Int) = 4 := by rw [hlt, if_pos hT]
  have hx0 : ((0 : Int)) = (((ps k).2.2.2 - 1 : Nat) : Int) := by omega
  show ab_W (pg_G L xs) (ab_X (pg_G L xs) (d + 3)) 152 _ 0 [some (.ref 572), some (zi ((k : Nat) : Int)), some (zi ((f : Nat) : Int)), some (zi ((w.length : Nat) : Int)), some (zi (-1)), some (zi 0), none, none, none, none, none, none, none] [] (hp M ++ es)
  refine x_ld 0 1 2 1 rfl rfl rfl rfl rfl ?_
  refine g_572_8 22 4 rfl rfl rfl ?_
  refine x_ld 1 1 0 5 rfl rfl rfl rfl rfl ?_
  refine z_ild (-1) 6 rfl i_577 rfl ⟨by omega, by omega⟩ hlf rfl ?_
  refine x_st 6 2 0 8 [some (.ref 572), some (zi ((k : Nat) : Int)), some (zi ((f : Nat) : Int)), some (zi ((w.length : Nat) : Int)), some (zi (-1)), some (zi 0), some (zi (-1)), none, none, none, none, none, none] rfl rfl rfl (Nat.le_of_ble_eq_true rfl) rfl rfl ?_
  refine x_ld 0 1 2 9 rfl rfl rfl rfl rfl ?_
  refine g_572_9 25 12 rfl rfl rfl ?_
  refine x_ld 1 1 0 13 rfl rfl rfl rfl rfl ?_
  refine z_ild (-1) 14 rfl i_578 rfl ⟨by omega, by omega⟩ hrt rfl ?_
  refine x_st 7 2 0 16 [some (.ref 572), some (zi ((k : Nat) : Int)), some (zi ((f : Nat) : Int)), some (zi ((w.length : Nat) : Int)), some (zi (-1)), some (zi 0), some (zi (-1)), some (zi (-1)), none, none, none, none, none] rfl rfl rfl (Nat.le_of_ble_eq_true rfl) rfl rfl ?_
  refine x_ld 0 1 2 17 rfl rfl rfl rfl rfl ?_
  refine g_572_7 19 20 rfl rfl rfl ?_
  refine x_ld 1 1 0 21 rfl rfl rfl rfl rfl ?_
  refine z_ild 2 22 rfl i_576 rfl ⟨by omega, by omega⟩ hkd rfl ?_
  refine x_tin 89 rfl (by decide) (by decide) rfl rfl ?_
  refine x_ld 0 1 2 90 rfl rfl rfl rfl rfl ?_
  refine x_ld 4 2 0 92 rfl rfl rfl rfl rfl ?_
  refine z_iflt 105 95 rfl rfl rfl (rg_lit (-1) rfl) (fun _ => ?_) (fun c => absurd c (by decide))
  refine x_ld 0 1 2 106 rfl rfl rfl rfl rfl ?_
  refine g_572_10 28 109 rfl rfl rfl ?_
  refine x_ld 1 1 0 110 rfl rfl rfl rfl rfl ?_
  refine z_ild 4 111 rfl i_579 rfl ⟨by omega, by omega⟩ hlt4 rfl ?_
  refine x_cst (zi 4) 1 112 rfl rfl rfl ?_
  refine z_icne 119 115 rfl rfl rfl (rg_lit 4 rfl) (rg_lit 4 rfl) (fun c => absurd c (by decide)) (fun _ => ?_)
  refine x_cst (zi 0) 1 116 rfl rfl rfl ?_
  refine x_go 125 rfl rfl ?_
  refine x_ce 329 153 128 [.ref 572, zi 0] rfl rfl rfl (Nat.le_of_ble_eq_true rfl) rfl rfl (Nat.le_of_ble_eq_true rfl) ⟨_, _, _, rfl, o_572⟩ (Nat.le_of_ble_eq_true rfl) (c153 (d + 2) (x := 0) hS hu) rfl ?_
  rintro v M2 ⟨rfl, hS2, hF2⟩
  refine x_go 368 rfl rfl ?_
  refine x_rtv rfl rfl ?_
  exact ⟨none, M2, rfl, rfl, rfl, by rw [List.append_nil, show (ps k).2.2.2 - 1 = 0 by omega]; exact hS2, hF2⟩
theorem c152n_1b (d : Nat) {ps : Nat → prt} {c : Nat} (hm : mdl M ps c) {k : Nat} (hk : k < c) {w : List Nat} (hw : tx_L w) (h6 : w.length ≤ 6) (ms : (sts ps k).2 (tx_num w) = true) {f : Nat} (hf : f + w.length ≤ 6) (hr : roL (M.1 597) f w) {bs : List cI} (hbs : bs.length + 6 ≤ 256) {u : List Nat} (hu : u.length < 256) (hS : ctS M bs u) (hK : (ps k).1 = 1) (hT : ¬ (ps k).2.2.2 = 0) : ab_Z (pg_G L xs) (d + 4) 152 [.ref 572, zi (k : Nat), zi (f : Nat), zi (w.length : Nat), zi (-1), zi 0] M es (fun v M' => v = none ∧ ctS M' (bs ++ []) (u ++ [(ps k).2.2.2 - 1]) ∧ Fc M M') := by
  have hc31 := hm.1
  obtain ⟨hwf, hok, qkd, qlf, qrt, qlt, _, _⟩ := hm.2 k hk
  have hl := hwf.2.2.2
  rw [hK] at qkd qlf qrt
  have hkd : M.1 576 (k : Int) = 2 := qkd
  have hlf : M.1 577 (k : Int) = -1 := qlf
  have hrt : M.1 578 (k : Int) = -1 := qrt
  have hlt := qlt (by omega)
  unfold mLt at hlt
  have hT3 := hwf.2.1
  have hlt4 : M.1 579 (k : Int) = (((ps k).2.2.2 - 1 : Nat) : Int) := by rw [hlt, if_neg hT]; omega
  show ab_W (pg_G L xs) (ab_X (pg_G L xs) (d + 3)) 152 _ 0 [some (.ref 572), some (zi ((k : Nat) : Int)), some (zi ((f : Nat) : Int)), some (zi ((w.length : Nat) : Int)), some (zi (-1)), some (zi 0), none, none, none, none, none, none, none] [] (hp M ++ es)
  refine x_ld 0 1 2 1 rfl rfl rfl rfl rfl ?_
  refine g_572_8 22 4 rfl rfl rfl ?_
  refine x_ld 1 1 0 5 rfl rfl rfl rfl rfl ?_
  refine z_ild (-1) 6 rfl i_577 rfl ⟨by omega, by omega⟩ hlf rfl ?_
  refine x_st 6 2 0 8 [some (.ref 572), some (zi ((k : Nat) : Int)), some (zi ((f : Nat) : Int)), some (zi ((w.length : Nat) : Int)), some (zi (-1)), some (zi 0), some (zi (-1)), none, none, none, none, none, none] rfl rfl rfl (Nat.le_of_ble_eq_true rfl) rfl rfl ?_
  refine x_ld 0 1 2 9 rfl rfl rfl rfl rfl ?_
  refine g_572_9 25 12 rfl rfl rfl ?_
  refine x_ld 1 1 0 13 rfl rfl rfl rfl rfl ?_
  refine z_ild (-1) 14 rfl i_578 rfl ⟨by omega, by omega⟩ hrt rfl ?_
  refine x_st 7 2 0 16 [some (.ref 572), some (zi ((k : Nat) : Int)), some (zi ((f : Nat) : Int)), some (zi ((w.length : Nat) : Int)), some (zi (-1)), some (zi 0), some (zi (-1)), some (zi (-1)), none, none, none, none, none] rfl rfl rfl (Nat.le_of_ble_eq_true rfl) rfl rfl ?_
  refine x_ld 0 1 2 17 rfl rfl rfl rfl rfl ?_
  refine g_572_7 19 20 rfl rfl rfl ?_
  refine x_ld 1 1 0 21 rfl rfl rfl rfl rfl ?_
  refine z_ild 2 22 rfl i_576 rfl ⟨by omega, by omega⟩ hkd rfl ?_
  refine x_tin 89 rfl (by decide) (by decide) rfl rfl ?_
  refine x_ld 0 1 2 90 rfl rfl rfl rfl rfl ?_
  refine x_ld 4 2 0 92 rfl rfl rfl rfl rfl ?_
  refine z_iflt 105 95 rfl rfl rfl (rg_lit (-1) rfl) (fun _ => ?_) (fun c => absurd c (by decide))
  refine x_ld 0 1 2 106 rfl rfl rfl rfl rfl ?_
  refine g_572_10 28 109 rfl rfl rfl ?_
  refine x_ld 1 1 0 110 rfl rfl rfl rfl rfl ?_
  refine z_ild (((ps k).2.2.2 - 1 : Nat) : Int) 111 rfl i_579 rfl ⟨by omega, by omega⟩ hlt4 rfl ?_
  refine x_cst (zi 4) 1 112 rfl rfl rfl ?_
  refine z_icne 119 115 rfl rfl rfl ⟨by omega, by omega⟩ (rg_lit 4 rfl) (fun _ => ?_) (fun c => absurd c (by omega))
  refine x_ld 0 1 2 120 rfl rfl rfl rfl rfl ?_
  refine g_572_10 28 123 rfl rfl rfl ?_
  refine x_ld 1 1 0 124 rfl rfl rfl rfl rfl ?_
  refine z_ild (((ps k).2.2.2 - 1 : Nat) : Int) 125 rfl i_579 rfl ⟨by omega, by omega⟩ hlt4 rfl ?_
  refine x_ce 329 153 128 [.ref 572, zi (((ps k).2.2.2 - 1 : Nat) : Int)] rfl rfl rfl (Nat.le_of_ble_eq_true rfl) rfl rfl (Nat.le_of_ble_eq_true rfl) ⟨_, _, _, rfl, o_572⟩ (Nat.le_of_ble_eq_true rfl) (c153 (d + 2) (x := (ps k).2.2.2 - 1) hS hu) rfl ?_
  rintro v M2 ⟨rfl, hS2, hF2⟩
  refine x_go 368 rfl rfl ?_
  refine x_rtv rfl rfl ?_
  exact ⟨none, M2, rfl, rfl, rfl, by rw [List.append_nil]; exact hS2, hF2⟩
theorem c152n_2 (d : Nat) {ps : Nat → prt} {c : Nat} (hm : mdl M ps c) {k : Nat} (hk : k < c) {w : List Nat} (hw : tx_L w) (h6 : w.length ≤ 6) (ms : (sts ps k).2 (tx_num w) = true) {f : Nat} (hf : f + w.length ≤ 6) (hr : roL (M.1 597) f w) {bs : List cI} (hbs : bs.length + 6 ≤ 256) {u : List Nat} (hu : u.length < 256) (hS : ctS M bs u) (hK : (ps k).1 = 2) : ab_Z (pg_G L xs) (d + 4) 152 [.ref 572, zi (k : Nat), zi (f : Nat), zi (w.length : Nat), zi (-1), zi 0] M es (fun v M' => v = none ∧ ctS M' (bs ++ []) (u ++ []) ∧ Fc M M') := by
  have hc31 := hm.1
  obtain ⟨hwf, hok, qkd, qlf, qrt, qlt, _, _⟩ := hm.2 k hk
  have hl := hwf.2.2.2
  rw [hK] at qkd qlf qrt
  have hkd : M.1 576 (k : Int) = 3 := qkd
  have hlf : M.1 577 (k : Int) = -1 := qlf
  have hrt : M.1 578 (k : Int) = -1 := qrt
  show ab_W (pg_G L xs) (ab_X (pg_G L xs) (d + 3)) 152 _ 0 [some (.ref 572), some (zi ((k : Nat) : Int)), some (zi ((f : Nat) : Int)), some (zi ((w.length : Nat) : Int)), some (zi (-1)), some (zi 0), none, none, none, none, none, none, none] [] (hp M ++ es)
  refine x_ld 0 1 2 1 rfl rfl rfl rfl rfl ?_
  refine g_572_8 22 4 rfl rfl rfl ?_
  refine x_ld 1 1 0 5 rfl rfl rfl rfl rfl ?_
  refine z_ild (-1) 6 rfl i_577 rfl ⟨by omega, by omega⟩ hlf rfl ?_
  refine x_st 6 2 0 8 [some (.ref 572), some (zi ((k : Nat) : Int)), some (zi ((f : Nat) : Int)), some (zi ((w.length : Nat) : Int)), some (zi (-1)), some (zi 0), some (zi (-1)), none, none, none, none, none, none] rfl rfl rfl (Nat.le_of_ble_eq_true rfl) rfl rfl ?_
  refine x_ld 0 1 2 9 rfl rfl rfl rfl rfl ?_
  refine g_572_9 25 12 rfl rfl rfl ?_
  refine x_ld 1 1 0 13 rfl rfl rfl rfl rfl ?_
  refine z_ild (-1) 14 rfl i_578 rfl ⟨by omega, by omega⟩ hrt rfl ?_
  refine x_st 7 2 0 16 [some (.ref 572), some (zi ((k : Nat) : Int)), some (zi ((f : Nat) : Int)), some (zi ((w.length : Nat) : Int)), some (zi (-1)), some (zi 0), some (zi (-1)), some (zi (-1)), none, none, none, none, none] rfl rfl rfl (Nat.le_of_ble_eq_true rfl) rfl rfl ?_
  refine x_ld 0 1 2 17 rfl rfl rfl rfl rfl ?_
  refine g_572_7 19 20 rfl rfl rfl ?_
  refine x_ld 1 1 0 21 rfl rfl rfl rfl rfl ?_
  refine z_ild 3 22 rfl i_576 rfl ⟨by omega, by omega⟩ hkd rfl ?_
  refine x_tin 131 rfl (by decide) (by decide) rfl rfl ?_
  refine x_go 368 rfl rfl ?_
  refine x_rtv rfl rfl ?_
  exact ⟨none, M, rfl, rfl, rfl, by rw [List.append_nil, List.append_nil]; exact hS, Fc_refl M⟩
theorem c152n_3 (d : Nat) {ps : Nat → prt} {c : Nat} (hm : mdl M ps c) {k : Nat} (hk : k < c) {w : List Nat} (hw : tx_L w) (h6 : w.length ≤ 6) (ms : (sts ps k).2 (tx_num w) = true) {f : Nat} (hf : f + w.length ≤ 6) (hr : roL (M.1 597) f w) {bs : List cI} (hbs : bs.length + 6 ≤ 256) {u : List Nat} (hu : u.length < 256) (hS : ctS M bs u) (hK : (ps k).1 = 3) : ab_Z (pg_G L xs) (d + 4) 152 [.ref 572, zi (k : Nat), zi (f : Nat), zi (w.length : Nat), zi (-1), zi 0] M es (fun v M' => v = none ∧ ctS M' (bs ++ [((ps k).2.1, f, w.length, -1, 0)]) (u ++ []) ∧ Fc M M') := by
  have hc31 := hm.1
  obtain ⟨hwf, hok, qkd, qlf, qrt, qlt, _, _⟩ := hm.2 k hk
  have hl := hwf.2.2.2
  rw [hK] at qkd qlf qrt
  have hkd : M.1 576 (k : Int) = 6 := qkd
  have hlf : M.1 577 (k : Int) = (((ps k).2.1 : Nat) : Int) := qlf
  have hrt : M.1 578 (k : Int) = -1 := qrt
  have hlk := hl (by omega)
  have al := (hm.2 _ (Nat.lt_trans hlk.1 hk)).2.2.2.2.2.2.2
  have sl := (hm.2 _ (Nat.lt_trans hlk.1 hk)).2.2.2.2.2.2.1
  show ab_W (pg_G L xs) (ab_X (pg_G L xs) (d + 3)) 152 _ 0 [some (.ref 572), some (zi ((k : Nat) : Int)), some (zi ((f : Nat) : Int)), some (zi ((w.length : Nat) : Int)), some (zi (-1)), some (zi 0), none, none, none, none, none, none, none] [] (hp M ++ es)
  refine x_ld 0 1 2 1 rfl rfl rfl rfl rfl ?_
  refine g_572_8 22 4 rfl rfl rfl ?_
  refine x_ld 1 1 0 5 rfl rfl rfl rfl rfl ?_
  refine z_ild (((ps k).2.1 : Nat) : Int) 6 rfl i_577 rfl ⟨by omega, by omega⟩ hlf rfl ?_
  refine x_st 6 2 0 8 [some (.ref 572), some (zi ((k : Nat) : Int)), some (zi ((f : Nat) : Int)), some (zi ((w.length : Nat) : Int)), some (zi (-1)), some (zi 0), some (zi (((ps k).2.1 : Nat) : Int)), none, none, none, none, none, none] rfl rfl rfl (Nat.le_of_ble_eq_true rfl) rfl rfl ?_
  refine x_ld 0 1 2 9 rfl rfl rfl rfl rfl ?_
  refine g_572_9 25 12 rfl rfl rfl ?_
  refine x_ld 1 1 0 13 rfl rfl rfl rfl rfl ?_
  refine z_ild (-1) 14 rfl i_578 rfl ⟨by omega, by omega⟩ hrt rfl ?_
  refine x_st 7 2 0 16 [some (.ref 572), some (zi ((k : Nat) : Int)), some (zi ((f : Nat) : Int)), some (zi ((w.length : Nat) : Int)), some (zi (-1)), some (zi 0), some (zi (((ps k).2.1 : Nat) : Int)), some (zi (-1)), none, none, none, none, none] rfl rfl rfl (Nat.le_of_ble_eq_true rfl) rfl rfl ?_
  refine x_ld 0 1 2 17 rfl rfl rfl rfl rfl ?_
  refine g_572_7 19 20 rfl rfl rfl ?_
  refine x_ld 1 1 0 21 rfl rfl rfl rfl rfl ?_
  refine z_ild 6 22 rfl i_576 rfl ⟨by omega, by omega⟩ hkd rfl ?_
  refine x_tin 134 rfl (by decide) (by decide) rfl rfl ?_
  refine x_ld 0 1 2 135 rfl rfl rfl rfl rfl ?_
  refine x_ld 6 2 0 137 rfl rfl rfl rfl rfl ?_
  refine x_ld 2 1 0 138 rfl rfl rfl rfl rfl ?_
  refine x_ld 3 1 0 139 rfl rfl rfl rfl rfl ?_
  refine x_ld 4 2 0 141 rfl rfl rfl rfl rfl ?_
  refine x_ld 5 2 0 143 rfl rfl rfl rfl rfl ?_
  refine x_ce 323 151 146 [.ref 572, zi (((ps k).2.1 : Nat) : Int), zi ((f : Nat) : Int), zi ((w.length : Nat) : Int), zi (-1), zi 0] rfl rfl rfl (Nat.le_of_ble_eq_true rfl) rfl rfl (Nat.le_of_ble_eq_true rfl) ⟨_, _, _, rfl, o_572⟩ (Nat.le_of_ble_eq_true rfl) (c151 (d + 2) (m := 0) hS (by omega)) rfl ?_
  rintro v M2 ⟨rfl, hS2, hF2⟩
  refine x_go 368 rfl rfl ?_
  refine x_rtv rfl rfl ?_
  exact ⟨none, M2, rfl, rfl, rfl, by rw [List.append_nil]; exact hS2, hF2⟩
theorem c152n_4 (d : Nat) {ps : Nat → prt} {c : Nat} (hm : mdl M ps c) {k : Nat} (hk : k < c) {w : List Nat} (hw : tx_L w) (h6 : w.length ≤ 6) (ms : (sts ps k).2 (tx_num w) = true) {f : Nat} (hf : f + w.length ≤ 6) (hr : roL (M.1 597) f w) {bs : List cI} (hbs : bs.length + 6 ≤ 256) {u : List Nat} (hu : u.length < 256) (hS : ctS M bs u) (hK : (ps k).1 = 4) {ch : List cI} (c4 : ab_Z (pg_G L xs) (d + 3) 154 [.ref 572, zi (k : Nat), zi (f : Nat), zi (w.length : Nat), zi (-1), zi 0] M es (fun v M' => v = none ∧ ctS M' (bs ++ ch) u ∧ Fc M M')) : ab_Z (pg_G L xs) (d + 4) 152 [.ref 572, zi (k : Nat), zi (f : Nat), zi (w.length : Nat), zi (-1), zi 0] M es (fun v M' => v = none ∧ ctS M' (bs ++ ch) (u ++ []) ∧ Fc M M') := by
  have hc31 := hm.1
  obtain ⟨hwf, hok, qkd, qlf, qrt, qlt, _, _⟩ := hm.2 k hk
  have hl := hwf.2.2.2
  rw [hK] at qkd qlf qrt
  have hkd : M.1 576 (k : Int) = 7 := qkd
  have hlf : M.1 577 (k : Int) = (((ps k).2.1 : Nat) : Int) := qlf
  have hrt : M.1 578 (k : Int) = (((ps k).2.2.1 : Nat) : Int) := qrt
  have hlk := hl (by omega)
  have al := (hm.2 _ (Nat.lt_trans hlk.1 hk)).2.2.2.2.2.2.2
  have sl := (hm.2 _ (Nat.lt_trans hlk.1 hk)).2.2.2.2.2.2.1
  have ar := (hm.2 _ (Nat.lt_trans hlk.2 hk)).2.2.2.2.2.2.2
  have sr := (hm.2 _ (Nat.lt_trans hlk.2 hk)).2.2.2.2.2.2.1
  have hlt9 := num_lt hw h6
  show ab_W (pg_G L xs) (ab_X (pg_G L xs) (d + 3)) 152 _ 0 [some (.ref 572), some (zi ((k : Nat) : Int)), some (zi ((f : Nat) : Int)), some (zi ((w.length : Nat) : Int)), some (zi (-1)), some (zi 0), none, none, none, none, none, none, none] [] (hp M ++ es)
  refine x_ld 0 1 2 1 rfl rfl rfl rfl rfl ?_
  refine g_572_8 22 4 rfl rfl rfl ?_
  refine x_ld 1 1 0 5 rfl rfl rfl rfl rfl ?_
  refine z_ild (((ps k).2.1 : Nat) : Int) 6 rfl i_577 rfl ⟨by omega, by omega⟩ hlf rfl ?_
  refine x_st 6 2 0 8 [some (.ref 572), some (zi ((k : Nat) : Int)), some (zi ((f : Nat) : Int)), some (zi ((w.length : Nat) : Int)), some (zi (-1)), some (zi 0), some (zi (((ps k).2.1 : Nat) : Int)), none, none, none, none, none, none] rfl rfl rfl (Nat.le_of_ble_eq_true rfl) rfl rfl ?_
  refine x_ld 0 1 2 9 rfl rfl rfl rfl rfl ?_
  refine g_572_9 25 12 rfl rfl rfl ?_
  refine x_ld 1 1 0 13 rfl rfl rfl rfl rfl ?_
  refine z_ild (((ps k).2.2.1 : Nat) : Int) 14 rfl i_578 rfl ⟨by omega, by omega⟩ hrt rfl ?_
  refine x_st 7 2 0 16 [some (.ref 572), some (zi ((k : Nat) : Int)), some (zi ((f : Nat) : Int)), some (zi ((w.length : Nat) : Int)), some (zi (-1)), some (zi 0), some (zi (((ps k).2.1 : Nat) : Int)), some (zi (((ps k).2.2.1 : Nat) : Int)), none, none, none, none, none] rfl rfl rfl (Nat.le_of_ble_eq_true rfl) rfl rfl ?_
  refine x_ld 0 1 2 17 rfl rfl rfl rfl rfl ?_
  refine g_572_7 19 20 rfl rfl rfl ?_
  refine x_ld 1 1 0 21 rfl rfl rfl rfl rfl ?_
  refine z_ild 7 22 rfl i_576 rfl ⟨by omega, by omega⟩ hkd rfl ?_
  refine x_tin 149 rfl (by decide) (by decide) rfl rfl ?_
  refine x_ld 0 1 2 150 rfl rfl rfl rfl rfl ?_
  refine x_ld 1 1 0 151 rfl rfl rfl rfl rfl ?_
  refine x_ld 2 1 0 152 rfl rfl rfl rfl rfl ?_
  refine x_ld 3 1 0 153 rfl rfl rfl rfl rfl ?_
  refine x_ld 4 2 0 155 rfl rfl rfl rfl rfl ?_
  refine x_ld 5 2 0 157 rfl rfl rfl rfl rfl ?_
  refine x_ce 332 154 160 [.ref 572, zi ((k : Nat) : Int), zi ((f : Nat) : Int), zi ((w.length : Nat) : Int), zi (-1), zi 0] rfl rfl rfl (Nat.le_of_ble_eq_true rfl) rfl rfl (Nat.le_of_ble_eq_true rfl) ⟨_, _, _, rfl, o_572⟩ (Nat.le_of_ble_eq_true rfl) c4 rfl ?_
  rintro v M2 ⟨rfl, hS2, hF2⟩
  refine x_go 368 rfl rfl ?_
  refine x_rtv rfl rfl ?_
  exact ⟨none, M2, rfl, rfl, rfl, by rw [List.append_nil]; exact hS2, hF2⟩
theorem c152n_5 (d : Nat) {ps : Nat → prt} {c : Nat} (hm : mdl M ps c) {k : Nat} (hk : k < c) {w : List Nat} (hw : tx_L w) (h6 : w.length ≤ 6) (ms : (sts ps k).2 (tx_num w) = true) {f : Nat} (hf : f + w.length ≤ 6) (hr : roL (M.1 597) f w) {bs : List cI} (hbs : bs.length + 6 ≤ 256) {u : List Nat} (hu : u.length < 256) (hS : ctS M bs u) (hK : (ps k).1 = 5) : ab_Z (pg_G L xs) (d + 4) 152 [.ref 572, zi (k : Nat), zi (f : Nat), zi (w.length : Nat), zi (-1), zi 0] M es (fun v M' => v = none ∧ ctS M' (bs ++ [((ps k).2.2.1, f + (cut (sts ps (ps k).2.1).2 (sts ps (ps k).2.2.1).2 w), w.length - (cut (sts ps (ps k).2.1).2 (sts ps (ps k).2.2.1).2 w), -1, 0), ((ps k).2.1, f, (cut (sts ps (ps k).2.1).2 (sts ps (ps k).2.2.1).2 w), -1, 0)]) (u ++ []) ∧ Fc M M') := by
  have hc31 := hm.1
  obtain ⟨hwf, hok, qkd, qlf, qrt, qlt, _, _⟩ := hm.2 k hk
  have hl := hwf.2.2.2
  rw [hK] at qkd qlf qrt
  have hkd : M.1 576 (k : Int) = 4 := qkd
  have hlf : M.1 577 (k : Int) = (((ps k).2.1 : Nat) : Int) := qlf
  have hrt : M.1 578 (k : Int) = (((ps k).2.2.1 : Nat) : Int) := qrt
  have hlk := hl (by omega)
  have al := (hm.2 _ (Nat.lt_trans hlk.1 hk)).2.2.2.2.2.2.2
  have sl := (hm.2 _ (Nat.lt_trans hlk.1 hk)).2.2.2.2.2.2.1
  have ar := (hm.2 _ (Nat.lt_trans hlk.2 hk)).2.2.2.2.2.2.2
  have sr := (hm.2 _ (Nat.lt_trans hlk.2 hk)).2.2.2.2.2.2.1
  have hle : (cut (sts ps (ps k).2.1).2 (sts ps (ps k).2.2.1).2 w) ≤ w.length := cut_le _ _ w
  show ab_W (pg_G L xs) (ab_X (pg_G L xs) (d + 3)) 152 _ 0 [some (.ref 572), some (zi ((k : Nat) : Int)), some (zi ((f : Nat) : Int)), some (zi ((w.length : Nat) : Int)), some (zi (-1)), some (zi 0), none, none, none, none, none, none, none] [] (hp M ++ es)
  refine x_ld 0 1 2 1 rfl rfl rfl rfl rfl ?_
  refine g_572_8 22 4 rfl rfl rfl ?_
  refine x_ld 1 1 0 5 rfl rfl rfl rfl rfl ?_
  refine z_ild (((ps k).2.1 : Nat) : Int) 6 rfl i_577 rfl ⟨by omega, by omega⟩ hlf rfl ?_
  refine x_st 6 2 0 8 [some (.ref 572), some (zi ((k : Nat) : Int)), some (zi ((f : Nat) : Int)), some (zi ((w.length : Nat) : Int)), some (zi (-1)), some (zi 0), some (zi (((ps k).2.1 : Nat) : Int)), none, none, none, none, none, none] rfl rfl rfl (Nat.le_of_ble_eq_true rfl) rfl rfl ?_
  refine x_ld 0 1 2 9 rfl rfl rfl rfl rfl ?_
  refine g_572_9 25 12 rfl rfl rfl ?_
  refine x_ld 1 1 0 13 rfl rfl rfl rfl rfl ?_
  refine z_ild (((ps k).2.2.1 : Nat) : Int) 14 rfl i_578 rfl ⟨by omega, by omega⟩ hrt rfl ?_
  refine x_st 7 2 0 16 [some (.ref 572), some (zi ((k : Nat) : Int)), some (zi ((f : Nat) : Int)), some (zi ((w.length : Nat) : Int)), some (zi (-1)), some (zi 0), some (zi (((ps k).2.1 : Nat) : Int)), some (zi (((ps k).2.2.1 : Nat) : Int)), none, none, none, none, none] rfl rfl rfl (Nat.le_of_ble_eq_true rfl) rfl rfl ?_
  refine x_ld 0 1 2 17 rfl rfl rfl rfl rfl ?_
  refine g_572_7 19 20 rfl rfl rfl ?_
  refine x_ld 1 1 0 21 rfl rfl rfl rfl rfl ?_
  refine z_ild 4 22 rfl i_576 rfl ⟨by omega, by omega⟩ hkd rfl ?_
  refine x_tin 177 rfl (by decide) (by decide) rfl rfl ?_
  refine x_ld 0 1 2 178 rfl rfl rfl rfl rfl ?_
  refine g_572_7 19 181 rfl rfl rfl ?_
  refine x_ld 1 1 0 182 rfl rfl rfl rfl rfl ?_
  refine z_ild 4 183 rfl i_576 rfl ⟨by omega, by omega⟩ hkd rfl ?_
  refine x_cst (zi 4) 1 184 rfl rfl rfl ?_
  refine z_icne 191 187 rfl rfl rfl (rg_lit 4 rfl) (rg_lit 4 rfl) (fun c => absurd c (by decide)) (fun _ => ?_)
  refine x_cst (zi 1) 1 188 rfl rfl rfl ?_
  refine x_go 192 rfl rfl ?_
  refine x_st 8 2 0 194 [some (.ref 572), some (zi ((k : Nat) : Int)), some (zi ((f : Nat) : Int)), some (zi ((w.length : Nat) : Int)), some (zi (-1)), some (zi 0), some (zi (((ps k).2.1 : Nat) : Int)), some (zi (((ps k).2.2.1 : Nat) : Int)), some (zi 1), none, none, none, none] rfl rfl rfl (Nat.le_of_ble_eq_true rfl) rfl rfl ?_
  refine x_ld 8 2 0 196 rfl rfl rfl rfl rfl ?_
  refine z_ifeq 220 199 rfl rfl rfl (rg_lit 1 rfl) (fun c => absurd c (by decide)) (fun _ => ?_)
  refine x_ld 0 1 2 200 rfl rfl rfl rfl rfl ?_
  refine x_ld 0 1 2 201 rfl rfl rfl rfl rfl ?_
  refine g_572_12 35 204 rfl rfl rfl ?_
  refine x_ld 6 2 0 206 rfl rfl rfl rfl rfl ?_
  refine x_ld 7 2 0 208 rfl rfl rfl rfl rfl ?_
  refine x_ld 0 1 2 209 rfl rfl rfl rfl rfl ?_
  refine g_572_38 90 212 rfl rfl rfl ?_
  refine x_ld 2 1 0 213 rfl rfl rfl rfl rfl ?_
  refine x_ld 3 1 0 214 rfl rfl rfl rfl rfl ?_
  refine x_cv 304 147 217 [.ref 572, .ref 581, zi (((ps k).2.1 : Nat) : Int), zi (((ps k).2.2.1 : Nat) : Int), .ref 597, zi ((f : Nat) : Int), zi ((w.length : Nat) : Int)] rfl rfl rfl (Nat.le_of_ble_eq_true rfl) rfl rfl (Nat.le_of_ble_eq_true rfl) ⟨_, _, _, rfl, o_572⟩ (Nat.le_of_ble_eq_true rfl) (c147 (d + 1) i_581 (f := (ps k).2.1) (g := (ps k).2.2.1) (by omega) (by omega) i_597 hw h6 hr (by omega)) rfl ?_
  rw [cut_ag al ar hw h6]
  refine x_go 238 rfl rfl ?_
  refine x_st 9 2 0 240 [some (.ref 572), some (zi ((k : Nat) : Int)), some (zi ((f : Nat) : Int)), some (zi ((w.length : Nat) : Int)), some (zi (-1)), some (zi 0), some (zi (((ps k).2.1 : Nat) : Int)), some (zi (((ps k).2.2.1 : Nat) : Int)), some (zi 1), some (zi (((cut (sts ps (ps k).2.1).2 (sts ps (ps k).2.2.1).2 w) : Nat) : Int)), none, none, none] rfl rfl rfl (Nat.le_of_ble_eq_true rfl) rfl rfl ?_
  refine x_ld 4 2 0 242 rfl rfl rfl rfl rfl ?_
  refine z_ifge 249 245 rfl rfl rfl (rg_lit (-1) rfl) (fun c => absurd c (by decide)) (fun _ => ?_)
  refine x_cst (zi 0) 1 246 rfl rfl rfl ?_
  refine x_go 269 rfl rfl ?_
  refine x_st 10 2 0 271 [some (.ref 572), some (zi ((k : Nat) : Int)), some (zi ((f : Nat) : Int)), some (zi ((w.length : Nat) : Int)), some (zi (-1)), some (zi 0), some (zi (((ps k).2.1 : Nat) : Int)), some (zi (((ps k).2.2.1 : Nat) : Int)), some (zi 1), some (zi (((cut (sts ps (ps k).2.1).2 (sts ps (ps k).2.2.1).2 w) : Nat) : Int)), some (zi 0), none, none] rfl rfl rfl (Nat.le_of_ble_eq_true rfl) rfl rfl ?_
  refine x_ld 8 2 0 273 rfl rfl rfl rfl rfl ?_
  refine z_ifeq 280 276 rfl rfl rfl (rg_lit 1 rfl) (fun c => absurd c (by decide)) (fun _ => ?_)
  refine x_ld 2 1 0 277 rfl rfl rfl rfl rfl ?_
  refine x_go 284 rfl rfl ?_
  refine x_st 11 2 0 286 [some (.ref 572), some (zi ((k : Nat) : Int)), some (zi ((f : Nat) : Int)), some (zi ((w.length : Nat) : Int)), some (zi (-1)), some (zi 0), some (zi (((ps k).2.1 : Nat) : Int)), some (zi (((ps k).2.2.1 : Nat) : Int)), some (zi 1), some (zi (((cut (sts ps (ps k).2.1).2 (sts ps (ps k).2.2.1).2 w) : Nat) : Int)), some (zi 0), some (zi ((f : Nat) : Int)), none] rfl rfl rfl (Nat.le_of_ble_eq_true rfl) rfl rfl ?_
  refine x_ld 8 2 0 288 rfl rfl rfl rfl rfl ?_
  refine z_ifeq 298 291 rfl rfl rfl (rg_lit 1 rfl) (fun c => absurd c (by decide)) (fun _ => ?_)
  refine x_ld 2 1 0 292 rfl rfl rfl rfl rfl ?_
  refine x_ld 9 2 0 294 rfl rfl rfl rfl rfl ?_
  refine z_add 295 rfl rfl ?_
  rw [show ((f : Nat) : Int) + (((cut (sts ps (ps k).2.1).2 (sts ps (ps k).2.2.1).2 w) : Nat) : Int) = ((f + (cut (sts ps (ps k).2.1).2 (sts ps (ps k).2.2.1).2 w) : Nat) : Int) from (by omega)]
  refine x_go 299 rfl rfl ?_
  refine x_st 12 2 0 301 [some (.ref 572), some (zi ((k : Nat) : Int)), some (zi ((f : Nat) : Int)), some (zi ((w.length : Nat) : Int)), some (zi (-1)), some (zi 0), some (zi (((ps k).2.1 : Nat) : Int)), some (zi (((ps k).2.2.1 : Nat) : Int)), some (zi 1), some (zi (((cut (sts ps (ps k).2.1).2 (sts ps (ps k).2.2.1).2 w) : Nat) : Int)), some (zi 0), some (zi ((f : Nat) : Int)), some (zi ((f + (cut (sts ps (ps k).2.1).2 (sts ps (ps k).2.2.1).2 w) : Nat) : Int))] rfl rfl rfl (Nat.le_of_ble_eq_true rfl) rfl rfl ?_
  refine x_ld 0 1 2 302 rfl rfl rfl rfl rfl ?_
  refine x_ld 7 2 0 304 rfl rfl rfl rfl rfl ?_
  refine x_ld 12 2 0 306 rfl rfl rfl rfl rfl ?_
  refine x_ld 8 2 0 308 rfl rfl rfl rfl rfl ?_
  refine z_ifeq 318 311 rfl rfl rfl (rg_lit 1 rfl) (fun c => absurd c (by decide)) (fun _ => ?_)
  refine x_ld 3 1 0 312 rfl rfl rfl rfl rfl ?_
  refine x_ld 9 2 0 314 rfl rfl rfl rfl rfl ?_
  refine z_sub 315 rfl rfl ?_
  rw [show ((w.length : Nat) : Int) - (((cut (sts ps (ps k).2.1).2 (sts ps (ps k).2.2.1).2 w) : Nat) : Int) = ((w.length - (cut (sts ps (ps k).2.1).2 (sts ps (ps k).2.2.1).2 w) : Nat) : Int) from (by omega)]
  refine x_go 320 rfl rfl ?_
  refine x_ld 4 2 0 322 rfl rfl rfl rfl rfl ?_
  refine z_ifge 329 325 rfl rfl rfl (rg_lit (-1) rfl) (fun c => absurd c (by decide)) (fun _ => ?_)
  refine x_cst (zi (-1)) 1 326 rfl rfl rfl ?_
  refine x_go 334 rfl rfl ?_
  refine x_ld 5 2 0 336 rfl rfl rfl rfl rfl ?_
  refine x_ld 10 2 0 338 rfl rfl rfl rfl rfl ?_
  refine z_sub 339 rfl rfl ?_
  refine x_ce 323 151 342 [.ref 572, zi (((ps k).2.2.1 : Nat) : Int), zi ((f + (cut (sts ps (ps k).2.1).2 (sts ps (ps k).2.2.1).2 w) : Nat) : Int), zi ((w.length - (cut (sts ps (ps k).2.1).2 (sts ps (ps k).2.2.1).2 w) : Nat) : Int), zi (-1), zi 0] rfl rfl rfl (Nat.le_of_ble_eq_true rfl) rfl rfl (Nat.le_of_ble_eq_true rfl) ⟨_, _, _, rfl, o_572⟩ (Nat.le_of_ble_eq_true rfl) (c151 (d + 2) (m := 0) hS (by omega)) rfl ?_
  rintro v M2 ⟨rfl, hS2, hF2⟩
  refine x_ld 0 1 2 343 rfl rfl rfl rfl rfl ?_
  refine x_ld 6 2 0 345 rfl rfl rfl rfl rfl ?_
  refine x_ld 11 2 0 347 rfl rfl rfl rfl rfl ?_
  refine x_ld 8 2 0 349 rfl rfl rfl rfl rfl ?_
  refine z_ifeq 357 352 rfl rfl rfl (rg_lit 1 rfl) (fun c => absurd c (by decide)) (fun _ => ?_)
  refine x_ld 9 2 0 354 rfl rfl rfl rfl rfl ?_
  refine x_go 361 rfl rfl ?_
  refine x_ld 4 2 0 363 rfl rfl rfl rfl rfl ?_
  refine x_ld 10 2 0 365 rfl rfl rfl rfl rfl ?_
  refine x_ce 323 151 368 [.ref 572, zi (((ps k).2.1 : Nat) : Int), zi ((f : Nat) : Int), zi (((cut (sts ps (ps k).2.1).2 (sts ps (ps k).2.2.1).2 w) : Nat) : Int), zi (-1), zi 0] rfl rfl rfl (Nat.le_of_ble_eq_true rfl) rfl rfl (Nat.le_of_ble_eq_true rfl) ⟨_, _, _, rfl, o_572⟩ (Nat.le_of_ble_eq_true rfl) (c151 (M := M2) (d + 2) (m := 0) hS2 (by rw [List.length_append, List.length_singleton]; omega)) rfl ?_
  rintro v3 M3 ⟨rfl, hS3, hF3⟩
  refine x_rtv rfl rfl ?_
  exact ⟨none, M3, rfl, rfl, rfl, by rw [List.append_nil]; rw [List.append_assoc] at hS3; exact hS3, Fc_trans hF2 hF3⟩
theorem c152n_6 (d : Nat) {ps : Nat → prt} {c : Nat} (hm : mdl M ps c) {k : Nat} (hk : k < c) {w : List Nat} (hw : tx_L w) (h6 : w.length ≤ 6) (ms : (sts ps k).2 (tx_num w) = true) {f : Nat} (hf : f + w.length ≤ 6) (hr : roL (M.1 597) f w) {bs : List cI} (hbs : bs.length + 6 ≤ 256) {u : List Nat} (hu : u.length < 256) (hS : ctS M bs u) (hK : (ps k).1 = 6) : ab_Z (pg_G L xs) (d + 4) 152 [.ref 572, zi (k : Nat), zi (f : Nat), zi (w.length : Nat), zi (-1), zi 0] M es (fun v M' => v = none ∧ ctS M' (bs ++ [((ps k).2.2.1, f, (cut (sts ps (ps k).2.2.1).2 (sts ps (ps k).2.1).2 w), -1, 0), ((ps k).2.1, f + (cut (sts ps (ps k).2.2.1).2 (sts ps (ps k).2.1).2 w), w.length - (cut (sts ps (ps k).2.2.1).2 (sts ps (ps k).2.1).2 w), -1, 0)]) (u ++ []) ∧ Fc M M') := by
  have hc31 := hm.1
  obtain ⟨hwf, hok, qkd, qlf, qrt, qlt, _, _⟩ := hm.2 k hk
  have hl := hwf.2.2.2
  rw [hK] at qkd qlf qrt
  have hkd : M.1 576 (k : Int) = 5 := qkd
  have hlf : M.1 577 (k : Int) = (((ps k).2.1 : Nat) : Int) := qlf
  have hrt : M.1 578 (k : Int) = (((ps k).2.2.1 : Nat) : Int) := qrt
  have hlk := hl (by omega)
  have al := (hm.2 _ (Nat.lt_trans hlk.1 hk)).2.2.2.2.2.2.2
  have sl := (hm.2 _ (Nat.lt_trans hlk.1 hk)).2.2.2.2.2.2.1
  have ar := (hm.2 _ (Nat.lt_trans hlk.2 hk)).2.2.2.2.2.2.2
  have sr := (hm.2 _ (Nat.lt_trans hlk.2 hk)).2.2.2.2.2.2.1
  have hle : (cut (sts ps (ps k).2.2.1).2 (sts ps (ps k).2.1).2 w) ≤ w.length := cut_le _ _ w
  show ab_W (pg_G L xs) (ab_X (pg_G L xs) (d + 3)) 152 _ 0 [some (.ref 572), some (zi ((k : Nat) : Int)), some (zi ((f : Nat) : Int)), some (zi ((w.length : Nat) : Int)), some (zi (-1)), some (zi 0), none, none, none, none, none, none, none] [] (hp M ++ es)
  refine x_ld 0 1 2 1 rfl rfl rfl rfl rfl ?_
  refine g_572_8 22 4 rfl rfl rfl ?_
  refine x_ld 1 1 0 5 rfl rfl rfl rfl rfl ?_
  refine z_ild (((ps k).2.1 : Nat) : Int) 6 rfl i_577 rfl ⟨by omega, by omega⟩ hlf rfl ?_
  refine x_st 6 2 0 8 [some (.ref 572), some (zi ((k : Nat) : Int)), some (zi ((f : Nat) : Int)), some (zi ((w.length : Nat) : Int)), some (zi (-1)), some (zi 0), some (zi (((ps k).2.1 : Nat) : Int)), none, none, none, none, none, none] rfl rfl rfl (Nat.le_of_ble_eq_true rfl) rfl rfl ?_
  refine x_ld 0 1 2 9 rfl rfl rfl rfl rfl ?_
  refine g_572_9 25 12 rfl rfl rfl ?_
  refine x_ld 1 1 0 13 rfl rfl rfl rfl rfl ?_
  refine z_ild (((ps k).2.2.1 : Nat) : Int) 14 rfl i_578 rfl ⟨by omega, by omega⟩ hrt rfl ?_
  refine x_st 7 2 0 16 [some (.ref 572), some (zi ((k : Nat) : Int)), some (zi ((f : Nat) : Int)), some (zi ((w.length : Nat) : Int)), some (zi (-1)), some (zi 0), some (zi (((ps k).2.1 : Nat) : Int)), some (zi (((ps k).2.2.1 : Nat) : Int)), none, none, none, none, none] rfl rfl rfl (Nat.le_of_ble_eq_true rfl) rfl rfl ?_
  refine x_ld 0 1 2 17 rfl rfl rfl rfl rfl ?_
  refine g_572_7 19 20 rfl rfl rfl ?_
  refine x_ld 1 1 0 21 rfl rfl rfl rfl rfl ?_
  refine z_ild 5 22 rfl i_576 rfl ⟨by omega, by omega⟩ hkd rfl ?_
  refine x_tin 177 rfl (by decide) (by decide) rfl rfl ?_
  refine x_ld 0 1 2 178 rfl rfl rfl rfl rfl ?_
  refine g_572_7 19 181 rfl rfl rfl ?_
  refine x_ld 1 1 0 182 rfl rfl rfl rfl rfl ?_
  refine z_ild 5 183 rfl i_576 rfl ⟨by omega, by omega⟩ hkd rfl ?_
  refine x_cst (zi 4) 1 184 rfl rfl rfl ?_
  refine z_icne 191 187 rfl rfl rfl (rg_lit 5 rfl) (rg_lit 4 rfl) (fun _ => ?_) (fun c => absurd c (by decide))
  refine x_cst (zi 0) 1 192 rfl rfl rfl ?_
  refine x_st 8 2 0 194 [some (.ref 572), some (zi ((k : Nat) : Int)), some (zi ((f : Nat) : Int)), some (zi ((w.length : Nat) : Int)), some (zi (-1)), some (zi 0), some (zi (((ps k).2.1 : Nat) : Int)), some (zi (((ps k).2.2.1 : Nat) : Int)), some (zi 0), none, none, none, none] rfl rfl rfl (Nat.le_of_ble_eq_true rfl) rfl rfl ?_
  refine x_ld 8 2 0 196 rfl rfl rfl rfl rfl ?_
  refine z_ifeq 220 199 rfl rfl rfl (rg_lit 0 rfl) (fun _ => ?_) (fun c => absurd c (by decide))
  refine x_ld 0 1 2 221 rfl rfl rfl rfl rfl ?_
  refine x_ld 0 1 2 222 rfl rfl rfl rfl rfl ?_
  refine g_572_12 35 225 rfl rfl rfl ?_
  refine x_ld 7 2 0 227 rfl rfl rfl rfl rfl ?_
  refine x_ld 6 2 0 229 rfl rfl rfl rfl rfl ?_
  refine x_ld 0 1 2 230 rfl rfl rfl rfl rfl ?_
  refine g_572_38 90 233 rfl rfl rfl ?_
  refine x_ld 2 1 0 234 rfl rfl rfl rfl rfl ?_
  refine x_ld 3 1 0 235 rfl rfl rfl rfl rfl ?_
  refine x_cv 304 147 238 [.ref 572, .ref 581, zi (((ps k).2.2.1 : Nat) : Int), zi (((ps k).2.1 : Nat) : Int), .ref 597, zi ((f : Nat) : Int), zi ((w.length : Nat) : Int)] rfl rfl rfl (Nat.le_of_ble_eq_true rfl) rfl rfl (Nat.le_of_ble_eq_true rfl) ⟨_, _, _, rfl, o_572⟩ (Nat.le_of_ble_eq_true rfl) (c147 (d + 1) i_581 (f := (ps k).2.2.1) (g := (ps k).2.1) (by omega) (by omega) i_597 hw h6 hr (by omega)) rfl ?_
  rw [cut_ag ar al hw h6]
  refine x_st 9 2 0 240 [some (.ref 572), some (zi ((k : Nat) : Int)), some (zi ((f : Nat) : Int)), some (zi ((w.length : Nat) : Int)), some (zi (-1)), some (zi 0), some (zi (((ps k).2.1 : Nat) : Int)), some (zi (((ps k).2.2.1 : Nat) : Int)), some (zi 0), some (zi (((cut (sts ps (ps k).2.2.1).2 (sts ps (ps k).2.1).2 w) : Nat) : Int)), none, none, none] rfl rfl rfl (Nat.le_of_ble_eq_true rfl) rfl rfl ?_
  refine x_ld 4 2 0 242 rfl rfl rfl rfl rfl ?_
  refine z_ifge 249 245 rfl rfl rfl (rg_lit (-1) rfl) (fun c => absurd c (by decide)) (fun _ => ?_)
  refine x_cst (zi 0) 1 246 rfl rfl rfl ?_
  refine x_go 269 rfl rfl ?_
  refine x_st 10 2 0 271 [some (.ref 572), some (zi ((k : Nat) : Int)), some (zi ((f : Nat) : Int)), some (zi ((w.length : Nat) : Int)), some (zi (-1)), some (zi 0), some (zi (((ps k).2.1 : Nat) : Int)), some (zi (((ps k).2.2.1 : Nat) : Int)), some (zi 0), some (zi (((cut (sts ps (ps k).2.2.1).2 (sts ps (ps k).2.1).2 w) : Nat) : Int)), some (zi 0), none, none] rfl rfl rfl (Nat.le_of_ble_eq_true rfl) rfl rfl ?_
  refine x_ld 8 2 0 273 rfl rfl rfl rfl rfl ?_
  refine z_ifeq 280 276 rfl rfl rfl (rg_lit 0 rfl) (fun _ => ?_) (fun c => absurd c (by decide))
  refine x_ld 2 1 0 281 rfl rfl rfl rfl rfl ?_
  refine x_ld 9 2 0 283 rfl rfl rfl rfl rfl ?_
  refine z_add 284 rfl rfl ?_
  rw [show ((f : Nat) : Int) + (((cut (sts ps (ps k).2.2.1).2 (sts ps (ps k).2.1).2 w) : Nat) : Int) = ((f + (cut (sts ps (ps k).2.2.1).2 (sts ps (ps k).2.1).2 w) : Nat) : Int) from (by omega)]
  refine x_st 11 2 0 286 [some (.ref 572), some (zi ((k : Nat) : Int)), some (zi ((f : Nat) : Int)), some (zi ((w.length : Nat) : Int)), some (zi (-1)), some (zi 0), some (zi (((ps k).2.1 : Nat) : Int)), some (zi (((ps k).2.2.1 : Nat) : Int)), some (zi 0), some (zi (((cut (sts ps (ps k).2.2.1).2 (sts ps (ps k).2.1).2 w) : Nat) : Int)), some (zi 0), some (zi ((f + (cut (sts ps (ps k).2.2.1).2 (sts ps (ps k).2.1).2 w) : Nat) : Int)), none] rfl rfl rfl (Nat.le_of_ble_eq_true rfl) rfl rfl ?_
  refine x_ld 8 2 0 288 rfl rfl rfl rfl rfl ?_
  refine z_ifeq 298 291 rfl rfl rfl (rg_lit 0 rfl) (fun _ => ?_) (fun c => absurd c (by decide))
  refine x_ld 2 1 0 299 rfl rfl rfl rfl rfl ?_
  refine x_st 12 2 0 301 [some (.ref 572), some (zi ((k : Nat) : Int)), some (zi ((f : Nat) : Int)), some (zi ((w.length : Nat) : Int)), some (zi (-1)), some (zi 0), some (zi (((ps k).2.1 : Nat) : Int)), some (zi (((ps k).2.2.1 : Nat) : Int)), some (zi 0), some (zi (((cut (sts ps (ps k).2.2.1).2 (sts ps (ps k).2.1).2 w) : Nat) : Int)), some (zi 0), some (zi ((f + (cut (sts ps (ps k).2.2.1).2 (sts ps (ps k).2.1).2 w) : Nat) : Int)), some (zi ((f : Nat) : Int))] rfl rfl rfl (Nat.le_of_ble_eq_true rfl) rfl rfl ?_
  refine x_ld 0 1 2 302 rfl rfl rfl rfl rfl ?_
  refine x_ld 7 2 0 304 rfl rfl rfl rfl rfl ?_
  refine x_ld 12 2 0 306 rfl rfl rfl rfl rfl ?_
  refine x_ld 8 2 0 308 rfl rfl rfl rfl rfl ?_
  refine z_ifeq 318 311 rfl rfl rfl (rg_lit 0 rfl) (fun _ => ?_) (fun c => absurd c (by decide))
  refine x_ld 9 2 0 320 rfl rfl rfl rfl rfl ?_
  refine x_ld 4 2 0 322 rfl rfl rfl rfl rfl ?_
  refine z_ifge 329 325 rfl rfl rfl (rg_lit (-1) rfl) (fun c => absurd c (by decide)) (fun _ => ?_)
  refine x_cst (zi (-1)) 1 326 rfl rfl rfl ?_
  refine x_go 334 rfl rfl ?_
  refine x_ld 5 2 0 336 rfl rfl rfl rfl rfl ?_
  refine x_ld 10 2 0 338 rfl rfl rfl rfl rfl ?_
  refine z_sub 339 rfl rfl ?_
  refine x_ce 323 151 342 [.ref 572, zi (((ps k).2.2.1 : Nat) : Int), zi ((f : Nat) : Int), zi (((cut (sts ps (ps k).2.2.1).2 (sts ps (ps k).2.1).2 w) : Nat) : Int), zi (-1), zi 0] rfl rfl rfl (Nat.le_of_ble_eq_true rfl) rfl rfl (Nat.le_of_ble_eq_true rfl) ⟨_, _, _, rfl, o_572⟩ (Nat.le_of_ble_eq_true rfl) (c151 (d + 2) (m := 0) hS (by omega)) rfl ?_
  rintro v M2 ⟨rfl, hS2, hF2⟩
  refine x_ld 0 1 2 343 rfl rfl rfl rfl rfl ?_
  refine x_ld 6 2 0 345 rfl rfl rfl rfl rfl ?_
  refine x_ld 11 2 0 347 rfl rfl rfl rfl rfl ?_
  refine x_ld 8 2 0 349 rfl rfl rfl rfl rfl ?_
  refine z_ifeq 357 352 rfl rfl rfl (rg_lit 0 rfl) (fun _ => ?_) (fun c => absurd c (by decide))
  refine x_ld 3 1 0 358 rfl rfl rfl rfl rfl ?_
  refine x_ld 9 2 0 360 rfl rfl rfl rfl rfl ?_
  refine z_sub 361 rfl rfl ?_
  rw [show ((w.length : Nat) : Int) - (((cut (sts ps (ps k).2.2.1).2 (sts ps (ps k).2.1).2 w) : Nat) : Int) = ((w.length - (cut (sts ps (ps k).2.2.1).2 (sts ps (ps k).2.1).2 w) : Nat) : Int) from (by omega)]
  refine x_ld 4 2 0 363 rfl rfl rfl rfl rfl ?_
  refine x_ld 10 2 0 365 rfl rfl rfl rfl rfl ?_
  refine x_ce 323 151 368 [.ref 572, zi (((ps k).2.1 : Nat) : Int), zi ((f + (cut (sts ps (ps k).2.2.1).2 (sts ps (ps k).2.1).2 w) : Nat) : Int), zi ((w.length - (cut (sts ps (ps k).2.2.1).2 (sts ps (ps k).2.1).2 w) : Nat) : Int), zi (-1), zi 0] rfl rfl rfl (Nat.le_of_ble_eq_true rfl) rfl rfl (Nat.le_of_ble_eq_true rfl) ⟨_, _, _, rfl, o_572⟩ (Nat.le_of_ble_eq_true rfl) (c151 (M := M2) (d + 2) (m := 0) hS2 (by rw [List.length_append, List.length_singleton]; omega)) rfl ?_
  rintro v3 M3 ⟨rfl, hS3, hF3⟩
  refine x_rtv rfl rfl ?_
  exact ⟨none, M3, rfl, rfl, rfl, by rw [List.append_nil]; rw [List.append_assoc] at hS3; exact hS3, Fc_trans hF2 hF3⟩
theorem c154n (d : Nat) {ps : Nat → prt} {c : Nat} (hm : mdl M ps c) {k : Nat} (hk : k < c) {w : List Nat} (hw : tx_L w) (h6 : w.length ≤ 6) (ms : (sts ps k).2 (tx_num w) = true) {f : Nat} (hf : f + w.length ≤ 6) (hr : roL (M.1 597) f w) {bs : List cI} (hbs : bs.length + 6 ≤ 256) {u : List Nat} (hu : u.length < 256) (hS : ctS M bs u) (hK : (ps k).1 = 4) : ab_Z (pg_G L xs) (d + 3) 154 [.ref 572, zi (k : Nat), zi (f : Nat), zi (w.length : Nat), zi (-1), zi 0] M es (fun v M' => v = none ∧ ctS M' (bs ++ [(bif ((sts ps (ps k).2.1).2 (tx_num w)) then (ps k).2.1 else (ps k).2.2.1, f, w.length, -1, 0)]) u ∧ Fc M M') := by
  have hc31 := hm.1
  obtain ⟨hwf, hok, qkd, qlf, qrt, qlt, _, _⟩ := hm.2 k hk
  have hl := hwf.2.2.2
  rw [hK] at qkd qlf qrt
  have hkd : M.1 576 (k : Int) = 7 := qkd
  have hlf : M.1 577 (k : Int) = (((ps k).2.1 : Nat) : Int) := qlf
  have hrt : M.1 578 (k : Int) = (((ps k).2.2.1 : Nat) : Int) := qrt
  have hlk := hl (by omega)
  have al := (hm.2 _ (Nat.lt_trans hlk.1 hk)).2.2.2.2.2.2.2
  have sl := (hm.2 _ (Nat.lt_trans hlk.1 hk)).2.2.2.2.2.2.1
  have ar := (hm.2 _ (Nat.lt_trans hlk.2 hk)).2.2.2.2.2.2.2
  have sr := (hm.2 _ (Nat.lt_trans hlk.2 hk)).2.2.2.2.2.2.1
  have hlt9 := num_lt hw h6
  show ab_W (pg_G L xs) (ab_X (pg_G L xs) (d + 2)) 154 _ 0 [some (.ref 572), some (zi ((k : Nat) : Int)), some (zi ((f : Nat) : Int)), some (zi ((w.length : Nat) : Int)), some (zi (-1)), some (zi 0), none, none, none, none, none, none, none, none] [] (hp M ++ es)
  refine x_ld 0 1 2 1 rfl rfl rfl rfl rfl ?_
  refine g_572_8 22 4 rfl rfl rfl ?_
  refine x_ld 1 1 0 5 rfl rfl rfl rfl rfl ?_
  refine z_ild (((ps k).2.1 : Nat) : Int) 6 rfl i_577 rfl ⟨by omega, by omega⟩ hlf rfl ?_
  refine x_st 6 2 0 8 [some (.ref 572), some (zi ((k : Nat) : Int)), some (zi ((f : Nat) : Int)), some (zi ((w.length : Nat) : Int)), some (zi (-1)), some (zi 0), some (zi (((ps k).2.1 : Nat) : Int)), none, none, none, none, none, none, none] rfl rfl rfl (Nat.le_of_ble_eq_true rfl) rfl rfl ?_
  refine x_ld 0 1 2 9 rfl rfl rfl rfl rfl ?_
  refine g_572_9 25 12 rfl rfl rfl ?_
  refine x_ld 1 1 0 13 rfl rfl rfl rfl rfl ?_
  refine z_ild (((ps k).2.2.1 : Nat) : Int) 14 rfl i_578 rfl ⟨by omega, by omega⟩ hrt rfl ?_
  refine x_st 7 2 0 16 [some (.ref 572), some (zi ((k : Nat) : Int)), some (zi ((f : Nat) : Int)), some (zi ((w.length : Nat) : Int)), some (zi (-1)), some (zi 0), some (zi (((ps k).2.1 : Nat) : Int)), some (zi (((ps k).2.2.1 : Nat) : Int)), none, none, none, none, none, none] rfl rfl rfl (Nat.le_of_ble_eq_true rfl) rfl rfl ?_
  refine x_ld 0 1 2 17 rfl rfl rfl rfl rfl ?_
  refine x_ld 0 1 2 18 rfl rfl rfl rfl rfl ?_
  refine g_572_38 90 21 rfl rfl rfl ?_
  refine x_ld 2 1 0 22 rfl rfl rfl rfl rfl ?_
  refine x_ld 3 1 0 23 rfl rfl rfl rfl rfl ?_
  refine x_cv 274 144 26 [.ref 572, .ref 597, zi ((f : Nat) : Int), zi ((w.length : Nat) : Int)] rfl rfl rfl (Nat.le_of_ble_eq_true rfl) rfl rfl (Nat.le_of_ble_eq_true rfl) ⟨_, _, _, rfl, o_572⟩ (Nat.le_of_ble_eq_true rfl) (by have q := c144 (L := L) (xs := xs) (es := es) (M := M) (d + 1) i_597 hw hr (by omega); rw [nz_le h6] at q; exact q) rfl ?_
  refine x_st 8 2 0 28 [some (.ref 572), some (zi ((k : Nat) : Int)), some (zi ((f : Nat) : Int)), some (zi ((w.length : Nat) : Int)), some (zi (-1)), some (zi 0), some (zi (((ps k).2.1 : Nat) : Int)), some (zi (((ps k).2.2.1 : Nat) : Int)), some (zi ((tx_num w : Nat) : Int)), none, none, none, none, none] rfl rfl rfl (Nat.le_of_ble_eq_true rfl) rfl rfl ?_
  refine x_ld 4 2 0 30 rfl rfl rfl rfl rfl ?_
  refine z_iflt 61 33 rfl rfl rfl (rg_lit (-1) rfl) (fun _ => ?_) (fun c => absurd c (by decide))
  refine x_cst (zi 0) 1 62 rfl rfl rfl ?_
  refine x_st 9 2 0 64 [some (.ref 572), some (zi ((k : Nat) : Int)), some (zi ((f : Nat) : Int)), some (zi ((w.length : Nat) : Int)), some (zi (-1)), some (zi 0), some (zi (((ps k).2.1 : Nat) : Int)), some (zi (((ps k).2.2.1 : Nat) : Int)), some (zi ((tx_num w : Nat) : Int)), some (zi 0), none, none, none, none] rfl rfl rfl (Nat.le_of_ble_eq_true rfl) rfl rfl ?_
  refine x_ld 0 1 2 65 rfl rfl rfl rfl rfl ?_
  refine g_572_12 35 68 rfl rfl rfl ?_
  refine x_ld 6 2 0 70 rfl rfl rfl rfl rfl ?_
  refine x_ld 8 2 0 72 rfl rfl rfl rfl rfl ?_
  refine x_cv 228 123 75 [.ref 581, zi (((ps k).2.1 : Nat) : Int), zi ((tx_num w : Nat) : Int)] rfl rfl rfl (Nat.le_of_ble_eq_true rfl) rfl rfl (Nat.le_of_ble_eq_true rfl) trivial (Nat.le_of_ble_eq_true rfl) (c123 (d + 1) i_581 (k := (ps k).2.1) (t := tx_num w) (by omega) (by omega)) rfl ?_
  rw [show M.2.1 581 (1152 * (((ps k).2.1 : Nat) : Int) + ((tx_num w : Nat) : Int)) = ((sts ps (ps k).2.1).2 (tx_num w)) from al _ (by omega)]
  rcases Bool.eq_false_or_eq_true ((sts ps (ps k).2.1).2 (tx_num w)) with h2 | h2
  · rw [h2]
    refine x_st 10 2 0 77 [some (.ref 572), some (zi ((k : Nat) : Int)), some (zi ((f : Nat) : Int)), some (zi ((w.length : Nat) : Int)), some (zi (-1)), some (zi 0), some (zi (((ps k).2.1 : Nat) : Int)), some (zi (((ps k).2.2.1 : Nat) : Int)), some (zi ((tx_num w : Nat) : Int)), some (zi 0), some (zi 1), none, none, none] rfl rfl rfl (Nat.le_of_ble_eq_true rfl) rfl rfl ?_
    refine x_ld 0 1 2 78 rfl rfl rfl rfl rfl ?_
    refine g_572_12 35 81 rfl rfl rfl ?_
    refine x_ld 7 2 0 83 rfl rfl rfl rfl rfl ?_
    refine x_ld 8 2 0 85 rfl rfl rfl rfl rfl ?_
    refine x_cv 228 123 88 [.ref 581, zi (((ps k).2.2.1 : Nat) : Int), zi ((tx_num w : Nat) : Int)] rfl rfl rfl (Nat.le_of_ble_eq_true rfl) rfl rfl (Nat.le_of_ble_eq_true rfl) trivial (Nat.le_of_ble_eq_true rfl) (c123 (d + 1) i_581 (k := (ps k).2.2.1) (t := tx_num w) (by omega) (by omega)) rfl ?_
    rw [show M.2.1 581 (1152 * (((ps k).2.2.1 : Nat) : Int) + ((tx_num w : Nat) : Int)) = ((sts ps (ps k).2.2.1).2 (tx_num w)) from ar _ (by omega)]
    rcases Bool.eq_false_or_eq_true ((sts ps (ps k).2.2.1).2 (tx_num w)) with h3 | h3
    · rw [h3]
      refine x_st 11 2 0 90 [some (.ref 572), some (zi ((k : Nat) : Int)), some (zi ((f : Nat) : Int)), some (zi ((w.length : Nat) : Int)), some (zi (-1)), some (zi 0), some (zi (((ps k).2.1 : Nat) : Int)), some (zi (((ps k).2.2.1 : Nat) : Int)), some (zi ((tx_num w : Nat) : Int)), some (zi 0), some (zi 1), some (zi 1), none, none] rfl rfl rfl (Nat.le_of_ble_eq_true rfl) rfl rfl ?_
      refine x_ld 4 2 0 92 rfl rfl rfl rfl rfl ?_
      refine z_iflt 100 95 rfl rfl rfl (rg_lit (-1) rfl) (fun _ => ?_) (fun c => absurd c (by decide))
      refine x_ld 10 2 0 102 rfl rfl rfl rfl rfl ?_
      refine x_go 115 rfl rfl ?_
      refine x_st 12 2 0 117 [some (.ref 572), some (zi ((k : Nat) : Int)), some (zi ((f : Nat) : Int)), some (zi ((w.length : Nat) : Int)), some (zi (-1)), some (zi 0), some (zi (((ps k).2.1 : Nat) : Int)), some (zi (((ps k).2.2.1 : Nat) : Int)), some (zi ((tx_num w : Nat) : Int)), some (zi 0), some (zi 1), some (zi 1), some (zi 1), none] rfl rfl rfl (Nat.le_of_ble_eq_true rfl) rfl rfl ?_
      refine x_ld 4 2 0 119 rfl rfl rfl rfl rfl ?_
      refine z_iflt 133 122 rfl rfl rfl (rg_lit (-1) rfl) (fun _ => ?_) (fun c => absurd c (by decide))
      refine x_cst (zi 0) 1 134 rfl rfl rfl ?_
      refine x_st 13 2 0 136 [some (.ref 572), some (zi ((k : Nat) : Int)), some (zi ((f : Nat) : Int)), some (zi ((w.length : Nat) : Int)), some (zi (-1)), some (zi 0), some (zi (((ps k).2.1 : Nat) : Int)), some (zi (((ps k).2.2.1 : Nat) : Int)), some (zi ((tx_num w : Nat) : Int)), some (zi 0), some (zi 1), some (zi 1), some (zi 1), some (zi 0)] rfl rfl rfl (Nat.le_of_ble_eq_true rfl) rfl rfl ?_
      refine x_ld 0 1 2 137 rfl rfl rfl rfl rfl ?_
      refine x_ld 12 2 0 139 rfl rfl rfl rfl rfl ?_
      refine z_ifeq 147 142 rfl rfl rfl (rg_lit 1 rfl) (fun c => absurd c (by decide)) (fun _ => ?_)
      refine x_ld 6 2 0 144 rfl rfl rfl rfl rfl ?_
      refine x_go 149 rfl rfl ?_
      refine x_ld 2 1 0 150 rfl rfl rfl rfl rfl ?_
      refine x_ld 3 1 0 151 rfl rfl rfl rfl rfl ?_
      refine x_ld 13 2 0 153 rfl rfl rfl rfl rfl ?_
      refine z_ifeq 161 156 rfl rfl rfl (rg_lit 0 rfl) (fun _ => ?_) (fun c => absurd c (by decide))
      refine x_cst (zi (-1)) 1 162 rfl rfl rfl ?_
      refine x_ld 13 2 0 164 rfl rfl rfl rfl rfl ?_
      refine z_ifeq 172 167 rfl rfl rfl (rg_lit 0 rfl) (fun _ => ?_) (fun c => absurd c (by decide))
      refine x_cst (zi 0) 1 173 rfl rfl rfl ?_
      refine x_ce 323 151 176 [.ref 572, zi (((ps k).2.1 : Nat) : Int), zi ((f : Nat) : Int), zi ((w.length : Nat) : Int), zi (-1), zi 0] rfl rfl rfl (Nat.le_of_ble_eq_true rfl) rfl rfl (Nat.le_of_ble_eq_true rfl) ⟨_, _, _, rfl, o_572⟩ (Nat.le_of_ble_eq_true rfl) (c151 (d + 1) (m := 0) hS (by omega)) rfl ?_
      rintro v M2 ⟨rfl, hS2, hF2⟩
      refine x_rtv rfl rfl ?_
      refine ⟨none, M2, rfl, rfl, rfl, ?_, hF2⟩
      exact hS2
    · rw [h3]
      refine x_st 11 2 0 90 [some (.ref 572), some (zi ((k : Nat) : Int)), some (zi ((f : Nat) : Int)), some (zi ((w.length : Nat) : Int)), some (zi (-1)), some (zi 0), some (zi (((ps k).2.1 : Nat) : Int)), some (zi (((ps k).2.2.1 : Nat) : Int)), some (zi ((tx_num w : Nat) : Int)), some (zi 0), some (zi 1), some (zi 0), none, none] rfl rfl rfl (Nat.le_of_ble_eq_true rfl) rfl rfl ?_
      refine x_ld 4 2 0 92 rfl rfl rfl rfl rfl ?_
      refine z_iflt 100 95 rfl rfl rfl (rg_lit (-1) rfl) (fun _ => ?_) (fun c => absurd c (by decide))
      refine x_ld 10 2 0 102 rfl rfl rfl rfl rfl ?_
      refine x_go 115 rfl rfl ?_
      refine x_st 12 2 0 117 [some (.ref 572), some (zi ((k : Nat) : Int)), some (zi ((f : Nat) : Int)), some (zi ((w.length : Nat) : Int)), some (zi (-1)), some (zi 0), some (zi (((ps k).2.1 : Nat) : Int)), some (zi (((ps k).2.2.1 : Nat) : Int)), some (zi ((tx_num w : Nat) : Int)), some (zi 0), some (zi 1), some (zi 0), some (zi 1), none] rfl rfl rfl (Nat.le_of_ble_eq_true rfl) rfl rfl ?_
      refine x_ld 4 2 0 119 rfl rfl rfl rfl rfl ?_
      refine z_iflt 133 122 rfl rfl rfl (rg_lit (-1) rfl) (fun _ => ?_) (fun c => absurd c (by decide))
      refine x_cst (zi 0) 1 134 rfl rfl rfl ?_
      refine x_st 13 2 0 136 [some (.ref 572), some (zi ((k : Nat) : Int)), some (zi ((f : Nat) : Int)), some (zi ((w.length : Nat) : Int)), some (zi (-1)), some (zi 0), some (zi (((ps k).2.1 : Nat) : Int)), some (zi (((ps k).2.2.1 : Nat) : Int)), some (zi ((tx_num w : Nat) : Int)), some (zi 0), some (zi 1), some (zi 0), some (zi 1), some (zi 0)] rfl rfl rfl (Nat.le_of_ble_eq_true rfl) rfl rfl ?_
      refine x_ld 0 1 2 137 rfl rfl rfl rfl rfl ?_
      refine x_ld 12 2 0 139 rfl rfl rfl rfl rfl ?_
      refine z_ifeq 147 142 rfl rfl rfl (rg_lit 1 rfl) (fun c => absurd c (by decide)) (fun _ => ?_)
      refine x_ld 6 2 0 144 rfl rfl rfl rfl rfl ?_
      refine x_go 149 rfl rfl ?_
      refine x_ld 2 1 0 150 rfl rfl rfl rfl rfl ?_
      refine x_ld 3 1 0 151 rfl rfl rfl rfl rfl ?_
      refine x_ld 13 2 0 153 rfl rfl rfl rfl rfl ?_
      refine z_ifeq 161 156 rfl rfl rfl (rg_lit 0 rfl) (fun _ => ?_) (fun c => absurd c (by decide))
      refine x_cst (zi (-1)) 1 162 rfl rfl rfl ?_
      refine x_ld 13 2 0 164 rfl rfl rfl rfl rfl ?_
      refine z_ifeq 172 167 rfl rfl rfl (rg_lit 0 rfl) (fun _ => ?_) (fun c => absurd c (by decide))
      refine x_cst (zi 0) 1 173 rfl rfl rfl ?_
      refine x_ce 323 151 176 [.ref 572, zi (((ps k).2.1 : Nat) : Int), zi ((f : Nat) : Int), zi ((w.length : Nat) : Int), zi (-1), zi 0] rfl rfl rfl (Nat.le_of_ble_eq_true rfl) rfl rfl (Nat.le_of_ble_eq_true rfl) ⟨_, _, _, rfl, o_572⟩ (Nat.le_of_ble_eq_true rfl) (c151 (d + 1) (m := 0) hS (by omega)) rfl ?_
      rintro v M2 ⟨rfl, hS2, hF2⟩
      refine x_rtv rfl rfl ?_
      refine ⟨none, M2, rfl, rfl, rfl, ?_, hF2⟩
      exact hS2
  · rw [h2]
    refine x_st 10 2 0 77 [some (.ref 572), some (zi ((k : Nat) : Int)), some (zi ((f : Nat) : Int)), some (zi ((w.length : Nat) : Int)), some (zi (-1)), some (zi 0), some (zi (((ps k).2.1 : Nat) : Int)), some (zi (((ps k).2.2.1 : Nat) : Int)), some (zi ((tx_num w : Nat) : Int)), some (zi 0), some (zi 0), none, none, none] rfl rfl rfl (Nat.le_of_ble_eq_true rfl) rfl rfl ?_
    refine x_ld 0 1 2 78 rfl rfl rfl rfl rfl ?_
    refine g_572_12 35 81 rfl rfl rfl ?_
    refine x_ld 7 2 0 83 rfl rfl rfl rfl rfl ?_
    refine x_ld 8 2 0 85 rfl rfl rfl rfl rfl ?_
    refine x_cv 228 123 88 [.ref 581, zi (((ps k).2.2.1 : Nat) : Int), zi ((tx_num w : Nat) : Int)] rfl rfl rfl (Nat.le_of_ble_eq_true rfl) rfl rfl (Nat.le_of_ble_eq_true rfl) trivial (Nat.le_of_ble_eq_true rfl) (c123 (d + 1) i_581 (k := (ps k).2.2.1) (t := tx_num w) (by omega) (by omega)) rfl ?_
    rw [show M.2.1 581 (1152 * (((ps k).2.2.1 : Nat) : Int) + ((tx_num w : Nat) : Int)) = ((sts ps (ps k).2.2.1).2 (tx_num w)) from ar _ (by omega)]
    rcases Bool.eq_false_or_eq_true ((sts ps (ps k).2.2.1).2 (tx_num w)) with h3 | h3
    · rw [h3]
      refine x_st 11 2 0 90 [some (.ref 572), some (zi ((k : Nat) : Int)), some (zi ((f : Nat) : Int)), some (zi ((w.length : Nat) : Int)), some (zi (-1)), some (zi 0), some (zi (((ps k).2.1 : Nat) : Int)), some (zi (((ps k).2.2.1 : Nat) : Int)), some (zi ((tx_num w : Nat) : Int)), some (zi 0), some (zi 0), some (zi 1), none, none] rfl rfl rfl (Nat.le_of_ble_eq_true rfl) rfl rfl ?_
      refine x_ld 4 2 0 92 rfl rfl rfl rfl rfl ?_
      refine z_iflt 100 95 rfl rfl rfl (rg_lit (-1) rfl) (fun _ => ?_) (fun c => absurd c (by decide))
      refine x_ld 10 2 0 102 rfl rfl rfl rfl rfl ?_
      refine x_go 115 rfl rfl ?_
      refine x_st 12 2 0 117 [some (.ref 572), some (zi ((k : Nat) : Int)), some (zi ((f : Nat) : Int)), some (zi ((w.length : Nat) : Int)), some (zi (-1)), some (zi 0), some (zi (((ps k).2.1 : Nat) : Int)), some (zi (((ps k).2.2.1 : Nat) : Int)), some (zi ((tx_num w : Nat) : Int)), some (zi 0), some (zi 0), some (zi 1), some (zi 0), none] rfl rfl rfl (Nat.le_of_ble_eq_true rfl) rfl rfl ?_
      refine x_ld 4 2 0 119 rfl rfl rfl rfl rfl ?_
      refine z_iflt 133 122 rfl rfl rfl (rg_lit (-1) rfl) (fun _ => ?_) (fun c => absurd c (by decide))
      refine x_cst (zi 0) 1 134 rfl rfl rfl ?_
      refine x_st 13 2 0 136 [some (.ref 572), some (zi ((k : Nat) : Int)), some (zi ((f : Nat) : Int)), some (zi ((w.length : Nat) : Int)), some (zi (-1)), some (zi 0), some (zi (((ps k).2.1 : Nat) : Int)), some (zi (((ps k).2.2.1 : Nat) : Int)), some (zi ((tx_num w : Nat) : Int)), some (zi 0), some (zi 0), some (zi 1), some (zi 0), some (zi 0)] rfl rfl rfl (Nat.le_of_ble_eq_true rfl) rfl rfl ?_
      refine x_ld 0 1 2 137 rfl rfl rfl rfl rfl ?_
      refine x_ld 12 2 0 139 rfl rfl rfl rfl rfl ?_
      refine z_ifeq 147 142 rfl rfl rfl (rg_lit 0 rfl) (fun _ => ?_) (fun c => absurd c (by decide))
      refine x_ld 7 2 0 149 rfl rfl rfl rfl rfl ?_
      refine x_ld 2 1 0 150 rfl rfl rfl rfl rfl ?_
      refine x_ld 3 1 0 151 rfl rfl rfl rfl rfl ?_
      refine x_ld 13 2 0 153 rfl rfl rfl rfl rfl ?_
      refine z_ifeq 161 156 rfl rfl rfl (rg_lit 0 rfl) (fun _ => ?_) (fun c => absurd c (by decide))
      refine x_cst (zi (-1)) 1 162 rfl rfl rfl ?_
      refine x_ld 13 2 0 164 rfl rfl rfl rfl rfl ?_
      refine z_ifeq 172 167 rfl rfl rfl (rg_lit 0 rfl) (fun _ => ?_) (fun c => absurd c (by decide))
      refine x_cst (zi 0) 1 173 rfl rfl rfl ?_
      refine x_ce 323 151 176 [.ref 572, zi (((ps k).2.2.1 : Nat) : Int), zi ((f : Nat) : Int), zi ((w.length : Nat) : Int), zi (-1), zi 0] rfl rfl rfl (Nat.le_of_ble_eq_true rfl) rfl rfl (Nat.le_of_ble_eq_true rfl) ⟨_, _, _, rfl, o_572⟩ (Nat.le_of_ble_eq_true rfl) (c151 (d + 1) (m := 0) hS (by omega)) rfl ?_
      rintro v M2 ⟨rfl, hS2, hF2⟩
      refine x_rtv rfl rfl ?_
      refine ⟨none, M2, rfl, rfl, rfl, ?_, hF2⟩
      exact hS2
    · rw [h3]
      refine x_st 11 2 0 90 [some (.ref 572), some (zi ((k : Nat) : Int)), some (zi ((f : Nat) : Int)), some (zi ((w.length : Nat) : Int)), some (zi (-1)), some (zi 0), some (zi (((ps k).2.1 : Nat) : Int)), some (zi (((ps k).2.2.1 : Nat) : Int)), some (zi ((tx_num w : Nat) : Int)), some (zi 0), some (zi 0), some (zi 0), none, none] rfl rfl rfl (Nat.le_of_ble_eq_true rfl) rfl rfl ?_
      refine x_ld 4 2 0 92 rfl rfl rfl rfl rfl ?_
      refine z_iflt 100 95 rfl rfl rfl (rg_lit (-1) rfl) (fun _ => ?_) (fun c => absurd c (by decide))
      refine x_ld 10 2 0 102 rfl rfl rfl rfl rfl ?_
      refine x_go 115 rfl rfl ?_
      refine x_st 12 2 0 117 [some (.ref 572), some (zi ((k : Nat) : Int)), some (zi ((f : Nat) : Int)), some (zi ((w.length : Nat) : Int)), some (zi (-1)), some (zi 0), some (zi (((ps k).2.1 : Nat) : Int)), some (zi (((ps k).2.2.1 : Nat) : Int)), some (zi ((tx_num w : Nat) : Int)), some (zi 0), some (zi 0), some (zi 0), some (zi 0), none] rfl rfl rfl (Nat.le_of_ble_eq_true rfl) rfl rfl ?_
      refine x_ld 4 2 0 119 rfl rfl rfl rfl rfl ?_
      refine z_iflt 133 122 rfl rfl rfl (rg_lit (-1) rfl) (fun _ => ?_) (fun c => absurd c (by decide))
      refine x_cst (zi 0) 1 134 rfl rfl rfl ?_
      refine x_st 13 2 0 136 [some (.ref 572), some (zi ((k : Nat) : Int)), some (zi ((f : Nat) : Int)), some (zi ((w.length : Nat) : Int)), some (zi (-1)), some (zi 0), some (zi (((ps k).2.1 : Nat) : Int)), some (zi (((ps k).2.2.1 : Nat) : Int)), some (zi ((tx_num w : Nat) : Int)), some (zi 0), some (zi 0), some (zi 0), some (zi 0), some (zi 0)] rfl rfl rfl (Nat.le_of_ble_eq_true rfl) rfl rfl ?_
      refine x_ld 0 1 2 137 rfl rfl rfl rfl rfl ?_
      refine x_ld 12 2 0 139 rfl rfl rfl rfl rfl ?_
      refine z_ifeq 147 142 rfl rfl rfl (rg_lit 0 rfl) (fun _ => ?_) (fun c => absurd c (by decide))
      refine x_ld 7 2 0 149 rfl rfl rfl rfl rfl ?_
      refine x_ld 2 1 0 150 rfl rfl rfl rfl rfl ?_
      refine x_ld 3 1 0 151 rfl rfl rfl rfl rfl ?_
      refine x_ld 13 2 0 153 rfl rfl rfl rfl rfl ?_
      refine z_ifeq 161 156 rfl rfl rfl (rg_lit 0 rfl) (fun _ => ?_) (fun c => absurd c (by decide))
      refine x_cst (zi (-1)) 1 162 rfl rfl rfl ?_
      refine x_ld 13 2 0 164 rfl rfl rfl rfl rfl ?_
      refine z_ifeq 172 167 rfl rfl rfl (rg_lit 0 rfl) (fun _ => ?_) (fun c => absurd c (by decide))
      refine x_cst (zi 0) 1 173 rfl rfl rfl ?_
      refine x_ce 323 151 176 [.ref 572, zi (((ps k).2.2.1 : Nat) : Int), zi ((f : Nat) : Int), zi ((w.length : Nat) : Int), zi (-1), zi 0] rfl rfl rfl (Nat.le_of_ble_eq_true rfl) rfl rfl (Nat.le_of_ble_eq_true rfl) ⟨_, _, _, rfl, o_572⟩ (Nat.le_of_ble_eq_true rfl) (c151 (d + 1) (m := 0) hS (by omega)) rfl ?_
      rintro v M2 ⟨rfl, hS2, hF2⟩
      refine x_rtv rfl rfl ?_
      refine ⟨none, M2, rfl, rfl, rfl, ?_, hF2⟩
      exact hS2
theorem c152s_0a (d : Nat) {ps : Nat → prt} {c : Nat} (hm : mdl M ps c) {k : Nat} (hk : k < c) {w : List Nat} (hw : tx_L w) (h6 : w.length ≤ 6) (ms : (sts ps k).2 (tx_num w) = true) {f : Nat} (hf : f + w.length ≤ 6) (hr : roL (M.1 597) f w) {bs : List cI} (hbs : bs.length + 6 ≤ 256) {u : List Nat} (hu : u.length < 256) (hS : ctS M bs u) {s : Nat} {sw : List Nat} (hs : tx_L sw) (s6 : sw.length ≤ 6) (mss : (sts ps k).1 (tx_num sw) = true) (hsf : s + sw.length ≤ 6) (hsr : roL (M.1 596) s sw) (hK : (ps k).1 = 0) (hT : (ps k).2.2.2 = 0) : ab_Z (pg_G L xs) (d + 4) 152 [.ref 572, zi (k : Nat), zi (f : Nat), zi (w.length : Nat), zi ((s : Nat) : Int), zi ((sw.length : Nat) : Int)] M es (fun v M' => v = none ∧ ctS M' (bs ++ []) (u ++ w) ∧ Fc M M') := by
  have hc31 := hm.1
  obtain ⟨hwf, hok, qkd, qlf, qrt, qlt, _, _⟩ := hm.2 k hk
  have hl := hwf.2.2.2
  rw [hK] at qkd qlf qrt
  rw [show mKd 0 (ps k).2.2.2 = (if (ps k).2.2.2 = 0 then 1 else 0) from rfl] at qkd
  have hkd : M.1 576 (k : Int) = 1 := by rw [qkd, if_pos hT]
  have hlf : M.1 577 (k : Int) = -1 := qlf
  have hrt : M.1 578 (k : Int) = -1 := qrt
  have g := (mdl_gds hm k hk).2
  rw [show pK (pgo ps) k = 0 from hK] at g
  have h1 := one_len hw ((g.2 _).symm.trans ms)
  have hr0 : M.1 597 (f : Int) = ((w[0]! : Nat) : Int) := by have := hr 0 (by omega); rwa [Nat.add_zero] at this
  have hw1 : w = [w[0]!] := by obtain ⟨a, ha⟩ := List.length_eq_one_iff.mp h1; rw [ha]; rfl
  show ab_W (pg_G L xs) (ab_X (pg_G L xs) (d + 3)) 152 _ 0 [some (.ref 572), some (zi ((k : Nat) : Int)), some (zi ((f : Nat) : Int)), some (zi ((w.length : Nat) : Int)), some (zi ((s : Nat) : Int)), some (zi ((sw.length : Nat) : Int)), none, none, none, none, none, none, none] [] (hp M ++ es)
  refine x_ld 0 1 2 1 rfl rfl rfl rfl rfl ?_
  refine g_572_8 22 4 rfl rfl rfl ?_
  refine x_ld 1 1 0 5 rfl rfl rfl rfl rfl ?_
  refine z_ild (-1) 6 rfl i_577 rfl ⟨by omega, by omega⟩ hlf rfl ?_
  refine x_st 6 2 0 8 [some (.ref 572), some (zi ((k : Nat) : Int)), some (zi ((f : Nat) : Int)), some (zi ((w.length : Nat) : Int)), some (zi ((s : Nat) : Int)), some (zi ((sw.length : Nat) : Int)), some (zi (-1)), none, none, none, none, none, none] rfl rfl rfl (Nat.le_of_ble_eq_true rfl) rfl rfl ?_
  refine x_ld 0 1 2 9 rfl rfl rfl rfl rfl ?_
  refine g_572_9 25 12 rfl rfl rfl ?_
  refine x_ld 1 1 0 13 rfl rfl rfl rfl rfl ?_
  refine z_ild (-1) 14 rfl i_578 rfl ⟨by omega, by omega⟩ hrt rfl ?_
  refine x_st 7 2 0 16 [some (.ref 572), some (zi ((k : Nat) : Int)), some (zi ((f : Nat) : Int)), some (zi ((w.length : Nat) : Int)), some (zi ((s : Nat) : Int)), some (zi ((sw.length : Nat) : Int)), some (zi (-1)), some (zi (-1)), none, none, none, none, none] rfl rfl rfl (Nat.le_of_ble_eq_true rfl) rfl rfl ?_
  refine x_ld 0 1 2 17 rfl rfl rfl rfl rfl ?_
  refine g_572_7 19 20 rfl rfl rfl ?_
  refine x_ld 1 1 0 21 rfl rfl rfl rfl rfl ?_
  refine z_ild 1 22 rfl i_576 rfl ⟨by omega, by omega⟩ hkd rfl ?_
  refine x_tin 76 rfl (by decide) (by decide) rfl rfl ?_
  refine x_ld 0 1 2 77 rfl rfl rfl rfl rfl ?_
  refine x_ld 0 1 2 78 rfl rfl rfl rfl rfl ?_
  refine g_572_38 90 81 rfl rfl rfl ?_
  refine x_ld 2 1 0 82 rfl rfl rfl rfl rfl ?_
  refine z_ild ((w[0]! : Nat) : Int) 83 rfl i_597 rfl ⟨by omega, by omega⟩ hr0 rfl ?_
  refine x_ce 329 153 86 [.ref 572, zi ((w[0]! : Nat) : Int)] rfl rfl rfl (Nat.le_of_ble_eq_true rfl) rfl rfl (Nat.le_of_ble_eq_true rfl) ⟨_, _, _, rfl, o_572⟩ (Nat.le_of_ble_eq_true rfl) (c153 (d + 2) hS hu) rfl ?_
  rintro v M2 ⟨rfl, hS2, hF2⟩
  refine x_go 368 rfl rfl ?_
  refine x_rtv rfl rfl ?_
  exact ⟨none, M2, rfl, rfl, rfl, by rw [List.append_nil, hw1]; exact hS2, hF2⟩
theorem c152s_0b (d : Nat) {ps : Nat → prt} {c : Nat} (hm : mdl M ps c) {k : Nat} (hk : k < c) {w : List Nat} (hw : tx_L w) (h6 : w.length ≤ 6) (ms : (sts ps k).2 (tx_num w) = true) {f : Nat} (hf : f + w.length ≤ 6) (hr : roL (M.1 597) f w) {bs : List cI} (hbs : bs.length + 6 ≤ 256) {u : List Nat} (hu : u.length < 256) (hS : ctS M bs u) {s : Nat} {sw : List Nat} (hs : tx_L sw) (s6 : sw.length ≤ 6) (mss : (sts ps k).1 (tx_num sw) = true) (hsf : s + sw.length ≤ 6) (hsr : roL (M.1 596) s sw) (hK : (ps k).1 = 0) (hT : ¬ (ps k).2.2.2 = 0) : ab_Z (pg_G L xs) (d + 4) 152 [.ref 572, zi (k : Nat), zi (f : Nat), zi (w.length : Nat), zi ((s : Nat) : Int), zi ((sw.length : Nat) : Int)] M es (fun v M' => v = none ∧ ctS M' (bs ++ []) (u ++ w) ∧ Fc M M') := by
  have hc31 := hm.1
  obtain ⟨hwf, hok, qkd, qlf, qrt, qlt, _, _⟩ := hm.2 k hk
  have hl := hwf.2.2.2
  rw [hK] at qkd qlf qrt
  rw [show mKd 0 (ps k).2.2.2 = (if (ps k).2.2.2 = 0 then 1 else 0) from rfl] at qkd
  have hkd : M.1 576 (k : Int) = 0 := by rw [qkd, if_neg hT]
  have hlf : M.1 577 (k : Int) = -1 := qlf
  have hrt : M.1 578 (k : Int) = -1 := qrt
  have g := (mdl_gds hm k hk).2
  rw [show pK (pgo ps) k = 0 from hK] at g
  have h1 := one_len hw ((g.2 _).symm.trans ms)
  have hr0 : M.1 597 (f : Int) = ((w[0]! : Nat) : Int) := by have := hr 0 (by omega); rwa [Nat.add_zero] at this
  have hw1 : w = [w[0]!] := by obtain ⟨a, ha⟩ := List.length_eq_one_iff.mp h1; rw [ha]; rfl
  show ab_W (pg_G L xs) (ab_X (pg_G L xs) (d + 3)) 152 _ 0 [some (.ref 572), some (zi ((k : Nat) : Int)), some (zi ((f : Nat) : Int)), some (zi ((w.length : Nat) : Int)), some (zi ((s : Nat) : Int)), some (zi ((sw.length : Nat) : Int)), none, none, none, none, none, none, none] [] (hp M ++ es)
  refine x_ld 0 1 2 1 rfl rfl rfl rfl rfl ?_
  refine g_572_8 22 4 rfl rfl rfl ?_
  refine x_ld 1 1 0 5 rfl rfl rfl rfl rfl ?_
  refine z_ild (-1) 6 rfl i_577 rfl ⟨by omega, by omega⟩ hlf rfl ?_
  refine x_st 6 2 0 8 [some (.ref 572), some (zi ((k : Nat) : Int)), some (zi ((f : Nat) : Int)), some (zi ((w.length : Nat) : Int)), some (zi ((s : Nat) : Int)), some (zi ((sw.length : Nat) : Int)), some (zi (-1)), none, none, none, none, none, none] rfl rfl rfl (Nat.le_of_ble_eq_true rfl) rfl rfl ?_
  refine x_ld 0 1 2 9 rfl rfl rfl rfl rfl ?_
  refine g_572_9 25 12 rfl rfl rfl ?_
  refine x_ld 1 1 0 13 rfl rfl rfl rfl rfl ?_
  refine z_ild (-1) 14 rfl i_578 rfl ⟨by omega, by omega⟩ hrt rfl ?_
  refine x_st 7 2 0 16 [some (.ref 572), some (zi ((k : Nat) : Int)), some (zi ((f : Nat) : Int)), some (zi ((w.length : Nat) : Int)), some (zi ((s : Nat) : Int)), some (zi ((sw.length : Nat) : Int)), some (zi (-1)), some (zi (-1)), none, none, none, none, none] rfl rfl rfl (Nat.le_of_ble_eq_true rfl) rfl rfl ?_
  refine x_ld 0 1 2 17 rfl rfl rfl rfl rfl ?_
  refine g_572_7 19 20 rfl rfl rfl ?_
  refine x_ld 1 1 0 21 rfl rfl rfl rfl rfl ?_
  refine z_ild 0 22 rfl i_576 rfl ⟨by omega, by omega⟩ hkd rfl ?_
  refine x_tin 76 rfl (by decide) (by decide) rfl rfl ?_
  refine x_ld 0 1 2 77 rfl rfl rfl rfl rfl ?_
  refine x_ld 0 1 2 78 rfl rfl rfl rfl rfl ?_
  refine g_572_38 90 81 rfl rfl rfl ?_
  refine x_ld 2 1 0 82 rfl rfl rfl rfl rfl ?_
  refine z_ild ((w[0]! : Nat) : Int) 83 rfl i_597 rfl ⟨by omega, by omega⟩ hr0 rfl ?_
  refine x_ce 329 153 86 [.ref 572, zi ((w[0]! : Nat) : Int)] rfl rfl rfl (Nat.le_of_ble_eq_true rfl) rfl rfl (Nat.le_of_ble_eq_true rfl) ⟨_, _, _, rfl, o_572⟩ (Nat.le_of_ble_eq_true rfl) (c153 (d + 2) hS hu) rfl ?_
  rintro v M2 ⟨rfl, hS2, hF2⟩
  refine x_go 368 rfl rfl ?_
  refine x_rtv rfl rfl ?_
  exact ⟨none, M2, rfl, rfl, rfl, by rw [List.append_nil, hw1]; exact hS2, hF2⟩
theorem c152s_1 (d : Nat) {ps : Nat → prt} {c : Nat} (hm : mdl M ps c) {k : Nat} (hk : k < c) {w : List Nat} (hw : tx_L w) (h6 : w.length ≤ 6) (ms : (sts ps k).2 (tx_num w) = true) {f : Nat} (hf : f + w.length ≤ 6) (hr : roL (M.1 597) f w) {bs : List cI} (hbs : bs.length + 6 ≤ 256) {u : List Nat} (hu : u.length < 256) (hS : ctS M bs u) {s : Nat} {sw : List Nat} (hs : tx_L sw) (s6 : sw.length ≤ 6) (mss : (sts ps k).1 (tx_num sw) = true) (hsf : s + sw.length ≤ 6) (hsr : roL (M.1 596) s sw) (hK : (ps k).1 = 1) : ab_Z (pg_G L xs) (d + 4) 152 [.ref 572, zi (k : Nat), zi (f : Nat), zi (w.length : Nat), zi ((s : Nat) : Int), zi ((sw.length : Nat) : Int)] M es (fun v M' => v = none ∧ ctS M' (bs ++ []) (u ++ sw) ∧ Fc M M') := by
  have hc31 := hm.1
  obtain ⟨hwf, hok, qkd, qlf, qrt, qlt, _, _⟩ := hm.2 k hk
  have hl := hwf.2.2.2
  rw [hK] at qkd qlf qrt
  have hkd : M.1 576 (k : Int) = 2 := qkd
  have hlf : M.1 577 (k : Int) = -1 := qlf
  have hrt : M.1 578 (k : Int) = -1 := qrt
  have g := (mdl_gds hm k hk).2
  rw [show pK (pgo ps) k = 1 from hK] at g
  have h1 := one_len hs ((g.1 _).symm.trans mss)
  have hs0 : M.1 596 (s : Int) = ((sw[0]! : Nat) : Int) := by have := hsr 0 (by omega); rwa [Nat.add_zero] at this
  have hw1 : sw = [sw[0]!] := by obtain ⟨a, ha⟩ := List.length_eq_one_iff.mp h1; rw [ha]; rfl
  show ab_W (pg_G L xs) (ab_X (pg_G L xs) (d + 3)) 152 _ 0 [some (.ref 572), some (zi ((k : Nat) : Int)), some (zi ((f : Nat) : Int)), some (zi ((w.length : Nat) : Int)), some (zi ((s : Nat) : Int)), some (zi ((sw.length : Nat) : Int)), none, none, none, none, none, none, none] [] (hp M ++ es)
  refine x_ld 0 1 2 1 rfl rfl rfl rfl rfl ?_
  refine g_572_8 22 4 rfl rfl rfl ?_
  refine x_ld 1 1 0 5 rfl rfl rfl rfl rfl ?_
  refine z_ild (-1) 6 rfl i_577 rfl ⟨by omega, by omega⟩ hlf rfl ?_
  refine x_st 6 2 0 8 [some (.ref 572), some (zi ((k : Nat) : Int)), some (zi ((f : Nat) : Int)), some (zi ((w.length : Nat) : Int)), some (zi ((s : Nat) : Int)), some (zi ((sw.length : Nat) : Int)), some (zi (-1)), none, none, none, none, none, none] rfl rfl rfl (Nat.le_of_ble_eq_true rfl) rfl rfl ?_
  refine x_ld 0 1 2 9 rfl rfl rfl rfl rfl ?_
  refine g_572_9 25 12 rfl rfl rfl ?_
  refine x_ld 1 1 0 13 rfl rfl rfl rfl rfl ?_
  refine z_ild (-1) 14 rfl i_578 rfl ⟨by omega, by omega⟩ hrt rfl ?_
  refine x_st 7 2 0 16 [some (.ref 572), some (zi ((k : Nat) : Int)), some (zi ((f : Nat) : Int)), some (zi ((w.length : Nat) : Int)), some (zi ((s : Nat) : Int)), some (zi ((sw.length : Nat) : Int)), some (zi (-1)), some (zi (-1)), none, none, none, none, none] rfl rfl rfl (Nat.le_of_ble_eq_true rfl) rfl rfl ?_
  refine x_ld 0 1 2 17 rfl rfl rfl rfl rfl ?_
  refine g_572_7 19 20 rfl rfl rfl ?_
  refine x_ld 1 1 0 21 rfl rfl rfl rfl rfl ?_
  refine z_ild 2 22 rfl i_576 rfl ⟨by omega, by omega⟩ hkd rfl ?_
  refine x_tin 89 rfl (by decide) (by decide) rfl rfl ?_
  refine x_ld 0 1 2 90 rfl rfl rfl rfl rfl ?_
  refine x_ld 4 2 0 92 rfl rfl rfl rfl rfl ?_
  refine z_iflt 105 95 rfl rfl rfl ⟨by omega, by omega⟩ (fun c => absurd c (by omega)) (fun _ => ?_)
  refine x_ld 0 1 2 96 rfl rfl rfl rfl rfl ?_
  refine g_572_37 87 99 rfl rfl rfl ?_
  refine x_ld 4 2 0 101 rfl rfl rfl rfl rfl ?_
  refine z_ild ((sw[0]! : Nat) : Int) 102 rfl i_596 rfl ⟨by omega, by omega⟩ hs0 rfl ?_
  refine x_go 125 rfl rfl ?_
  refine x_ce 329 153 128 [.ref 572, zi ((sw[0]! : Nat) : Int)] rfl rfl rfl (Nat.le_of_ble_eq_true rfl) rfl rfl (Nat.le_of_ble_eq_true rfl) ⟨_, _, _, rfl, o_572⟩ (Nat.le_of_ble_eq_true rfl) (c153 (d + 2) hS hu) rfl ?_
  rintro v M2 ⟨rfl, hS2, hF2⟩
  refine x_go 368 rfl rfl ?_
  refine x_rtv rfl rfl ?_
  exact ⟨none, M2, rfl, rfl, rfl, by rw [List.append_nil, hw1]; exact hS2, hF2⟩
theorem c152s_2 (d : Nat) {ps : Nat → prt} {c : Nat} (hm : mdl M ps c) {k : Nat} (hk : k < c) {w : List Nat} (hw : tx_L w) (h6 : w.length ≤ 6) (ms : (sts ps k).2 (tx_num w) = true) {f : Nat} (hf : f + w.length ≤ 6) (hr : roL (M.1 597) f w) {bs : List cI} (hbs : bs.length + 6 ≤ 256) {u : List Nat} (hu : u.length < 256) (hS : ctS M bs u) {s : Nat} {sw : List Nat} (hs : tx_L sw) (s6 : sw.length ≤ 6) (mss : (sts ps k).1 (tx_num sw) = true) (hsf : s + sw.length ≤ 6) (hsr : roL (M.1 596) s sw) (hK : (ps k).1 = 2) : ab_Z (pg_G L xs) (d + 4) 152 [.ref 572, zi (k : Nat), zi (f : Nat), zi (w.length : Nat), zi ((s : Nat) : Int), zi ((sw.length : Nat) : Int)] M es (fun v M' => v = none ∧ ctS M' (bs ++ []) (u ++ []) ∧ Fc M M') := by
  have hc31 := hm.1
  obtain ⟨hwf, hok, qkd, qlf, qrt, qlt, _, _⟩ := hm.2 k hk
  have hl := hwf.2.2.2
  rw [hK] at qkd qlf qrt
  have hkd : M.1 576 (k : Int) = 3 := qkd
  have hlf : M.1 577 (k : Int) = -1 := qlf
  have hrt : M.1 578 (k : Int) = -1 := qrt
  show ab_W (pg_G L xs) (ab_X (pg_G L xs) (d + 3)) 152 _ 0 [some (.ref 572), some (zi ((k : Nat) : Int)), some (zi ((f : Nat) : Int)), some (zi ((w.length : Nat) : Int)), some (zi ((s : Nat) : Int)), some (zi ((sw.length : Nat) : Int)), none, none, none, none, none, none, none] [] (hp M ++ es)
  refine x_ld 0 1 2 1 rfl rfl rfl rfl rfl ?_
  refine g_572_8 22 4 rfl rfl rfl ?_
  refine x_ld 1 1 0 5 rfl rfl rfl rfl rfl ?_
  refine z_ild (-1) 6 rfl i_577 rfl ⟨by omega, by omega⟩ hlf rfl ?_
  refine x_st 6 2 0 8 [some (.ref 572), some (zi ((k : Nat) : Int)), some (zi ((f : Nat) : Int)), some (zi ((w.length : Nat) : Int)), some (zi ((s : Nat) : Int)), some (zi ((sw.length : Nat) : Int)), some (zi (-1)), none, none, none, none, none, none] rfl rfl rfl (Nat.le_of_ble_eq_true rfl) rfl rfl ?_
  refine x_ld 0 1 2 9 rfl rfl rfl rfl rfl ?_
  refine g_572_9 25 12 rfl rfl rfl ?_
  refine x_ld 1 1 0 13 rfl rfl rfl rfl rfl ?_
  refine z_ild (-1) 14 rfl i_578 rfl ⟨by omega, by omega⟩ hrt rfl ?_
  refine x_st 7 2 0 16 [some (.ref 572), some (zi ((k : Nat) : Int)), some (zi ((f : Nat) : Int)), some (zi ((w.length : Nat) : Int)), some (zi ((s : Nat) : Int)), some (zi ((sw.length : Nat) : Int)), some (zi (-1)), some (zi (-1)), none, none, none, none, none] rfl rfl rfl (Nat.le_of_ble_eq_true rfl) rfl rfl ?_
  refine x_ld 0 1 2 17 rfl rfl rfl rfl rfl ?_
  refine g_572_7 19 20 rfl rfl rfl ?_
  refine x_ld 1 1 0 21 rfl rfl rfl rfl rfl ?_
  refine z_ild 3 22 rfl i_576 rfl ⟨by omega, by omega⟩ hkd rfl ?_
  refine x_tin 131 rfl (by decide) (by decide) rfl rfl ?_
  refine x_go 368 rfl rfl ?_
  refine x_rtv rfl rfl ?_
  exact ⟨none, M, rfl, rfl, rfl, by rw [List.append_nil, List.append_nil]; exact hS, Fc_refl M⟩
theorem c152s_3 (d : Nat) {ps : Nat → prt} {c : Nat} (hm : mdl M ps c) {k : Nat} (hk : k < c) {w : List Nat} (hw : tx_L w) (h6 : w.length ≤ 6) (ms : (sts ps k).2 (tx_num w) = true) {f : Nat} (hf : f + w.length ≤ 6) (hr : roL (M.1 597) f w) {bs : List cI} (hbs : bs.length + 6 ≤ 256) {u : List Nat} (hu : u.length < 256) (hS : ctS M bs u) {s : Nat} {sw : List Nat} (hs : tx_L sw) (s6 : sw.length ≤ 6) (mss : (sts ps k).1 (tx_num sw) = true) (hsf : s + sw.length ≤ 6) (hsr : roL (M.1 596) s sw) (hK : (ps k).1 = 3) : ab_Z (pg_G L xs) (d + 4) 152 [.ref 572, zi (k : Nat), zi (f : Nat), zi (w.length : Nat), zi ((s : Nat) : Int), zi ((sw.length : Nat) : Int)] M es (fun v M' => v = none ∧ ctS M' (bs ++ [((ps k).2.1, f, w.length, ((s : Nat) : Int), sw.length)]) (u ++ []) ∧ Fc M M') := by
  have hc31 := hm.1
  obtain ⟨hwf, hok, qkd, qlf, qrt, qlt, _, _⟩ := hm.2 k hk
  have hl := hwf.2.2.2
  rw [hK] at qkd qlf qrt
  have hkd : M.1 576 (k : Int) = 6 := qkd
  have hlf : M.1 577 (k : Int) = (((ps k).2.1 : Nat) : Int) := qlf
  have hrt : M.1 578 (k : Int) = -1 := qrt
  have hlk := hl (by omega)
  have al := (hm.2 _ (Nat.lt_trans hlk.1 hk)).2.2.2.2.2.2.2
  have sl := (hm.2 _ (Nat.lt_trans hlk.1 hk)).2.2.2.2.2.2.1
  show ab_W (pg_G L xs) (ab_X (pg_G L xs) (d + 3)) 152 _ 0 [some (.ref 572), some (zi ((k : Nat) : Int)), some (zi ((f : Nat) : Int)), some (zi ((w.length : Nat) : Int)), some (zi ((s : Nat) : Int)), some (zi ((sw.length : Nat) : Int)), none, none, none, none, none, none, none] [] (hp M ++ es)
  refine x_ld 0 1 2 1 rfl rfl rfl rfl rfl ?_
  refine g_572_8 22 4 rfl rfl rfl ?_
  refine x_ld 1 1 0 5 rfl rfl rfl rfl rfl ?_
  refine z_ild (((ps k).2.1 : Nat) : Int) 6 rfl i_577 rfl ⟨by omega, by omega⟩ hlf rfl ?_
  refine x_st 6 2 0 8 [some (.ref 572), some (zi ((k : Nat) : Int)), some (zi ((f : Nat) : Int)), some (zi ((w.length : Nat) : Int)), some (zi ((s : Nat) : Int)), some (zi ((sw.length : Nat) : Int)), some (zi (((ps k).2.1 : Nat) : Int)), none, none, none, none, none, none] rfl rfl rfl (Nat.le_of_ble_eq_true rfl) rfl rfl ?_
  refine x_ld 0 1 2 9 rfl rfl rfl rfl rfl ?_
  refine g_572_9 25 12 rfl rfl rfl ?_
  refine x_ld 1 1 0 13 rfl rfl rfl rfl rfl ?_
  refine z_ild (-1) 14 rfl i_578 rfl ⟨by omega, by omega⟩ hrt rfl ?_
  refine x_st 7 2 0 16 [some (.ref 572), some (zi ((k : Nat) : Int)), some (zi ((f : Nat) : Int)), some (zi ((w.length : Nat) : Int)), some (zi ((s : Nat) : Int)), some (zi ((sw.length : Nat) : Int)), some (zi (((ps k).2.1 : Nat) : Int)), some (zi (-1)), none, none, none, none, none] rfl rfl rfl (Nat.le_of_ble_eq_true rfl) rfl rfl ?_
  refine x_ld 0 1 2 17 rfl rfl rfl rfl rfl ?_
  refine g_572_7 19 20 rfl rfl rfl ?_
  refine x_ld 1 1 0 21 rfl rfl rfl rfl rfl ?_
  refine z_ild 6 22 rfl i_576 rfl ⟨by omega, by omega⟩ hkd rfl ?_
  refine x_tin 134 rfl (by decide) (by decide) rfl rfl ?_
  refine x_ld 0 1 2 135 rfl rfl rfl rfl rfl ?_
  refine x_ld 6 2 0 137 rfl rfl rfl rfl rfl ?_
  refine x_ld 2 1 0 138 rfl rfl rfl rfl rfl ?_
  refine x_ld 3 1 0 139 rfl rfl rfl rfl rfl ?_
  refine x_ld 4 2 0 141 rfl rfl rfl rfl rfl ?_
  refine x_ld 5 2 0 143 rfl rfl rfl rfl rfl ?_
  refine x_ce 323 151 146 [.ref 572, zi (((ps k).2.1 : Nat) : Int), zi ((f : Nat) : Int), zi ((w.length : Nat) : Int), zi ((s : Nat) : Int), zi ((sw.length : Nat) : Int)] rfl rfl rfl (Nat.le_of_ble_eq_true rfl) rfl rfl (Nat.le_of_ble_eq_true rfl) ⟨_, _, _, rfl, o_572⟩ (Nat.le_of_ble_eq_true rfl) (c151 (d + 2) hS (by omega)) rfl ?_
  rintro v M2 ⟨rfl, hS2, hF2⟩
  refine x_go 368 rfl rfl ?_
  refine x_rtv rfl rfl ?_
  exact ⟨none, M2, rfl, rfl, rfl, by rw [List.append_nil]; exact hS2, hF2⟩
theorem c152s_4 (d : Nat) {ps : Nat → prt} {c : Nat} (hm : mdl M ps c) {k : Nat} (hk : k < c) {w : List Nat} (hw : tx_L w) (h6 : w.length ≤ 6) (ms : (sts ps k).2 (tx_num w) = true) {f : Nat} (hf : f + w.length ≤ 6) (hr : roL (M.1 597) f w) {bs : List cI} (hbs : bs.length + 6 ≤ 256) {u : List Nat} (hu : u.length < 256) (hS : ctS M bs u) {s : Nat} {sw : List Nat} (hs : tx_L sw) (s6 : sw.length ≤ 6) (mss : (sts ps k).1 (tx_num sw) = true) (hsf : s + sw.length ≤ 6) (hsr : roL (M.1 596) s sw) (hK : (ps k).1 = 4) {ch : List cI} (c4 : ab_Z (pg_G L xs) (d + 3) 154 [.ref 572, zi (k : Nat), zi (f : Nat), zi (w.length : Nat), zi ((s : Nat) : Int), zi ((sw.length : Nat) : Int)] M es (fun v M' => v = none ∧ ctS M' (bs ++ ch) u ∧ Fc M M')) : ab_Z (pg_G L xs) (d + 4) 152 [.ref 572, zi (k : Nat), zi (f : Nat), zi (w.length : Nat), zi ((s : Nat) : Int), zi ((sw.length : Nat) : Int)] M es (fun v M' => v = none ∧ ctS M' (bs ++ ch) (u ++ []) ∧ Fc M M') := by
  have hc31 := hm.1
  obtain ⟨hwf, hok, qkd, qlf, qrt, qlt, _, _⟩ := hm.2 k hk
  have hl := hwf.2.2.2
  rw [hK] at qkd qlf qrt
  have hkd : M.1 576 (k : Int) = 7 := qkd
  have hlf : M.1 577 (k : Int) = (((ps k).2.1 : Nat) : Int) := qlf
  have hrt : M.1 578 (k : Int) = (((ps k).2.2.1 : Nat) : Int) := qrt
  have hlk := hl (by omega)
  have al := (hm.2 _ (Nat.lt_trans hlk.1 hk)).2.2.2.2.2.2.2
  have sl := (hm.2 _ (Nat.lt_trans hlk.1 hk)).2.2.2.2.2.2.1
  have ar := (hm.2 _ (Nat.lt_trans hlk.2 hk)).2.2.2.2.2.2.2
  have sr := (hm.2 _ (Nat.lt_trans hlk.2 hk)).2.2.2.2.2.2.1
  have hlt9 := num_lt hw h6
  have hls9 := num_lt hs s6
  show ab_W (pg_G L xs) (ab_X (pg_G L xs) (d + 3)) 152 _ 0 [some (.ref 572), some (zi ((k : Nat) : Int)), some (zi ((f : Nat) : Int)), some (zi ((w.length : Nat) : Int)), some (zi ((s : Nat) : Int)), some (zi ((sw.length : Nat) : Int)), none, none, none, none, none, none, none] [] (hp M ++ es)
  refine x_ld 0 1 2 1 rfl rfl rfl rfl rfl ?_
  refine g_572_8 22 4 rfl rfl rfl ?_
  refine x_ld 1 1 0 5 rfl rfl rfl rfl rfl ?_
  refine z_ild (((ps k).2.1 : Nat) : Int) 6 rfl i_577 rfl ⟨by omega, by omega⟩ hlf rfl ?_
  refine x_st 6 2 0 8 [some (.ref 572), some (zi ((k : Nat) : Int)), some (zi ((f : Nat) : Int)), some (zi ((w.length : Nat) : Int)), some (zi ((s : Nat) : Int)), some (zi ((sw.length : Nat) : Int)), some (zi (((ps k).2.1 : Nat) : Int)), none, none, none, none, none, none] rfl rfl rfl (Nat.le_of_ble_eq_true rfl) rfl rfl ?_
  refine x_ld 0 1 2 9 rfl rfl rfl rfl rfl ?_
  refine g_572_9 25 12 rfl rfl rfl ?_
  refine x_ld 1 1 0 13 rfl rfl rfl rfl rfl ?_
  refine z_ild (((ps k).2.2.1 : Nat) : Int) 14 rfl i_578 rfl ⟨by omega, by omega⟩ hrt rfl ?_
  refine x_st 7 2 0 16 [some (.ref 572), some (zi ((k : Nat) : Int)), some (zi ((f : Nat) : Int)), some (zi ((w.length : Nat) : Int)), some (zi ((s : Nat) : Int)), some (zi ((sw.length : Nat) : Int)), some (zi (((ps k).2.1 : Nat) : Int)), some (zi (((ps k).2.2.1 : Nat) : Int)), none, none, none, none, none] rfl rfl rfl (Nat.le_of_ble_eq_true rfl) rfl rfl ?_
  refine x_ld 0 1 2 17 rfl rfl rfl rfl rfl ?_
  refine g_572_7 19 20 rfl rfl rfl ?_
  refine x_ld 1 1 0 21 rfl rfl rfl rfl rfl ?_
  refine z_ild 7 22 rfl i_576 rfl ⟨by omega, by omega⟩ hkd rfl ?_
  refine x_tin 149 rfl (by decide) (by decide) rfl rfl ?_
  refine x_ld 0 1 2 150 rfl rfl rfl rfl rfl ?_
  refine x_ld 1 1 0 151 rfl rfl rfl rfl rfl ?_
  refine x_ld 2 1 0 152 rfl rfl rfl rfl rfl ?_
  refine x_ld 3 1 0 153 rfl rfl rfl rfl rfl ?_
  refine x_ld 4 2 0 155 rfl rfl rfl rfl rfl ?_
  refine x_ld 5 2 0 157 rfl rfl rfl rfl rfl ?_
  refine x_ce 332 154 160 [.ref 572, zi ((k : Nat) : Int), zi ((f : Nat) : Int), zi ((w.length : Nat) : Int), zi ((s : Nat) : Int), zi ((sw.length : Nat) : Int)] rfl rfl rfl (Nat.le_of_ble_eq_true rfl) rfl rfl (Nat.le_of_ble_eq_true rfl) ⟨_, _, _, rfl, o_572⟩ (Nat.le_of_ble_eq_true rfl) c4 rfl ?_
  rintro v M2 ⟨rfl, hS2, hF2⟩
  refine x_go 368 rfl rfl ?_
  refine x_rtv rfl rfl ?_
  exact ⟨none, M2, rfl, rfl, rfl, by rw [List.append_nil]; exact hS2, hF2⟩
theorem c152s_5 (d : Nat) {ps : Nat → prt} {c : Nat} (hm : mdl M ps c) {k : Nat} (hk : k < c) {w : List Nat} (hw : tx_L w) (h6 : w.length ≤ 6) (ms : (sts ps k).2 (tx_num w) = true) {f : Nat} (hf : f + w.length ≤ 6) (hr : roL (M.1 597) f w) {bs : List cI} (hbs : bs.length + 6 ≤ 256) {u : List Nat} (hu : u.length < 256) (hS : ctS M bs u) {s : Nat} {sw : List Nat} (hs : tx_L sw) (s6 : sw.length ≤ 6) (mss : (sts ps k).1 (tx_num sw) = true) (hsf : s + sw.length ≤ 6) (hsr : roL (M.1 596) s sw) (hK : (ps k).1 = 5) : ab_Z (pg_G L xs) (d + 4) 152 [.ref 572, zi (k : Nat), zi (f : Nat), zi (w.length : Nat), zi ((s : Nat) : Int), zi ((sw.length : Nat) : Int)] M es (fun v M' => v = none ∧ ctS M' (bs ++ [((ps k).2.2.1, f + (cut (sts ps (ps k).2.1).2 (sts ps (ps k).2.2.1).2 w), w.length - (cut (sts ps (ps k).2.1).2 (sts ps (ps k).2.2.1).2 w), ((s + (cut (sts ps (ps k).2.1).1 (sts ps (ps k).2.2.1).1 sw) : Nat) : Int), sw.length - (cut (sts ps (ps k).2.1).1 (sts ps (ps k).2.2.1).1 sw)), ((ps k).2.1, f, (cut (sts ps (ps k).2.1).2 (sts ps (ps k).2.2.1).2 w), ((s : Nat) : Int), (cut (sts ps (ps k).2.1).1 (sts ps (ps k).2.2.1).1 sw))]) (u ++ []) ∧ Fc M M') := by
  have hc31 := hm.1
  obtain ⟨hwf, hok, qkd, qlf, qrt, qlt, _, _⟩ := hm.2 k hk
  have hl := hwf.2.2.2
  rw [hK] at qkd qlf qrt
  have hkd : M.1 576 (k : Int) = 4 := qkd
  have hlf : M.1 577 (k : Int) = (((ps k).2.1 : Nat) : Int) := qlf
  have hrt : M.1 578 (k : Int) = (((ps k).2.2.1 : Nat) : Int) := qrt
  have hlk := hl (by omega)
  have al := (hm.2 _ (Nat.lt_trans hlk.1 hk)).2.2.2.2.2.2.2
  have sl := (hm.2 _ (Nat.lt_trans hlk.1 hk)).2.2.2.2.2.2.1
  have ar := (hm.2 _ (Nat.lt_trans hlk.2 hk)).2.2.2.2.2.2.2
  have sr := (hm.2 _ (Nat.lt_trans hlk.2 hk)).2.2.2.2.2.2.1
  have hle : (cut (sts ps (ps k).2.1).2 (sts ps (ps k).2.2.1).2 w) ≤ w.length := cut_le _ _ w
  have hle2 : (cut (sts ps (ps k).2.1).1 (sts ps (ps k).2.2.1).1 sw) ≤ sw.length := cut_le _ _ sw
  show ab_W (pg_G L xs) (ab_X (pg_G L xs) (d + 3)) 152 _ 0 [some (.ref 572), some (zi ((k : Nat) : Int)), some (zi ((f : Nat) : Int)), some (zi ((w.length : Nat) : Int)), some (zi ((s : Nat) : Int)), some (zi ((sw.length : Nat) : Int)), none, none, none, none, none, none, none] [] (hp M ++ es)
  refine x_ld 0 1 2 1 rfl rfl rfl rfl rfl ?_
  refine g_572_8 22 4 rfl rfl rfl ?_
  refine x_ld 1 1 0 5 rfl rfl rfl rfl rfl ?_
  refine z_ild (((ps k).2.1 : Nat) : Int) 6 rfl i_577 rfl ⟨by omega, by omega⟩ hlf rfl ?_
  refine x_st 6 2 0 8 [some (.ref 572), some (zi ((k : Nat) : Int)), some (zi ((f : Nat) : Int)), some (zi ((w.length : Nat) : Int)), some (zi ((s : Nat) : Int)), some (zi ((sw.length : Nat) : Int)), some (zi (((ps k).2.1 : Nat) : Int)), none, none, none, none, none, none] rfl rfl rfl (Nat.le_of_ble_eq_true rfl) rfl rfl ?_
  refine x_ld 0 1 2 9 rfl rfl rfl rfl rfl ?_
  refine g_572_9 25 12 rfl rfl rfl ?_
  refine x_ld 1 1 0 13 rfl rfl rfl rfl rfl ?_
  refine z_ild (((ps k).2.2.1 : Nat) : Int) 14 rfl i_578 rfl ⟨by omega, by omega⟩ hrt rfl ?_
  refine x_st 7 2 0 16 [some (.ref 572), some (zi ((k : Nat) : Int)), some (zi ((f : Nat) : Int)), some (zi ((w.length : Nat) : Int)), some (zi ((s : Nat) : Int)), some (zi ((sw.length : Nat) : Int)), some (zi (((ps k).2.1 : Nat) : Int)), some (zi (((ps k).2.2.1 : Nat) : Int)), none, none, none, none, none] rfl rfl rfl (Nat.le_of_ble_eq_true rfl) rfl rfl ?_
  refine x_ld 0 1 2 17 rfl rfl rfl rfl rfl ?_
  refine g_572_7 19 20 rfl rfl rfl ?_
  refine x_ld 1 1 0 21 rfl rfl rfl rfl rfl ?_
  refine z_ild 4 22 rfl i_576 rfl ⟨by omega, by omega⟩ hkd rfl ?_
  refine x_tin 177 rfl (by decide) (by decide) rfl rfl ?_
  refine x_ld 0 1 2 178 rfl rfl rfl rfl rfl ?_
  refine g_572_7 19 181 rfl rfl rfl ?_
  refine x_ld 1 1 0 182 rfl rfl rfl rfl rfl ?_
  refine z_ild 4 183 rfl i_576 rfl ⟨by omega, by omega⟩ hkd rfl ?_
  refine x_cst (zi 4) 1 184 rfl rfl rfl ?_
  refine z_icne 191 187 rfl rfl rfl (rg_lit 4 rfl) (rg_lit 4 rfl) (fun c => absurd c (by decide)) (fun _ => ?_)
  refine x_cst (zi 1) 1 188 rfl rfl rfl ?_
  refine x_go 192 rfl rfl ?_
  refine x_st 8 2 0 194 [some (.ref 572), some (zi ((k : Nat) : Int)), some (zi ((f : Nat) : Int)), some (zi ((w.length : Nat) : Int)), some (zi ((s : Nat) : Int)), some (zi ((sw.length : Nat) : Int)), some (zi (((ps k).2.1 : Nat) : Int)), some (zi (((ps k).2.2.1 : Nat) : Int)), some (zi 1), none, none, none, none] rfl rfl rfl (Nat.le_of_ble_eq_true rfl) rfl rfl ?_
  refine x_ld 8 2 0 196 rfl rfl rfl rfl rfl ?_
  refine z_ifeq 220 199 rfl rfl rfl (rg_lit 1 rfl) (fun c => absurd c (by decide)) (fun _ => ?_)
  refine x_ld 0 1 2 200 rfl rfl rfl rfl rfl ?_
  refine x_ld 0 1 2 201 rfl rfl rfl rfl rfl ?_
  refine g_572_12 35 204 rfl rfl rfl ?_
  refine x_ld 6 2 0 206 rfl rfl rfl rfl rfl ?_
  refine x_ld 7 2 0 208 rfl rfl rfl rfl rfl ?_
  refine x_ld 0 1 2 209 rfl rfl rfl rfl rfl ?_
  refine g_572_38 90 212 rfl rfl rfl ?_
  refine x_ld 2 1 0 213 rfl rfl rfl rfl rfl ?_
  refine x_ld 3 1 0 214 rfl rfl rfl rfl rfl ?_
  refine x_cv 304 147 217 [.ref 572, .ref 581, zi (((ps k).2.1 : Nat) : Int), zi (((ps k).2.2.1 : Nat) : Int), .ref 597, zi ((f : Nat) : Int), zi ((w.length : Nat) : Int)] rfl rfl rfl (Nat.le_of_ble_eq_true rfl) rfl rfl (Nat.le_of_ble_eq_true rfl) ⟨_, _, _, rfl, o_572⟩ (Nat.le_of_ble_eq_true rfl) (c147 (d + 1) i_581 (f := (ps k).2.1) (g := (ps k).2.2.1) (by omega) (by omega) i_597 hw h6 hr (by omega)) rfl ?_
  rw [cut_ag al ar hw h6]
  refine x_go 238 rfl rfl ?_
  refine x_st 9 2 0 240 [some (.ref 572), some (zi ((k : Nat) : Int)), some (zi ((f : Nat) : Int)), some (zi ((w.length : Nat) : Int)), some (zi ((s : Nat) : Int)), some (zi ((sw.length : Nat) : Int)), some (zi (((ps k).2.1 : Nat) : Int)), some (zi (((ps k).2.2.1 : Nat) : Int)), some (zi 1), some (zi (((cut (sts ps (ps k).2.1).2 (sts ps (ps k).2.2.1).2 w) : Nat) : Int)), none, none, none] rfl rfl rfl (Nat.le_of_ble_eq_true rfl) rfl rfl ?_
  refine x_ld 4 2 0 242 rfl rfl rfl rfl rfl ?_
  refine z_ifge 249 245 rfl rfl rfl ⟨by omega, by omega⟩ (fun _ => ?_) (fun c => absurd c (by omega))
  refine x_ld 0 1 2 250 rfl rfl rfl rfl rfl ?_
  refine x_ld 0 1 2 251 rfl rfl rfl rfl rfl ?_
  refine g_572_11 31 254 rfl rfl rfl ?_
  refine x_ld 6 2 0 256 rfl rfl rfl rfl rfl ?_
  refine x_ld 7 2 0 258 rfl rfl rfl rfl rfl ?_
  refine x_ld 0 1 2 259 rfl rfl rfl rfl rfl ?_
  refine g_572_37 87 262 rfl rfl rfl ?_
  refine x_ld 4 2 0 264 rfl rfl rfl rfl rfl ?_
  refine x_ld 5 2 0 266 rfl rfl rfl rfl rfl ?_
  refine x_cv 304 147 269 [.ref 572, .ref 580, zi (((ps k).2.1 : Nat) : Int), zi (((ps k).2.2.1 : Nat) : Int), .ref 596, zi ((s : Nat) : Int), zi ((sw.length : Nat) : Int)] rfl rfl rfl (Nat.le_of_ble_eq_true rfl) rfl rfl (Nat.le_of_ble_eq_true rfl) ⟨_, _, _, rfl, o_572⟩ (Nat.le_of_ble_eq_true rfl) (c147 (d + 1) i_580 (f := (ps k).2.1) (g := (ps k).2.2.1) (by omega) (by omega) i_596 hs s6 hsr (by omega)) rfl ?_
  rw [cut_ag sl sr hs s6]
  refine x_st 10 2 0 271 [some (.ref 572), some (zi ((k : Nat) : Int)), some (zi ((f : Nat) : Int)), some (zi ((w.length : Nat) : Int)), some (zi ((s : Nat) : Int)), some (zi ((sw.length : Nat) : Int)), some (zi (((ps k).2.1 : Nat) : Int)), some (zi (((ps k).2.2.1 : Nat) : Int)), some (zi 1), some (zi (((cut (sts ps (ps k).2.1).2 (sts ps (ps k).2.2.1).2 w) : Nat) : Int)), some (zi (((cut (sts ps (ps k).2.1).1 (sts ps (ps k).2.2.1).1 sw) : Nat) : Int)), none, none] rfl rfl rfl (Nat.le_of_ble_eq_true rfl) rfl rfl ?_
  refine x_ld 8 2 0 273 rfl rfl rfl rfl rfl ?_
  refine z_ifeq 280 276 rfl rfl rfl (rg_lit 1 rfl) (fun c => absurd c (by decide)) (fun _ => ?_)
  refine x_ld 2 1 0 277 rfl rfl rfl rfl rfl ?_
  refine x_go 284 rfl rfl ?_
  refine x_st 11 2 0 286 [some (.ref 572), some (zi ((k : Nat) : Int)), some (zi ((f : Nat) : Int)), some (zi ((w.length : Nat) : Int)), some (zi ((s : Nat) : Int)), some (zi ((sw.length : Nat) : Int)), some (zi (((ps k).2.1 : Nat) : Int)), some (zi (((ps k).2.2.1 : Nat) : Int)), some (zi 1), some (zi (((cut (sts ps (ps k).2.1).2 (sts ps (ps k).2.2.1).2 w) : Nat) : Int)), some (zi (((cut (sts ps (ps k).2.1).1 (sts ps (ps k).2.2.1).1 sw) : Nat) : Int)), some (zi ((f : Nat) : Int)), none] rfl rfl rfl (Nat.le_of_ble_eq_true rfl) rfl rfl ?_
  refine x_ld 8 2 0 288 rfl rfl rfl rfl rfl ?_
  refine z_ifeq 298 291 rfl rfl rfl (rg_lit 1 rfl) (fun c => absurd c (by decide)) (fun _ => ?_)
  refine x_ld 2 1 0 292 rfl rfl rfl rfl rfl ?_
  refine x_ld 9 2 0 294 rfl rfl rfl rfl rfl ?_
  refine z_add 295 rfl rfl ?_
  rw [show ((f : Nat) : Int) + (((cut (sts ps (ps k).2.1).2 (sts ps (ps k).2.2.1).2 w) : Nat) : Int) = ((f + (cut (sts ps (ps k).2.1).2 (sts ps (ps k).2.2.1).2 w) : Nat) : Int) from (by omega)]
  refine x_go 299 rfl rfl ?_
  refine x_st 12 2 0 301 [some (.ref 572), some (zi ((k : Nat) : Int)), some (zi ((f : Nat) : Int)), some (zi ((w.length : Nat) : Int)), some (zi ((s : Nat) : Int)), some (zi ((sw.length : Nat) : Int)), some (zi (((ps k).2.1 : Nat) : Int)), some (zi (((ps k).2.2.1 : Nat) : Int)), some (zi 1), some (zi (((cut (sts ps (ps k).2.1).2 (sts ps (ps k).2.2.1).2 w) : Nat) : Int)), some (zi (((cut (sts ps (ps k).2.1).1 (sts ps (ps k).2.2.1).1 sw) : Nat) : Int)), some (zi ((f : Nat) : Int)), some (zi ((f + (cut (sts ps (ps k).2.1).2 (sts ps (ps k).2.2.1).2 w) : Nat) : Int))] rfl rfl rfl (Nat.le_of_ble_eq_true rfl) rfl rfl ?_
  refine x_ld 0 1 2 302 rfl rfl rfl rfl rfl ?_
  refine x_ld 7 2 0 304 rfl rfl rfl rfl rfl ?_
  refine x_ld 12 2 0 306 rfl rfl rfl rfl rfl ?_
  refine x_ld 8 2 0 308 rfl rfl rfl rfl rfl ?_
  refine z_ifeq 318 311 rfl rfl rfl (rg_lit 1 rfl) (fun c => absurd c (by decide)) (fun _ => ?_)
  refine x_ld 3 1 0 312 rfl rfl rfl rfl rfl ?_
  refine x_ld 9 2 0 314 rfl rfl rfl rfl rfl ?_
  refine z_sub 315 rfl rfl ?_
  rw [show ((w.length : Nat) : Int) - (((cut (sts ps (ps k).2.1).2 (sts ps (ps k).2.2.1).2 w) : Nat) : Int) = ((w.length - (cut (sts ps (ps k).2.1).2 (sts ps (ps k).2.2.1).2 w) : Nat) : Int) from (by omega)]
  refine x_go 320 rfl rfl ?_
  refine x_ld 4 2 0 322 rfl rfl rfl rfl rfl ?_
  refine z_ifge 329 325 rfl rfl rfl ⟨by omega, by omega⟩ (fun _ => ?_) (fun c => absurd c (by omega))
  refine x_ld 4 2 0 331 rfl rfl rfl rfl rfl ?_
  refine x_ld 10 2 0 333 rfl rfl rfl rfl rfl ?_
  refine z_add 334 rfl rfl ?_
  rw [show ((s : Nat) : Int) + (((cut (sts ps (ps k).2.1).1 (sts ps (ps k).2.2.1).1 sw) : Nat) : Int) = ((s + (cut (sts ps (ps k).2.1).1 (sts ps (ps k).2.2.1).1 sw) : Nat) : Int) from (by omega)]
  refine x_ld 5 2 0 336 rfl rfl rfl rfl rfl ?_
  refine x_ld 10 2 0 338 rfl rfl rfl rfl rfl ?_
  refine z_sub 339 rfl rfl ?_
  rw [show ((sw.length : Nat) : Int) - (((cut (sts ps (ps k).2.1).1 (sts ps (ps k).2.2.1).1 sw) : Nat) : Int) = ((sw.length - (cut (sts ps (ps k).2.1).1 (sts ps (ps k).2.2.1).1 sw) : Nat) : Int) from (by omega)]
  refine x_ce 323 151 342 [.ref 572, zi (((ps k).2.2.1 : Nat) : Int), zi ((f + (cut (sts ps (ps k).2.1).2 (sts ps (ps k).2.2.1).2 w) : Nat) : Int), zi ((w.length - (cut (sts ps (ps k).2.1).2 (sts ps (ps k).2.2.1).2 w) : Nat) : Int), zi ((s + (cut (sts ps (ps k).2.1).1 (sts ps (ps k).2.2.1).1 sw) : Nat) : Int), zi ((sw.length - (cut (sts ps (ps k).2.1).1 (sts ps (ps k).2.2.1).1 sw) : Nat) : Int)] rfl rfl rfl (Nat.le_of_ble_eq_true rfl) rfl rfl (Nat.le_of_ble_eq_true rfl) ⟨_, _, _, rfl, o_572⟩ (Nat.le_of_ble_eq_true rfl) (c151 (d + 2) hS (by omega)) rfl ?_
  rintro v M2 ⟨rfl, hS2, hF2⟩
  refine x_ld 0 1 2 343 rfl rfl rfl rfl rfl ?_
  refine x_ld 6 2 0 345 rfl rfl rfl rfl rfl ?_
  refine x_ld 11 2 0 347 rfl rfl rfl rfl rfl ?_
  refine x_ld 8 2 0 349 rfl rfl rfl rfl rfl ?_
  refine z_ifeq 357 352 rfl rfl rfl (rg_lit 1 rfl) (fun c => absurd c (by decide)) (fun _ => ?_)
  refine x_ld 9 2 0 354 rfl rfl rfl rfl rfl ?_
  refine x_go 361 rfl rfl ?_
  refine x_ld 4 2 0 363 rfl rfl rfl rfl rfl ?_
  refine x_ld 10 2 0 365 rfl rfl rfl rfl rfl ?_
  refine x_ce 323 151 368 [.ref 572, zi (((ps k).2.1 : Nat) : Int), zi ((f : Nat) : Int), zi (((cut (sts ps (ps k).2.1).2 (sts ps (ps k).2.2.1).2 w) : Nat) : Int), zi ((s : Nat) : Int), zi (((cut (sts ps (ps k).2.1).1 (sts ps (ps k).2.2.1).1 sw) : Nat) : Int)] rfl rfl rfl (Nat.le_of_ble_eq_true rfl) rfl rfl (Nat.le_of_ble_eq_true rfl) ⟨_, _, _, rfl, o_572⟩ (Nat.le_of_ble_eq_true rfl) (c151 (M := M2) (d + 2) hS2 (by rw [List.length_append, List.length_singleton]; omega)) rfl ?_
  rintro v3 M3 ⟨rfl, hS3, hF3⟩
  refine x_rtv rfl rfl ?_
  exact ⟨none, M3, rfl, rfl, rfl, by rw [List.append_nil]; rw [List.append_assoc] at hS3; exact hS3, Fc_trans hF2 hF3⟩
theorem c152s_6 (d : Nat) {ps : Nat → prt} {c : Nat} (hm : mdl M ps c) {k : Nat} (hk : k < c) {w : List Nat} (hw : tx_L w) (h6 : w.length ≤ 6) (ms : (sts ps k).2 (tx_num w) = true) {f : Nat} (hf : f + w.length ≤ 6) (hr : roL (M.1 597) f w) {bs : List cI} (hbs : bs.length + 6 ≤ 256) {u : List Nat} (hu : u.length < 256) (hS : ctS M bs u) {s : Nat} {sw : List Nat} (hs : tx_L sw) (s6 : sw.length ≤ 6) (mss : (sts ps k).1 (tx_num sw) = true) (hsf : s + sw.length ≤ 6) (hsr : roL (M.1 596) s sw) (hK : (ps k).1 = 6) : ab_Z (pg_G L xs) (d + 4) 152 [.ref 572, zi (k : Nat), zi (f : Nat), zi (w.length : Nat), zi ((s : Nat) : Int), zi ((sw.length : Nat) : Int)] M es (fun v M' => v = none ∧ ctS M' (bs ++ [((ps k).2.2.1, f, (cut (sts ps (ps k).2.2.1).2 (sts ps (ps k).2.1).2 w), ((s + (cut (sts ps (ps k).2.1).1 (sts ps (ps k).2.2.1).1 sw) : Nat) : Int), sw.length - (cut (sts ps (ps k).2.1).1 (sts ps (ps k).2.2.1).1 sw)), ((ps k).2.1, f + (cut (sts ps (ps k).2.2.1).2 (sts ps (ps k).2.1).2 w), w.length - (cut (sts ps (ps k).2.2.1).2 (sts ps (ps k).2.1).2 w), ((s : Nat) : Int), (cut (sts ps (ps k).2.1).1 (sts ps (ps k).2.2.1).1 sw))]) (u ++ []) ∧ Fc M M') := by
  have hc31 := hm.1
  obtain ⟨hwf, hok, qkd, qlf, qrt, qlt, _, _⟩ := hm.2 k hk
  have hl := hwf.2.2.2
  rw [hK] at qkd qlf qrt
  have hkd : M.1 576 (k : Int) = 5 := qkd
  have hlf : M.1 577 (k : Int) = (((ps k).2.1 : Nat) : Int) := qlf
  have hrt : M.1 578 (k : Int) = (((ps k).2.2.1 : Nat) : Int) := qrt
  have hlk := hl (by omega)
  have al := (hm.2 _ (Nat.lt_trans hlk.1 hk)).2.2.2.2.2.2.2
  have sl := (hm.2 _ (Nat.lt_trans hlk.1 hk)).2.2.2.2.2.2.1
  have ar := (hm.2 _ (Nat.lt_trans hlk.2 hk)).2.2.2.2.2.2.2
  have sr := (hm.2 _ (Nat.lt_trans hlk.2 hk)).2.2.2.2.2.2.1
  have hle : (cut (sts ps (ps k).2.2.1).2 (sts ps (ps k).2.1).2 w) ≤ w.length := cut_le _ _ w
  have hle2 : (cut (sts ps (ps k).2.1).1 (sts ps (ps k).2.2.1).1 sw) ≤ sw.length := cut_le _ _ sw
  show ab_W (pg_G L xs) (ab_X (pg_G L xs) (d + 3)) 152 _ 0 [some (.ref 572), some (zi ((k : Nat) : Int)), some (zi ((f : Nat) : Int)), some (zi ((w.length : Nat) : Int)), some (zi ((s : Nat) : Int)), some (zi ((sw.length : Nat) : Int)), none, none, none, none, none, none, none] [] (hp M ++ es)
  refine x_ld 0 1 2 1 rfl rfl rfl rfl rfl ?_
  refine g_572_8 22 4 rfl rfl rfl ?_
  refine x_ld 1 1 0 5 rfl rfl rfl rfl rfl ?_
  refine z_ild (((ps k).2.1 : Nat) : Int) 6 rfl i_577 rfl ⟨by omega, by omega⟩ hlf rfl ?_
  refine x_st 6 2 0 8 [some (.ref 572), some (zi ((k : Nat) : Int)), some (zi ((f : Nat) : Int)), some (zi ((w.length : Nat) : Int)), some (zi ((s : Nat) : Int)), some (zi ((sw.length : Nat) : Int)), some (zi (((ps k).2.1 : Nat) : Int)), none, none, none, none, none, none] rfl rfl rfl (Nat.le_of_ble_eq_true rfl) rfl rfl ?_
  refine x_ld 0 1 2 9 rfl rfl rfl rfl rfl ?_
  refine g_572_9 25 12 rfl rfl rfl ?_
  refine x_ld 1 1 0 13 rfl rfl rfl rfl rfl ?_
  refine z_ild (((ps k).2.2.1 : Nat) : Int) 14 rfl i_578 rfl ⟨by omega, by omega⟩ hrt rfl ?_
  refine x_st 7 2 0 16 [some (.ref 572), some (zi ((k : Nat) : Int)), some (zi ((f : Nat) : Int)), some (zi ((w.length : Nat) : Int)), some (zi ((s : Nat) : Int)), some (zi ((sw.length : Nat) : Int)), some (zi (((ps k).2.1 : Nat) : Int)), some (zi (((ps k).2.2.1 : Nat) : Int)), none, none, none, none, none] rfl rfl rfl (Nat.le_of_ble_eq_true rfl) rfl rfl ?_
  refine x_ld 0 1 2 17 rfl rfl rfl rfl rfl ?_
  refine g_572_7 19 20 rfl rfl rfl ?_
  refine x_ld 1 1 0 21 rfl rfl rfl rfl rfl ?_
  refine z_ild 5 22 rfl i_576 rfl ⟨by omega, by omega⟩ hkd rfl ?_
  refine x_tin 177 rfl (by decide) (by decide) rfl rfl ?_
  refine x_ld 0 1 2 178 rfl rfl rfl rfl rfl ?_
  refine g_572_7 19 181 rfl rfl rfl ?_
  refine x_ld 1 1 0 182 rfl rfl rfl rfl rfl ?_
  refine z_ild 5 183 rfl i_576 rfl ⟨by omega, by omega⟩ hkd rfl ?_
  refine x_cst (zi 4) 1 184 rfl rfl rfl ?_
  refine z_icne 191 187 rfl rfl rfl (rg_lit 5 rfl) (rg_lit 4 rfl) (fun _ => ?_) (fun c => absurd c (by decide))
  refine x_cst (zi 0) 1 192 rfl rfl rfl ?_
  refine x_st 8 2 0 194 [some (.ref 572), some (zi ((k : Nat) : Int)), some (zi ((f : Nat) : Int)), some (zi ((w.length : Nat) : Int)), some (zi ((s : Nat) : Int)), some (zi ((sw.length : Nat) : Int)), some (zi (((ps k).2.1 : Nat) : Int)), some (zi (((ps k).2.2.1 : Nat) : Int)), some (zi 0), none, none, none, none] rfl rfl rfl (Nat.le_of_ble_eq_true rfl) rfl rfl ?_
  refine x_ld 8 2 0 196 rfl rfl rfl rfl rfl ?_
  refine z_ifeq 220 199 rfl rfl rfl (rg_lit 0 rfl) (fun _ => ?_) (fun c => absurd c (by decide))
  refine x_ld 0 1 2 221 rfl rfl rfl rfl rfl ?_
  refine x_ld 0 1 2 222 rfl rfl rfl rfl rfl ?_
  refine g_572_12 35 225 rfl rfl rfl ?_
  refine x_ld 7 2 0 227 rfl rfl rfl rfl rfl ?_
  refine x_ld 6 2 0 229 rfl rfl rfl rfl rfl ?_
  refine x_ld 0 1 2 230 rfl rfl rfl rfl rfl ?_
  refine g_572_38 90 233 rfl rfl rfl ?_
  refine x_ld 2 1 0 234 rfl rfl rfl rfl rfl ?_
  refine x_ld 3 1 0 235 rfl rfl rfl rfl rfl ?_
  refine x_cv 304 147 238 [.ref 572, .ref 581, zi (((ps k).2.2.1 : Nat) : Int), zi (((ps k).2.1 : Nat) : Int), .ref 597, zi ((f : Nat) : Int), zi ((w.length : Nat) : Int)] rfl rfl rfl (Nat.le_of_ble_eq_true rfl) rfl rfl (Nat.le_of_ble_eq_true rfl) ⟨_, _, _, rfl, o_572⟩ (Nat.le_of_ble_eq_true rfl) (c147 (d + 1) i_581 (f := (ps k).2.2.1) (g := (ps k).2.1) (by omega) (by omega) i_597 hw h6 hr (by omega)) rfl ?_
  rw [cut_ag ar al hw h6]
  refine x_st 9 2 0 240 [some (.ref 572), some (zi ((k : Nat) : Int)), some (zi ((f : Nat) : Int)), some (zi ((w.length : Nat) : Int)), some (zi ((s : Nat) : Int)), some (zi ((sw.length : Nat) : Int)), some (zi (((ps k).2.1 : Nat) : Int)), some (zi (((ps k).2.2.1 : Nat) : Int)), some (zi 0), some (zi (((cut (sts ps (ps k).2.2.1).2 (sts ps (ps k).2.1).2 w) : Nat) : Int)), none, none, none] rfl rfl rfl (Nat.le_of_ble_eq_true rfl) rfl rfl ?_
  refine x_ld 4 2 0 242 rfl rfl rfl rfl rfl ?_
  refine z_ifge 249 245 rfl rfl rfl ⟨by omega, by omega⟩ (fun _ => ?_) (fun c => absurd c (by omega))
  refine x_ld 0 1 2 250 rfl rfl rfl rfl rfl ?_
  refine x_ld 0 1 2 251 rfl rfl rfl rfl rfl ?_
  refine g_572_11 31 254 rfl rfl rfl ?_
  refine x_ld 6 2 0 256 rfl rfl rfl rfl rfl ?_
  refine x_ld 7 2 0 258 rfl rfl rfl rfl rfl ?_
  refine x_ld 0 1 2 259 rfl rfl rfl rfl rfl ?_
  refine g_572_37 87 262 rfl rfl rfl ?_
  refine x_ld 4 2 0 264 rfl rfl rfl rfl rfl ?_
  refine x_ld 5 2 0 266 rfl rfl rfl rfl rfl ?_
  refine x_cv 304 147 269 [.ref 572, .ref 580, zi (((ps k).2.1 : Nat) : Int), zi (((ps k).2.2.1 : Nat) : Int), .ref 596, zi ((s : Nat) : Int), zi ((sw.length : Nat) : Int)] rfl rfl rfl (Nat.le_of_ble_eq_true rfl) rfl rfl (Nat.le_of_ble_eq_true rfl) ⟨_, _, _, rfl, o_572⟩ (Nat.le_of_ble_eq_true rfl) (c147 (d + 1) i_580 (f := (ps k).2.1) (g := (ps k).2.2.1) (by omega) (by omega) i_596 hs s6 hsr (by omega)) rfl ?_
  rw [cut_ag sl sr hs s6]
  refine x_st 10 2 0 271 [some (.ref 572), some (zi ((k : Nat) : Int)), some (zi ((f : Nat) : Int)), some (zi ((w.length : Nat) : Int)), some (zi ((s : Nat) : Int)), some (zi ((sw.length : Nat) : Int)), some (zi (((ps k).2.1 : Nat) : Int)), some (zi (((ps k).2.2.1 : Nat) : Int)), some (zi 0), some (zi (((cut (sts ps (ps k).2.2.1).2 (sts ps (ps k).2.1).2 w) : Nat) : Int)), some (zi (((cut (sts ps (ps k).2.1).1 (sts ps (ps k).2.2.1).1 sw) : Nat) : Int)), none, none] rfl rfl rfl (Nat.le_of_ble_eq_true rfl) rfl rfl ?_
  refine x_ld 8 2 0 273 rfl rfl rfl rfl rfl ?_
  refine z_ifeq 280 276 rfl rfl rfl (rg_lit 0 rfl) (fun _ => ?_) (fun c => absurd c (by decide))
  refine x_ld 2 1 0 281 rfl rfl rfl rfl rfl ?_
  refine x_ld 9 2 0 283 rfl rfl rfl rfl rfl ?_
  refine z_add 284 rfl rfl ?_
  rw [show ((f : Nat) : Int) + (((cut (sts ps (ps k).2.2.1).2 (sts ps (ps k).2.1).2 w) : Nat) : Int) = ((f + (cut (sts ps (ps k).2.2.1).2 (sts ps (ps k).2.1).2 w) : Nat) : Int) from (by omega)]
  refine x_st 11 2 0 286 [some (.ref 572), some (zi ((k : Nat) : Int)), some (zi ((f : Nat) : Int)), some (zi ((w.length : Nat) : Int)), some (zi ((s : Nat) : Int)), some (zi ((sw.length : Nat) : Int)), some (zi (((ps k).2.1 : Nat) : Int)), some (zi (((ps k).2.2.1 : Nat) : Int)), some (zi 0), some (zi (((cut (sts ps (ps k).2.2.1).2 (sts ps (ps k).2.1).2 w) : Nat) : Int)), some (zi (((cut (sts ps (ps k).2.1).1 (sts ps (ps k).2.2.1).1 sw) : Nat) : Int)), some (zi ((f + (cut (sts ps (ps k).2.2.1).2 (sts ps (ps k).2.1).2 w) : Nat) : Int)), none] rfl rfl rfl (Nat.le_of_ble_eq_true rfl) rfl rfl ?_
  refine x_ld 8 2 0 288 rfl rfl rfl rfl rfl ?_
  refine z_ifeq 298 291 rfl rfl rfl (rg_lit 0 rfl) (fun _ => ?_) (fun c => absurd c (by decide))
  refine x_ld 2 1 0 299 rfl rfl rfl rfl rfl ?_
  refine x_st 12 2 0 301 [some (.ref 572), some (zi ((k : Nat) : Int)), some (zi ((f : Nat) : Int)), some (zi ((w.length : Nat) : Int)), some (zi ((s : Nat) : Int)), some (zi ((sw.length : Nat) : Int)), some (zi (((ps k).2.1 : Nat) : Int)), some (zi (((ps k).2.2.1 : Nat) : Int)), some (zi 0), some (zi (((cut (sts ps (ps k).2.2.1).2 (sts ps (ps k).2.1).2 w) : Nat) : Int)), some (zi (((cut (sts ps (ps k).2.1).1 (sts ps (ps k).2.2.1).1 sw) : Nat) : Int)), some (zi ((f + (cut (sts ps (ps k).2.2.1).2 (sts ps (ps k).2.1).2 w) : Nat) : Int)), some (zi ((f : Nat) : Int))] rfl rfl rfl (Nat.le_of_ble_eq_true rfl) rfl rfl ?_
  refine x_ld 0 1 2 302 rfl rfl rfl rfl rfl ?_
  refine x_ld 7 2 0 304 rfl rfl rfl rfl rfl ?_
  refine x_ld 12 2 0 306 rfl rfl rfl rfl rfl ?_
  refine x_ld 8 2 0 308 rfl rfl rfl rfl rfl ?_
  refine z_ifeq 318 311 rfl rfl rfl (rg_lit 0 rfl) (fun _ => ?_) (fun c => absurd c (by decide))
  refine x_ld 9 2 0 320 rfl rfl rfl rfl rfl ?_
  refine x_ld 4 2 0 322 rfl rfl rfl rfl rfl ?_
  refine z_ifge 329 325 rfl rfl rfl ⟨by omega, by omega⟩ (fun _ => ?_) (fun c => absurd c (by omega))
  refine x_ld 4 2 0 331 rfl rfl rfl rfl rfl ?_
  refine x_ld 10 2 0 333 rfl rfl rfl rfl rfl ?_
  refine z_add 334 rfl rfl ?_
  rw [show ((s : Nat) : Int) + (((cut (sts ps (ps k).2.1).1 (sts ps (ps k).2.2.1).1 sw) : Nat) : Int) = ((s + (cut (sts ps (ps k).2.1).1 (sts ps (ps k).2.2.1).1 sw) : Nat) : Int) from (by omega)]
  refine x_ld 5 2 0 336 rfl rfl rfl rfl rfl ?_
  refine x_ld 10 2 0 338 rfl rfl rfl rfl rfl ?_
  refine z_sub 339 rfl rfl ?_
  rw [show ((sw.length : Nat) : Int) - (((cut (sts ps (ps k).2.1).1 (sts ps (ps k).2.2.1).1 sw) : Nat) : Int) = ((sw.length - (cut (sts ps (ps k).2.1).1 (sts ps (ps k).2.2.1).1 sw) : Nat) : Int) from (by omega)]
  refine x_ce 323 151 342 [.ref 572, zi (((ps k).2.2.1 : Nat) : Int), zi ((f : Nat) : Int), zi (((cut (sts ps (ps k).2.2.1).2 (sts ps (ps k).2.1).2 w) : Nat) : Int), zi ((s + (cut (sts ps (ps k).2.1).1 (sts ps (ps k).2.2.1).1 sw) : Nat) : Int), zi ((sw.length - (cut (sts ps (ps k).2.1).1 (sts ps (ps k).2.2.1).1 sw) : Nat) : Int)] rfl rfl rfl (Nat.le_of_ble_eq_true rfl) rfl rfl (Nat.le_of_ble_eq_true rfl) ⟨_, _, _, rfl, o_572⟩ (Nat.le_of_ble_eq_true rfl) (c151 (d + 2) hS (by omega)) rfl ?_
  rintro v M2 ⟨rfl, hS2, hF2⟩
  refine x_ld 0 1 2 343 rfl rfl rfl rfl rfl ?_
  refine x_ld 6 2 0 345 rfl rfl rfl rfl rfl ?_
  refine x_ld 11 2 0 347 rfl rfl rfl rfl rfl ?_
  refine x_ld 8 2 0 349 rfl rfl rfl rfl rfl ?_
  refine z_ifeq 357 352 rfl rfl rfl (rg_lit 0 rfl) (fun _ => ?_) (fun c => absurd c (by decide))
  refine x_ld 3 1 0 358 rfl rfl rfl rfl rfl ?_
  refine x_ld 9 2 0 360 rfl rfl rfl rfl rfl ?_
  refine z_sub 361 rfl rfl ?_
  rw [show ((w.length : Nat) : Int) - (((cut (sts ps (ps k).2.2.1).2 (sts ps (ps k).2.1).2 w) : Nat) : Int) = ((w.length - (cut (sts ps (ps k).2.2.1).2 (sts ps (ps k).2.1).2 w) : Nat) : Int) from (by omega)]
  refine x_ld 4 2 0 363 rfl rfl rfl rfl rfl ?_
  refine x_ld 10 2 0 365 rfl rfl rfl rfl rfl ?_
  refine x_ce 323 151 368 [.ref 572, zi (((ps k).2.1 : Nat) : Int), zi ((f + (cut (sts ps (ps k).2.2.1).2 (sts ps (ps k).2.1).2 w) : Nat) : Int), zi ((w.length - (cut (sts ps (ps k).2.2.1).2 (sts ps (ps k).2.1).2 w) : Nat) : Int), zi ((s : Nat) : Int), zi (((cut (sts ps (ps k).2.1).1 (sts ps (ps k).2.2.1).1 sw) : Nat) : Int)] rfl rfl rfl (Nat.le_of_ble_eq_true rfl) rfl rfl (Nat.le_of_ble_eq_true rfl) ⟨_, _, _, rfl, o_572⟩ (Nat.le_of_ble_eq_true rfl) (c151 (M := M2) (d + 2) hS2 (by rw [List.length_append, List.length_singleton]; omega)) rfl ?_
  rintro v3 M3 ⟨rfl, hS3, hF3⟩
  refine x_rtv rfl rfl ?_
  exact ⟨none, M3, rfl, rfl, rfl, by rw [List.append_nil]; rw [List.append_assoc] at hS3; exact hS3, Fc_trans hF2 hF3⟩
theorem c154s (d : Nat) {ps : Nat → prt} {c : Nat} (hm : mdl M ps c) {k : Nat} (hk : k < c) {w : List Nat} (hw : tx_L w) (h6 : w.length ≤ 6) (ms : (sts ps k).2 (tx_num w) = true) {f : Nat} (hf : f + w.length ≤ 6) (hr : roL (M.1 597) f w) {bs : List cI} (hbs : bs.length + 6 ≤ 256) {u : List Nat} (hu : u.length < 256) (hS : ctS M bs u) {s : Nat} {sw : List Nat} (hs : tx_L sw) (s6 : sw.length ≤ 6) (mss : (sts ps k).1 (tx_num sw) = true) (hsf : s + sw.length ≤ 6) (hsr : roL (M.1 596) s sw) (hK : (ps k).1 = 4) : ab_Z (pg_G L xs) (d + 3) 154 [.ref 572, zi (k : Nat), zi (f : Nat), zi (w.length : Nat), zi ((s : Nat) : Int), zi ((sw.length : Nat) : Int)] M es (fun v M' => v = none ∧ ctS M' (bs ++ [bif ((sts ps (ps k).2.1).1 (tx_num sw)) then (bif ((sts ps (ps k).2.1).2 (tx_num w)) then ((ps k).2.1, f, w.length, ((s : Nat) : Int), sw.length) else ((ps k).2.2.1, f, w.length, -1, 0)) else (bif ((sts ps (ps k).2.2.1).2 (tx_num w)) then ((ps k).2.2.1, f, w.length, ((s : Nat) : Int), sw.length) else ((ps k).2.1, f, w.length, -1, 0))]) u ∧ Fc M M') := by
  have hc31 := hm.1
  obtain ⟨hwf, hok, qkd, qlf, qrt, qlt, _, _⟩ := hm.2 k hk
  have hl := hwf.2.2.2
  rw [hK] at qkd qlf qrt
  have hkd : M.1 576 (k : Int) = 7 := qkd
  have hlf : M.1 577 (k : Int) = (((ps k).2.1 : Nat) : Int) := qlf
  have hrt : M.1 578 (k : Int) = (((ps k).2.2.1 : Nat) : Int) := qrt
  have hlk := hl (by omega)
  have al := (hm.2 _ (Nat.lt_trans hlk.1 hk)).2.2.2.2.2.2.2
  have sl := (hm.2 _ (Nat.lt_trans hlk.1 hk)).2.2.2.2.2.2.1
  have ar := (hm.2 _ (Nat.lt_trans hlk.2 hk)).2.2.2.2.2.2.2
  have sr := (hm.2 _ (Nat.lt_trans hlk.2 hk)).2.2.2.2.2.2.1
  have hlt9 := num_lt hw h6
  have hls9 := num_lt hs s6
  show ab_W (pg_G L xs) (ab_X (pg_G L xs) (d + 2)) 154 _ 0 [some (.ref 572), some (zi ((k : Nat) : Int)), some (zi ((f : Nat) : Int)), some (zi ((w.length : Nat) : Int)), some (zi ((s : Nat) : Int)), some (zi ((sw.length : Nat) : Int)), none, none, none, none, none, none, none, none] [] (hp M ++ es)
  refine x_ld 0 1 2 1 rfl rfl rfl rfl rfl ?_
  refine g_572_8 22 4 rfl rfl rfl ?_
  refine x_ld 1 1 0 5 rfl rfl rfl rfl rfl ?_
  refine z_ild (((ps k).2.1 : Nat) : Int) 6 rfl i_577 rfl ⟨by omega, by omega⟩ hlf rfl ?_
  refine x_st 6 2 0 8 [some (.ref 572), some (zi ((k : Nat) : Int)), some (zi ((f : Nat) : Int)), some (zi ((w.length : Nat) : Int)), some (zi ((s : Nat) : Int)), some (zi ((sw.length : Nat) : Int)), some (zi (((ps k).2.1 : Nat) : Int)), none, none, none, none, none, none, none] rfl rfl rfl (Nat.le_of_ble_eq_true rfl) rfl rfl ?_
  refine x_ld 0 1 2 9 rfl rfl rfl rfl rfl ?_
  refine g_572_9 25 12 rfl rfl rfl ?_
  refine x_ld 1 1 0 13 rfl rfl rfl rfl rfl ?_
  refine z_ild (((ps k).2.2.1 : Nat) : Int) 14 rfl i_578 rfl ⟨by omega, by omega⟩ hrt rfl ?_
  refine x_st 7 2 0 16 [some (.ref 572), some (zi ((k : Nat) : Int)), some (zi ((f : Nat) : Int)), some (zi ((w.length : Nat) : Int)), some (zi ((s : Nat) : Int)), some (zi ((sw.length : Nat) : Int)), some (zi (((ps k).2.1 : Nat) : Int)), some (zi (((ps k).2.2.1 : Nat) : Int)), none, none, none, none, none, none] rfl rfl rfl (Nat.le_of_ble_eq_true rfl) rfl rfl ?_
  refine x_ld 0 1 2 17 rfl rfl rfl rfl rfl ?_
  refine x_ld 0 1 2 18 rfl rfl rfl rfl rfl ?_
  refine g_572_38 90 21 rfl rfl rfl ?_
  refine x_ld 2 1 0 22 rfl rfl rfl rfl rfl ?_
  refine x_ld 3 1 0 23 rfl rfl rfl rfl rfl ?_
  refine x_cv 274 144 26 [.ref 572, .ref 597, zi ((f : Nat) : Int), zi ((w.length : Nat) : Int)] rfl rfl rfl (Nat.le_of_ble_eq_true rfl) rfl rfl (Nat.le_of_ble_eq_true rfl) ⟨_, _, _, rfl, o_572⟩ (Nat.le_of_ble_eq_true rfl) (by have q := c144 (L := L) (xs := xs) (es := es) (M := M) (d + 1) i_597 hw hr (by omega); rw [nz_le h6] at q; exact q) rfl ?_
  refine x_st 8 2 0 28 [some (.ref 572), some (zi ((k : Nat) : Int)), some (zi ((f : Nat) : Int)), some (zi ((w.length : Nat) : Int)), some (zi ((s : Nat) : Int)), some (zi ((sw.length : Nat) : Int)), some (zi (((ps k).2.1 : Nat) : Int)), some (zi (((ps k).2.2.1 : Nat) : Int)), some (zi ((tx_num w : Nat) : Int)), none, none, none, none, none] rfl rfl rfl (Nat.le_of_ble_eq_true rfl) rfl rfl ?_
  refine x_ld 4 2 0 30 rfl rfl rfl rfl rfl ?_
  refine z_iflt 61 33 rfl rfl rfl ⟨by omega, by omega⟩ (fun c => absurd c (by omega)) (fun _ => ?_)
  refine x_ld 0 1 2 34 rfl rfl rfl rfl rfl ?_
  refine g_572_11 31 37 rfl rfl rfl ?_
  refine x_ld 6 2 0 39 rfl rfl rfl rfl rfl ?_
  refine x_ld 0 1 2 40 rfl rfl rfl rfl rfl ?_
  refine x_ld 0 1 2 41 rfl rfl rfl rfl rfl ?_
  refine g_572_37 87 44 rfl rfl rfl ?_
  refine x_ld 4 2 0 46 rfl rfl rfl rfl rfl ?_
  refine x_ld 5 2 0 48 rfl rfl rfl rfl rfl ?_
  refine x_cv 274 144 51 [.ref 572, .ref 596, zi ((s : Nat) : Int), zi ((sw.length : Nat) : Int)] rfl rfl rfl (Nat.le_of_ble_eq_true rfl) rfl rfl (Nat.le_of_ble_eq_true rfl) ⟨_, _, _, rfl, o_572⟩ (Nat.le_of_ble_eq_true rfl) (by have q := c144 (L := L) (xs := xs) (es := es) (M := M) (d + 1) i_596 hs hsr (by omega); rw [nz_le s6] at q; exact q) rfl ?_
  refine x_cv 228 123 54 [.ref 580, zi (((ps k).2.1 : Nat) : Int), zi ((tx_num sw : Nat) : Int)] rfl rfl rfl (Nat.le_of_ble_eq_true rfl) rfl rfl (Nat.le_of_ble_eq_true rfl) trivial (Nat.le_of_ble_eq_true rfl) (c123 (d + 1) i_580 (k := (ps k).2.1) (t := tx_num sw) (by omega) (by omega)) rfl ?_
  rw [show M.2.1 580 (1152 * (((ps k).2.1 : Nat) : Int) + ((tx_num sw : Nat) : Int)) = ((sts ps (ps k).2.1).1 (tx_num sw)) from sl _ (by omega)]
  rcases Bool.eq_false_or_eq_true ((sts ps (ps k).2.1).1 (tx_num sw)) with h1 | h1
  · rw [h1]
    refine z_ifeq 61 57 rfl rfl rfl (rg_lit 1 rfl) (fun c => absurd c (by decide)) (fun _ => ?_)
    refine x_cst (zi 1) 1 58 rfl rfl rfl ?_
    refine x_go 62 rfl rfl ?_
    refine x_st 9 2 0 64 [some (.ref 572), some (zi ((k : Nat) : Int)), some (zi ((f : Nat) : Int)), some (zi ((w.length : Nat) : Int)), some (zi ((s : Nat) : Int)), some (zi ((sw.length : Nat) : Int)), some (zi (((ps k).2.1 : Nat) : Int)), some (zi (((ps k).2.2.1 : Nat) : Int)), some (zi ((tx_num w : Nat) : Int)), some (zi 1), none, none, none, none] rfl rfl rfl (Nat.le_of_ble_eq_true rfl) rfl rfl ?_
    refine x_ld 0 1 2 65 rfl rfl rfl rfl rfl ?_
    refine g_572_12 35 68 rfl rfl rfl ?_
    refine x_ld 6 2 0 70 rfl rfl rfl rfl rfl ?_
    refine x_ld 8 2 0 72 rfl rfl rfl rfl rfl ?_
    refine x_cv 228 123 75 [.ref 581, zi (((ps k).2.1 : Nat) : Int), zi ((tx_num w : Nat) : Int)] rfl rfl rfl (Nat.le_of_ble_eq_true rfl) rfl rfl (Nat.le_of_ble_eq_true rfl) trivial (Nat.le_of_ble_eq_true rfl) (c123 (d + 1) i_581 (k := (ps k).2.1) (t := tx_num w) (by omega) (by omega)) rfl ?_
    rw [show M.2.1 581 (1152 * (((ps k).2.1 : Nat) : Int) + ((tx_num w : Nat) : Int)) = ((sts ps (ps k).2.1).2 (tx_num w)) from al _ (by omega)]
    rcases Bool.eq_false_or_eq_true ((sts ps (ps k).2.1).2 (tx_num w)) with h2 | h2
    · rw [h2]
      refine x_st 10 2 0 77 [some (.ref 572), some (zi ((k : Nat) : Int)), some (zi ((f : Nat) : Int)), some (zi ((w.length : Nat) : Int)), some (zi ((s : Nat) : Int)), some (zi ((sw.length : Nat) : Int)), some (zi (((ps k).2.1 : Nat) : Int)), some (zi (((ps k).2.2.1 : Nat) : Int)), some (zi ((tx_num w : Nat) : Int)), some (zi 1), some (zi 1), none, none, none] rfl rfl rfl (Nat.le_of_ble_eq_true rfl) rfl rfl ?_
      refine x_ld 0 1 2 78 rfl rfl rfl rfl rfl ?_
      refine g_572_12 35 81 rfl rfl rfl ?_
      refine x_ld 7 2 0 83 rfl rfl rfl rfl rfl ?_
      refine x_ld 8 2 0 85 rfl rfl rfl rfl rfl ?_
      refine x_cv 228 123 88 [.ref 581, zi (((ps k).2.2.1 : Nat) : Int), zi ((tx_num w : Nat) : Int)] rfl rfl rfl (Nat.le_of_ble_eq_true rfl) rfl rfl (Nat.le_of_ble_eq_true rfl) trivial (Nat.le_of_ble_eq_true rfl) (c123 (d + 1) i_581 (k := (ps k).2.2.1) (t := tx_num w) (by omega) (by omega)) rfl ?_
      rw [show M.2.1 581 (1152 * (((ps k).2.2.1 : Nat) : Int) + ((tx_num w : Nat) : Int)) = ((sts ps (ps k).2.2.1).2 (tx_num w)) from ar _ (by omega)]
      rcases Bool.eq_false_or_eq_true ((sts ps (ps k).2.2.1).2 (tx_num w)) with h3 | h3
      · rw [h3]
        refine x_st 11 2 0 90 [some (.ref 572), some (zi ((k : Nat) : Int)), some (zi ((f : Nat) : Int)), some (zi ((w.length : Nat) : Int)), some (zi ((s : Nat) : Int)), some (zi ((sw.length : Nat) : Int)), some (zi (((ps k).2.1 : Nat) : Int)), some (zi (((ps k).2.2.1 : Nat) : Int)), some (zi ((tx_num w : Nat) : Int)), some (zi 1), some (zi 1), some (zi 1), none, none] rfl rfl rfl (Nat.le_of_ble_eq_true rfl) rfl rfl ?_
        refine x_ld 4 2 0 92 rfl rfl rfl rfl rfl ?_
        refine z_iflt 100 95 rfl rfl rfl ⟨by omega, by omega⟩ (fun c => absurd c (by omega)) (fun _ => ?_)
        refine x_ld 9 2 0 97 rfl rfl rfl rfl rfl ?_
        refine z_ifeq 105 100 rfl rfl rfl (rg_lit 1 rfl) (fun c => absurd c (by decide)) (fun _ => ?_)
        refine x_ld 10 2 0 102 rfl rfl rfl rfl rfl ?_
        refine x_go 115 rfl rfl ?_
        refine x_st 12 2 0 117 [some (.ref 572), some (zi ((k : Nat) : Int)), some (zi ((f : Nat) : Int)), some (zi ((w.length : Nat) : Int)), some (zi ((s : Nat) : Int)), some (zi ((sw.length : Nat) : Int)), some (zi (((ps k).2.1 : Nat) : Int)), some (zi (((ps k).2.2.1 : Nat) : Int)), some (zi ((tx_num w : Nat) : Int)), some (zi 1), some (zi 1), some (zi 1), some (zi 1), none] rfl rfl rfl (Nat.le_of_ble_eq_true rfl) rfl rfl ?_
        refine x_ld 4 2 0 119 rfl rfl rfl rfl rfl ?_
        refine z_iflt 133 122 rfl rfl rfl ⟨by omega, by omega⟩ (fun c => absurd c (by omega)) (fun _ => ?_)
        refine x_ld 12 2 0 124 rfl rfl rfl rfl rfl ?_
        refine x_ld 9 2 0 126 rfl rfl rfl rfl rfl ?_
        refine z_icne 133 129 rfl rfl rfl (rg_lit 1 rfl) (rg_lit 1 rfl) (fun c => absurd c (by decide)) (fun _ => ?_)
        refine x_cst (zi 1) 1 130 rfl rfl rfl ?_
        refine x_go 134 rfl rfl ?_
        refine x_st 13 2 0 136 [some (.ref 572), some (zi ((k : Nat) : Int)), some (zi ((f : Nat) : Int)), some (zi ((w.length : Nat) : Int)), some (zi ((s : Nat) : Int)), some (zi ((sw.length : Nat) : Int)), some (zi (((ps k).2.1 : Nat) : Int)), some (zi (((ps k).2.2.1 : Nat) : Int)), some (zi ((tx_num w : Nat) : Int)), some (zi 1), some (zi 1), some (zi 1), some (zi 1), some (zi 1)] rfl rfl rfl (Nat.le_of_ble_eq_true rfl) rfl rfl ?_
        refine x_ld 0 1 2 137 rfl rfl rfl rfl rfl ?_
        refine x_ld 12 2 0 139 rfl rfl rfl rfl rfl ?_
        refine z_ifeq 147 142 rfl rfl rfl (rg_lit 1 rfl) (fun c => absurd c (by decide)) (fun _ => ?_)
        refine x_ld 6 2 0 144 rfl rfl rfl rfl rfl ?_
        refine x_go 149 rfl rfl ?_
        refine x_ld 2 1 0 150 rfl rfl rfl rfl rfl ?_
        refine x_ld 3 1 0 151 rfl rfl rfl rfl rfl ?_
        refine x_ld 13 2 0 153 rfl rfl rfl rfl rfl ?_
        refine z_ifeq 161 156 rfl rfl rfl (rg_lit 1 rfl) (fun c => absurd c (by decide)) (fun _ => ?_)
        refine x_ld 4 2 0 158 rfl rfl rfl rfl rfl ?_
        refine x_go 162 rfl rfl ?_
        refine x_ld 13 2 0 164 rfl rfl rfl rfl rfl ?_
        refine z_ifeq 172 167 rfl rfl rfl (rg_lit 1 rfl) (fun c => absurd c (by decide)) (fun _ => ?_)
        refine x_ld 5 2 0 169 rfl rfl rfl rfl rfl ?_
        refine x_go 173 rfl rfl ?_
        refine x_ce 323 151 176 [.ref 572, zi (((ps k).2.1 : Nat) : Int), zi ((f : Nat) : Int), zi ((w.length : Nat) : Int), zi ((s : Nat) : Int), zi ((sw.length : Nat) : Int)] rfl rfl rfl (Nat.le_of_ble_eq_true rfl) rfl rfl (Nat.le_of_ble_eq_true rfl) ⟨_, _, _, rfl, o_572⟩ (Nat.le_of_ble_eq_true rfl) (c151 (d + 1) hS (by omega)) rfl ?_
        rintro v M2 ⟨rfl, hS2, hF2⟩
        refine x_rtv rfl rfl ?_
        refine ⟨none, M2, rfl, rfl, rfl, ?_, hF2⟩
        exact hS2
      · rw [h3]
        refine x_st 11 2 0 90 [some (.ref 572), some (zi ((k : Nat) : Int)), some (zi ((f : Nat) : Int)), some (zi ((w.length : Nat) : Int)), some (zi ((s : Nat) : Int)), some (zi ((sw.length : Nat) : Int)), some (zi (((ps k).2.1 : Nat) : Int)), some (zi (((ps k).2.2.1 : Nat) : Int)), some (zi ((tx_num w : Nat) : Int)), some (zi 1), some (zi 1), some (zi 0), none, none] rfl rfl rfl (Nat.le_of_ble_eq_true rfl) rfl rfl ?_
        refine x_ld 4 2 0 92 rfl rfl rfl rfl rfl ?_
        refine z_iflt 100 95 rfl rfl rfl ⟨by omega, by omega⟩ (fun c => absurd c (by omega)) (fun _ => ?_)
        refine x_ld 9 2 0 97 rfl rfl rfl rfl rfl ?_
        refine z_ifeq 105 100 rfl rfl rfl (rg_lit 1 rfl) (fun c => absurd c (by decide)) (fun _ => ?_)
        refine x_ld 10 2 0 102 rfl rfl rfl rfl rfl ?_
        refine x_go 115 rfl rfl ?_
        refine x_st 12 2 0 117 [some (.ref 572), some (zi ((k : Nat) : Int)), some (zi ((f : Nat) : Int)), some (zi ((w.length : Nat) : Int)), some (zi ((s : Nat) : Int)), some (zi ((sw.length : Nat) : Int)), some (zi (((ps k).2.1 : Nat) : Int)), some (zi (((ps k).2.2.1 : Nat) : Int)), some (zi ((tx_num w : Nat) : Int)), some (zi 1), some (zi 1), some (zi 0), some (zi 1), none] rfl rfl rfl (Nat.le_of_ble_eq_true rfl) rfl rfl ?_
        refine x_ld 4 2 0 119 rfl rfl rfl rfl rfl ?_
        refine z_iflt 133 122 rfl rfl rfl ⟨by omega, by omega⟩ (fun c => absurd c (by omega)) (fun _ => ?_)
        refine x_ld 12 2 0 124 rfl rfl rfl rfl rfl ?_
        refine x_ld 9 2 0 126 rfl rfl rfl rfl rfl ?_
        refine z_icne 133 129 rfl rfl rfl (rg_lit 1 rfl) (rg_lit 1 rfl) (fun c => absurd c (by decide)) (fun _ => ?_)
        refine x_cst (zi 1) 1 130 rfl rfl rfl ?_
        refine x_go 134 rfl rfl ?_
        refine x_st 13 2 0 136 [some (.ref 572), some (zi ((k : Nat) : Int)), some (zi ((f : Nat) : Int)), some (zi ((w.length : Nat) : Int)), some (zi ((s : Nat) : Int)), some (zi ((sw.length : Nat) : Int)), some (zi (((ps k).2.1 : Nat) : Int)), some (zi (((ps k).2.2.1 : Nat) : Int)), some (zi ((tx_num w : Nat) : Int)), some (zi 1), some (zi 1), some (zi 0), some (zi 1), some (zi 1)] rfl rfl rfl (Nat.le_of_ble_eq_true rfl) rfl rfl ?_
        refine x_ld 0 1 2 137 rfl rfl rfl rfl rfl ?_
        refine x_ld 12 2 0 139 rfl rfl rfl rfl rfl ?_
        refine z_ifeq 147 142 rfl rfl rfl (rg_lit 1 rfl) (fun c => absurd c (by decide)) (fun _ => ?_)
        refine x_ld 6 2 0 144 rfl rfl rfl rfl rfl ?_
        refine x_go 149 rfl rfl ?_
        refine x_ld 2 1 0 150 rfl rfl rfl rfl rfl ?_
        refine x_ld 3 1 0 151 rfl rfl rfl rfl rfl ?_
        refine x_ld 13 2 0 153 rfl rfl rfl rfl rfl ?_
        refine z_ifeq 161 156 rfl rfl rfl (rg_lit 1 rfl) (fun c => absurd c (by decide)) (fun _ => ?_)
        refine x_ld 4 2 0 158 rfl rfl rfl rfl rfl ?_
        refine x_go 162 rfl rfl ?_
        refine x_ld 13 2 0 164 rfl rfl rfl rfl rfl ?_
        refine z_ifeq 172 167 rfl rfl rfl (rg_lit 1 rfl) (fun c => absurd c (by decide)) (fun _ => ?_)
        refine x_ld 5 2 0 169 rfl rfl rfl rfl rfl ?_
        refine x_go 173 rfl rfl ?_
        refine x_ce 323 151 176 [.ref 572, zi (((ps k).2.1 : Nat) : Int), zi ((f : Nat) : Int), zi ((w.length : Nat) : Int), zi ((s : Nat) : Int), zi ((sw.length : Nat) : Int)] rfl rfl rfl (Nat.le_of_ble_eq_true rfl) rfl rfl (Nat.le_of_ble_eq_true rfl) ⟨_, _, _, rfl, o_572⟩ (Nat.le_of_ble_eq_true rfl) (c151 (d + 1) hS (by omega)) rfl ?_
        rintro v M2 ⟨rfl, hS2, hF2⟩
        refine x_rtv rfl rfl ?_
        refine ⟨none, M2, rfl, rfl, rfl, ?_, hF2⟩
        exact hS2
    · rw [h2]
      refine x_st 10 2 0 77 [some (.ref 572), some (zi ((k : Nat) : Int)), some (zi ((f : Nat) : Int)), some (zi ((w.length : Nat) : Int)), some (zi ((s : Nat) : Int)), some (zi ((sw.length : Nat) : Int)), some (zi (((ps k).2.1 : Nat) : Int)), some (zi (((ps k).2.2.1 : Nat) : Int)), some (zi ((tx_num w : Nat) : Int)), some (zi 1), some (zi 0), none, none, none] rfl rfl rfl (Nat.le_of_ble_eq_true rfl) rfl rfl ?_
      refine x_ld 0 1 2 78 rfl rfl rfl rfl rfl ?_
      refine g_572_12 35 81 rfl rfl rfl ?_
      refine x_ld 7 2 0 83 rfl rfl rfl rfl rfl ?_
      refine x_ld 8 2 0 85 rfl rfl rfl rfl rfl ?_
      refine x_cv 228 123 88 [.ref 581, zi (((ps k).2.2.1 : Nat) : Int), zi ((tx_num w : Nat) : Int)] rfl rfl rfl (Nat.le_of_ble_eq_true rfl) rfl rfl (Nat.le_of_ble_eq_true rfl) trivial (Nat.le_of_ble_eq_true rfl) (c123 (d + 1) i_581 (k := (ps k).2.2.1) (t := tx_num w) (by omega) (by omega)) rfl ?_
      rw [show M.2.1 581 (1152 * (((ps k).2.2.1 : Nat) : Int) + ((tx_num w : Nat) : Int)) = ((sts ps (ps k).2.2.1).2 (tx_num w)) from ar _ (by omega)]
      rcases Bool.eq_false_or_eq_true ((sts ps (ps k).2.2.1).2 (tx_num w)) with h3 | h3
      · rw [h3]
        refine x_st 11 2 0 90 [some (.ref 572), some (zi ((k : Nat) : Int)), some (zi ((f : Nat) : Int)), some (zi ((w.length : Nat) : Int)), some (zi ((s : Nat) : Int)), some (zi ((sw.length : Nat) : Int)), some (zi (((ps k).2.1 : Nat) : Int)), some (zi (((ps k).2.2.1 : Nat) : Int)), some (zi ((tx_num w : Nat) : Int)), some (zi 1), some (zi 0), some (zi 1), none, none] rfl rfl rfl (Nat.le_of_ble_eq_true rfl) rfl rfl ?_
        refine x_ld 4 2 0 92 rfl rfl rfl rfl rfl ?_
        refine z_iflt 100 95 rfl rfl rfl ⟨by omega, by omega⟩ (fun c => absurd c (by omega)) (fun _ => ?_)
        refine x_ld 9 2 0 97 rfl rfl rfl rfl rfl ?_
        refine z_ifeq 105 100 rfl rfl rfl (rg_lit 1 rfl) (fun c => absurd c (by decide)) (fun _ => ?_)
        refine x_ld 10 2 0 102 rfl rfl rfl rfl rfl ?_
        refine x_go 115 rfl rfl ?_
        refine x_st 12 2 0 117 [some (.ref 572), some (zi ((k : Nat) : Int)), some (zi ((f : Nat) : Int)), some (zi ((w.length : Nat) : Int)), some (zi ((s : Nat) : Int)), some (zi ((sw.length : Nat) : Int)), some (zi (((ps k).2.1 : Nat) : Int)), some (zi (((ps k).2.2.1 : Nat) : Int)), some (zi ((tx_num w : Nat) : Int)), some (zi 1), some (zi 0), some (zi 1), some (zi 0), none] rfl rfl rfl (Nat.le_of_ble_eq_true rfl) rfl rfl ?_
        refine x_ld 4 2 0 119 rfl rfl rfl rfl rfl ?_
        refine z_iflt 133 122 rfl rfl rfl ⟨by omega, by omega⟩ (fun c => absurd c (by omega)) (fun _ => ?_)
        refine x_ld 12 2 0 124 rfl rfl rfl rfl rfl ?_
        refine x_ld 9 2 0 126 rfl rfl rfl rfl rfl ?_
        refine z_icne 133 129 rfl rfl rfl (rg_lit 0 rfl) (rg_lit 1 rfl) (fun _ => ?_) (fun c => absurd c (by decide))
        refine x_cst (zi 0) 1 134 rfl rfl rfl ?_
        refine x_st 13 2 0 136 [some (.ref 572), some (zi ((k : Nat) : Int)), some (zi ((f : Nat) : Int)), some (zi ((w.length : Nat) : Int)), some (zi ((s : Nat) : Int)), some (zi ((sw.length : Nat) : Int)), some (zi (((ps k).2.1 : Nat) : Int)), some (zi (((ps k).2.2.1 : Nat) : Int)), some (zi ((tx_num w : Nat) : Int)), some (zi 1), some (zi 0), some (zi 1), some (zi 0), some (zi 0)] rfl rfl rfl (Nat.le_of_ble_eq_true rfl) rfl rfl ?_
        refine x_ld 0 1 2 137 rfl rfl rfl rfl rfl ?_
        refine x_ld 12 2 0 139 rfl rfl rfl rfl rfl ?_
        refine z_ifeq 147 142 rfl rfl rfl (rg_lit 0 rfl) (fun _ => ?_) (fun c => absurd c (by decide))
        refine x_ld 7 2 0 149 rfl rfl rfl rfl rfl ?_
        refine x_ld 2 1 0 150 rfl rfl rfl rfl rfl ?_
        refine x_ld 3 1 0 151 rfl rfl rfl rfl rfl ?_
        refine x_ld 13 2 0 153 rfl rfl rfl rfl rfl ?_
        refine z_ifeq 161 156 rfl rfl rfl (rg_lit 0 rfl) (fun _ => ?_) (fun c => absurd c (by decide))
        refine x_cst (zi (-1)) 1 162 rfl rfl rfl ?_
        refine x_ld 13 2 0 164 rfl rfl rfl rfl rfl ?_
        refine z_ifeq 172 167 rfl rfl rfl (rg_lit 0 rfl) (fun _ => ?_) (fun c => absurd c (by decide))
        refine x_cst (zi 0) 1 173 rfl rfl rfl ?_
        refine x_ce 323 151 176 [.ref 572, zi (((ps k).2.2.1 : Nat) : Int), zi ((f : Nat) : Int), zi ((w.length : Nat) : Int), zi (-1), zi 0] rfl rfl rfl (Nat.le_of_ble_eq_true rfl) rfl rfl (Nat.le_of_ble_eq_true rfl) ⟨_, _, _, rfl, o_572⟩ (Nat.le_of_ble_eq_true rfl) (c151 (d + 1) (m := 0) hS (by omega)) rfl ?_
        rintro v M2 ⟨rfl, hS2, hF2⟩
        refine x_rtv rfl rfl ?_
        refine ⟨none, M2, rfl, rfl, rfl, ?_, hF2⟩
        exact hS2
      · rw [h3]
        refine x_st 11 2 0 90 [some (.ref 572), some (zi ((k : Nat) : Int)), some (zi ((f : Nat) : Int)), some (zi ((w.length : Nat) : Int)), some (zi ((s : Nat) : Int)), some (zi ((sw.length : Nat) : Int)), some (zi (((ps k).2.1 : Nat) : Int)), some (zi (((ps k).2.2.1 : Nat) : Int)), some (zi ((tx_num w : Nat) : Int)), some (zi 1), some (zi 0), some (zi 0), none, none] rfl rfl rfl (Nat.le_of_ble_eq_true rfl) rfl rfl ?_
        refine x_ld 4 2 0 92 rfl rfl rfl rfl rfl ?_
        refine z_iflt 100 95 rfl rfl rfl ⟨by omega, by omega⟩ (fun c => absurd c (by omega)) (fun _ => ?_)
        refine x_ld 9 2 0 97 rfl rfl rfl rfl rfl ?_
        refine z_ifeq 105 100 rfl rfl rfl (rg_lit 1 rfl) (fun c => absurd c (by decide)) (fun _ => ?_)
        refine x_ld 10 2 0 102 rfl rfl rfl rfl rfl ?_
        refine x_go 115 rfl rfl ?_
        refine x_st 12 2 0 117 [some (.ref 572), some (zi ((k : Nat) : Int)), some (zi ((f : Nat) : Int)), some (zi ((w.length : Nat) : Int)), some (zi ((s : Nat) : Int)), some (zi ((sw.length : Nat) : Int)), some (zi (((ps k).2.1 : Nat) : Int)), some (zi (((ps k).2.2.1 : Nat) : Int)), some (zi ((tx_num w : Nat) : Int)), some (zi 1), some (zi 0), some (zi 0), some (zi 0), none] rfl rfl rfl (Nat.le_of_ble_eq_true rfl) rfl rfl ?_
        refine x_ld 4 2 0 119 rfl rfl rfl rfl rfl ?_
        refine z_iflt 133 122 rfl rfl rfl ⟨by omega, by omega⟩ (fun c => absurd c (by omega)) (fun _ => ?_)
        refine x_ld 12 2 0 124 rfl rfl rfl rfl rfl ?_
        refine x_ld 9 2 0 126 rfl rfl rfl rfl rfl ?_
        refine z_icne 133 129 rfl rfl rfl (rg_lit 0 rfl) (rg_lit 1 rfl) (fun _ => ?_) (fun c => absurd c (by decide))
        refine x_cst (zi 0) 1 134 rfl rfl rfl ?_
        refine x_st 13 2 0 136 [some (.ref 572), some (zi ((k : Nat) : Int)), some (zi ((f : Nat) : Int)), some (zi ((w.length : Nat) : Int)), some (zi ((s : Nat) : Int)), some (zi ((sw.length : Nat) : Int)), some (zi (((ps k).2.1 : Nat) : Int)), some (zi (((ps k).2.2.1 : Nat) : Int)), some (zi ((tx_num w : Nat) : Int)), some (zi 1), some (zi 0), some (zi 0), some (zi 0), some (zi 0)] rfl rfl rfl (Nat.le_of_ble_eq_true rfl) rfl rfl ?_
        refine x_ld 0 1 2 137 rfl rfl rfl rfl rfl ?_
        refine x_ld 12 2 0 139 rfl rfl rfl rfl rfl ?_
        refine z_ifeq 147 142 rfl rfl rfl (rg_lit 0 rfl) (fun _ => ?_) (fun c => absurd c (by decide))
        refine x_ld 7 2 0 149 rfl rfl rfl rfl rfl ?_
        refine x_ld 2 1 0 150 rfl rfl rfl rfl rfl ?_
        refine x_ld 3 1 0 151 rfl rfl rfl rfl rfl ?_
        refine x_ld 13 2 0 153 rfl rfl rfl rfl rfl ?_
        refine z_ifeq 161 156 rfl rfl rfl (rg_lit 0 rfl) (fun _ => ?_) (fun c => absurd c (by decide))
        refine x_cst (zi (-1)) 1 162 rfl rfl rfl ?_
        refine x_ld 13 2 0 164 rfl rfl rfl rfl rfl ?_
        refine z_ifeq 172 167 rfl rfl rfl (rg_lit 0 rfl) (fun _ => ?_) (fun c => absurd c (by decide))
        refine x_cst (zi 0) 1 173 rfl rfl rfl ?_
        refine x_ce 323 151 176 [.ref 572, zi (((ps k).2.2.1 : Nat) : Int), zi ((f : Nat) : Int), zi ((w.length : Nat) : Int), zi (-1), zi 0] rfl rfl rfl (Nat.le_of_ble_eq_true rfl) rfl rfl (Nat.le_of_ble_eq_true rfl) ⟨_, _, _, rfl, o_572⟩ (Nat.le_of_ble_eq_true rfl) (c151 (d + 1) (m := 0) hS (by omega)) rfl ?_
        rintro v M2 ⟨rfl, hS2, hF2⟩
        refine x_rtv rfl rfl ?_
        refine ⟨none, M2, rfl, rfl, rfl, ?_, hF2⟩
        exact hS2
  · rw [h1]
    refine z_ifeq 61 57 rfl rfl rfl (rg_lit 0 rfl) (fun _ => ?_) (fun c => absurd c (by decide))
    refine x_cst (zi 0) 1 62 rfl rfl rfl ?_
    refine x_st 9 2 0 64 [some (.ref 572), some (zi ((k : Nat) : Int)), some (zi ((f : Nat) : Int)), some (zi ((w.length : Nat) : Int)), some (zi ((s : Nat) : Int)), some (zi ((sw.length : Nat) : Int)), some (zi (((ps k).2.1 : Nat) : Int)), some (zi (((ps k).2.2.1 : Nat) : Int)), some (zi ((tx_num w : Nat) : Int)), some (zi 0), none, none, none, none] rfl rfl rfl (Nat.le_of_ble_eq_true rfl) rfl rfl ?_
    refine x_ld 0 1 2 65 rfl rfl rfl rfl rfl ?_
    refine g_572_12 35 68 rfl rfl rfl ?_
    refine x_ld 6 2 0 70 rfl rfl rfl rfl rfl ?_
    refine x_ld 8 2 0 72 rfl rfl rfl rfl rfl ?_
    refine x_cv 228 123 75 [.ref 581, zi (((ps k).2.1 : Nat) : Int), zi ((tx_num w : Nat) : Int)] rfl rfl rfl (Nat.le_of_ble_eq_true rfl) rfl rfl (Nat.le_of_ble_eq_true rfl) trivial (Nat.le_of_ble_eq_true rfl) (c123 (d + 1) i_581 (k := (ps k).2.1) (t := tx_num w) (by omega) (by omega)) rfl ?_
    rw [show M.2.1 581 (1152 * (((ps k).2.1 : Nat) : Int) + ((tx_num w : Nat) : Int)) = ((sts ps (ps k).2.1).2 (tx_num w)) from al _ (by omega)]
    rcases Bool.eq_false_or_eq_true ((sts ps (ps k).2.1).2 (tx_num w)) with h2 | h2
    · rw [h2]
      refine x_st 10 2 0 77 [some (.ref 572), some (zi ((k : Nat) : Int)), some (zi ((f : Nat) : Int)), some (zi ((w.length : Nat) : Int)), some (zi ((s : Nat) : Int)), some (zi ((sw.length : Nat) : Int)), some (zi (((ps k).2.1 : Nat) : Int)), some (zi (((ps k).2.2.1 : Nat) : Int)), some (zi ((tx_num w : Nat) : Int)), some (zi 0), some (zi 1), none, none, none] rfl rfl rfl (Nat.le_of_ble_eq_true rfl) rfl rfl ?_
      refine x_ld 0 1 2 78 rfl rfl rfl rfl rfl ?_
      refine g_572_12 35 81 rfl rfl rfl ?_
      refine x_ld 7 2 0 83 rfl rfl rfl rfl rfl ?_
      refine x_ld 8 2 0 85 rfl rfl rfl rfl rfl ?_
      refine x_cv 228 123 88 [.ref 581, zi (((ps k).2.2.1 : Nat) : Int), zi ((tx_num w : Nat) : Int)] rfl rfl rfl (Nat.le_of_ble_eq_true rfl) rfl rfl (Nat.le_of_ble_eq_true rfl) trivial (Nat.le_of_ble_eq_true rfl) (c123 (d + 1) i_581 (k := (ps k).2.2.1) (t := tx_num w) (by omega) (by omega)) rfl ?_
      rw [show M.2.1 581 (1152 * (((ps k).2.2.1 : Nat) : Int) + ((tx_num w : Nat) : Int)) = ((sts ps (ps k).2.2.1).2 (tx_num w)) from ar _ (by omega)]
      rcases Bool.eq_false_or_eq_true ((sts ps (ps k).2.2.1).2 (tx_num w)) with h3 | h3
      · rw [h3]
        refine x_st 11 2 0 90 [some (.ref 572), some (zi ((k : Nat) : Int)), some (zi ((f : Nat) : Int)), some (zi ((w.length : Nat) : Int)), some (zi ((s : Nat) : Int)), some (zi ((sw.length : Nat) : Int)), some (zi (((ps k).2.1 : Nat) : Int)), some (zi (((ps k).2.2.1 : Nat) : Int)), some (zi ((tx_num w : Nat) : Int)), some (zi 0), some (zi 1), some (zi 1), none, none] rfl rfl rfl (Nat.le_of_ble_eq_true rfl) rfl rfl ?_
        refine x_ld 4 2 0 92 rfl rfl rfl rfl rfl ?_
        refine z_iflt 100 95 rfl rfl rfl ⟨by omega, by omega⟩ (fun c => absurd c (by omega)) (fun _ => ?_)
        refine x_ld 9 2 0 97 rfl rfl rfl rfl rfl ?_
        refine z_ifeq 105 100 rfl rfl rfl (rg_lit 0 rfl) (fun _ => ?_) (fun c => absurd c (by decide))
        refine x_ld 11 2 0 107 rfl rfl rfl rfl rfl ?_
        refine z_ifne 114 110 rfl rfl rfl (rg_lit 1 rfl) (fun _ => ?_) (fun c => absurd c (by decide))
        refine x_cst (zi 0) 1 115 rfl rfl rfl ?_
        refine x_st 12 2 0 117 [some (.ref 572), some (zi ((k : Nat) : Int)), some (zi ((f : Nat) : Int)), some (zi ((w.length : Nat) : Int)), some (zi ((s : Nat) : Int)), some (zi ((sw.length : Nat) : Int)), some (zi (((ps k).2.1 : Nat) : Int)), some (zi (((ps k).2.2.1 : Nat) : Int)), some (zi ((tx_num w : Nat) : Int)), some (zi 0), some (zi 1), some (zi 1), some (zi 0), none] rfl rfl rfl (Nat.le_of_ble_eq_true rfl) rfl rfl ?_
        refine x_ld 4 2 0 119 rfl rfl rfl rfl rfl ?_
        refine z_iflt 133 122 rfl rfl rfl ⟨by omega, by omega⟩ (fun c => absurd c (by omega)) (fun _ => ?_)
        refine x_ld 12 2 0 124 rfl rfl rfl rfl rfl ?_
        refine x_ld 9 2 0 126 rfl rfl rfl rfl rfl ?_
        refine z_icne 133 129 rfl rfl rfl (rg_lit 0 rfl) (rg_lit 0 rfl) (fun c => absurd c (by decide)) (fun _ => ?_)
        refine x_cst (zi 1) 1 130 rfl rfl rfl ?_
        refine x_go 134 rfl rfl ?_
        refine x_st 13 2 0 136 [some (.ref 572), some (zi ((k : Nat) : Int)), some (zi ((f : Nat) : Int)), some (zi ((w.length : Nat) : Int)), some (zi ((s : Nat) : Int)), some (zi ((sw.length : Nat) : Int)), some (zi (((ps k).2.1 : Nat) : Int)), some (zi (((ps k).2.2.1 : Nat) : Int)), some (zi ((tx_num w : Nat) : Int)), some (zi 0), some (zi 1), some (zi 1), some (zi 0), some (zi 1)] rfl rfl rfl (Nat.le_of_ble_eq_true rfl) rfl rfl ?_
        refine x_ld 0 1 2 137 rfl rfl rfl rfl rfl ?_
        refine x_ld 12 2 0 139 rfl rfl rfl rfl rfl ?_
        refine z_ifeq 147 142 rfl rfl rfl (rg_lit 0 rfl) (fun _ => ?_) (fun c => absurd c (by decide))
        refine x_ld 7 2 0 149 rfl rfl rfl rfl rfl ?_
        refine x_ld 2 1 0 150 rfl rfl rfl rfl rfl ?_
        refine x_ld 3 1 0 151 rfl rfl rfl rfl rfl ?_
        refine x_ld 13 2 0 153 rfl rfl rfl rfl rfl ?_
        refine z_ifeq 161 156 rfl rfl rfl (rg_lit 1 rfl) (fun c => absurd c (by decide)) (fun _ => ?_)
        refine x_ld 4 2 0 158 rfl rfl rfl rfl rfl ?_
        refine x_go 162 rfl rfl ?_
        refine x_ld 13 2 0 164 rfl rfl rfl rfl rfl ?_
        refine z_ifeq 172 167 rfl rfl rfl (rg_lit 1 rfl) (fun c => absurd c (by decide)) (fun _ => ?_)
        refine x_ld 5 2 0 169 rfl rfl rfl rfl rfl ?_
        refine x_go 173 rfl rfl ?_
        refine x_ce 323 151 176 [.ref 572, zi (((ps k).2.2.1 : Nat) : Int), zi ((f : Nat) : Int), zi ((w.length : Nat) : Int), zi ((s : Nat) : Int), zi ((sw.length : Nat) : Int)] rfl rfl rfl (Nat.le_of_ble_eq_true rfl) rfl rfl (Nat.le_of_ble_eq_true rfl) ⟨_, _, _, rfl, o_572⟩ (Nat.le_of_ble_eq_true rfl) (c151 (d + 1) hS (by omega)) rfl ?_
        rintro v M2 ⟨rfl, hS2, hF2⟩
        refine x_rtv rfl rfl ?_
        refine ⟨none, M2, rfl, rfl, rfl, ?_, hF2⟩
        exact hS2
      · rw [h3]
        refine x_st 11 2 0 90 [some (.ref 572), some (zi ((k : Nat) : Int)), some (zi ((f : Nat) : Int)), some (zi ((w.length : Nat) : Int)), some (zi ((s : Nat) : Int)), some (zi ((sw.length : Nat) : Int)), some (zi (((ps k).2.1 : Nat) : Int)), some (zi (((ps k).2.2.1 : Nat) : Int)), some (zi ((tx_num w : Nat) : Int)), some (zi 0), some (zi 1), some (zi 0), none, none] rfl rfl rfl (Nat.le_of_ble_eq_true rfl) rfl rfl ?_
        refine x_ld 4 2 0 92 rfl rfl rfl rfl rfl ?_
        refine z_iflt 100 95 rfl rfl rfl ⟨by omega, by omega⟩ (fun c => absurd c (by omega)) (fun _ => ?_)
        refine x_ld 9 2 0 97 rfl rfl rfl rfl rfl ?_
        refine z_ifeq 105 100 rfl rfl rfl (rg_lit 0 rfl) (fun _ => ?_) (fun c => absurd c (by decide))
        refine x_ld 11 2 0 107 rfl rfl rfl rfl rfl ?_
        refine z_ifne 114 110 rfl rfl rfl (rg_lit 0 rfl) (fun c => absurd c (by decide)) (fun _ => ?_)
        refine x_cst (zi 1) 1 111 rfl rfl rfl ?_
        refine x_go 115 rfl rfl ?_
        refine x_st 12 2 0 117 [some (.ref 572), some (zi ((k : Nat) : Int)), some (zi ((f : Nat) : Int)), some (zi ((w.length : Nat) : Int)), some (zi ((s : Nat) : Int)), some (zi ((sw.length : Nat) : Int)), some (zi (((ps k).2.1 : Nat) : Int)), some (zi (((ps k).2.2.1 : Nat) : Int)), some (zi ((tx_num w : Nat) : Int)), some (zi 0), some (zi 1), some (zi 0), some (zi 1), none] rfl rfl rfl (Nat.le_of_ble_eq_true rfl) rfl rfl ?_
        refine x_ld 4 2 0 119 rfl rfl rfl rfl rfl ?_
        refine z_iflt 133 122 rfl rfl rfl ⟨by omega, by omega⟩ (fun c => absurd c (by omega)) (fun _ => ?_)
        refine x_ld 12 2 0 124 rfl rfl rfl rfl rfl ?_
        refine x_ld 9 2 0 126 rfl rfl rfl rfl rfl ?_
        refine z_icne 133 129 rfl rfl rfl (rg_lit 1 rfl) (rg_lit 0 rfl) (fun _ => ?_) (fun c => absurd c (by decide))
        refine x_cst (zi 0) 1 134 rfl rfl rfl ?_
        refine x_st 13 2 0 136 [some (.ref 572), some (zi ((k : Nat) : Int)), some (zi ((f : Nat) : Int)), some (zi ((w.length : Nat) : Int)), some (zi ((s : Nat) : Int)), some (zi ((sw.length : Nat) : Int)), some (zi (((ps k).2.1 : Nat) : Int)), some (zi (((ps k).2.2.1 : Nat) : Int)), some (zi ((tx_num w : Nat) : Int)), some (zi 0), some (zi 1), some (zi 0), some (zi 1), some (zi 0)] rfl rfl rfl (Nat.le_of_ble_eq_true rfl) rfl rfl ?_
        refine x_ld 0 1 2 137 rfl rfl rfl rfl rfl ?_
        refine x_ld 12 2 0 139 rfl rfl rfl rfl rfl ?_
        refine z_ifeq 147 142 rfl rfl rfl (rg_lit 1 rfl) (fun c => absurd c (by decide)) (fun _ => ?_)
        refine x_ld 6 2 0 144 rfl rfl rfl rfl rfl ?_
        refine x_go 149 rfl rfl ?_
        refine x_ld 2 1 0 150 rfl rfl rfl rfl rfl ?_
        refine x_ld 3 1 0 151 rfl rfl rfl rfl rfl ?_
        refine x_ld 13 2 0 153 rfl rfl rfl rfl rfl ?_
        refine z_ifeq 161 156 rfl rfl rfl (rg_lit 0 rfl) (fun _ => ?_) (fun c => absurd c (by decide))
        refine x_cst (zi (-1)) 1 162 rfl rfl rfl ?_
        refine x_ld 13 2 0 164 rfl rfl rfl rfl rfl ?_
        refine z_ifeq 172 167 rfl rfl rfl (rg_lit 0 rfl) (fun _ => ?_) (fun c => absurd c (by decide))
        refine x_cst (zi 0) 1 173 rfl rfl rfl ?_
        refine x_ce 323 151 176 [.ref 572, zi (((ps k).2.1 : Nat) : Int), zi ((f : Nat) : Int), zi ((w.length : Nat) : Int), zi (-1), zi 0] rfl rfl rfl (Nat.le_of_ble_eq_true rfl) rfl rfl (Nat.le_of_ble_eq_true rfl) ⟨_, _, _, rfl, o_572⟩ (Nat.le_of_ble_eq_true rfl) (c151 (d + 1) (m := 0) hS (by omega)) rfl ?_
        rintro v M2 ⟨rfl, hS2, hF2⟩
        refine x_rtv rfl rfl ?_
        refine ⟨none, M2, rfl, rfl, rfl, ?_, hF2⟩
        exact hS2
    · rw [h2]
      refine x_st 10 2 0 77 [some (.ref 572), some (zi ((k : Nat) : Int)), some (zi ((f : Nat) : Int)), some (zi ((w.length : Nat) : Int)), some (zi ((s : Nat) : Int)), some (zi ((sw.length : Nat) : Int)), some (zi (((ps k).2.1 : Nat) : Int)), some (zi (((ps k).2.2.1 : Nat) : Int)), some (zi ((tx_num w : Nat) : Int)), some (zi 0), some (zi 0), none, none, none] rfl rfl rfl (Nat.le_of_ble_eq_true rfl) rfl rfl ?_
      refine x_ld 0 1 2 78 rfl rfl rfl rfl rfl ?_
      refine g_572_12 35 81 rfl rfl rfl ?_
      refine x_ld 7 2 0 83 rfl rfl rfl rfl rfl ?_
      refine x_ld 8 2 0 85 rfl rfl rfl rfl rfl ?_
      refine x_cv 228 123 88 [.ref 581, zi (((ps k).2.2.1 : Nat) : Int), zi ((tx_num w : Nat) : Int)] rfl rfl rfl (Nat.le_of_ble_eq_true rfl) rfl rfl (Nat.le_of_ble_eq_true rfl) trivial (Nat.le_of_ble_eq_true rfl) (c123 (d + 1) i_581 (k := (ps k).2.2.1) (t := tx_num w) (by omega) (by omega)) rfl ?_
      rw [show M.2.1 581 (1152 * (((ps k).2.2.1 : Nat) : Int) + ((tx_num w : Nat) : Int)) = ((sts ps (ps k).2.2.1).2 (tx_num w)) from ar _ (by omega)]
      rcases Bool.eq_false_or_eq_true ((sts ps (ps k).2.2.1).2 (tx_num w)) with h3 | h3
      · rw [h3]
        refine x_st 11 2 0 90 [some (.ref 572), some (zi ((k : Nat) : Int)), some (zi ((f : Nat) : Int)), some (zi ((w.length : Nat) : Int)), some (zi ((s : Nat) : Int)), some (zi ((sw.length : Nat) : Int)), some (zi (((ps k).2.1 : Nat) : Int)), some (zi (((ps k).2.2.1 : Nat) : Int)), some (zi ((tx_num w : Nat) : Int)), some (zi 0), some (zi 0), some (zi 1), none, none] rfl rfl rfl (Nat.le_of_ble_eq_true rfl) rfl rfl ?_
        refine x_ld 4 2 0 92 rfl rfl rfl rfl rfl ?_
        refine z_iflt 100 95 rfl rfl rfl ⟨by omega, by omega⟩ (fun c => absurd c (by omega)) (fun _ => ?_)
        refine x_ld 9 2 0 97 rfl rfl rfl rfl rfl ?_
        refine z_ifeq 105 100 rfl rfl rfl (rg_lit 0 rfl) (fun _ => ?_) (fun c => absurd c (by decide))
        refine x_ld 11 2 0 107 rfl rfl rfl rfl rfl ?_
        refine z_ifne 114 110 rfl rfl rfl (rg_lit 1 rfl) (fun _ => ?_) (fun c => absurd c (by decide))
        refine x_cst (zi 0) 1 115 rfl rfl rfl ?_
        refine x_st 12 2 0 117 [some (.ref 572), some (zi ((k : Nat) : Int)), some (zi ((f : Nat) : Int)), some (zi ((w.length : Nat) : Int)), some (zi ((s : Nat) : Int)), some (zi ((sw.length : Nat) : Int)), some (zi (((ps k).2.1 : Nat) : Int)), some (zi (((ps k).2.2.1 : Nat) : Int)), some (zi ((tx_num w : Nat) : Int)), some (zi 0), some (zi 0), some (zi 1), some (zi 0), none] rfl rfl rfl (Nat.le_of_ble_eq_true rfl) rfl rfl ?_
        refine x_ld 4 2 0 119 rfl rfl rfl rfl rfl ?_
        refine z_iflt 133 122 rfl rfl rfl ⟨by omega, by omega⟩ (fun c => absurd c (by omega)) (fun _ => ?_)
        refine x_ld 12 2 0 124 rfl rfl rfl rfl rfl ?_
        refine x_ld 9 2 0 126 rfl rfl rfl rfl rfl ?_
        refine z_icne 133 129 rfl rfl rfl (rg_lit 0 rfl) (rg_lit 0 rfl) (fun c => absurd c (by decide)) (fun _ => ?_)
        refine x_cst (zi 1) 1 130 rfl rfl rfl ?_
        refine x_go 134 rfl rfl ?_
        refine x_st 13 2 0 136 [some (.ref 572), some (zi ((k : Nat) : Int)), some (zi ((f : Nat) : Int)), some (zi ((w.length : Nat) : Int)), some (zi ((s : Nat) : Int)), some (zi ((sw.length : Nat) : Int)), some (zi (((ps k).2.1 : Nat) : Int)), some (zi (((ps k).2.2.1 : Nat) : Int)), some (zi ((tx_num w : Nat) : Int)), some (zi 0), some (zi 0), some (zi 1), some (zi 0), some (zi 1)] rfl rfl rfl (Nat.le_of_ble_eq_true rfl) rfl rfl ?_
        refine x_ld 0 1 2 137 rfl rfl rfl rfl rfl ?_
        refine x_ld 12 2 0 139 rfl rfl rfl rfl rfl ?_
        refine z_ifeq 147 142 rfl rfl rfl (rg_lit 0 rfl) (fun _ => ?_) (fun c => absurd c (by decide))
        refine x_ld 7 2 0 149 rfl rfl rfl rfl rfl ?_
        refine x_ld 2 1 0 150 rfl rfl rfl rfl rfl ?_
        refine x_ld 3 1 0 151 rfl rfl rfl rfl rfl ?_
        refine x_ld 13 2 0 153 rfl rfl rfl rfl rfl ?_
        refine z_ifeq 161 156 rfl rfl rfl (rg_lit 1 rfl) (fun c => absurd c (by decide)) (fun _ => ?_)
        refine x_ld 4 2 0 158 rfl rfl rfl rfl rfl ?_
        refine x_go 162 rfl rfl ?_
        refine x_ld 13 2 0 164 rfl rfl rfl rfl rfl ?_
        refine z_ifeq 172 167 rfl rfl rfl (rg_lit 1 rfl) (fun c => absurd c (by decide)) (fun _ => ?_)
        refine x_ld 5 2 0 169 rfl rfl rfl rfl rfl ?_
        refine x_go 173 rfl rfl ?_
        refine x_ce 323 151 176 [.ref 572, zi (((ps k).2.2.1 : Nat) : Int), zi ((f : Nat) : Int), zi ((w.length : Nat) : Int), zi ((s : Nat) : Int), zi ((sw.length : Nat) : Int)] rfl rfl rfl (Nat.le_of_ble_eq_true rfl) rfl rfl (Nat.le_of_ble_eq_true rfl) ⟨_, _, _, rfl, o_572⟩ (Nat.le_of_ble_eq_true rfl) (c151 (d + 1) hS (by omega)) rfl ?_
        rintro v M2 ⟨rfl, hS2, hF2⟩
        refine x_rtv rfl rfl ?_
        refine ⟨none, M2, rfl, rfl, rfl, ?_, hF2⟩
        exact hS2
      · rw [h3]
        refine x_st 11 2 0 90 [some (.ref 572), some (zi ((k : Nat) : Int)), some (zi ((f : Nat) : Int)), some (zi ((w.length : Nat) : Int)), some (zi ((s : Nat) : Int)), some (zi ((sw.length : Nat) : Int)), some (zi (((ps k).2.1 : Nat) : Int)), some (zi (((ps k).2.2.1 : Nat) : Int)), some (zi ((tx_num w : Nat) : Int)), some (zi 0), some (zi 0), some (zi 0), none, none] rfl rfl rfl (Nat.le_of_ble_eq_true rfl) rfl rfl ?_
        refine x_ld 4 2 0 92 rfl rfl rfl rfl rfl ?_
        refine z_iflt 100 95 rfl rfl rfl ⟨by omega, by omega⟩ (fun c => absurd c (by omega)) (fun _ => ?_)
        refine x_ld 9 2 0 97 rfl rfl rfl rfl rfl ?_
        refine z_ifeq 105 100 rfl rfl rfl (rg_lit 0 rfl) (fun _ => ?_) (fun c => absurd c (by decide))
        refine x_ld 11 2 0 107 rfl rfl rfl rfl rfl ?_
        refine z_ifne 114 110 rfl rfl rfl (rg_lit 0 rfl) (fun c => absurd c (by decide)) (fun _ => ?_)
        refine x_cst (zi 1) 1 111 rfl rfl rfl ?_
        refine x_go 115 rfl rfl ?_
        refine x_st 12 2 0 117 [some (.ref 572), some (zi ((k : Nat) : Int)), some (zi ((f : Nat) : Int)), some (zi ((w.length : Nat) : Int)), some (zi ((s : Nat) : Int)), some (zi ((sw.length : Nat) : Int)), some (zi (((ps k).2.1 : Nat) : Int)), some (zi (((ps k).2.2.1 : Nat) : Int)), some (zi ((tx_num w : Nat) : Int)), some (zi 0), some (zi 0), some (zi 0), some (zi 1), none] rfl rfl rfl (Nat.le_of_ble_eq_true rfl) rfl rfl ?_
        refine x_ld 4 2 0 119 rfl rfl rfl rfl rfl ?_
        refine z_iflt 133 122 rfl rfl rfl ⟨by omega, by omega⟩ (fun c => absurd c (by omega)) (fun _ => ?_)
        refine x_ld 12 2 0 124 rfl rfl rfl rfl rfl ?_
        refine x_ld 9 2 0 126 rfl rfl rfl rfl rfl ?_
        refine z_icne 133 129 rfl rfl rfl (rg_lit 1 rfl) (rg_lit 0 rfl) (fun _ => ?_) (fun c => absurd c (by decide))
        refine x_cst (zi 0) 1 134 rfl rfl rfl ?_
        refine x_st 13 2 0 136 [some (.ref 572), some (zi ((k : Nat) : Int)), some (zi ((f : Nat) : Int)), some (zi ((w.length : Nat) : Int)), some (zi ((s : Nat) : Int)), some (zi ((sw.length : Nat) : Int)), some (zi (((ps k).2.1 : Nat) : Int)), some (zi (((ps k).2.2.1 : Nat) : Int)), some (zi ((tx_num w : Nat) : Int)), some (zi 0), some (zi 0), some (zi 0), some (zi 1), some (zi 0)] rfl rfl rfl (Nat.le_of_ble_eq_true rfl) rfl rfl ?_
        refine x_ld 0 1 2 137 rfl rfl rfl rfl rfl ?_
        refine x_ld 12 2 0 139 rfl rfl rfl rfl rfl ?_
        refine z_ifeq 147 142 rfl rfl rfl (rg_lit 1 rfl) (fun c => absurd c (by decide)) (fun _ => ?_)
        refine x_ld 6 2 0 144 rfl rfl rfl rfl rfl ?_
        refine x_go 149 rfl rfl ?_
        refine x_ld 2 1 0 150 rfl rfl rfl rfl rfl ?_
        refine x_ld 3 1 0 151 rfl rfl rfl rfl rfl ?_
        refine x_ld 13 2 0 153 rfl rfl rfl rfl rfl ?_
        refine z_ifeq 161 156 rfl rfl rfl (rg_lit 0 rfl) (fun _ => ?_) (fun c => absurd c (by decide))
        refine x_cst (zi (-1)) 1 162 rfl rfl rfl ?_
        refine x_ld 13 2 0 164 rfl rfl rfl rfl rfl ?_
        refine z_ifeq 172 167 rfl rfl rfl (rg_lit 0 rfl) (fun _ => ?_) (fun c => absurd c (by decide))
        refine x_cst (zi 0) 1 173 rfl rfl rfl ?_
        refine x_ce 323 151 176 [.ref 572, zi (((ps k).2.1 : Nat) : Int), zi ((f : Nat) : Int), zi ((w.length : Nat) : Int), zi (-1), zi 0] rfl rfl rfl (Nat.le_of_ble_eq_true rfl) rfl rfl (Nat.le_of_ble_eq_true rfl) ⟨_, _, _, rfl, o_572⟩ (Nat.le_of_ble_eq_true rfl) (c151 (d + 1) (m := 0) hS (by omega)) rfl ?_
        rintro v M2 ⟨rfl, hS2, hF2⟩
        refine x_rtv rfl rfl ?_
        refine ⟨none, M2, rfl, rfl, rfl, ?_, hF2⟩
        exact hS2
end E1
