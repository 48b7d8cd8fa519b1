/-! OURS, printed by wip/tools/gen982.py: the reference lays parts and keys, finds partners. -/
/-- the parts of a view or a source, in two rows -/
def lpP (M : mm) (fl : Int) (a1 a2 : Nat) (s : Nat) (P : List (List Nat)) (j : Nat) : Prop := M.1 572 fl = (j : Int) ∧ ∀ i, i < j → M.1 a1 (i : Int) = ((s + off P i : Nat) : Int) ∧ M.1 a2 (i : Int) = (((P[i]!).length : Nat) : Int)
/-- keys in a row -/
def lkK (M : mm) (a : Nat) (K : List Nat) (j : Nat) : Prop := ∀ i, i < j → M.1 a (i : Int) = ((K[i]! : Nat) : Int)
/-- what laying parts may change -/
def qF (j : Int) : Prop := j = 47 ∨ j = 52 ∨ j = 53 ∨ j = 59 ∨ j = 63 ∨ j = 67
def Fw (M M' : mm) : Prop := (∀ a, a ≠ 572 → a ≤ 612 → M'.1 a = M.1 a) ∧ (∀ j, ¬ qF j → M'.1 572 j = M.1 572 j) ∧ M'.2 = M.2
theorem Fw_refl (M : mm) : Fw M M := ⟨fun _ _ _ => rfl, fun _ _ => rfl, rfl⟩
theorem Fw_trans {M M' M'' : mm} (h : Fw M M') (g : Fw M' M'') : Fw M M'' := ⟨fun a h1 h2 => (g.1 a h1 h2).trans (h.1 a h1 h2), fun j h1 => (g.2.1 j h1).trans (h.2.1 j h1), g.2.2.trans h.2.2⟩
theorem Fw_Fk {M M' : mm} (h : Fw M M') : Fk M M' := ⟨fun a h1 h2 => h.1 a (by omega) (by omega), h.2.2⟩
theorem qF_cF {j : Int} (h : ¬ cF j) : ¬ qF j := by
  unfold cF at h
  unfold qF
  omega
theorem Fw_Fc {M M' : mm} (h : Fw M M') : Fc M M' := ⟨fun a h1 h2 => h.1 a h1 (by omega), fun j hj => h.2.1 j (qF_cF hj), h.2.2⟩
theorem Fw_ctS {M M' : mm} (h : Fw M M') {bs : List cI} {u : List Nat} (hS : ctS M bs u) : ctS M' bs u := by
  refine ⟨⟨(h.2.1 41 (by unfold qF; omega)).trans hS.1.1, fun i hi => ?_⟩, (h.2.1 40 (by unfold qF; omega)).trans hS.2.1, ?_⟩
  · have q := hS.1.2 i hi
    rw [h.1 599 (by decide) (by decide), h.1 600 (by decide) (by decide), h.1 601 (by decide) (by decide), h.1 602 (by decide) (by decide), h.1 603 (by decide) (by decide)]
    exact q
  · rw [h.1 598 (by decide) (by decide)]; exact hS.2.2
section E2
variable {L : Nat} {xs : Nat → Int32} {M : mm} {es : ab_H}
theorem c156_a (d : Nat) {ps : Nat → prt} {c : Nat} (hm : mdl M ps c) {k : Nat} (hk : k < c) (hK : 7 ≤ (ps k).1) {w : List Nat} (hw : tx_L w) (h6 : w.length ≤ 6) (ms : (sts ps k).2 (tx_num w) = true) {f : Nat} (hf : f + w.length ≤ 6) (hr : roL (M.1 597) f w) {so sm : Int} {Q : ab_Q} (kk : ∀ M', Fw M M' → lpP M' 63 613 614 f (rps (sts ps (ps k).2.1).2 (sts ps k).2 w) (rps (sts ps (ps k).2.1).2 (sts ps k).2 w).length → ab_W (pg_G L xs) (ab_X (pg_G L xs) (d + 2)) 156 Q 84 [some (.ref 572), some (zi (k : Nat)), some (zi (f : Nat)), some (zi (w.length : Nat)), some (zi so), some (zi sm), some (zi ((f + w.length : Nat) : Int))] [] (hp M' ++ es)) : ∀ m j : Nat, (rps (sts ps (ps k).2.1).2 (sts ps k).2 w).length - j = m → j ≤ (rps (sts ps (ps k).2.1).2 (sts ps k).2 w).length → ∀ M', Fw M M' → lpP M' 63 613 614 f (rps (sts ps (ps k).2.1).2 (sts ps k).2 w) j → ab_W (pg_G L xs) (ab_X (pg_G L xs) (d + 2)) 156 Q 8 [some (.ref 572), some (zi (k : Nat)), some (zi (f : Nat)), some (zi (w.length : Nat)), some (zi so), some (zi sm), some (zi ((f + off (rps (sts ps (ps k).2.1).2 (sts ps k).2 w) j : Nat) : Int))] [] (hp M' ++ es) := by
  have hlk := (hm.2 k hk).1.2.2.2 (by omega)
  have hc31 := hm.1
  have hlf : M.1 577 (k : Int) = (((ps k).2.1 : Nat) : Int) := by
    have := (hm.2 k hk).2.2.2.1
    unfold mLf at this
    rw [if_pos (by omega)] at this
    exact this
  have a1 := (hm.2 _ (Nat.lt_trans hlk.1 hk)).2.2.2.2.2.2.2
  have a2 := (hm.2 k hk).2.2.2.2.2.2.2
  have hPl := rps_len (sts ps (ps k).2.1).2 (sts ps k).2 w
  have c146x : ∀ (M' : mm), Fw M M' → ∀ (j : Nat), j < (rps (sts ps (ps k).2.1).2 (sts ps k).2 w).length → ab_S (pg_G L xs) (d + 2) 146 [.ref 572, .ref 581, zi (k : Nat), .ref 597, zi ((f + off (rps (sts ps (ps k).2.1).2 (sts ps k).2 w) j : Nat) : Int), zi ((w.length - off (rps (sts ps (ps k).2.1).2 (sts ps k).2 w) j : Nat) : Int)] (hp M' ++ es) (some (zi (((rps (sts ps (ps k).2.1).2 (sts ps k).2 w)[j]!).length : Nat))) (hp M' ++ es) := by
    intro M' hF j hj
    have ho := off_le (sts ps (ps k).2.1).2 (sts ps k).2 w j
    have hne := (rps_nth hj).1
    have q := c146 (L := L) (xs := xs) (es := es) (M := M') d i_581 (f := (ps k).2.1) (g := k) (by omega) (by omega) i_597 (w := w.drop (off (rps (sts ps (ps k).2.1).2 (sts ps k).2 w) j)) (tx_L_drop hw _) (by rw [List.length_drop]; omega) (s := f + off (rps (sts ps (ps k).2.1).2 (sts ps k).2 w) j) (by rw [hF.1 597 (by decide) (by decide)]; exact roL_drop hr _) (by rw [List.length_drop]; omega) (by rw [hF.1 577 (by decide) (by decide)]; exact hlf) (by omega) hne
    rw [List.length_drop] at q
    rw [rps_nth_len hj]
    rw [show cuf (sts ps (ps k).2.1).2 (sts ps k).2 (w.drop (off (rps (sts ps (ps k).2.1).2 (sts ps k).2 w) j)) = cuf (mS (M'.2.1 581) (ps k).2.1) (mS (M'.2.1 581) k) (w.drop (off (rps (sts ps (ps k).2.1).2 (sts ps k).2 w) j)) from fi_congr (fun i _ => by rw [hF.2.2]; exact (cp_agw a1 a2 (tx_L_drop hw _) (by rw [List.length_drop]; omega) i).symm) 1]
    exact q
  intro m
  induction m using Nat.strongRecOn with
  | _ m ih =>
    intro j hm2 hj M' hF hL
    have ho := off_le (sts ps (ps k).2.1).2 (sts ps k).2 w j
    have he := rps_end (A := (sts ps (ps k).2.1).2) (B := (sts ps k).2) (w := w) hj
    refine x_ld 6 2 0 10 rfl rfl rfl rfl rfl ?_
    refine x_ld 2 1 0 11 rfl rfl rfl rfl rfl ?_
    refine x_ld 3 1 0 12 rfl rfl rfl rfl rfl ?_
    refine z_add 13 rfl rfl ?_
    refine z_icge 84 16 rfl rfl rfl ⟨by omega, by omega⟩ ⟨by omega, by omega⟩ (fun c13 => ?_) (fun c13 => ?_)
    · have e : j = (rps (sts ps (ps k).2.1).2 (sts ps k).2 w).length := by omega
      have e2 : off (rps (sts ps (ps k).2.1).2 (sts ps k).2 w) j = w.length := by omega
      rw [e2]; rw [e] at hL; exact kk M' hF hL
    · refine x_ld 0 1 2 17 rfl rfl rfl rfl rfl ?_
      refine g_572_60 138 20 rfl rfl rfl ?_
      refine x_ld 0 1 2 21 rfl rfl rfl rfl rfl ?_
      refine g_572_63 338 24 rfl rfl hL.1 rfl ?_
      refine x_ld 6 2 0 26 rfl rfl rfl rfl rfl ?_
      refine z_ist 27 rfl i_613 rfl ⟨by omega, by omega⟩ rfl ?_
      refine x_ld 0 1 2 28 rfl rfl rfl rfl rfl ?_
      refine g_572_61 141 31 rfl rfl rfl ?_
      refine x_ld 0 1 2 32 rfl rfl rfl rfl rfl ?_
      refine g_572_63 338 35 rfl rfl ((rd_na (Ne.symm (by decide))).trans hL.1) rfl ?_
      refine x_ld 0 1 2 36 rfl rfl rfl rfl rfl ?_
      refine x_ld 0 1 2 37 rfl rfl rfl rfl rfl ?_
      refine g_572_12 35 40 rfl rfl rfl ?_
      refine x_ld 1 1 0 41 rfl rfl rfl rfl rfl ?_
      refine x_ld 0 1 2 42 rfl rfl rfl rfl rfl ?_
      refine g_572_38 90 45 rfl rfl rfl ?_
      refine x_ld 6 2 0 47 rfl rfl rfl rfl rfl ?_
      refine x_ld 2 1 0 48 rfl rfl rfl rfl rfl ?_
      refine x_ld 3 1 0 49 rfl rfl rfl rfl rfl ?_
      refine z_add 50 rfl rfl ?_
      refine x_ld 6 2 0 52 rfl rfl rfl rfl rfl ?_
      refine z_sub 53 rfl rfl ?_
      rw [show (((f : Nat) : Int) + ((w.length : Nat) : Int)) - ((f + off (rps (sts ps (ps k).2.1).2 (sts ps k).2 w) j : Nat) : Int) = ((w.length - off (rps (sts ps (ps k).2.1).2 (sts ps k).2 w) j : Nat) : Int) from (by omega)]
      refine x_cv 287 146 56 [.ref 572, .ref 581, zi ((k : Nat) : Int), .ref 597, zi ((f + off (rps (sts ps (ps k).2.1).2 (sts ps k).2 w) j : Nat) : Int), zi ((w.length - off (rps (sts ps (ps k).2.1).2 (sts ps k).2 w) j : Nat) : Int)] rfl rfl rfl (Nat.le_of_ble_eq_true rfl) rfl rfl (Nat.le_of_ble_eq_true rfl) ⟨_, _, _, rfl, o_572⟩ (Nat.le_of_ble_eq_true rfl) (c146x (sI M' 613 ((j : Nat) : Int) ((f + off (rps (sts ps (ps k).2.1).2 (sts ps k).2 w) j : Nat) : Int)) (Fw_trans hF ⟨fun a h1 h2 => sI_ne (by omega), fun q hq => rd_na (by decide), rfl⟩) j (by omega)) rfl ?_
      refine z_ist 57 rfl i_614 rfl ⟨by omega, by omega⟩ rfl ?_
      refine x_ld 6 2 0 59 rfl rfl rfl rfl rfl ?_
      refine x_ld 0 1 2 60 rfl rfl rfl rfl rfl ?_
      refine g_572_61 141 63 rfl rfl rfl ?_
      refine x_ld 0 1 2 64 rfl rfl rfl rfl rfl ?_
      refine g_572_63 338 67 rfl rfl ((rd_na (Ne.symm (by decide))).trans ((rd_na (Ne.symm (by decide))).trans hL.1)) rfl ?_
      refine z_ild ((((rps (sts ps (ps k).2.1).2 (sts ps k).2 w)[j]!).length : Nat) : Int) 68 rfl i_614 rfl ⟨by omega, by omega⟩ rd_eq rfl ?_
      refine z_add 69 rfl rfl ?_
      rw [show ((f + off (rps (sts ps (ps k).2.1).2 (sts ps k).2 w) j : Nat) : Int) + ((((rps (sts ps (ps k).2.1).2 (sts ps k).2 w)[j]!).length : Nat) : Int) = ((f + off (rps (sts ps (ps k).2.1).2 (sts ps k).2 w) (j + 1) : Nat) : Int) from (by rw [off_succ (by omega)]; omega)]
      refine x_st 6 2 0 71 [some (.ref 572), some (zi ((k : Nat) : Int)), some (zi ((f : Nat) : Int)), some (zi ((w.length : Nat) : Int)), some (zi so), some (zi sm), some (zi ((f + off (rps (sts ps (ps k).2.1).2 (sts ps k).2 w) (j + 1) : Nat) : Int))] rfl rfl rfl (Nat.le_of_ble_eq_true rfl) rfl rfl ?_
      refine x_ld 0 1 2 72 rfl rfl rfl rfl rfl ?_
      refine x_dup 73 rfl rfl rfl ?_
      refine g_572_63 338 76 rfl rfl ((rd_na (Ne.symm (by decide))).trans ((rd_na (Ne.symm (by decide))).trans hL.1)) rfl ?_
      refine x_cst (zi 1) 1 77 rfl rfl rfl ?_
      refine z_add 78 rfl rfl ?_
      refine s_572_63 338 81 rfl rfl rfl rfl rfl rfl ?_
      refine x_go 8 rfl rfl ?_
      refine ih ((rps (sts ps (ps k).2.1).2 (sts ps k).2 w).length - (j + 1)) (by omega) (j + 1) rfl (by omega) _ (Fw_trans hF ⟨fun a h1 h2 => by rw [sI_ne h1, sI_ne (by omega), sI_ne (by omega)], fun q hq => (rd_nk (fun e => hq (by rw [e]; unfold qF; decide))).trans ((rd_na (by decide)).trans (rd_na (by decide))), rfl⟩) ⟨rd_eq, fun i hi => ?_⟩
      rcases Nat.eq_or_lt_of_le (Nat.le_of_lt_succ hi) with e | e
      · subst e; exact ⟨(rd_na (by decide)).trans ((rd_na (by decide)).trans rd_eq), (rd_na (by decide)).trans rd_eq⟩
      · have q := hL.2 i e
        exact ⟨(rd_na (by decide)).trans ((rd_na (by decide)).trans ((rd_nk (by omega)).trans q.1)), (rd_na (by decide)).trans ((rd_nk (by omega)).trans ((rd_na (by decide)).trans q.2))⟩
theorem c156_b (d : Nat) {ps : Nat → prt} {c : Nat} (hm : mdl M ps c) {k : Nat} (hk : k < c) (hK : 7 ≤ (ps k).1) {w : List Nat} (hw : tx_L w) (h6 : w.length ≤ 6) (ms : (sts ps k).2 (tx_num w) = true) {f : Nat} (hf : f + w.length ≤ 6) (hr : roL (M.1 597) f w) {s : Nat} {sw : List Nat} (hs : tx_L sw) (s6 : sw.length ≤ 6) (mss : (sts ps k).1 (tx_num sw) = true) (hsf : s + sw.length ≤ 6) (hsr : roL (M.1 596) s sw) {vf vn : Int} {Q : ab_Q} (kk : ∀ M', Fw M M' → lpP M' 67 616 617 s (rps (sts ps (ps k).2.1).1 (sts ps k).1 sw) (rps (sts ps (ps k).2.1).1 (sts ps k).1 sw).length → M'.1 572 63 = M.1 572 63 → (∀ a, 613 ≤ a → a ≤ 615 → M'.1 a = M.1 a) → Q (.inl none) (hp M' ++ es)) : ∀ m j : Nat, (rps (sts ps (ps k).2.1).1 (sts ps k).1 sw).length - j = m → j ≤ (rps (sts ps (ps k).2.1).1 (sts ps k).1 sw).length → ∀ M', Fw M M' → lpP M' 67 616 617 s (rps (sts ps (ps k).2.1).1 (sts ps k).1 sw) j → M'.1 572 63 = M.1 572 63 → (∀ a, 613 ≤ a → a ≤ 615 → M'.1 a = M.1 a) → ab_W (pg_G L xs) (ab_X (pg_G L xs) (d + 2)) 156 Q 93 [some (.ref 572), some (zi (k : Nat)), some (zi vf), some (zi vn), some (zi (s : Nat)), some (zi (sw.length : Nat)), some (zi ((s + off (rps (sts ps (ps k).2.1).1 (sts ps k).1 sw) j : Nat) : Int))] [] (hp M' ++ es) := by
  have hlk := (hm.2 k hk).1.2.2.2 (by omega)
  have hc31 := hm.1
  have hlf : M.1 577 (k : Int) = (((ps k).2.1 : Nat) : Int) := by
    have := (hm.2 k hk).2.2.2.1
    unfold mLf at this
    rw [if_pos (by omega)] at this
    exact this
  have a1 := (hm.2 _ (Nat.lt_trans hlk.1 hk)).2.2.2.2.2.2.1
  have a2 := (hm.2 k hk).2.2.2.2.2.2.1
  have hPl := rps_len (sts ps (ps k).2.1).1 (sts ps k).1 sw
  have c146x : ∀ (M' : mm), Fw M M' → ∀ (j : Nat), j < (rps (sts ps (ps k).2.1).1 (sts ps k).1 sw).length → ab_S (pg_G L xs) (d + 2) 146 [.ref 572, .ref 580, zi (k : Nat), .ref 596, zi ((s + off (rps (sts ps (ps k).2.1).1 (sts ps k).1 sw) j : Nat) : Int), zi ((sw.length - off (rps (sts ps (ps k).2.1).1 (sts ps k).1 sw) j : Nat) : Int)] (hp M' ++ es) (some (zi (((rps (sts ps (ps k).2.1).1 (sts ps k).1 sw)[j]!).length : Nat))) (hp M' ++ es) := by
    intro M' hF j hj
    have ho := off_le (sts ps (ps k).2.1).1 (sts ps k).1 sw j
    have hne := (rps_nth hj).1
    have q := c146 (L := L) (xs := xs) (es := es) (M := M') d i_580 (f := (ps k).2.1) (g := k) (by omega) (by omega) i_596 (w := sw.drop (off (rps (sts ps (ps k).2.1).1 (sts ps k).1 sw) j)) (tx_L_drop hs _) (by rw [List.length_drop]; omega) (s := s + off (rps (sts ps (ps k).2.1).1 (sts ps k).1 sw) j) (by rw [hF.1 596 (by decide) (by decide)]; exact roL_drop hsr _) (by rw [List.length_drop]; omega) (by rw [hF.1 577 (by decide) (by decide)]; exact hlf) (by omega) hne
    rw [List.length_drop] at q
    rw [rps_nth_len hj]
    rw [show cuf (sts ps (ps k).2.1).1 (sts ps k).1 (sw.drop (off (rps (sts ps (ps k).2.1).1 (sts ps k).1 sw) j)) = cuf (mS (M'.2.1 580) (ps k).2.1) (mS (M'.2.1 580) k) (sw.drop (off (rps (sts ps (ps k).2.1).1 (sts ps k).1 sw) j)) from fi_congr (fun i _ => by rw [hF.2.2]; exact (cp_agw a1 a2 (tx_L_drop hs _) (by rw [List.length_drop]; omega) i).symm) 1]
    exact q
  intro m
  induction m using Nat.strongRecOn with
  | _ m ih =>
    intro j hm2 hj M' hF hL k63 kar
    have ho := off_le (sts ps (ps k).2.1).1 (sts ps k).1 sw j
    have he := rps_end (A := (sts ps (ps k).2.1).1) (B := (sts ps k).1) (w := sw) hj
    refine x_ld 4 2 0 95 rfl rfl rfl rfl rfl ?_
    refine z_iflt 178 98 rfl rfl rfl ⟨by omega, by omega⟩ (fun c => absurd c (by omega)) (fun _ => ?_)
    refine x_ld 6 2 0 100 rfl rfl rfl rfl rfl ?_
    refine x_ld 4 2 0 102 rfl rfl rfl rfl rfl ?_
    refine x_ld 5 2 0 104 rfl rfl rfl rfl rfl ?_
    refine z_add 105 rfl rfl ?_
    refine z_icge 178 108 rfl rfl rfl ⟨by omega, by omega⟩ ⟨by omega, by omega⟩ (fun c105 => ?_) (fun c105 => ?_)
    · refine x_rtv rfl rfl ?_
      have e : j = (rps (sts ps (ps k).2.1).1 (sts ps k).1 sw).length := by omega
      rw [e] at hL; exact kk M' hF hL k63 kar
    · refine x_ld 0 1 2 109 rfl rfl rfl rfl rfl ?_
      refine g_572_64 147 112 rfl rfl rfl ?_
      refine x_ld 0 1 2 113 rfl rfl rfl rfl rfl ?_
      refine g_572_67 341 116 rfl rfl hL.1 rfl ?_
      refine x_ld 6 2 0 118 rfl rfl rfl rfl rfl ?_
      refine z_ist 119 rfl i_616 rfl ⟨by omega, by omega⟩ rfl ?_
      refine x_ld 0 1 2 120 rfl rfl rfl rfl rfl ?_
      refine g_572_65 150 123 rfl rfl rfl ?_
      refine x_ld 0 1 2 124 rfl rfl rfl rfl rfl ?_
      refine g_572_67 341 127 rfl rfl ((rd_na (Ne.symm (by decide))).trans hL.1) rfl ?_
      refine x_ld 0 1 2 128 rfl rfl rfl rfl rfl ?_
      refine x_ld 0 1 2 129 rfl rfl rfl rfl rfl ?_
      refine g_572_11 31 132 rfl rfl rfl ?_
      refine x_ld 1 1 0 133 rfl rfl rfl rfl rfl ?_
      refine x_ld 0 1 2 134 rfl rfl rfl rfl rfl ?_
      refine g_572_37 87 137 rfl rfl rfl ?_
      refine x_ld 6 2 0 139 rfl rfl rfl rfl rfl ?_
      refine x_ld 4 2 0 141 rfl rfl rfl rfl rfl ?_
      refine x_ld 5 2 0 143 rfl rfl rfl rfl rfl ?_
      refine z_add 144 rfl rfl ?_
      refine x_ld 6 2 0 146 rfl rfl rfl rfl rfl ?_
      refine z_sub 147 rfl rfl ?_
      rw [show (((s : Nat) : Int) + ((sw.length : Nat) : Int)) - ((s + off (rps (sts ps (ps k).2.1).1 (sts ps k).1 sw) j : Nat) : Int) = ((sw.length - off (rps (sts ps (ps k).2.1).1 (sts ps k).1 sw) j : Nat) : Int) from (by omega)]
      refine x_cv 287 146 150 [.ref 572, .ref 580, zi ((k : Nat) : Int), .ref 596, zi ((s + off (rps (sts ps (ps k).2.1).1 (sts ps k).1 sw) j : Nat) : Int), zi ((sw.length - off (rps (sts ps (ps k).2.1).1 (sts ps k).1 sw) j : Nat) : Int)] rfl rfl rfl (Nat.le_of_ble_eq_true rfl) rfl rfl (Nat.le_of_ble_eq_true rfl) ⟨_, _, _, rfl, o_572⟩ (Nat.le_of_ble_eq_true rfl) (c146x (sI M' 616 ((j : Nat) : Int) ((s + off (rps (sts ps (ps k).2.1).1 (sts ps k).1 sw) j : Nat) : Int)) (Fw_trans hF ⟨fun a h1 h2 => sI_ne (by omega), fun q hq => rd_na (by decide), rfl⟩) j (by omega)) rfl ?_
      refine z_ist 151 rfl i_617 rfl ⟨by omega, by omega⟩ rfl ?_
      refine x_ld 6 2 0 153 rfl rfl rfl rfl rfl ?_
      refine x_ld 0 1 2 154 rfl rfl rfl rfl rfl ?_
      refine g_572_65 150 157 rfl rfl rfl ?_
      refine x_ld 0 1 2 158 rfl rfl rfl rfl rfl ?_
      refine g_572_67 341 161 rfl rfl ((rd_na (Ne.symm (by decide))).trans ((rd_na (Ne.symm (by decide))).trans hL.1)) rfl ?_
      refine z_ild ((((rps (sts ps (ps k).2.1).1 (sts ps k).1 sw)[j]!).length : Nat) : Int) 162 rfl i_617 rfl ⟨by omega, by omega⟩ rd_eq rfl ?_
      refine z_add 163 rfl rfl ?_
      rw [show ((s + off (rps (sts ps (ps k).2.1).1 (sts ps k).1 sw) j : Nat) : Int) + ((((rps (sts ps (ps k).2.1).1 (sts ps k).1 sw)[j]!).length : Nat) : Int) = ((s + off (rps (sts ps (ps k).2.1).1 (sts ps k).1 sw) (j + 1) : Nat) : Int) from (by rw [off_succ (by omega)]; omega)]
      refine x_st 6 2 0 165 [some (.ref 572), some (zi ((k : Nat) : Int)), some (zi vf), some (zi vn), some (zi ((s : Nat) : Int)), some (zi ((sw.length : Nat) : Int)), some (zi ((s + off (rps (sts ps (ps k).2.1).1 (sts ps k).1 sw) (j + 1) : Nat) : Int))] rfl rfl rfl (Nat.le_of_ble_eq_true rfl) rfl rfl ?_
      refine x_ld 0 1 2 166 rfl rfl rfl rfl rfl ?_
      refine x_dup 167 rfl rfl rfl ?_
      refine g_572_67 341 170 rfl rfl ((rd_na (Ne.symm (by decide))).trans ((rd_na (Ne.symm (by decide))).trans hL.1)) rfl ?_
      refine x_cst (zi 1) 1 171 rfl rfl rfl ?_
      refine z_add 172 rfl rfl ?_
      refine s_572_67 341 175 rfl rfl rfl rfl rfl rfl ?_
      refine x_go 93 rfl rfl ?_
      refine ih ((rps (sts ps (ps k).2.1).1 (sts ps k).1 sw).length - (j + 1)) (by omega) (j + 1) rfl (by omega) _ (Fw_trans hF ⟨fun a h1 h2 => by rw [sI_ne h1, sI_ne (by omega), sI_ne (by omega)], fun q hq => (rd_nk (fun e => hq (by rw [e]; unfold qF; decide))).trans ((rd_na (by decide)).trans (rd_na (by decide))), rfl⟩) ⟨rd_eq, fun i hi => ?_⟩ ?_ ?_
      · rcases Nat.eq_or_lt_of_le (Nat.le_of_lt_succ hi) with e | e
        · subst e; exact ⟨(rd_na (by decide)).trans ((rd_na (by decide)).trans rd_eq), (rd_na (by decide)).trans rd_eq⟩
        · have q := hL.2 i e
          exact ⟨(rd_na (by decide)).trans ((rd_na (by decide)).trans ((rd_nk (by omega)).trans q.1)), (rd_na (by decide)).trans ((rd_nk (by omega)).trans ((rd_na (by decide)).trans q.2))⟩
      · exact (rd_nk (by decide)).trans ((rd_na (by decide)).trans ((rd_na (by decide)).trans k63))
      · intro a h1 h2; rw [sI_ne (by omega), sI_ne (by omega), sI_ne (by omega)]; exact kar a h1 h2
theorem c156s (d : Nat) {ps : Nat → prt} {c : Nat} (hm : mdl M ps c) {k : Nat} (hk : k < c) (hK : 7 ≤ (ps k).1) {w : List Nat} (hw : tx_L w) (h6 : w.length ≤ 6) (ms : (sts ps k).2 (tx_num w) = true) {f : Nat} (hf : f + w.length ≤ 6) (hr : roL (M.1 597) f w) {s : Nat} {sw : List Nat} (hs : tx_L sw) (s6 : sw.length ≤ 6) (mss : (sts ps k).1 (tx_num sw) = true) (hsf : s + sw.length ≤ 6) (hsr : roL (M.1 596) s sw) : ab_Z (pg_G L xs) (d + 3) 156 [.ref 572, zi (k : Nat), zi (f : Nat), zi (w.length : Nat), zi ((s : Nat) : Int), zi ((sw.length : Nat) : Int)] M es (fun v M' => v = none ∧ Fw M M' ∧ lpP M' 63 613 614 f (rps (sts ps (ps k).2.1).2 (sts ps k).2 w) (rps (sts ps (ps k).2.1).2 (sts ps k).2 w).length ∧ lpP M' 67 616 617 s (rps (sts ps (ps k).2.1).1 (sts ps k).1 sw) (rps (sts ps (ps k).2.1).1 (sts ps k).1 sw).length) := by
  show ab_W (pg_G L xs) (ab_X (pg_G L xs) (d + 2)) 156 _ 0 [some (.ref 572), some (zi ((k : Nat) : Int)), some (zi ((f : Nat) : Int)), some (zi ((w.length : Nat) : Int)), some (zi ((s : Nat) : Int)), some (zi ((sw.length : Nat) : Int)), none] [] (hp M ++ es)
  refine x_ld 0 1 2 1 rfl rfl rfl rfl rfl ?_
  refine x_cst (zi 0) 1 2 rfl rfl rfl ?_
  refine s_572_63 338 5 rfl rfl rfl rfl rfl rfl ?_
  refine x_ld 2 1 0 6 rfl rfl rfl rfl rfl ?_
  refine x_st 6 2 0 8 [some (.ref 572), some (zi ((k : Nat) : Int)), some (zi ((f : Nat) : Int)), some (zi ((w.length : Nat) : Int)), some (zi ((s : Nat) : Int)), some (zi ((sw.length : Nat) : Int)), some (zi ((f : Nat) : Int))] rfl rfl rfl (Nat.le_of_ble_eq_true rfl) rfl rfl ?_
  have hF1 : Fw M (sI M 572 63 0) := ⟨fun a h _ => sI_ne h, fun q hq => rd_nk (fun e => hq (by rw [e]; unfold qF; decide)), rfl⟩
  have e0 : ((f : Nat) : Int) = ((f + off (rps (sts ps (ps k).2.1).2 (sts ps k).2 w) 0 : Nat) : Int) := by rw [off_0]; omega
  have q0 := c156_a (L := L) (xs := xs) (es := es) (M := (sI M 572 63 0)) d (mdl_Fk hm (Fw_Fk hF1)) hk hK hw h6 ms hf (by rw [sI_ne (by decide)]; exact hr) (so := ((s : Nat) : Int)) (sm := ((sw.length : Nat) : Int)) (Q := fun r' h' => ∃ v M', r' = .inl v ∧ h' = hp M' ++ es ∧ v = none ∧ Fw M M' ∧ lpP M' 63 613 614 f (rps (sts ps (ps k).2.1).2 (sts ps k).2 w) (rps (sts ps (ps k).2.1).2 (sts ps k).2 w).length ∧ lpP M' 67 616 617 s (rps (sts ps (ps k).2.1).1 (sts ps k).1 sw) (rps (sts ps (ps k).2.1).1 (sts ps k).1 sw).length) ?_ _ 0 rfl (Nat.zero_le _) (sI M 572 63 0) (Fw_refl _) ⟨rd_eq, fun i hi => absurd hi (Nat.not_lt_zero i)⟩
  · rw [← e0] at q0; exact q0
  · intro M2 hF2 hL2
    refine x_ld 0 1 2 85 rfl rfl rfl rfl rfl ?_
    refine x_cst (zi 0) 1 86 rfl rfl rfl ?_
    refine s_572_67 341 89 rfl rfl rfl rfl rfl rfl ?_
    refine x_ld 4 2 0 91 rfl rfl rfl rfl rfl ?_
    refine x_st 6 2 0 93 [some (.ref 572), some (zi ((k : Nat) : Int)), some (zi ((f : Nat) : Int)), some (zi ((w.length : Nat) : Int)), some (zi ((s : Nat) : Int)), some (zi ((sw.length : Nat) : Int)), some (zi ((s : Nat) : Int))] rfl rfl rfl (Nat.le_of_ble_eq_true rfl) rfl rfl ?_
    have hF3 : Fw M2 (sI M2 572 67 0) := ⟨fun a h _ => sI_ne h, fun q hq => rd_nk (fun e => hq (by rw [e]; unfold qF; decide)), rfl⟩
    have hFF := Fw_trans (Fw_trans hF1 hF2) hF3
    have e1 : ((s : Nat) : Int) = ((s + off (rps (sts ps (ps k).2.1).1 (sts ps k).1 sw) 0 : Nat) : Int) := by rw [off_0]; omega
    have q1 := c156_b (L := L) (xs := xs) (es := es) (M := (sI M2 572 67 0)) d (mdl_Fk hm (Fw_Fk hFF)) hk hK hw h6 ms hf (by rw [hFF.1 597 (by decide) (by decide)]; exact hr) hs s6 mss hsf (by rw [hFF.1 596 (by decide) (by decide)]; exact hsr) (vf := ((f : Nat) : Int)) (vn := ((w.length : Nat) : Int)) (Q := fun r' h' => ∃ v M', r' = .inl v ∧ h' = hp M' ++ es ∧ v = none ∧ Fw M M' ∧ lpP M' 63 613 614 f (rps (sts ps (ps k).2.1).2 (sts ps k).2 w) (rps (sts ps (ps k).2.1).2 (sts ps k).2 w).length ∧ lpP M' 67 616 617 s (rps (sts ps (ps k).2.1).1 (sts ps k).1 sw) (rps (sts ps (ps k).2.1).1 (sts ps k).1 sw).length) (fun M4 hF4 hL4 k63 kar => ⟨none, M4, rfl, rfl, rfl, Fw_trans hFF hF4, ⟨k63.trans ((rd_nk (by decide)).trans hL2.1), fun i hi => by rw [kar 613 (by decide) (by decide), kar 614 (by decide) (by decide), sI_ne (by decide), sI_ne (by decide)]; exact hL2.2 i hi⟩, hL4⟩) _ 0 rfl (Nat.zero_le _) (sI M2 572 67 0) (Fw_refl _) ⟨rd_eq, fun i hi => absurd hi (Nat.not_lt_zero i)⟩ rfl (fun _ _ _ => rfl)
    rw [← e1] at q1; exact q1
theorem c156n (d : Nat) {ps : Nat → prt} {c : Nat} (hm : mdl M ps c) {k : Nat} (hk : k < c) (hK : 7 ≤ (ps k).1) {w : List Nat} (hw : tx_L w) (h6 : w.length ≤ 6) (ms : (sts ps k).2 (tx_num w) = true) {f : Nat} (hf : f + w.length ≤ 6) (hr : roL (M.1 597) f w) : ab_Z (pg_G L xs) (d + 3) 156 [.ref 572, zi (k : Nat), zi (f : Nat), zi (w.length : Nat), zi (-1), zi 0] M es (fun v M' => v = none ∧ Fw M M' ∧ lpP M' 63 613 614 f (rps (sts ps (ps k).2.1).2 (sts ps k).2 w) (rps (sts ps (ps k).2.1).2 (sts ps k).2 w).length ∧ M'.1 572 67 = 0) := by
  show ab_W (pg_G L xs) (ab_X (pg_G L xs) (d + 2)) 156 _ 0 [some (.ref 572), some (zi ((k : Nat) : Int)), some (zi ((f : Nat) : Int)), some (zi ((w.length : Nat) : Int)), some (zi (-1)), some (zi 0), none] [] (hp M ++ es)
  refine x_ld 0 1 2 1 rfl rfl rfl rfl rfl ?_
  refine x_cst (zi 0) 1 2 rfl rfl rfl ?_
  refine s_572_63 338 5 rfl rfl rfl rfl rfl rfl ?_
  refine x_ld 2 1 0 6 rfl rfl rfl rfl rfl ?_
  refine x_st 6 2 0 8 [some (.ref 572), some (zi ((k : Nat) : Int)), some (zi ((f : Nat) : Int)), some (zi ((w.length : Nat) : Int)), some (zi (-1)), some (zi 0), some (zi ((f : Nat) : Int))] rfl rfl rfl (Nat.le_of_ble_eq_true rfl) rfl rfl ?_
  have hF1 : Fw M (sI M 572 63 0) := ⟨fun a h _ => sI_ne h, fun q hq => rd_nk (fun e => hq (by rw [e]; unfold qF; decide)), rfl⟩
  have e0 : ((f : Nat) : Int) = ((f + off (rps (sts ps (ps k).2.1).2 (sts ps k).2 w) 0 : Nat) : Int) := by rw [off_0]; omega
  have q0 := c156_a (L := L) (xs := xs) (es := es) (M := (sI M 572 63 0)) d (mdl_Fk hm (Fw_Fk hF1)) hk hK hw h6 ms hf (by rw [sI_ne (by decide)]; exact hr) (so := (-1)) (sm := 0) (Q := fun r' h' => ∃ v M', r' = .inl v ∧ h' = hp M' ++ es ∧ v = none ∧ Fw M M' ∧ lpP M' 63 613 614 f (rps (sts ps (ps k).2.1).2 (sts ps k).2 w) (rps (sts ps (ps k).2.1).2 (sts ps k).2 w).length ∧ M'.1 572 67 = 0) ?_ _ 0 rfl (Nat.zero_le _) (sI M 572 63 0) (Fw_refl _) ⟨rd_eq, fun i hi => absurd hi (Nat.not_lt_zero i)⟩
  · rw [← e0] at q0; exact q0
  · intro M2 hF2 hL2
    refine x_ld 0 1 2 85 rfl rfl rfl rfl rfl ?_
    refine x_cst (zi 0) 1 86 rfl rfl rfl ?_
    refine s_572_67 341 89 rfl rfl rfl rfl rfl rfl ?_
    refine x_ld 4 2 0 91 rfl rfl rfl rfl rfl ?_
    refine x_st 6 2 0 93 [some (.ref 572), some (zi ((k : Nat) : Int)), some (zi ((f : Nat) : Int)), some (zi ((w.length : Nat) : Int)), some (zi (-1)), some (zi 0), some (zi (-1))] rfl rfl rfl (Nat.le_of_ble_eq_true rfl) rfl rfl ?_
    refine x_ld 4 2 0 95 rfl rfl rfl rfl rfl ?_
    refine z_iflt 178 98 rfl rfl rfl (rg_lit (-1) rfl) (fun _ => ?_) (fun c => absurd c (by decide))
    refine x_rtv rfl rfl ?_
    exact ⟨none, _, rfl, rfl, rfl, Fw_trans (Fw_trans hF1 hF2) ⟨fun a h _ => sI_ne h, fun q hq => rd_nk (fun e => hq (by rw [e]; unfold qF; decide)), rfl⟩, ⟨(rd_nk (by decide)).trans hL2.1, fun i hi => ⟨(rd_na (by decide)).trans (hL2.2 i hi).1, (rd_na (by decide)).trans (hL2.2 i hi).2⟩⟩, rd_eq⟩
end E2
