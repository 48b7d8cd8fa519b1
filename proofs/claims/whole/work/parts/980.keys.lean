/-! OURS, printed by wip/tools/gen980.py: the reference's keys. -/
def kyS (M : mm) (bs : List (Nat × Nat × Nat)) (u : List Nat) : Prop := stS M 53 608 609 610 bs ∧ M.1 572 59 = (u.length : Int) ∧ roL (M.1 612) 0 u
def Fy (M M' : mm) : Prop := (∀ a, a ≠ 572 → ¬ (608 ≤ a ∧ a ≤ 610) → a ≠ 612 → M'.1 a = M.1 a) ∧ (∀ j, j ≠ 53 → j ≠ 59 → M'.1 572 j = M.1 572 j) ∧ M'.2 = M.2
theorem Fy_refl (M : mm) : Fy M M := ⟨fun _ _ _ _ => rfl, fun _ _ _ => rfl, rfl⟩
theorem Fy_trans {M M' M'' : mm} (h : Fy M M') (g : Fy M' M'') : Fy M M'' := ⟨fun a h1 h2 h3 => (g.1 a h1 h2 h3).trans (h.1 a h1 h2 h3), fun j h1 h2 => (g.2.1 j h1 h2).trans (h.2.1 j h1 h2), g.2.2.trans h.2.2⟩
theorem Fy_Fk {M M' : mm} (h : Fy M M') : Fk M M' := ⟨fun a h1 h2 => h.1 a (by omega) (by omega) (by omega), h.2.2⟩
theorem kyS_pop {M : mm} {bs : List (Nat × Nat × Nat)} {x : Nat × Nat × Nat} {u : List Nat} (h : kyS M (bs ++ [x]) u) {y : Int} (hy : y = (bs.length : Int)) : kyS (sI M 572 53 y) bs u := by
  refine ⟨⟨rd_eq.trans hy, fun i hi => ?_⟩, (rd_nk (by decide)).trans h.2.1, ?_⟩
  · have := h.1.2 i (by rw [List.length_append]; omega)
    rw [snoc_lt hi] at this
    exact ⟨(rd_na (by decide)).trans this.1, (rd_na (by decide)).trans this.2.1, (rd_na (by decide)).trans this.2.2⟩
  · rw [sI_ne (by decide)]; exact h.2.2
theorem Fy_pop (M : mm) (y : Int) : Fy M (sI M 572 53 y) := ⟨fun a h _ _ => sI_ne h, fun j h _ => rd_nk h, rfl⟩
section D9
variable {L : Nat} {xs : Nat → Int32} {M : mm} {es : ab_H}
theorem c159 (d : Nat) {bs : List (Nat × Nat × Nat)} {u : List Nat} (hS : kyS M bs u) (hb : bs.length < 256) {k f n : Nat} : ab_Z (pg_G L xs) (d + 1) 159 [.ref 572, zi (k : Nat), zi (f : Nat), zi (n : Nat)] M es (fun v M' => v = none ∧ kyS M' (bs ++ [(k, f, n)]) u ∧ Fy M M') := by
  show ab_W (pg_G L xs) (ab_X (pg_G L xs) d) 159 _ 0 [some (.ref 572), some (zi ((k : Nat) : Int)), some (zi ((f : Nat) : Int)), some (zi ((n : Nat) : Int))] [] (hp M ++ es)
  refine x_ld 0 1 2 1 rfl rfl rfl rfl rfl ?_
  refine g_572_54 123 4 rfl rfl rfl ?_
  refine x_ld 0 1 2 5 rfl rfl rfl rfl rfl ?_
  refine g_572_53 308 8 rfl rfl hS.1.1 rfl ?_
  refine x_ld 1 1 0 9 rfl rfl rfl rfl rfl ?_
  refine z_ist 10 rfl i_608 rfl ⟨by omega, by omega⟩ rfl ?_
  refine x_ld 0 1 2 11 rfl rfl rfl rfl rfl ?_
  refine g_572_55 126 14 rfl rfl rfl ?_
  refine x_ld 0 1 2 15 rfl rfl rfl rfl rfl ?_
  refine g_572_53 308 18 rfl rfl ((rd_na (Ne.symm (by decide))).trans hS.1.1) rfl ?_
  refine x_ld 2 1 0 19 rfl rfl rfl rfl rfl ?_
  refine z_ist 20 rfl i_609 rfl ⟨by omega, by omega⟩ rfl ?_
  refine x_ld 0 1 2 21 rfl rfl rfl rfl rfl ?_
  refine g_572_56 129 24 rfl rfl rfl ?_
  refine x_ld 0 1 2 25 rfl rfl rfl rfl rfl ?_
  refine g_572_53 308 28 rfl rfl ((rd_na (Ne.symm (by decide))).trans ((rd_na (Ne.symm (by decide))).trans hS.1.1)) rfl ?_
  refine x_ld 3 1 0 29 rfl rfl rfl rfl rfl ?_
  refine z_ist 30 rfl i_610 rfl ⟨by omega, by omega⟩ rfl ?_
  refine x_ld 0 1 2 31 rfl rfl rfl rfl rfl ?_
  refine x_dup 32 rfl rfl rfl ?_
  refine g_572_53 308 35 rfl rfl ((rd_na (Ne.symm (by decide))).trans ((rd_na (Ne.symm (by decide))).trans ((rd_na (Ne.symm (by decide))).trans hS.1.1))) rfl ?_
  refine x_cst (zi 1) 1 36 rfl rfl rfl ?_
  refine z_add 37 rfl rfl ?_
  refine s_572_53 308 40 rfl rfl rfl rfl rfl rfl ?_
  refine x_rtv rfl rfl ?_
  refine ⟨none, _, rfl, rfl, rfl, ⟨⟨?_, fun i hi => ?_⟩, ?_, ?_⟩, ?_⟩
  · rw [rd_eq, List.length_append]; rfl
  · rw [List.length_append, List.length_singleton] at hi
    rcases Nat.eq_or_lt_of_le (Nat.le_of_lt_succ hi) with e | e
    · subst e
      rw [snoc_at]
      exact ⟨(rd_na (by decide)).trans ((rd_na (by decide)).trans ((rd_na (by decide)).trans rd_eq)), (rd_na (by decide)).trans ((rd_na (by decide)).trans rd_eq), (rd_na (by decide)).trans rd_eq⟩
    · rw [snoc_lt e]
      have q := hS.1.2 i e
      exact ⟨(rd_na (by decide)).trans ((rd_na (by decide)).trans ((rd_na (by decide)).trans ((rd_nk (by omega)).trans q.1))), (rd_na (by decide)).trans ((rd_na (by decide)).trans ((rd_nk (by omega)).trans ((rd_na (by decide)).trans q.2.1))), (rd_na (by decide)).trans ((rd_nk (by omega)).trans ((rd_na (by decide)).trans ((rd_na (by decide)).trans q.2.2)))⟩
  · exact (rd_nk (by decide)).trans ((rd_na (by decide)).trans ((rd_na (by decide)).trans ((rd_na (by decide)).trans hS.2.1)))
  · rw [sI_ne (by decide), sI_ne (by decide), sI_ne (by decide), sI_ne (by decide)]; exact hS.2.2
  · exact ⟨fun a h1 h2 h3 => by rw [sI_ne h1, sI_ne (by omega), sI_ne (by omega), sI_ne (by omega)], fun j h1 _ => (rd_nk h1).trans ((rd_na (by decide)).trans ((rd_na (by decide)).trans (rd_na (by decide)))), rfl⟩
theorem c160_3l (d : Nat) {w : List Nat} {f k : Nat} {x4 x5 : Int} (hf : f + w.length ≤ 6) (hr : roL (M.1 611) f w) {bs : List (Nat × Nat × Nat)} {u : List Nat} (hu : u.length + w.length ≤ 250) {Q : ab_Q} (kk : ∀ M', kyS M' bs (u ++ w) → Fy M M' → Q (.inl none) (hp M' ++ es)) : ∀ m i : Nat, w.length - i = m → i ≤ w.length → ∀ M', kyS M' bs (u ++ w.take i) → Fy M M' → ab_W (pg_G L xs) (ab_X (pg_G L xs) d) 160 Q 34 [some (.ref 572), some (zi (k : Nat)), some (zi (f : Nat)), some (zi (w.length : Nat)), some (zi x4), some (zi x5), some (zi 6), some (zi (i : Nat))] [] (hp M' ++ es) := by
  intro m
  induction m using Nat.strongRecOn with
  | _ m ih =>
    intro i hm hi M' hS hF
    have hl1 : M'.1 572 59 = ((u.length + i : Nat) : Int) := by rw [hS.2.1, List.length_append, List.length_take]; omega
    refine x_ld 7 2 0 36 rfl rfl rfl rfl rfl ?_
    refine x_ld 3 1 0 37 rfl rfl rfl rfl rfl ?_
    refine z_icge 74 40 rfl rfl rfl ⟨by omega, by omega⟩ ⟨by omega, by omega⟩ (fun c37 => ?_) (fun c37 => ?_)
    · refine x_go 283 rfl rfl ?_
      refine x_rtv rfl rfl ?_
      have e : i = w.length := by omega
      subst e; rw [List.take_length] at hS; exact kk M' hS hF
    · refine x_ld 0 1 2 41 rfl rfl rfl rfl rfl ?_
      refine g_572_58 135 44 rfl rfl rfl ?_
      refine x_ld 0 1 2 45 rfl rfl rfl rfl rfl ?_
      refine g_572_59 311 48 rfl rfl hl1 rfl ?_
      refine x_ld 0 1 2 49 rfl rfl rfl rfl rfl ?_
      refine g_572_57 132 52 rfl rfl rfl ?_
      refine x_ld 2 1 0 53 rfl rfl rfl rfl rfl ?_
      refine x_ld 7 2 0 55 rfl rfl rfl rfl rfl ?_
      refine z_add 56 rfl rfl ?_
      have hv : M'.1 611 ((f + i : Nat) : Int) = ((w[i]! : Nat) : Int) := by rw [hF.1 611 (by decide) (by decide) (by decide)]; exact hr i (by omega)
      rw [show ((f : Nat) : Int) + ((i : Nat) : Int) = ((f + i : Nat) : Int) by omega]
      refine z_ild ((w[i]! : Nat) : Int) 57 rfl i_611 rfl ⟨by omega, by omega⟩ hv rfl ?_
      refine z_ist 58 rfl i_612 rfl ⟨by omega, by omega⟩ rfl ?_
      refine x_ld 0 1 2 59 rfl rfl rfl rfl rfl ?_
      refine x_dup 60 rfl rfl rfl ?_
      refine g_572_59 311 63 rfl rfl ((rd_na (Ne.symm (by decide))).trans hl1) rfl ?_
      refine x_cst (zi 1) 1 64 rfl rfl rfl ?_
      refine z_add 65 rfl rfl ?_
      refine s_572_59 311 68 rfl rfl rfl rfl rfl rfl ?_
      refine z_inc 7 71 [some (.ref 572), some (zi ((k : Nat) : Int)), some (zi ((f : Nat) : Int)), some (zi ((w.length : Nat) : Int)), some (zi x4), some (zi x5), some (zi 6), some (zi (((i : Nat) : Int) + 1))] rfl rfl (Nat.le_of_ble_eq_true rfl) rfl rfl ?_
      refine x_go 34 rfl rfl ?_
      have hts : w.take (i + 1) = w.take i ++ [w[i]!] := by rw [List.take_add_one, List.getElem?_eq_getElem (by omega), getElem!_pos w i (by omega)]; rfl
      refine ih (w.length - (i + 1)) (by omega) (i + 1) rfl (by omega) _ ⟨⟨?_, fun q hq => ?_⟩, ?_, ?_⟩ (Fy_trans hF ⟨fun a h1 h2 h3 => by rw [sI_ne h1, sI_ne h3], fun j _ h => (rd_nk h).trans (rd_na (by decide)), rfl⟩)
      · exact (rd_nk (by decide)).trans ((rd_na (by decide)).trans hS.1.1)
      · have q0 := hS.1.2 q hq
        exact ⟨(rd_na (by decide)).trans ((rd_na (by decide)).trans q0.1), (rd_na (by decide)).trans ((rd_na (by decide)).trans q0.2.1), (rd_na (by decide)).trans ((rd_na (by decide)).trans q0.2.2)⟩
      · rw [rd_eq, List.length_append, List.length_take]; omega
      · rw [sI_ne (by decide), hts, ← List.append_assoc]
        have hlen : (u ++ w.take i).length = u.length + i := by rw [List.length_append, List.length_take]; omega
        refine roL_snoc hS.2.2 (fun q hq => rd_nk (by omega)) ?_
        rw [hlen]; exact rd_eq
theorem c160_0a (d : Nat) {ps : Nat → prt} {c : Nat} (hm : mdl M ps c) {k : Nat} (hk : k < c) {w : List Nat} (hw : tx_L w) (h6 : w.length ≤ 6) (ms : (sts ps k).2 (tx_num w) = true) {f : Nat} (hf : f + w.length ≤ 6) (hr : roL (M.1 611) f w) {bs : List (Nat × Nat × Nat)} (hbs : bs.length + 6 ≤ 256) {u : List Nat} (hu : u.length + w.length ≤ 250) (hS : kyS M bs u) (hK : (ps k).1 = 0) (hT : (ps k).2.2.2 = 0) : ab_Z (pg_G L xs) (d + 4) 160 [.ref 572, zi (k : Nat), zi (f : Nat), zi (w.length : Nat)] M es (fun v M' => v = none ∧ kyS M' (bs ++ []) (u ++ []) ∧ Fy M M') := by
  have hc31 := hm.1
  obtain ⟨hwf, hok, qkd, qlf, qrt, qlt, _, agk⟩ := hm.2 k hk
  have hl := hwf.2.2.2
  rw [hK] at qkd qlf qrt
  rw [show mKd 0 (ps k).2.2.2 = (if (ps k).2.2.2 = 0 then 1 else 0) from rfl] at qkd
  have hkd : M.1 576 (k : Int) = 1 := by rw [qkd, if_pos hT]
  have hlf : M.1 577 (k : Int) = -1 := qlf
  have hrt : M.1 578 (k : Int) = -1 := qrt
  show ab_W (pg_G L xs) (ab_X (pg_G L xs) (d + 3)) 160 _ 0 [some (.ref 572), some (zi ((k : Nat) : Int)), some (zi ((f : Nat) : Int)), some (zi ((w.length : Nat) : Int)), none, none, none, none] [] (hp M ++ es)
  refine x_ld 0 1 2 1 rfl rfl rfl rfl rfl ?_
  refine g_572_8 22 4 rfl rfl rfl ?_
  refine x_ld 1 1 0 5 rfl rfl rfl rfl rfl ?_
  refine z_ild (-1) 6 rfl i_577 rfl ⟨by omega, by omega⟩ hlf rfl ?_
  refine x_st 4 2 0 8 [some (.ref 572), some (zi ((k : Nat) : Int)), some (zi ((f : Nat) : Int)), some (zi ((w.length : Nat) : Int)), some (zi (-1)), none, none, none] rfl rfl rfl (Nat.le_of_ble_eq_true rfl) rfl rfl ?_
  refine x_ld 0 1 2 9 rfl rfl rfl rfl rfl ?_
  refine g_572_9 25 12 rfl rfl rfl ?_
  refine x_ld 1 1 0 13 rfl rfl rfl rfl rfl ?_
  refine z_ild (-1) 14 rfl i_578 rfl ⟨by omega, by omega⟩ hrt rfl ?_
  refine x_st 5 2 0 16 [some (.ref 572), some (zi ((k : Nat) : Int)), some (zi ((f : Nat) : Int)), some (zi ((w.length : Nat) : Int)), some (zi (-1)), some (zi (-1)), none, none] rfl rfl rfl (Nat.le_of_ble_eq_true rfl) rfl rfl ?_
  refine x_ld 0 1 2 17 rfl rfl rfl rfl rfl ?_
  refine g_572_7 19 20 rfl rfl rfl ?_
  refine x_ld 1 1 0 21 rfl rfl rfl rfl rfl ?_
  refine z_ild 1 22 rfl i_576 rfl ⟨by omega, by omega⟩ hkd rfl ?_
  refine x_st 6 2 0 24 [some (.ref 572), some (zi ((k : Nat) : Int)), some (zi ((f : Nat) : Int)), some (zi ((w.length : Nat) : Int)), some (zi (-1)), some (zi (-1)), some (zi 1), none] rfl rfl rfl (Nat.le_of_ble_eq_true rfl) rfl rfl ?_
  refine x_ld 6 2 0 26 rfl rfl rfl rfl rfl ?_
  refine x_cst (zi 6) 2 28 rfl rfl rfl ?_
  refine z_icne 77 31 rfl rfl rfl (rg_lit 1 rfl) (rg_lit 6 rfl) (fun _ => ?_) (fun c => absurd c (by decide))
  refine x_ld 6 2 0 79 rfl rfl rfl rfl rfl ?_
  refine x_cst (zi 7) 2 81 rfl rfl rfl ?_
  refine z_icne 122 84 rfl rfl rfl (rg_lit 1 rfl) (rg_lit 7 rfl) (fun _ => ?_) (fun c => absurd c (by decide))
  refine x_ld 6 2 0 124 rfl rfl rfl rfl rfl ?_
  refine x_cst (zi 4) 1 125 rfl rfl rfl ?_
  refine z_icne 174 128 rfl rfl rfl (rg_lit 1 rfl) (rg_lit 4 rfl) (fun _ => ?_) (fun c => absurd c (by decide))
  refine x_ld 6 2 0 176 rfl rfl rfl rfl rfl ?_
  refine x_cst (zi 5) 1 177 rfl rfl rfl ?_
  refine z_icne 226 180 rfl rfl rfl (rg_lit 1 rfl) (rg_lit 5 rfl) (fun _ => ?_) (fun c => absurd c (by decide))
  refine x_ld 6 2 0 228 rfl rfl rfl rfl rfl ?_
  refine x_cst (zi 8) 2 230 rfl rfl rfl ?_
  refine z_iceq 240 233 rfl rfl rfl (rg_lit 1 rfl) (rg_lit 8 rfl) (fun c => absurd c (by decide)) (fun _ => ?_)
  refine x_ld 6 2 0 235 rfl rfl rfl rfl rfl ?_
  refine x_cst (zi 9) 2 237 rfl rfl rfl ?_
  refine z_icne 283 240 rfl rfl rfl (rg_lit 1 rfl) (rg_lit 9 rfl) (fun _ => ?_) (fun c => absurd c (by decide))
  refine x_rtv rfl rfl ?_
  exact ⟨none, M, rfl, rfl, rfl, by rw [List.append_nil, List.append_nil]; exact hS, Fy_refl M⟩
theorem c160_0b (d : Nat) {ps : Nat → prt} {c : Nat} (hm : mdl M ps c) {k : Nat} (hk : k < c) {w : List Nat} (hw : tx_L w) (h6 : w.length ≤ 6) (ms : (sts ps k).2 (tx_num w) = true) {f : Nat} (hf : f + w.length ≤ 6) (hr : roL (M.1 611) f w) {bs : List (Nat × Nat × Nat)} (hbs : bs.length + 6 ≤ 256) {u : List Nat} (hu : u.length + w.length ≤ 250) (hS : kyS M bs u) (hK : (ps k).1 = 0) (hT : ¬ (ps k).2.2.2 = 0) : ab_Z (pg_G L xs) (d + 4) 160 [.ref 572, zi (k : Nat), zi (f : Nat), zi (w.length : Nat)] M es (fun v M' => v = none ∧ kyS M' (bs ++ []) (u ++ []) ∧ Fy M M') := by
  have hc31 := hm.1
  obtain ⟨hwf, hok, qkd, qlf, qrt, qlt, _, agk⟩ := hm.2 k hk
  have hl := hwf.2.2.2
  rw [hK] at qkd qlf qrt
  rw [show mKd 0 (ps k).2.2.2 = (if (ps k).2.2.2 = 0 then 1 else 0) from rfl] at qkd
  have hkd : M.1 576 (k : Int) = 0 := by rw [qkd, if_neg hT]
  have hlf : M.1 577 (k : Int) = -1 := qlf
  have hrt : M.1 578 (k : Int) = -1 := qrt
  show ab_W (pg_G L xs) (ab_X (pg_G L xs) (d + 3)) 160 _ 0 [some (.ref 572), some (zi ((k : Nat) : Int)), some (zi ((f : Nat) : Int)), some (zi ((w.length : Nat) : Int)), none, none, none, none] [] (hp M ++ es)
  refine x_ld 0 1 2 1 rfl rfl rfl rfl rfl ?_
  refine g_572_8 22 4 rfl rfl rfl ?_
  refine x_ld 1 1 0 5 rfl rfl rfl rfl rfl ?_
  refine z_ild (-1) 6 rfl i_577 rfl ⟨by omega, by omega⟩ hlf rfl ?_
  refine x_st 4 2 0 8 [some (.ref 572), some (zi ((k : Nat) : Int)), some (zi ((f : Nat) : Int)), some (zi ((w.length : Nat) : Int)), some (zi (-1)), none, none, none] rfl rfl rfl (Nat.le_of_ble_eq_true rfl) rfl rfl ?_
  refine x_ld 0 1 2 9 rfl rfl rfl rfl rfl ?_
  refine g_572_9 25 12 rfl rfl rfl ?_
  refine x_ld 1 1 0 13 rfl rfl rfl rfl rfl ?_
  refine z_ild (-1) 14 rfl i_578 rfl ⟨by omega, by omega⟩ hrt rfl ?_
  refine x_st 5 2 0 16 [some (.ref 572), some (zi ((k : Nat) : Int)), some (zi ((f : Nat) : Int)), some (zi ((w.length : Nat) : Int)), some (zi (-1)), some (zi (-1)), none, none] rfl rfl rfl (Nat.le_of_ble_eq_true rfl) rfl rfl ?_
  refine x_ld 0 1 2 17 rfl rfl rfl rfl rfl ?_
  refine g_572_7 19 20 rfl rfl rfl ?_
  refine x_ld 1 1 0 21 rfl rfl rfl rfl rfl ?_
  refine z_ild 0 22 rfl i_576 rfl ⟨by omega, by omega⟩ hkd rfl ?_
  refine x_st 6 2 0 24 [some (.ref 572), some (zi ((k : Nat) : Int)), some (zi ((f : Nat) : Int)), some (zi ((w.length : Nat) : Int)), some (zi (-1)), some (zi (-1)), some (zi 0), none] rfl rfl rfl (Nat.le_of_ble_eq_true rfl) rfl rfl ?_
  refine x_ld 6 2 0 26 rfl rfl rfl rfl rfl ?_
  refine x_cst (zi 6) 2 28 rfl rfl rfl ?_
  refine z_icne 77 31 rfl rfl rfl (rg_lit 0 rfl) (rg_lit 6 rfl) (fun _ => ?_) (fun c => absurd c (by decide))
  refine x_ld 6 2 0 79 rfl rfl rfl rfl rfl ?_
  refine x_cst (zi 7) 2 81 rfl rfl rfl ?_
  refine z_icne 122 84 rfl rfl rfl (rg_lit 0 rfl) (rg_lit 7 rfl) (fun _ => ?_) (fun c => absurd c (by decide))
  refine x_ld 6 2 0 124 rfl rfl rfl rfl rfl ?_
  refine x_cst (zi 4) 1 125 rfl rfl rfl ?_
  refine z_icne 174 128 rfl rfl rfl (rg_lit 0 rfl) (rg_lit 4 rfl) (fun _ => ?_) (fun c => absurd c (by decide))
  refine x_ld 6 2 0 176 rfl rfl rfl rfl rfl ?_
  refine x_cst (zi 5) 1 177 rfl rfl rfl ?_
  refine z_icne 226 180 rfl rfl rfl (rg_lit 0 rfl) (rg_lit 5 rfl) (fun _ => ?_) (fun c => absurd c (by decide))
  refine x_ld 6 2 0 228 rfl rfl rfl rfl rfl ?_
  refine x_cst (zi 8) 2 230 rfl rfl rfl ?_
  refine z_iceq 240 233 rfl rfl rfl (rg_lit 0 rfl) (rg_lit 8 rfl) (fun c => absurd c (by decide)) (fun _ => ?_)
  refine x_ld 6 2 0 235 rfl rfl rfl rfl rfl ?_
  refine x_cst (zi 9) 2 237 rfl rfl rfl ?_
  refine z_icne 283 240 rfl rfl rfl (rg_lit 0 rfl) (rg_lit 9 rfl) (fun _ => ?_) (fun c => absurd c (by decide))
  refine x_rtv rfl rfl ?_
  exact ⟨none, M, rfl, rfl, rfl, by rw [List.append_nil, List.append_nil]; exact hS, Fy_refl M⟩
theorem c160_1 (d : Nat) {ps : Nat → prt} {c : Nat} (hm : mdl M ps c) {k : Nat} (hk : k < c) {w : List Nat} (hw : tx_L w) (h6 : w.length ≤ 6) (ms : (sts ps k).2 (tx_num w) = true) {f : Nat} (hf : f + w.length ≤ 6) (hr : roL (M.1 611) f w) {bs : List (Nat × Nat × Nat)} (hbs : bs.length + 6 ≤ 256) {u : List Nat} (hu : u.length + w.length ≤ 250) (hS : kyS M bs u) (hK : (ps k).1 = 1) : ab_Z (pg_G L xs) (d + 4) 160 [.ref 572, zi (k : Nat), zi (f : Nat), zi (w.length : Nat)] M es (fun v M' => v = none ∧ kyS M' (bs ++ []) (u ++ []) ∧ Fy M M') := by
  have hc31 := hm.1
  obtain ⟨hwf, hok, qkd, qlf, qrt, qlt, _, agk⟩ := hm.2 k hk
  have hl := hwf.2.2.2
  rw [hK] at qkd qlf qrt
  have hkd : M.1 576 (k : Int) = 2 := qkd
  have hlf : M.1 577 (k : Int) = -1 := qlf
  have hrt : M.1 578 (k : Int) = -1 := qrt
  show ab_W (pg_G L xs) (ab_X (pg_G L xs) (d + 3)) 160 _ 0 [some (.ref 572), some (zi ((k : Nat) : Int)), some (zi ((f : Nat) : Int)), some (zi ((w.length : Nat) : Int)), none, none, none, none] [] (hp M ++ es)
  refine x_ld 0 1 2 1 rfl rfl rfl rfl rfl ?_
  refine g_572_8 22 4 rfl rfl rfl ?_
  refine x_ld 1 1 0 5 rfl rfl rfl rfl rfl ?_
  refine z_ild (-1) 6 rfl i_577 rfl ⟨by omega, by omega⟩ hlf rfl ?_
  refine x_st 4 2 0 8 [some (.ref 572), some (zi ((k : Nat) : Int)), some (zi ((f : Nat) : Int)), some (zi ((w.length : Nat) : Int)), some (zi (-1)), none, none, none] rfl rfl rfl (Nat.le_of_ble_eq_true rfl) rfl rfl ?_
  refine x_ld 0 1 2 9 rfl rfl rfl rfl rfl ?_
  refine g_572_9 25 12 rfl rfl rfl ?_
  refine x_ld 1 1 0 13 rfl rfl rfl rfl rfl ?_
  refine z_ild (-1) 14 rfl i_578 rfl ⟨by omega, by omega⟩ hrt rfl ?_
  refine x_st 5 2 0 16 [some (.ref 572), some (zi ((k : Nat) : Int)), some (zi ((f : Nat) : Int)), some (zi ((w.length : Nat) : Int)), some (zi (-1)), some (zi (-1)), none, none] rfl rfl rfl (Nat.le_of_ble_eq_true rfl) rfl rfl ?_
  refine x_ld 0 1 2 17 rfl rfl rfl rfl rfl ?_
  refine g_572_7 19 20 rfl rfl rfl ?_
  refine x_ld 1 1 0 21 rfl rfl rfl rfl rfl ?_
  refine z_ild 2 22 rfl i_576 rfl ⟨by omega, by omega⟩ hkd rfl ?_
  refine x_st 6 2 0 24 [some (.ref 572), some (zi ((k : Nat) : Int)), some (zi ((f : Nat) : Int)), some (zi ((w.length : Nat) : Int)), some (zi (-1)), some (zi (-1)), some (zi 2), none] rfl rfl rfl (Nat.le_of_ble_eq_true rfl) rfl rfl ?_
  refine x_ld 6 2 0 26 rfl rfl rfl rfl rfl ?_
  refine x_cst (zi 6) 2 28 rfl rfl rfl ?_
  refine z_icne 77 31 rfl rfl rfl (rg_lit 2 rfl) (rg_lit 6 rfl) (fun _ => ?_) (fun c => absurd c (by decide))
  refine x_ld 6 2 0 79 rfl rfl rfl rfl rfl ?_
  refine x_cst (zi 7) 2 81 rfl rfl rfl ?_
  refine z_icne 122 84 rfl rfl rfl (rg_lit 2 rfl) (rg_lit 7 rfl) (fun _ => ?_) (fun c => absurd c (by decide))
  refine x_ld 6 2 0 124 rfl rfl rfl rfl rfl ?_
  refine x_cst (zi 4) 1 125 rfl rfl rfl ?_
  refine z_icne 174 128 rfl rfl rfl (rg_lit 2 rfl) (rg_lit 4 rfl) (fun _ => ?_) (fun c => absurd c (by decide))
  refine x_ld 6 2 0 176 rfl rfl rfl rfl rfl ?_
  refine x_cst (zi 5) 1 177 rfl rfl rfl ?_
  refine z_icne 226 180 rfl rfl rfl (rg_lit 2 rfl) (rg_lit 5 rfl) (fun _ => ?_) (fun c => absurd c (by decide))
  refine x_ld 6 2 0 228 rfl rfl rfl rfl rfl ?_
  refine x_cst (zi 8) 2 230 rfl rfl rfl ?_
  refine z_iceq 240 233 rfl rfl rfl (rg_lit 2 rfl) (rg_lit 8 rfl) (fun c => absurd c (by decide)) (fun _ => ?_)
  refine x_ld 6 2 0 235 rfl rfl rfl rfl rfl ?_
  refine x_cst (zi 9) 2 237 rfl rfl rfl ?_
  refine z_icne 283 240 rfl rfl rfl (rg_lit 2 rfl) (rg_lit 9 rfl) (fun _ => ?_) (fun c => absurd c (by decide))
  refine x_rtv rfl rfl ?_
  exact ⟨none, M, rfl, rfl, rfl, by rw [List.append_nil, List.append_nil]; exact hS, Fy_refl M⟩
theorem c160_2 (d : Nat) {ps : Nat → prt} {c : Nat} (hm : mdl M ps c) {k : Nat} (hk : k < c) {w : List Nat} (hw : tx_L w) (h6 : w.length ≤ 6) (ms : (sts ps k).2 (tx_num w) = true) {f : Nat} (hf : f + w.length ≤ 6) (hr : roL (M.1 611) f w) {bs : List (Nat × Nat × Nat)} (hbs : bs.length + 6 ≤ 256) {u : List Nat} (hu : u.length + w.length ≤ 250) (hS : kyS M bs u) (hK : (ps k).1 = 2) : ab_Z (pg_G L xs) (d + 4) 160 [.ref 572, zi (k : Nat), zi (f : Nat), zi (w.length : Nat)] M es (fun v M' => v = none ∧ kyS M' (bs ++ []) (u ++ []) ∧ Fy M M') := by
  have hc31 := hm.1
  obtain ⟨hwf, hok, qkd, qlf, qrt, qlt, _, agk⟩ := hm.2 k hk
  have hl := hwf.2.2.2
  rw [hK] at qkd qlf qrt
  have hkd : M.1 576 (k : Int) = 3 := qkd
  have hlf : M.1 577 (k : Int) = -1 := qlf
  have hrt : M.1 578 (k : Int) = -1 := qrt
  show ab_W (pg_G L xs) (ab_X (pg_G L xs) (d + 3)) 160 _ 0 [some (.ref 572), some (zi ((k : Nat) : Int)), some (zi ((f : Nat) : Int)), some (zi ((w.length : Nat) : Int)), none, none, none, none] [] (hp M ++ es)
  refine x_ld 0 1 2 1 rfl rfl rfl rfl rfl ?_
  refine g_572_8 22 4 rfl rfl rfl ?_
  refine x_ld 1 1 0 5 rfl rfl rfl rfl rfl ?_
  refine z_ild (-1) 6 rfl i_577 rfl ⟨by omega, by omega⟩ hlf rfl ?_
  refine x_st 4 2 0 8 [some (.ref 572), some (zi ((k : Nat) : Int)), some (zi ((f : Nat) : Int)), some (zi ((w.length : Nat) : Int)), some (zi (-1)), none, none, none] rfl rfl rfl (Nat.le_of_ble_eq_true rfl) rfl rfl ?_
  refine x_ld 0 1 2 9 rfl rfl rfl rfl rfl ?_
  refine g_572_9 25 12 rfl rfl rfl ?_
  refine x_ld 1 1 0 13 rfl rfl rfl rfl rfl ?_
  refine z_ild (-1) 14 rfl i_578 rfl ⟨by omega, by omega⟩ hrt rfl ?_
  refine x_st 5 2 0 16 [some (.ref 572), some (zi ((k : Nat) : Int)), some (zi ((f : Nat) : Int)), some (zi ((w.length : Nat) : Int)), some (zi (-1)), some (zi (-1)), none, none] rfl rfl rfl (Nat.le_of_ble_eq_true rfl) rfl rfl ?_
  refine x_ld 0 1 2 17 rfl rfl rfl rfl rfl ?_
  refine g_572_7 19 20 rfl rfl rfl ?_
  refine x_ld 1 1 0 21 rfl rfl rfl rfl rfl ?_
  refine z_ild 3 22 rfl i_576 rfl ⟨by omega, by omega⟩ hkd rfl ?_
  refine x_st 6 2 0 24 [some (.ref 572), some (zi ((k : Nat) : Int)), some (zi ((f : Nat) : Int)), some (zi ((w.length : Nat) : Int)), some (zi (-1)), some (zi (-1)), some (zi 3), none] rfl rfl rfl (Nat.le_of_ble_eq_true rfl) rfl rfl ?_
  refine x_ld 6 2 0 26 rfl rfl rfl rfl rfl ?_
  refine x_cst (zi 6) 2 28 rfl rfl rfl ?_
  refine z_icne 77 31 rfl rfl rfl (rg_lit 3 rfl) (rg_lit 6 rfl) (fun _ => ?_) (fun c => absurd c (by decide))
  refine x_ld 6 2 0 79 rfl rfl rfl rfl rfl ?_
  refine x_cst (zi 7) 2 81 rfl rfl rfl ?_
  refine z_icne 122 84 rfl rfl rfl (rg_lit 3 rfl) (rg_lit 7 rfl) (fun _ => ?_) (fun c => absurd c (by decide))
  refine x_ld 6 2 0 124 rfl rfl rfl rfl rfl ?_
  refine x_cst (zi 4) 1 125 rfl rfl rfl ?_
  refine z_icne 174 128 rfl rfl rfl (rg_lit 3 rfl) (rg_lit 4 rfl) (fun _ => ?_) (fun c => absurd c (by decide))
  refine x_ld 6 2 0 176 rfl rfl rfl rfl rfl ?_
  refine x_cst (zi 5) 1 177 rfl rfl rfl ?_
  refine z_icne 226 180 rfl rfl rfl (rg_lit 3 rfl) (rg_lit 5 rfl) (fun _ => ?_) (fun c => absurd c (by decide))
  refine x_ld 6 2 0 228 rfl rfl rfl rfl rfl ?_
  refine x_cst (zi 8) 2 230 rfl rfl rfl ?_
  refine z_iceq 240 233 rfl rfl rfl (rg_lit 3 rfl) (rg_lit 8 rfl) (fun c => absurd c (by decide)) (fun _ => ?_)
  refine x_ld 6 2 0 235 rfl rfl rfl rfl rfl ?_
  refine x_cst (zi 9) 2 237 rfl rfl rfl ?_
  refine z_icne 283 240 rfl rfl rfl (rg_lit 3 rfl) (rg_lit 9 rfl) (fun _ => ?_) (fun c => absurd c (by decide))
  refine x_rtv rfl rfl ?_
  exact ⟨none, M, rfl, rfl, rfl, by rw [List.append_nil, List.append_nil]; exact hS, Fy_refl M⟩
theorem c160_3 (d : Nat) {ps : Nat → prt} {c : Nat} (hm : mdl M ps c) {k : Nat} (hk : k < c) {w : List Nat} (hw : tx_L w) (h6 : w.length ≤ 6) (ms : (sts ps k).2 (tx_num w) = true) {f : Nat} (hf : f + w.length ≤ 6) (hr : roL (M.1 611) f w) {bs : List (Nat × Nat × Nat)} (hbs : bs.length + 6 ≤ 256) {u : List Nat} (hu : u.length + w.length ≤ 250) (hS : kyS M bs u) (hK : (ps k).1 = 3) : ab_Z (pg_G L xs) (d + 4) 160 [.ref 572, zi (k : Nat), zi (f : Nat), zi (w.length : Nat)] M es (fun v M' => v = none ∧ kyS M' (bs ++ []) (u ++ w) ∧ Fy M M') := by
  have hc31 := hm.1
  obtain ⟨hwf, hok, qkd, qlf, qrt, qlt, _, agk⟩ := hm.2 k hk
  have hl := hwf.2.2.2
  rw [hK] at qkd qlf qrt
  have hkd : M.1 576 (k : Int) = 6 := qkd
  have hlf : M.1 577 (k : Int) = (((ps k).2.1 : Nat) : Int) := qlf
  have hrt : M.1 578 (k : Int) = -1 := qrt
  have hlk := hl (by omega)
  have al := (hm.2 _ (Nat.lt_trans hlk.1 hk)).2.2.2.2.2.2.2
  show ab_W (pg_G L xs) (ab_X (pg_G L xs) (d + 3)) 160 _ 0 [some (.ref 572), some (zi ((k : Nat) : Int)), some (zi ((f : Nat) : Int)), some (zi ((w.length : Nat) : Int)), none, none, none, none] [] (hp M ++ es)
  refine x_ld 0 1 2 1 rfl rfl rfl rfl rfl ?_
  refine g_572_8 22 4 rfl rfl rfl ?_
  refine x_ld 1 1 0 5 rfl rfl rfl rfl rfl ?_
  refine z_ild (((ps k).2.1 : Nat) : Int) 6 rfl i_577 rfl ⟨by omega, by omega⟩ hlf rfl ?_
  refine x_st 4 2 0 8 [some (.ref 572), some (zi ((k : Nat) : Int)), some (zi ((f : Nat) : Int)), some (zi ((w.length : Nat) : Int)), some (zi (((ps k).2.1 : Nat) : Int)), none, none, none] rfl rfl rfl (Nat.le_of_ble_eq_true rfl) rfl rfl ?_
  refine x_ld 0 1 2 9 rfl rfl rfl rfl rfl ?_
  refine g_572_9 25 12 rfl rfl rfl ?_
  refine x_ld 1 1 0 13 rfl rfl rfl rfl rfl ?_
  refine z_ild (-1) 14 rfl i_578 rfl ⟨by omega, by omega⟩ hrt rfl ?_
  refine x_st 5 2 0 16 [some (.ref 572), some (zi ((k : Nat) : Int)), some (zi ((f : Nat) : Int)), some (zi ((w.length : Nat) : Int)), some (zi (((ps k).2.1 : Nat) : Int)), some (zi (-1)), none, none] rfl rfl rfl (Nat.le_of_ble_eq_true rfl) rfl rfl ?_
  refine x_ld 0 1 2 17 rfl rfl rfl rfl rfl ?_
  refine g_572_7 19 20 rfl rfl rfl ?_
  refine x_ld 1 1 0 21 rfl rfl rfl rfl rfl ?_
  refine z_ild 6 22 rfl i_576 rfl ⟨by omega, by omega⟩ hkd rfl ?_
  refine x_st 6 2 0 24 [some (.ref 572), some (zi ((k : Nat) : Int)), some (zi ((f : Nat) : Int)), some (zi ((w.length : Nat) : Int)), some (zi (((ps k).2.1 : Nat) : Int)), some (zi (-1)), some (zi 6), none] rfl rfl rfl (Nat.le_of_ble_eq_true rfl) rfl rfl ?_
  refine x_ld 6 2 0 26 rfl rfl rfl rfl rfl ?_
  refine x_cst (zi 6) 2 28 rfl rfl rfl ?_
  refine z_icne 77 31 rfl rfl rfl (rg_lit 6 rfl) (rg_lit 6 rfl) (fun c => absurd c (by decide)) (fun _ => ?_)
  refine x_cst (zi 0) 1 32 rfl rfl rfl ?_
  refine x_st 7 2 0 34 [some (.ref 572), some (zi ((k : Nat) : Int)), some (zi ((f : Nat) : Int)), some (zi ((w.length : Nat) : Int)), some (zi (((ps k).2.1 : Nat) : Int)), some (zi (-1)), some (zi 6), some (zi 0)] rfl rfl rfl (Nat.le_of_ble_eq_true rfl) rfl rfl ?_
  refine c160_3l (M := M) (d + 3) hf hr hu (fun M' a b => ⟨none, M', rfl, rfl, rfl, by rw [List.append_nil]; exact a, b⟩) _ 0 rfl (Nat.zero_le _) M (by rw [List.take_zero, List.append_nil]; exact hS) (Fy_refl M)
theorem c160_4 (d : Nat) {ps : Nat → prt} {c : Nat} (hm : mdl M ps c) {k : Nat} (hk : k < c) {w : List Nat} (hw : tx_L w) (h6 : w.length ≤ 6) (ms : (sts ps k).2 (tx_num w) = true) {f : Nat} (hf : f + w.length ≤ 6) (hr : roL (M.1 611) f w) {bs : List (Nat × Nat × Nat)} (hbs : bs.length + 6 ≤ 256) {u : List Nat} (hu : u.length + w.length ≤ 250) (hS : kyS M bs u) (hK : (ps k).1 = 4) : ab_Z (pg_G L xs) (d + 4) 160 [.ref 572, zi (k : Nat), zi (f : Nat), zi (w.length : Nat)] M es (fun v M' => v = none ∧ kyS M' (bs ++ [(bif (sts ps (ps k).2.1).2 (tx_num w) then (ps k).2.1 else (ps k).2.2.1, f, w.length)]) (u ++ []) ∧ Fy M M') := by
  have hc31 := hm.1
  obtain ⟨hwf, hok, qkd, qlf, qrt, qlt, _, agk⟩ := hm.2 k hk
  have hl := hwf.2.2.2
  rw [hK] at qkd qlf qrt
  have hkd : M.1 576 (k : Int) = 7 := qkd
  have hlf : M.1 577 (k : Int) = (((ps k).2.1 : Nat) : Int) := qlf
  have hrt : M.1 578 (k : Int) = (((ps k).2.2.1 : Nat) : Int) := qrt
  have hlk := hl (by omega)
  have al := (hm.2 _ (Nat.lt_trans hlk.1 hk)).2.2.2.2.2.2.2
  have ar := (hm.2 _ (Nat.lt_trans hlk.2 hk)).2.2.2.2.2.2.2
  have hlt9 := num_lt hw h6
  show ab_W (pg_G L xs) (ab_X (pg_G L xs) (d + 3)) 160 _ 0 [some (.ref 572), some (zi ((k : Nat) : Int)), some (zi ((f : Nat) : Int)), some (zi ((w.length : Nat) : Int)), none, none, none, none] [] (hp M ++ es)
  refine x_ld 0 1 2 1 rfl rfl rfl rfl rfl ?_
  refine g_572_8 22 4 rfl rfl rfl ?_
  refine x_ld 1 1 0 5 rfl rfl rfl rfl rfl ?_
  refine z_ild (((ps k).2.1 : Nat) : Int) 6 rfl i_577 rfl ⟨by omega, by omega⟩ hlf rfl ?_
  refine x_st 4 2 0 8 [some (.ref 572), some (zi ((k : Nat) : Int)), some (zi ((f : Nat) : Int)), some (zi ((w.length : Nat) : Int)), some (zi (((ps k).2.1 : Nat) : Int)), none, none, none] rfl rfl rfl (Nat.le_of_ble_eq_true rfl) rfl rfl ?_
  refine x_ld 0 1 2 9 rfl rfl rfl rfl rfl ?_
  refine g_572_9 25 12 rfl rfl rfl ?_
  refine x_ld 1 1 0 13 rfl rfl rfl rfl rfl ?_
  refine z_ild (((ps k).2.2.1 : Nat) : Int) 14 rfl i_578 rfl ⟨by omega, by omega⟩ hrt rfl ?_
  refine x_st 5 2 0 16 [some (.ref 572), some (zi ((k : Nat) : Int)), some (zi ((f : Nat) : Int)), some (zi ((w.length : Nat) : Int)), some (zi (((ps k).2.1 : Nat) : Int)), some (zi (((ps k).2.2.1 : Nat) : Int)), none, none] rfl rfl rfl (Nat.le_of_ble_eq_true rfl) rfl rfl ?_
  refine x_ld 0 1 2 17 rfl rfl rfl rfl rfl ?_
  refine g_572_7 19 20 rfl rfl rfl ?_
  refine x_ld 1 1 0 21 rfl rfl rfl rfl rfl ?_
  refine z_ild 7 22 rfl i_576 rfl ⟨by omega, by omega⟩ hkd rfl ?_
  refine x_st 6 2 0 24 [some (.ref 572), some (zi ((k : Nat) : Int)), some (zi ((f : Nat) : Int)), some (zi ((w.length : Nat) : Int)), some (zi (((ps k).2.1 : Nat) : Int)), some (zi (((ps k).2.2.1 : Nat) : Int)), some (zi 7), none] rfl rfl rfl (Nat.le_of_ble_eq_true rfl) rfl rfl ?_
  refine x_ld 6 2 0 26 rfl rfl rfl rfl rfl ?_
  refine x_cst (zi 6) 2 28 rfl rfl rfl ?_
  refine z_icne 77 31 rfl rfl rfl (rg_lit 7 rfl) (rg_lit 6 rfl) (fun _ => ?_) (fun c => absurd c (by decide))
  refine x_ld 6 2 0 79 rfl rfl rfl rfl rfl ?_
  refine x_cst (zi 7) 2 81 rfl rfl rfl ?_
  refine z_icne 122 84 rfl rfl rfl (rg_lit 7 rfl) (rg_lit 7 rfl) (fun c => absurd c (by decide)) (fun _ => ?_)
  refine x_ld 0 1 2 85 rfl rfl rfl rfl rfl ?_
  refine x_ld 0 1 2 86 rfl rfl rfl rfl rfl ?_
  refine g_572_12 35 89 rfl rfl rfl ?_
  refine x_ld 4 2 0 91 rfl rfl rfl rfl rfl ?_
  refine x_ld 0 1 2 92 rfl rfl rfl rfl rfl ?_
  refine x_ld 0 1 2 93 rfl rfl rfl rfl rfl ?_
  refine g_572_57 132 96 rfl rfl rfl ?_
  refine x_ld 2 1 0 97 rfl rfl rfl rfl rfl ?_
  refine x_ld 3 1 0 98 rfl rfl rfl rfl rfl ?_
  refine x_cv 274 144 101 [.ref 572, .ref 611, zi ((f : Nat) : Int), zi ((w.length : Nat) : Int)] rfl rfl rfl (Nat.le_of_ble_eq_true rfl) rfl rfl (Nat.le_of_ble_eq_true rfl) ⟨_, _, _, rfl, o_572⟩ (Nat.le_of_ble_eq_true rfl) (by have q := c144 (L := L) (xs := xs) (es := es) (M := M) (d + 2) i_611 hw hr (by omega); rw [nz_le h6] at q; exact q) rfl ?_
  refine x_cv 228 123 104 [.ref 581, zi (((ps k).2.1 : Nat) : Int), zi ((tx_num w : Nat) : Int)] rfl rfl rfl (Nat.le_of_ble_eq_true rfl) rfl rfl (Nat.le_of_ble_eq_true rfl) trivial (Nat.le_of_ble_eq_true rfl) (c123 (d + 2) i_581 (k := (ps k).2.1) (t := tx_num w) (by omega) (by omega)) rfl ?_
  rw [show M.2.1 581 (1152 * (((ps k).2.1 : Nat) : Int) + ((tx_num w : Nat) : Int)) = (sts ps (ps k).2.1).2 (tx_num w) from al _ (by omega)]
  rcases Bool.eq_false_or_eq_true ((sts ps (ps k).2.1).2 (tx_num w)) with hb | hb
  · rw [hb]
    refine z_ifeq 112 107 rfl rfl rfl (rg_lit 1 rfl) (fun c => absurd c (by decide)) (fun _ => ?_)
    refine x_ld 4 2 0 109 rfl rfl rfl rfl rfl ?_
    refine x_go 114 rfl rfl ?_
    refine x_ld 2 1 0 115 rfl rfl rfl rfl rfl ?_
    refine x_ld 3 1 0 116 rfl rfl rfl rfl rfl ?_
    refine x_ce 314 159 119 [.ref 572, zi (((ps k).2.1 : Nat) : Int), zi ((f : Nat) : Int), zi ((w.length : Nat) : Int)] rfl rfl rfl (Nat.le_of_ble_eq_true rfl) rfl rfl (Nat.le_of_ble_eq_true rfl) ⟨_, _, _, rfl, o_572⟩ (Nat.le_of_ble_eq_true rfl) (c159 (d + 2) hS (by omega)) rfl ?_
    rintro v M2 ⟨rfl, hS2, hF2⟩
    refine x_go 283 rfl rfl ?_
    refine x_rtv rfl rfl ?_
    exact ⟨none, M2, rfl, rfl, rfl, by rw [List.append_nil]; exact hS2, hF2⟩
  · rw [hb]
    refine z_ifeq 112 107 rfl rfl rfl (rg_lit 0 rfl) (fun _ => ?_) (fun c => absurd c (by decide))
    refine x_ld 5 2 0 114 rfl rfl rfl rfl rfl ?_
    refine x_ld 2 1 0 115 rfl rfl rfl rfl rfl ?_
    refine x_ld 3 1 0 116 rfl rfl rfl rfl rfl ?_
    refine x_ce 314 159 119 [.ref 572, zi (((ps k).2.2.1 : Nat) : Int), zi ((f : Nat) : Int), zi ((w.length : Nat) : Int)] rfl rfl rfl (Nat.le_of_ble_eq_true rfl) rfl rfl (Nat.le_of_ble_eq_true rfl) ⟨_, _, _, rfl, o_572⟩ (Nat.le_of_ble_eq_true rfl) (c159 (d + 2) hS (by omega)) rfl ?_
    rintro v M2 ⟨rfl, hS2, hF2⟩
    refine x_go 283 rfl rfl ?_
    refine x_rtv rfl rfl ?_
    exact ⟨none, M2, rfl, rfl, rfl, by rw [List.append_nil]; exact hS2, hF2⟩
theorem c160_5 (d : Nat) {ps : Nat → prt} {c : Nat} (hm : mdl M ps c) {k : Nat} (hk : k < c) {w : List Nat} (hw : tx_L w) (h6 : w.length ≤ 6) (ms : (sts ps k).2 (tx_num w) = true) {f : Nat} (hf : f + w.length ≤ 6) (hr : roL (M.1 611) f w) {bs : List (Nat × Nat × Nat)} (hbs : bs.length + 6 ≤ 256) {u : List Nat} (hu : u.length + w.length ≤ 250) (hS : kyS M bs u) (hK : (ps k).1 = 5) : ab_Z (pg_G L xs) (d + 4) 160 [.ref 572, zi (k : Nat), zi (f : Nat), zi (w.length : Nat)] M es (fun v M' => v = none ∧ kyS M' (bs ++ [((ps k).2.2.1, f + (cut (sts ps (ps k).2.1).2 (sts ps (ps k).2.2.1).2 w), w.length - (cut (sts ps (ps k).2.1).2 (sts ps (ps k).2.2.1).2 w)), ((ps k).2.1, f, (cut (sts ps (ps k).2.1).2 (sts ps (ps k).2.2.1).2 w))]) (u ++ []) ∧ Fy M M') := by
  have hc31 := hm.1
  obtain ⟨hwf, hok, qkd, qlf, qrt, qlt, _, agk⟩ := hm.2 k hk
  have hl := hwf.2.2.2
  rw [hK] at qkd qlf qrt
  have hkd : M.1 576 (k : Int) = 4 := qkd
  have hlf : M.1 577 (k : Int) = (((ps k).2.1 : Nat) : Int) := qlf
  have hrt : M.1 578 (k : Int) = (((ps k).2.2.1 : Nat) : Int) := qrt
  have hlk := hl (by omega)
  have al := (hm.2 _ (Nat.lt_trans hlk.1 hk)).2.2.2.2.2.2.2
  have ar := (hm.2 _ (Nat.lt_trans hlk.2 hk)).2.2.2.2.2.2.2
  have hle : (cut (sts ps (ps k).2.1).2 (sts ps (ps k).2.2.1).2 w) ≤ w.length := cut_le _ _ w
  show ab_W (pg_G L xs) (ab_X (pg_G L xs) (d + 3)) 160 _ 0 [some (.ref 572), some (zi ((k : Nat) : Int)), some (zi ((f : Nat) : Int)), some (zi ((w.length : Nat) : Int)), none, none, none, none] [] (hp M ++ es)
  refine x_ld 0 1 2 1 rfl rfl rfl rfl rfl ?_
  refine g_572_8 22 4 rfl rfl rfl ?_
  refine x_ld 1 1 0 5 rfl rfl rfl rfl rfl ?_
  refine z_ild (((ps k).2.1 : Nat) : Int) 6 rfl i_577 rfl ⟨by omega, by omega⟩ hlf rfl ?_
  refine x_st 4 2 0 8 [some (.ref 572), some (zi ((k : Nat) : Int)), some (zi ((f : Nat) : Int)), some (zi ((w.length : Nat) : Int)), some (zi (((ps k).2.1 : Nat) : Int)), none, none, none] rfl rfl rfl (Nat.le_of_ble_eq_true rfl) rfl rfl ?_
  refine x_ld 0 1 2 9 rfl rfl rfl rfl rfl ?_
  refine g_572_9 25 12 rfl rfl rfl ?_
  refine x_ld 1 1 0 13 rfl rfl rfl rfl rfl ?_
  refine z_ild (((ps k).2.2.1 : Nat) : Int) 14 rfl i_578 rfl ⟨by omega, by omega⟩ hrt rfl ?_
  refine x_st 5 2 0 16 [some (.ref 572), some (zi ((k : Nat) : Int)), some (zi ((f : Nat) : Int)), some (zi ((w.length : Nat) : Int)), some (zi (((ps k).2.1 : Nat) : Int)), some (zi (((ps k).2.2.1 : Nat) : Int)), none, none] rfl rfl rfl (Nat.le_of_ble_eq_true rfl) rfl rfl ?_
  refine x_ld 0 1 2 17 rfl rfl rfl rfl rfl ?_
  refine g_572_7 19 20 rfl rfl rfl ?_
  refine x_ld 1 1 0 21 rfl rfl rfl rfl rfl ?_
  refine z_ild 4 22 rfl i_576 rfl ⟨by omega, by omega⟩ hkd rfl ?_
  refine x_st 6 2 0 24 [some (.ref 572), some (zi ((k : Nat) : Int)), some (zi ((f : Nat) : Int)), some (zi ((w.length : Nat) : Int)), some (zi (((ps k).2.1 : Nat) : Int)), some (zi (((ps k).2.2.1 : Nat) : Int)), some (zi 4), none] rfl rfl rfl (Nat.le_of_ble_eq_true rfl) rfl rfl ?_
  refine x_ld 6 2 0 26 rfl rfl rfl rfl rfl ?_
  refine x_cst (zi 6) 2 28 rfl rfl rfl ?_
  refine z_icne 77 31 rfl rfl rfl (rg_lit 4 rfl) (rg_lit 6 rfl) (fun _ => ?_) (fun c => absurd c (by decide))
  refine x_ld 6 2 0 79 rfl rfl rfl rfl rfl ?_
  refine x_cst (zi 7) 2 81 rfl rfl rfl ?_
  refine z_icne 122 84 rfl rfl rfl (rg_lit 4 rfl) (rg_lit 7 rfl) (fun _ => ?_) (fun c => absurd c (by decide))
  refine x_ld 6 2 0 124 rfl rfl rfl rfl rfl ?_
  refine x_cst (zi 4) 1 125 rfl rfl rfl ?_
  refine z_icne 174 128 rfl rfl rfl (rg_lit 4 rfl) (rg_lit 4 rfl) (fun c => absurd c (by decide)) (fun _ => ?_)
  refine x_ld 0 1 2 129 rfl rfl rfl rfl rfl ?_
  refine x_ld 0 1 2 130 rfl rfl rfl rfl rfl ?_
  refine g_572_12 35 133 rfl rfl rfl ?_
  refine x_ld 4 2 0 135 rfl rfl rfl rfl rfl ?_
  refine x_ld 5 2 0 137 rfl rfl rfl rfl rfl ?_
  refine x_ld 0 1 2 138 rfl rfl rfl rfl rfl ?_
  refine g_572_57 132 141 rfl rfl rfl ?_
  refine x_ld 2 1 0 142 rfl rfl rfl rfl rfl ?_
  refine x_ld 3 1 0 143 rfl rfl rfl rfl rfl ?_
  refine x_cv 304 147 146 [.ref 572, .ref 581, zi (((ps k).2.1 : Nat) : Int), zi (((ps k).2.2.1 : Nat) : Int), .ref 611, zi ((f : Nat) : Int), zi ((w.length : Nat) : Int)] rfl rfl rfl (Nat.le_of_ble_eq_true rfl) rfl rfl (Nat.le_of_ble_eq_true rfl) ⟨_, _, _, rfl, o_572⟩ (Nat.le_of_ble_eq_true rfl) (c147 (d + 1) i_581 (f := (ps k).2.1) (g := (ps k).2.2.1) (by omega) (by omega) i_611 hw h6 hr (by omega)) rfl ?_
  rw [cut_ag al ar hw h6]
  refine x_st 7 2 0 148 [some (.ref 572), some (zi ((k : Nat) : Int)), some (zi ((f : Nat) : Int)), some (zi ((w.length : Nat) : Int)), some (zi (((ps k).2.1 : Nat) : Int)), some (zi (((ps k).2.2.1 : Nat) : Int)), some (zi 4), some (zi (((cut (sts ps (ps k).2.1).2 (sts ps (ps k).2.2.1).2 w) : Nat) : Int))] rfl rfl rfl (Nat.le_of_ble_eq_true rfl) rfl rfl ?_
  refine x_ld 0 1 2 149 rfl rfl rfl rfl rfl ?_
  refine x_ld 5 2 0 151 rfl rfl rfl rfl rfl ?_
  refine x_ld 2 1 0 152 rfl rfl rfl rfl rfl ?_
  refine x_ld 7 2 0 154 rfl rfl rfl rfl rfl ?_
  refine z_add 155 rfl rfl ?_
  rw [show ((f : Nat) : Int) + (((cut (sts ps (ps k).2.1).2 (sts ps (ps k).2.2.1).2 w) : Nat) : Int) = ((f + (cut (sts ps (ps k).2.1).2 (sts ps (ps k).2.2.1).2 w) : Nat) : Int) from (by omega)]
  refine x_ld 3 1 0 156 rfl rfl rfl rfl rfl ?_
  refine x_ld 7 2 0 158 rfl rfl rfl rfl rfl ?_
  refine z_sub 159 rfl rfl ?_
  rw [show ((w.length : Nat) : Int) - (((cut (sts ps (ps k).2.1).2 (sts ps (ps k).2.2.1).2 w) : Nat) : Int) = ((w.length - (cut (sts ps (ps k).2.1).2 (sts ps (ps k).2.2.1).2 w) : Nat) : Int) from (by omega)]
  refine x_ce 314 159 162 [.ref 572, zi (((ps k).2.2.1 : Nat) : Int), zi ((f + (cut (sts ps (ps k).2.1).2 (sts ps (ps k).2.2.1).2 w) : Nat) : Int), zi ((w.length - (cut (sts ps (ps k).2.1).2 (sts ps (ps k).2.2.1).2 w) : Nat) : Int)] rfl rfl rfl (Nat.le_of_ble_eq_true rfl) rfl rfl (Nat.le_of_ble_eq_true rfl) ⟨_, _, _, rfl, o_572⟩ (Nat.le_of_ble_eq_true rfl) (c159 (d + 2) hS (by omega)) rfl ?_
  rintro v M2 ⟨rfl, hS2, hF2⟩
  refine x_ld 0 1 2 163 rfl rfl rfl rfl rfl ?_
  refine x_ld 4 2 0 165 rfl rfl rfl rfl rfl ?_
  refine x_ld 2 1 0 166 rfl rfl rfl rfl rfl ?_
  refine x_ld 7 2 0 168 rfl rfl rfl rfl rfl ?_
  refine x_ce 314 159 171 [.ref 572, zi (((ps k).2.1 : Nat) : Int), zi ((f : Nat) : Int), zi (((cut (sts ps (ps k).2.1).2 (sts ps (ps k).2.2.1).2 w) : Nat) : Int)] rfl rfl rfl (Nat.le_of_ble_eq_true rfl) rfl rfl (Nat.le_of_ble_eq_true rfl) ⟨_, _, _, rfl, o_572⟩ (Nat.le_of_ble_eq_true rfl) (c159 (M := M2) (d + 2) hS2 (by rw [List.length_append, List.length_singleton]; omega)) rfl ?_
  rintro v3 M3 ⟨rfl, hS3, hF3⟩
  refine x_go 283 rfl rfl ?_
  refine x_rtv rfl rfl ?_
  exact ⟨none, M3, rfl, rfl, rfl, by rw [List.append_nil]; rw [List.append_assoc] at hS3; exact hS3, Fy_trans hF2 hF3⟩
theorem c160_6 (d : Nat) {ps : Nat → prt} {c : Nat} (hm : mdl M ps c) {k : Nat} (hk : k < c) {w : List Nat} (hw : tx_L w) (h6 : w.length ≤ 6) (ms : (sts ps k).2 (tx_num w) = true) {f : Nat} (hf : f + w.length ≤ 6) (hr : roL (M.1 611) f w) {bs : List (Nat × Nat × Nat)} (hbs : bs.length + 6 ≤ 256) {u : List Nat} (hu : u.length + w.length ≤ 250) (hS : kyS M bs u) (hK : (ps k).1 = 6) : ab_Z (pg_G L xs) (d + 4) 160 [.ref 572, zi (k : Nat), zi (f : Nat), zi (w.length : Nat)] M es (fun v M' => v = none ∧ kyS M' (bs ++ [((ps k).2.2.1, f, (cut (sts ps (ps k).2.2.1).2 (sts ps (ps k).2.1).2 w)), ((ps k).2.1, f + (cut (sts ps (ps k).2.2.1).2 (sts ps (ps k).2.1).2 w), w.length - (cut (sts ps (ps k).2.2.1).2 (sts ps (ps k).2.1).2 w))]) (u ++ []) ∧ Fy M M') := by
  have hc31 := hm.1
  obtain ⟨hwf, hok, qkd, qlf, qrt, qlt, _, agk⟩ := hm.2 k hk
  have hl := hwf.2.2.2
  rw [hK] at qkd qlf qrt
  have hkd : M.1 576 (k : Int) = 5 := qkd
  have hlf : M.1 577 (k : Int) = (((ps k).2.1 : Nat) : Int) := qlf
  have hrt : M.1 578 (k : Int) = (((ps k).2.2.1 : Nat) : Int) := qrt
  have hlk := hl (by omega)
  have al := (hm.2 _ (Nat.lt_trans hlk.1 hk)).2.2.2.2.2.2.2
  have ar := (hm.2 _ (Nat.lt_trans hlk.2 hk)).2.2.2.2.2.2.2
  have hle : (cut (sts ps (ps k).2.2.1).2 (sts ps (ps k).2.1).2 w) ≤ w.length := cut_le _ _ w
  show ab_W (pg_G L xs) (ab_X (pg_G L xs) (d + 3)) 160 _ 0 [some (.ref 572), some (zi ((k : Nat) : Int)), some (zi ((f : Nat) : Int)), some (zi ((w.length : Nat) : Int)), none, none, none, none] [] (hp M ++ es)
  refine x_ld 0 1 2 1 rfl rfl rfl rfl rfl ?_
  refine g_572_8 22 4 rfl rfl rfl ?_
  refine x_ld 1 1 0 5 rfl rfl rfl rfl rfl ?_
  refine z_ild (((ps k).2.1 : Nat) : Int) 6 rfl i_577 rfl ⟨by omega, by omega⟩ hlf rfl ?_
  refine x_st 4 2 0 8 [some (.ref 572), some (zi ((k : Nat) : Int)), some (zi ((f : Nat) : Int)), some (zi ((w.length : Nat) : Int)), some (zi (((ps k).2.1 : Nat) : Int)), none, none, none] rfl rfl rfl (Nat.le_of_ble_eq_true rfl) rfl rfl ?_
  refine x_ld 0 1 2 9 rfl rfl rfl rfl rfl ?_
  refine g_572_9 25 12 rfl rfl rfl ?_
  refine x_ld 1 1 0 13 rfl rfl rfl rfl rfl ?_
  refine z_ild (((ps k).2.2.1 : Nat) : Int) 14 rfl i_578 rfl ⟨by omega, by omega⟩ hrt rfl ?_
  refine x_st 5 2 0 16 [some (.ref 572), some (zi ((k : Nat) : Int)), some (zi ((f : Nat) : Int)), some (zi ((w.length : Nat) : Int)), some (zi (((ps k).2.1 : Nat) : Int)), some (zi (((ps k).2.2.1 : Nat) : Int)), none, none] rfl rfl rfl (Nat.le_of_ble_eq_true rfl) rfl rfl ?_
  refine x_ld 0 1 2 17 rfl rfl rfl rfl rfl ?_
  refine g_572_7 19 20 rfl rfl rfl ?_
  refine x_ld 1 1 0 21 rfl rfl rfl rfl rfl ?_
  refine z_ild 5 22 rfl i_576 rfl ⟨by omega, by omega⟩ hkd rfl ?_
  refine x_st 6 2 0 24 [some (.ref 572), some (zi ((k : Nat) : Int)), some (zi ((f : Nat) : Int)), some (zi ((w.length : Nat) : Int)), some (zi (((ps k).2.1 : Nat) : Int)), some (zi (((ps k).2.2.1 : Nat) : Int)), some (zi 5), none] rfl rfl rfl (Nat.le_of_ble_eq_true rfl) rfl rfl ?_
  refine x_ld 6 2 0 26 rfl rfl rfl rfl rfl ?_
  refine x_cst (zi 6) 2 28 rfl rfl rfl ?_
  refine z_icne 77 31 rfl rfl rfl (rg_lit 5 rfl) (rg_lit 6 rfl) (fun _ => ?_) (fun c => absurd c (by decide))
  refine x_ld 6 2 0 79 rfl rfl rfl rfl rfl ?_
  refine x_cst (zi 7) 2 81 rfl rfl rfl ?_
  refine z_icne 122 84 rfl rfl rfl (rg_lit 5 rfl) (rg_lit 7 rfl) (fun _ => ?_) (fun c => absurd c (by decide))
  refine x_ld 6 2 0 124 rfl rfl rfl rfl rfl ?_
  refine x_cst (zi 4) 1 125 rfl rfl rfl ?_
  refine z_icne 174 128 rfl rfl rfl (rg_lit 5 rfl) (rg_lit 4 rfl) (fun _ => ?_) (fun c => absurd c (by decide))
  refine x_ld 6 2 0 176 rfl rfl rfl rfl rfl ?_
  refine x_cst (zi 5) 1 177 rfl rfl rfl ?_
  refine z_icne 226 180 rfl rfl rfl (rg_lit 5 rfl) (rg_lit 5 rfl) (fun c => absurd c (by decide)) (fun _ => ?_)
  refine x_ld 0 1 2 181 rfl rfl rfl rfl rfl ?_
  refine x_ld 0 1 2 182 rfl rfl rfl rfl rfl ?_
  refine g_572_12 35 185 rfl rfl rfl ?_
  refine x_ld 5 2 0 187 rfl rfl rfl rfl rfl ?_
  refine x_ld 4 2 0 189 rfl rfl rfl rfl rfl ?_
  refine x_ld 0 1 2 190 rfl rfl rfl rfl rfl ?_
  refine g_572_57 132 193 rfl rfl rfl ?_
  refine x_ld 2 1 0 194 rfl rfl rfl rfl rfl ?_
  refine x_ld 3 1 0 195 rfl rfl rfl rfl rfl ?_
  refine x_cv 304 147 198 [.ref 572, .ref 581, zi (((ps k).2.2.1 : Nat) : Int), zi (((ps k).2.1 : Nat) : Int), .ref 611, zi ((f : Nat) : Int), zi ((w.length : Nat) : Int)] rfl rfl rfl (Nat.le_of_ble_eq_true rfl) rfl rfl (Nat.le_of_ble_eq_true rfl) ⟨_, _, _, rfl, o_572⟩ (Nat.le_of_ble_eq_true rfl) (c147 (d + 1) i_581 (f := (ps k).2.2.1) (g := (ps k).2.1) (by omega) (by omega) i_611 hw h6 hr (by omega)) rfl ?_
  rw [cut_ag ar al hw h6]
  refine x_st 7 2 0 200 [some (.ref 572), some (zi ((k : Nat) : Int)), some (zi ((f : Nat) : Int)), some (zi ((w.length : Nat) : Int)), some (zi (((ps k).2.1 : Nat) : Int)), some (zi (((ps k).2.2.1 : Nat) : Int)), some (zi 5), some (zi (((cut (sts ps (ps k).2.2.1).2 (sts ps (ps k).2.1).2 w) : Nat) : Int))] rfl rfl rfl (Nat.le_of_ble_eq_true rfl) rfl rfl ?_
  refine x_ld 0 1 2 201 rfl rfl rfl rfl rfl ?_
  refine x_ld 5 2 0 203 rfl rfl rfl rfl rfl ?_
  refine x_ld 2 1 0 204 rfl rfl rfl rfl rfl ?_
  refine x_ld 7 2 0 206 rfl rfl rfl rfl rfl ?_
  refine x_ce 314 159 209 [.ref 572, zi (((ps k).2.2.1 : Nat) : Int), zi ((f : Nat) : Int), zi (((cut (sts ps (ps k).2.2.1).2 (sts ps (ps k).2.1).2 w) : Nat) : Int)] rfl rfl rfl (Nat.le_of_ble_eq_true rfl) rfl rfl (Nat.le_of_ble_eq_true rfl) ⟨_, _, _, rfl, o_572⟩ (Nat.le_of_ble_eq_true rfl) (c159 (d + 2) hS (by omega)) rfl ?_
  rintro v M2 ⟨rfl, hS2, hF2⟩
  refine x_ld 0 1 2 210 rfl rfl rfl rfl rfl ?_
  refine x_ld 4 2 0 212 rfl rfl rfl rfl rfl ?_
  refine x_ld 2 1 0 213 rfl rfl rfl rfl rfl ?_
  refine x_ld 7 2 0 215 rfl rfl rfl rfl rfl ?_
  refine z_add 216 rfl rfl ?_
  rw [show ((f : Nat) : Int) + (((cut (sts ps (ps k).2.2.1).2 (sts ps (ps k).2.1).2 w) : Nat) : Int) = ((f + (cut (sts ps (ps k).2.2.1).2 (sts ps (ps k).2.1).2 w) : Nat) : Int) from (by omega)]
  refine x_ld 3 1 0 217 rfl rfl rfl rfl rfl ?_
  refine x_ld 7 2 0 219 rfl rfl rfl rfl rfl ?_
  refine z_sub 220 rfl rfl ?_
  rw [show ((w.length : Nat) : Int) - (((cut (sts ps (ps k).2.2.1).2 (sts ps (ps k).2.1).2 w) : Nat) : Int) = ((w.length - (cut (sts ps (ps k).2.2.1).2 (sts ps (ps k).2.1).2 w) : Nat) : Int) from (by omega)]
  refine x_ce 314 159 223 [.ref 572, zi (((ps k).2.1 : Nat) : Int), zi ((f + (cut (sts ps (ps k).2.2.1).2 (sts ps (ps k).2.1).2 w) : Nat) : Int), zi ((w.length - (cut (sts ps (ps k).2.2.1).2 (sts ps (ps k).2.1).2 w) : Nat) : Int)] rfl rfl rfl (Nat.le_of_ble_eq_true rfl) rfl rfl (Nat.le_of_ble_eq_true rfl) ⟨_, _, _, rfl, o_572⟩ (Nat.le_of_ble_eq_true rfl) (c159 (M := M2) (d + 2) hS2 (by rw [List.length_append, List.length_singleton]; omega)) rfl ?_
  rintro v3 M3 ⟨rfl, hS3, hF3⟩
  refine x_go 283 rfl rfl ?_
  refine x_rtv rfl rfl ?_
  exact ⟨none, M3, rfl, rfl, rfl, by rw [List.append_nil]; rw [List.append_assoc] at hS3; exact hS3, Fy_trans hF2 hF3⟩
theorem c160_7z (d : Nat) {ps : Nat → prt} {c : Nat} (hm : mdl M ps c) {k : Nat} (hk : k < c) {w : List Nat} (hw : tx_L w) (h6 : w.length ≤ 6) (ms : (sts ps k).2 (tx_num w) = true) {f : Nat} (hf : f + w.length ≤ 6) (hr : roL (M.1 611) f w) {bs : List (Nat × Nat × Nat)} (hbs : bs.length + 6 ≤ 256) {u : List Nat} (hu : u.length + w.length ≤ 250) (hS : kyS M bs u) (hK : (ps k).1 = 7) (he : w = []) : ab_Z (pg_G L xs) (d + 4) 160 [.ref 572, zi (k : Nat), zi (f : Nat), zi (w.length : Nat)] M es (fun v M' => v = none ∧ kyS M' (bs ++ []) (u ++ []) ∧ Fy M M') := by
  have hc31 := hm.1
  obtain ⟨hwf, hok, qkd, qlf, qrt, qlt, _, agk⟩ := hm.2 k hk
  have hl := hwf.2.2.2
  rw [hK] at qkd qlf qrt
  have hkd : M.1 576 (k : Int) = 8 := qkd
  have hlf : M.1 577 (k : Int) = (((ps k).2.1 : Nat) : Int) := qlf
  have hrt : M.1 578 (k : Int) = -1 := qrt
  have hlk := hl (by omega)
  have al := (hm.2 _ (Nat.lt_trans hlk.1 hk)).2.2.2.2.2.2.2
  have hw0 : w.length = 0 := by rw [he]; rfl
  show ab_W (pg_G L xs) (ab_X (pg_G L xs) (d + 3)) 160 _ 0 [some (.ref 572), some (zi ((k : Nat) : Int)), some (zi ((f : Nat) : Int)), some (zi ((w.length : Nat) : Int)), none, none, none, none] [] (hp M ++ es)
  refine x_ld 0 1 2 1 rfl rfl rfl rfl rfl ?_
  refine g_572_8 22 4 rfl rfl rfl ?_
  refine x_ld 1 1 0 5 rfl rfl rfl rfl rfl ?_
  refine z_ild (((ps k).2.1 : Nat) : Int) 6 rfl i_577 rfl ⟨by omega, by omega⟩ hlf rfl ?_
  refine x_st 4 2 0 8 [some (.ref 572), some (zi ((k : Nat) : Int)), some (zi ((f : Nat) : Int)), some (zi ((w.length : Nat) : Int)), some (zi (((ps k).2.1 : Nat) : Int)), none, none, none] rfl rfl rfl (Nat.le_of_ble_eq_true rfl) rfl rfl ?_
  refine x_ld 0 1 2 9 rfl rfl rfl rfl rfl ?_
  refine g_572_9 25 12 rfl rfl rfl ?_
  refine x_ld 1 1 0 13 rfl rfl rfl rfl rfl ?_
  refine z_ild (-1) 14 rfl i_578 rfl ⟨by omega, by omega⟩ hrt rfl ?_
  refine x_st 5 2 0 16 [some (.ref 572), some (zi ((k : Nat) : Int)), some (zi ((f : Nat) : Int)), some (zi ((w.length : Nat) : Int)), some (zi (((ps k).2.1 : Nat) : Int)), some (zi (-1)), none, none] rfl rfl rfl (Nat.le_of_ble_eq_true rfl) rfl rfl ?_
  refine x_ld 0 1 2 17 rfl rfl rfl rfl rfl ?_
  refine g_572_7 19 20 rfl rfl rfl ?_
  refine x_ld 1 1 0 21 rfl rfl rfl rfl rfl ?_
  refine z_ild 8 22 rfl i_576 rfl ⟨by omega, by omega⟩ hkd rfl ?_
  refine x_st 6 2 0 24 [some (.ref 572), some (zi ((k : Nat) : Int)), some (zi ((f : Nat) : Int)), some (zi ((w.length : Nat) : Int)), some (zi (((ps k).2.1 : Nat) : Int)), some (zi (-1)), some (zi 8), none] rfl rfl rfl (Nat.le_of_ble_eq_true rfl) rfl rfl ?_
  refine x_ld 6 2 0 26 rfl rfl rfl rfl rfl ?_
  refine x_cst (zi 6) 2 28 rfl rfl rfl ?_
  refine z_icne 77 31 rfl rfl rfl (rg_lit 8 rfl) (rg_lit 6 rfl) (fun _ => ?_) (fun c => absurd c (by decide))
  refine x_ld 6 2 0 79 rfl rfl rfl rfl rfl ?_
  refine x_cst (zi 7) 2 81 rfl rfl rfl ?_
  refine z_icne 122 84 rfl rfl rfl (rg_lit 8 rfl) (rg_lit 7 rfl) (fun _ => ?_) (fun c => absurd c (by decide))
  refine x_ld 6 2 0 124 rfl rfl rfl rfl rfl ?_
  refine x_cst (zi 4) 1 125 rfl rfl rfl ?_
  refine z_icne 174 128 rfl rfl rfl (rg_lit 8 rfl) (rg_lit 4 rfl) (fun _ => ?_) (fun c => absurd c (by decide))
  refine x_ld 6 2 0 176 rfl rfl rfl rfl rfl ?_
  refine x_cst (zi 5) 1 177 rfl rfl rfl ?_
  refine z_icne 226 180 rfl rfl rfl (rg_lit 8 rfl) (rg_lit 5 rfl) (fun _ => ?_) (fun c => absurd c (by decide))
  refine x_ld 6 2 0 228 rfl rfl rfl rfl rfl ?_
  refine x_cst (zi 8) 2 230 rfl rfl rfl ?_
  refine z_iceq 240 233 rfl rfl rfl (rg_lit 8 rfl) (rg_lit 8 rfl) (fun _ => ?_) (fun c => absurd c (by decide))
  refine x_ld 3 1 0 241 rfl rfl rfl rfl rfl ?_
  refine z_ifle 283 244 rfl rfl rfl ⟨by omega, by omega⟩ (fun _ => ?_) (fun c => absurd c (by omega))
  refine x_rtv rfl rfl ?_
  exact ⟨none, M, rfl, rfl, rfl, by rw [List.append_nil, List.append_nil]; exact hS, Fy_refl M⟩
theorem c160_7 (d : Nat) {ps : Nat → prt} {c : Nat} (hm : mdl M ps c) {k : Nat} (hk : k < c) {w : List Nat} (hw : tx_L w) (h6 : w.length ≤ 6) (ms : (sts ps k).2 (tx_num w) = true) {f : Nat} (hf : f + w.length ≤ 6) (hr : roL (M.1 611) f w) {bs : List (Nat × Nat × Nat)} (hbs : bs.length + 6 ≤ 256) {u : List Nat} (hu : u.length + w.length ≤ 250) (hS : kyS M bs u) (hK : (ps k).1 = 7) (hne : w ≠ []) : ab_Z (pg_G L xs) (d + 4) 160 [.ref 572, zi (k : Nat), zi (f : Nat), zi (w.length : Nat)] M es (fun v M' => v = none ∧ kyS M' (bs ++ [(k, f + (cuf (sts ps (ps k).2.1).2 (sts ps k).2 w), w.length - (cuf (sts ps (ps k).2.1).2 (sts ps k).2 w)), ((ps k).2.1, f, (cuf (sts ps (ps k).2.1).2 (sts ps k).2 w))]) (u ++ []) ∧ Fy M M') := by
  have hc31 := hm.1
  obtain ⟨hwf, hok, qkd, qlf, qrt, qlt, _, agk⟩ := hm.2 k hk
  have hl := hwf.2.2.2
  rw [hK] at qkd qlf qrt
  have hkd : M.1 576 (k : Int) = 8 := qkd
  have hlf : M.1 577 (k : Int) = (((ps k).2.1 : Nat) : Int) := qlf
  have hrt : M.1 578 (k : Int) = -1 := qrt
  have hlk := hl (by omega)
  have al := (hm.2 _ (Nat.lt_trans hlk.1 hk)).2.2.2.2.2.2.2
  have hle : (cuf (sts ps (ps k).2.1).2 (sts ps k).2 w) ≤ w.length := cuf_le _ _ w
  have hn1 := ne_len hne
  show ab_W (pg_G L xs) (ab_X (pg_G L xs) (d + 3)) 160 _ 0 [some (.ref 572), some (zi ((k : Nat) : Int)), some (zi ((f : Nat) : Int)), some (zi ((w.length : Nat) : Int)), none, none, none, none] [] (hp M ++ es)
  refine x_ld 0 1 2 1 rfl rfl rfl rfl rfl ?_
  refine g_572_8 22 4 rfl rfl rfl ?_
  refine x_ld 1 1 0 5 rfl rfl rfl rfl rfl ?_
  refine z_ild (((ps k).2.1 : Nat) : Int) 6 rfl i_577 rfl ⟨by omega, by omega⟩ hlf rfl ?_
  refine x_st 4 2 0 8 [some (.ref 572), some (zi ((k : Nat) : Int)), some (zi ((f : Nat) : Int)), some (zi ((w.length : Nat) : Int)), some (zi (((ps k).2.1 : Nat) : Int)), none, none, none] rfl rfl rfl (Nat.le_of_ble_eq_true rfl) rfl rfl ?_
  refine x_ld 0 1 2 9 rfl rfl rfl rfl rfl ?_
  refine g_572_9 25 12 rfl rfl rfl ?_
  refine x_ld 1 1 0 13 rfl rfl rfl rfl rfl ?_
  refine z_ild (-1) 14 rfl i_578 rfl ⟨by omega, by omega⟩ hrt rfl ?_
  refine x_st 5 2 0 16 [some (.ref 572), some (zi ((k : Nat) : Int)), some (zi ((f : Nat) : Int)), some (zi ((w.length : Nat) : Int)), some (zi (((ps k).2.1 : Nat) : Int)), some (zi (-1)), none, none] rfl rfl rfl (Nat.le_of_ble_eq_true rfl) rfl rfl ?_
  refine x_ld 0 1 2 17 rfl rfl rfl rfl rfl ?_
  refine g_572_7 19 20 rfl rfl rfl ?_
  refine x_ld 1 1 0 21 rfl rfl rfl rfl rfl ?_
  refine z_ild 8 22 rfl i_576 rfl ⟨by omega, by omega⟩ hkd rfl ?_
  refine x_st 6 2 0 24 [some (.ref 572), some (zi ((k : Nat) : Int)), some (zi ((f : Nat) : Int)), some (zi ((w.length : Nat) : Int)), some (zi (((ps k).2.1 : Nat) : Int)), some (zi (-1)), some (zi 8), none] rfl rfl rfl (Nat.le_of_ble_eq_true rfl) rfl rfl ?_
  refine x_ld 6 2 0 26 rfl rfl rfl rfl rfl ?_
  refine x_cst (zi 6) 2 28 rfl rfl rfl ?_
  refine z_icne 77 31 rfl rfl rfl (rg_lit 8 rfl) (rg_lit 6 rfl) (fun _ => ?_) (fun c => absurd c (by decide))
  refine x_ld 6 2 0 79 rfl rfl rfl rfl rfl ?_
  refine x_cst (zi 7) 2 81 rfl rfl rfl ?_
  refine z_icne 122 84 rfl rfl rfl (rg_lit 8 rfl) (rg_lit 7 rfl) (fun _ => ?_) (fun c => absurd c (by decide))
  refine x_ld 6 2 0 124 rfl rfl rfl rfl rfl ?_
  refine x_cst (zi 4) 1 125 rfl rfl rfl ?_
  refine z_icne 174 128 rfl rfl rfl (rg_lit 8 rfl) (rg_lit 4 rfl) (fun _ => ?_) (fun c => absurd c (by decide))
  refine x_ld 6 2 0 176 rfl rfl rfl rfl rfl ?_
  refine x_cst (zi 5) 1 177 rfl rfl rfl ?_
  refine z_icne 226 180 rfl rfl rfl (rg_lit 8 rfl) (rg_lit 5 rfl) (fun _ => ?_) (fun c => absurd c (by decide))
  refine x_ld 6 2 0 228 rfl rfl rfl rfl rfl ?_
  refine x_cst (zi 8) 2 230 rfl rfl rfl ?_
  refine z_iceq 240 233 rfl rfl rfl (rg_lit 8 rfl) (rg_lit 8 rfl) (fun _ => ?_) (fun c => absurd c (by decide))
  refine x_ld 3 1 0 241 rfl rfl rfl rfl rfl ?_
  refine z_ifle 283 244 rfl rfl rfl ⟨by omega, by omega⟩ (fun c => absurd c (by omega)) (fun _ => ?_)
  refine x_ld 0 1 2 245 rfl rfl rfl rfl rfl ?_
  refine x_ld 0 1 2 246 rfl rfl rfl rfl rfl ?_
  refine g_572_12 35 249 rfl rfl rfl ?_
  refine x_ld 1 1 0 250 rfl rfl rfl rfl rfl ?_
  refine x_ld 0 1 2 251 rfl rfl rfl rfl rfl ?_
  refine g_572_57 132 254 rfl rfl rfl ?_
  refine x_ld 2 1 0 255 rfl rfl rfl rfl rfl ?_
  refine x_ld 3 1 0 256 rfl rfl rfl rfl rfl ?_
  refine x_cv 287 146 259 [.ref 572, .ref 581, zi ((k : Nat) : Int), .ref 611, zi ((f : Nat) : Int), zi ((w.length : Nat) : Int)] rfl rfl rfl (Nat.le_of_ble_eq_true rfl) rfl rfl (Nat.le_of_ble_eq_true rfl) ⟨_, _, _, rfl, o_572⟩ (Nat.le_of_ble_eq_true rfl) (c146 (d + 1) i_581 (f := (ps k).2.1) (g := k) (by omega) (by omega) i_611 hw h6 hr (by omega) hlf (by omega) hne) rfl ?_
  rw [show cuf (mS (M.2.1 581) (ps k).2.1) (mS (M.2.1 581) k) w = (cuf (sts ps (ps k).2.1).2 (sts ps k).2 w) from fi_congr (fun i _ => cp_agw al agk hw h6 i) 1]
  refine x_st 7 2 0 261 [some (.ref 572), some (zi ((k : Nat) : Int)), some (zi ((f : Nat) : Int)), some (zi ((w.length : Nat) : Int)), some (zi (((ps k).2.1 : Nat) : Int)), some (zi (-1)), some (zi 8), some (zi (((cuf (sts ps (ps k).2.1).2 (sts ps k).2 w) : Nat) : Int))] rfl rfl rfl (Nat.le_of_ble_eq_true rfl) rfl rfl ?_
  refine x_ld 0 1 2 262 rfl rfl rfl rfl rfl ?_
  refine x_ld 1 1 0 263 rfl rfl rfl rfl rfl ?_
  refine x_ld 2 1 0 264 rfl rfl rfl rfl rfl ?_
  refine x_ld 7 2 0 266 rfl rfl rfl rfl rfl ?_
  refine z_add 267 rfl rfl ?_
  rw [show ((f : Nat) : Int) + (((cuf (sts ps (ps k).2.1).2 (sts ps k).2 w) : Nat) : Int) = ((f + (cuf (sts ps (ps k).2.1).2 (sts ps k).2 w) : Nat) : Int) from (by omega)]
  refine x_ld 3 1 0 268 rfl rfl rfl rfl rfl ?_
  refine x_ld 7 2 0 270 rfl rfl rfl rfl rfl ?_
  refine z_sub 271 rfl rfl ?_
  rw [show ((w.length : Nat) : Int) - (((cuf (sts ps (ps k).2.1).2 (sts ps k).2 w) : Nat) : Int) = ((w.length - (cuf (sts ps (ps k).2.1).2 (sts ps k).2 w) : Nat) : Int) from (by omega)]
  refine x_ce 314 159 274 [.ref 572, zi ((k : Nat) : Int), zi ((f + (cuf (sts ps (ps k).2.1).2 (sts ps k).2 w) : Nat) : Int), zi ((w.length - (cuf (sts ps (ps k).2.1).2 (sts ps k).2 w) : Nat) : Int)] rfl rfl rfl (Nat.le_of_ble_eq_true rfl) rfl rfl (Nat.le_of_ble_eq_true rfl) ⟨_, _, _, rfl, o_572⟩ (Nat.le_of_ble_eq_true rfl) (c159 (d + 2) hS (by omega)) rfl ?_
  rintro v M2 ⟨rfl, hS2, hF2⟩
  refine x_ld 0 1 2 275 rfl rfl rfl rfl rfl ?_
  refine x_ld 4 2 0 277 rfl rfl rfl rfl rfl ?_
  refine x_ld 2 1 0 278 rfl rfl rfl rfl rfl ?_
  refine x_ld 7 2 0 280 rfl rfl rfl rfl rfl ?_
  refine x_ce 314 159 283 [.ref 572, zi (((ps k).2.1 : Nat) : Int), zi ((f : Nat) : Int), zi (((cuf (sts ps (ps k).2.1).2 (sts ps k).2 w) : Nat) : Int)] rfl rfl rfl (Nat.le_of_ble_eq_true rfl) rfl rfl (Nat.le_of_ble_eq_true rfl) ⟨_, _, _, rfl, o_572⟩ (Nat.le_of_ble_eq_true rfl) (c159 (M := M2) (d + 2) hS2 (by rw [List.length_append, List.length_singleton]; omega)) rfl ?_
  rintro v3 M3 ⟨rfl, hS3, hF3⟩
  refine x_rtv rfl rfl ?_
  exact ⟨none, M3, rfl, rfl, rfl, by rw [List.append_nil]; rw [List.append_assoc] at hS3; exact hS3, Fy_trans hF2 hF3⟩
theorem c160_8z (d : Nat) {ps : Nat → prt} {c : Nat} (hm : mdl M ps c) {k : Nat} (hk : k < c) {w : List Nat} (hw : tx_L w) (h6 : w.length ≤ 6) (ms : (sts ps k).2 (tx_num w) = true) {f : Nat} (hf : f + w.length ≤ 6) (hr : roL (M.1 611) f w) {bs : List (Nat × Nat × Nat)} (hbs : bs.length + 6 ≤ 256) {u : List Nat} (hu : u.length + w.length ≤ 250) (hS : kyS M bs u) (hK : (ps k).1 = 8) (he : w = []) : ab_Z (pg_G L xs) (d + 4) 160 [.ref 572, zi (k : Nat), zi (f : Nat), zi (w.length : Nat)] M es (fun v M' => v = none ∧ kyS M' (bs ++ []) (u ++ []) ∧ Fy M M') := by
  have hc31 := hm.1
  obtain ⟨hwf, hok, qkd, qlf, qrt, qlt, _, agk⟩ := hm.2 k hk
  have hl := hwf.2.2.2
  rw [hK] at qkd qlf qrt
  have hkd : M.1 576 (k : Int) = 9 := qkd
  have hlf : M.1 577 (k : Int) = (((ps k).2.1 : Nat) : Int) := qlf
  have hrt : M.1 578 (k : Int) = -1 := qrt
  have hlk := hl (by omega)
  have al := (hm.2 _ (Nat.lt_trans hlk.1 hk)).2.2.2.2.2.2.2
  have hw0 : w.length = 0 := by rw [he]; rfl
  show ab_W (pg_G L xs) (ab_X (pg_G L xs) (d + 3)) 160 _ 0 [some (.ref 572), some (zi ((k : Nat) : Int)), some (zi ((f : Nat) : Int)), some (zi ((w.length : Nat) : Int)), none, none, none, none] [] (hp M ++ es)
  refine x_ld 0 1 2 1 rfl rfl rfl rfl rfl ?_
  refine g_572_8 22 4 rfl rfl rfl ?_
  refine x_ld 1 1 0 5 rfl rfl rfl rfl rfl ?_
  refine z_ild (((ps k).2.1 : Nat) : Int) 6 rfl i_577 rfl ⟨by omega, by omega⟩ hlf rfl ?_
  refine x_st 4 2 0 8 [some (.ref 572), some (zi ((k : Nat) : Int)), some (zi ((f : Nat) : Int)), some (zi ((w.length : Nat) : Int)), some (zi (((ps k).2.1 : Nat) : Int)), none, none, none] rfl rfl rfl (Nat.le_of_ble_eq_true rfl) rfl rfl ?_
  refine x_ld 0 1 2 9 rfl rfl rfl rfl rfl ?_
  refine g_572_9 25 12 rfl rfl rfl ?_
  refine x_ld 1 1 0 13 rfl rfl rfl rfl rfl ?_
  refine z_ild (-1) 14 rfl i_578 rfl ⟨by omega, by omega⟩ hrt rfl ?_
  refine x_st 5 2 0 16 [some (.ref 572), some (zi ((k : Nat) : Int)), some (zi ((f : Nat) : Int)), some (zi ((w.length : Nat) : Int)), some (zi (((ps k).2.1 : Nat) : Int)), some (zi (-1)), none, none] rfl rfl rfl (Nat.le_of_ble_eq_true rfl) rfl rfl ?_
  refine x_ld 0 1 2 17 rfl rfl rfl rfl rfl ?_
  refine g_572_7 19 20 rfl rfl rfl ?_
  refine x_ld 1 1 0 21 rfl rfl rfl rfl rfl ?_
  refine z_ild 9 22 rfl i_576 rfl ⟨by omega, by omega⟩ hkd rfl ?_
  refine x_st 6 2 0 24 [some (.ref 572), some (zi ((k : Nat) : Int)), some (zi ((f : Nat) : Int)), some (zi ((w.length : Nat) : Int)), some (zi (((ps k).2.1 : Nat) : Int)), some (zi (-1)), some (zi 9), none] rfl rfl rfl (Nat.le_of_ble_eq_true rfl) rfl rfl ?_
  refine x_ld 6 2 0 26 rfl rfl rfl rfl rfl ?_
  refine x_cst (zi 6) 2 28 rfl rfl rfl ?_
  refine z_icne 77 31 rfl rfl rfl (rg_lit 9 rfl) (rg_lit 6 rfl) (fun _ => ?_) (fun c => absurd c (by decide))
  refine x_ld 6 2 0 79 rfl rfl rfl rfl rfl ?_
  refine x_cst (zi 7) 2 81 rfl rfl rfl ?_
  refine z_icne 122 84 rfl rfl rfl (rg_lit 9 rfl) (rg_lit 7 rfl) (fun _ => ?_) (fun c => absurd c (by decide))
  refine x_ld 6 2 0 124 rfl rfl rfl rfl rfl ?_
  refine x_cst (zi 4) 1 125 rfl rfl rfl ?_
  refine z_icne 174 128 rfl rfl rfl (rg_lit 9 rfl) (rg_lit 4 rfl) (fun _ => ?_) (fun c => absurd c (by decide))
  refine x_ld 6 2 0 176 rfl rfl rfl rfl rfl ?_
  refine x_cst (zi 5) 1 177 rfl rfl rfl ?_
  refine z_icne 226 180 rfl rfl rfl (rg_lit 9 rfl) (rg_lit 5 rfl) (fun _ => ?_) (fun c => absurd c (by decide))
  refine x_ld 6 2 0 228 rfl rfl rfl rfl rfl ?_
  refine x_cst (zi 8) 2 230 rfl rfl rfl ?_
  refine z_iceq 240 233 rfl rfl rfl (rg_lit 9 rfl) (rg_lit 8 rfl) (fun c => absurd c (by decide)) (fun _ => ?_)
  refine x_ld 6 2 0 235 rfl rfl rfl rfl rfl ?_
  refine x_cst (zi 9) 2 237 rfl rfl rfl ?_
  refine z_icne 283 240 rfl rfl rfl (rg_lit 9 rfl) (rg_lit 9 rfl) (fun c => absurd c (by decide)) (fun _ => ?_)
  refine x_ld 3 1 0 241 rfl rfl rfl rfl rfl ?_
  refine z_ifle 283 244 rfl rfl rfl ⟨by omega, by omega⟩ (fun _ => ?_) (fun c => absurd c (by omega))
  refine x_rtv rfl rfl ?_
  exact ⟨none, M, rfl, rfl, rfl, by rw [List.append_nil, List.append_nil]; exact hS, Fy_refl M⟩
theorem c160_8 (d : Nat) {ps : Nat → prt} {c : Nat} (hm : mdl M ps c) {k : Nat} (hk : k < c) {w : List Nat} (hw : tx_L w) (h6 : w.length ≤ 6) (ms : (sts ps k).2 (tx_num w) = true) {f : Nat} (hf : f + w.length ≤ 6) (hr : roL (M.1 611) f w) {bs : List (Nat × Nat × Nat)} (hbs : bs.length + 6 ≤ 256) {u : List Nat} (hu : u.length + w.length ≤ 250) (hS : kyS M bs u) (hK : (ps k).1 = 8) (hne : w ≠ []) : ab_Z (pg_G L xs) (d + 4) 160 [.ref 572, zi (k : Nat), zi (f : Nat), zi (w.length : Nat)] M es (fun v M' => v = none ∧ kyS M' (bs ++ [(k, f + (cuf (sts ps (ps k).2.1).2 (sts ps k).2 w), w.length - (cuf (sts ps (ps k).2.1).2 (sts ps k).2 w)), ((ps k).2.1, f, (cuf (sts ps (ps k).2.1).2 (sts ps k).2 w))]) (u ++ []) ∧ Fy M M') := by
  have hc31 := hm.1
  obtain ⟨hwf, hok, qkd, qlf, qrt, qlt, _, agk⟩ := hm.2 k hk
  have hl := hwf.2.2.2
  rw [hK] at qkd qlf qrt
  have hkd : M.1 576 (k : Int) = 9 := qkd
  have hlf : M.1 577 (k : Int) = (((ps k).2.1 : Nat) : Int) := qlf
  have hrt : M.1 578 (k : Int) = -1 := qrt
  have hlk := hl (by omega)
  have al := (hm.2 _ (Nat.lt_trans hlk.1 hk)).2.2.2.2.2.2.2
  have hle : (cuf (sts ps (ps k).2.1).2 (sts ps k).2 w) ≤ w.length := cuf_le _ _ w
  have hn1 := ne_len hne
  show ab_W (pg_G L xs) (ab_X (pg_G L xs) (d + 3)) 160 _ 0 [some (.ref 572), some (zi ((k : Nat) : Int)), some (zi ((f : Nat) : Int)), some (zi ((w.length : Nat) : Int)), none, none, none, none] [] (hp M ++ es)
  refine x_ld 0 1 2 1 rfl rfl rfl rfl rfl ?_
  refine g_572_8 22 4 rfl rfl rfl ?_
  refine x_ld 1 1 0 5 rfl rfl rfl rfl rfl ?_
  refine z_ild (((ps k).2.1 : Nat) : Int) 6 rfl i_577 rfl ⟨by omega, by omega⟩ hlf rfl ?_
  refine x_st 4 2 0 8 [some (.ref 572), some (zi ((k : Nat) : Int)), some (zi ((f : Nat) : Int)), some (zi ((w.length : Nat) : Int)), some (zi (((ps k).2.1 : Nat) : Int)), none, none, none] rfl rfl rfl (Nat.le_of_ble_eq_true rfl) rfl rfl ?_
  refine x_ld 0 1 2 9 rfl rfl rfl rfl rfl ?_
  refine g_572_9 25 12 rfl rfl rfl ?_
  refine x_ld 1 1 0 13 rfl rfl rfl rfl rfl ?_
  refine z_ild (-1) 14 rfl i_578 rfl ⟨by omega, by omega⟩ hrt rfl ?_
  refine x_st 5 2 0 16 [some (.ref 572), some (zi ((k : Nat) : Int)), some (zi ((f : Nat) : Int)), some (zi ((w.length : Nat) : Int)), some (zi (((ps k).2.1 : Nat) : Int)), some (zi (-1)), none, none] rfl rfl rfl (Nat.le_of_ble_eq_true rfl) rfl rfl ?_
  refine x_ld 0 1 2 17 rfl rfl rfl rfl rfl ?_
  refine g_572_7 19 20 rfl rfl rfl ?_
  refine x_ld 1 1 0 21 rfl rfl rfl rfl rfl ?_
  refine z_ild 9 22 rfl i_576 rfl ⟨by omega, by omega⟩ hkd rfl ?_
  refine x_st 6 2 0 24 [some (.ref 572), some (zi ((k : Nat) : Int)), some (zi ((f : Nat) : Int)), some (zi ((w.length : Nat) : Int)), some (zi (((ps k).2.1 : Nat) : Int)), some (zi (-1)), some (zi 9), none] rfl rfl rfl (Nat.le_of_ble_eq_true rfl) rfl rfl ?_
  refine x_ld 6 2 0 26 rfl rfl rfl rfl rfl ?_
  refine x_cst (zi 6) 2 28 rfl rfl rfl ?_
  refine z_icne 77 31 rfl rfl rfl (rg_lit 9 rfl) (rg_lit 6 rfl) (fun _ => ?_) (fun c => absurd c (by decide))
  refine x_ld 6 2 0 79 rfl rfl rfl rfl rfl ?_
  refine x_cst (zi 7) 2 81 rfl rfl rfl ?_
  refine z_icne 122 84 rfl rfl rfl (rg_lit 9 rfl) (rg_lit 7 rfl) (fun _ => ?_) (fun c => absurd c (by decide))
  refine x_ld 6 2 0 124 rfl rfl rfl rfl rfl ?_
  refine x_cst (zi 4) 1 125 rfl rfl rfl ?_
  refine z_icne 174 128 rfl rfl rfl (rg_lit 9 rfl) (rg_lit 4 rfl) (fun _ => ?_) (fun c => absurd c (by decide))
  refine x_ld 6 2 0 176 rfl rfl rfl rfl rfl ?_
  refine x_cst (zi 5) 1 177 rfl rfl rfl ?_
  refine z_icne 226 180 rfl rfl rfl (rg_lit 9 rfl) (rg_lit 5 rfl) (fun _ => ?_) (fun c => absurd c (by decide))
  refine x_ld 6 2 0 228 rfl rfl rfl rfl rfl ?_
  refine x_cst (zi 8) 2 230 rfl rfl rfl ?_
  refine z_iceq 240 233 rfl rfl rfl (rg_lit 9 rfl) (rg_lit 8 rfl) (fun c => absurd c (by decide)) (fun _ => ?_)
  refine x_ld 6 2 0 235 rfl rfl rfl rfl rfl ?_
  refine x_cst (zi 9) 2 237 rfl rfl rfl ?_
  refine z_icne 283 240 rfl rfl rfl (rg_lit 9 rfl) (rg_lit 9 rfl) (fun c => absurd c (by decide)) (fun _ => ?_)
  refine x_ld 3 1 0 241 rfl rfl rfl rfl rfl ?_
  refine z_ifle 283 244 rfl rfl rfl ⟨by omega, by omega⟩ (fun c => absurd c (by omega)) (fun _ => ?_)
  refine x_ld 0 1 2 245 rfl rfl rfl rfl rfl ?_
  refine x_ld 0 1 2 246 rfl rfl rfl rfl rfl ?_
  refine g_572_12 35 249 rfl rfl rfl ?_
  refine x_ld 1 1 0 250 rfl rfl rfl rfl rfl ?_
  refine x_ld 0 1 2 251 rfl rfl rfl rfl rfl ?_
  refine g_572_57 132 254 rfl rfl rfl ?_
  refine x_ld 2 1 0 255 rfl rfl rfl rfl rfl ?_
  refine x_ld 3 1 0 256 rfl rfl rfl rfl rfl ?_
  refine x_cv 287 146 259 [.ref 572, .ref 581, zi ((k : Nat) : Int), .ref 611, zi ((f : Nat) : Int), zi ((w.length : Nat) : Int)] rfl rfl rfl (Nat.le_of_ble_eq_true rfl) rfl rfl (Nat.le_of_ble_eq_true rfl) ⟨_, _, _, rfl, o_572⟩ (Nat.le_of_ble_eq_true rfl) (c146 (d + 1) i_581 (f := (ps k).2.1) (g := k) (by omega) (by omega) i_611 hw h6 hr (by omega) hlf (by omega) hne) rfl ?_
  rw [show cuf (mS (M.2.1 581) (ps k).2.1) (mS (M.2.1 581) k) w = (cuf (sts ps (ps k).2.1).2 (sts ps k).2 w) from fi_congr (fun i _ => cp_agw al agk hw h6 i) 1]
  refine x_st 7 2 0 261 [some (.ref 572), some (zi ((k : Nat) : Int)), some (zi ((f : Nat) : Int)), some (zi ((w.length : Nat) : Int)), some (zi (((ps k).2.1 : Nat) : Int)), some (zi (-1)), some (zi 9), some (zi (((cuf (sts ps (ps k).2.1).2 (sts ps k).2 w) : Nat) : Int))] rfl rfl rfl (Nat.le_of_ble_eq_true rfl) rfl rfl ?_
  refine x_ld 0 1 2 262 rfl rfl rfl rfl rfl ?_
  refine x_ld 1 1 0 263 rfl rfl rfl rfl rfl ?_
  refine x_ld 2 1 0 264 rfl rfl rfl rfl rfl ?_
  refine x_ld 7 2 0 266 rfl rfl rfl rfl rfl ?_
  refine z_add 267 rfl rfl ?_
  rw [show ((f : Nat) : Int) + (((cuf (sts ps (ps k).2.1).2 (sts ps k).2 w) : Nat) : Int) = ((f + (cuf (sts ps (ps k).2.1).2 (sts ps k).2 w) : Nat) : Int) from (by omega)]
  refine x_ld 3 1 0 268 rfl rfl rfl rfl rfl ?_
  refine x_ld 7 2 0 270 rfl rfl rfl rfl rfl ?_
  refine z_sub 271 rfl rfl ?_
  rw [show ((w.length : Nat) : Int) - (((cuf (sts ps (ps k).2.1).2 (sts ps k).2 w) : Nat) : Int) = ((w.length - (cuf (sts ps (ps k).2.1).2 (sts ps k).2 w) : Nat) : Int) from (by omega)]
  refine x_ce 314 159 274 [.ref 572, zi ((k : Nat) : Int), zi ((f + (cuf (sts ps (ps k).2.1).2 (sts ps k).2 w) : Nat) : Int), zi ((w.length - (cuf (sts ps (ps k).2.1).2 (sts ps k).2 w) : Nat) : Int)] rfl rfl rfl (Nat.le_of_ble_eq_true rfl) rfl rfl (Nat.le_of_ble_eq_true rfl) ⟨_, _, _, rfl, o_572⟩ (Nat.le_of_ble_eq_true rfl) (c159 (d + 2) hS (by omega)) rfl ?_
  rintro v M2 ⟨rfl, hS2, hF2⟩
  refine x_ld 0 1 2 275 rfl rfl rfl rfl rfl ?_
  refine x_ld 4 2 0 277 rfl rfl rfl rfl rfl ?_
  refine x_ld 2 1 0 278 rfl rfl rfl rfl rfl ?_
  refine x_ld 7 2 0 280 rfl rfl rfl rfl rfl ?_
  refine x_ce 314 159 283 [.ref 572, zi (((ps k).2.1 : Nat) : Int), zi ((f : Nat) : Int), zi (((cuf (sts ps (ps k).2.1).2 (sts ps k).2 w) : Nat) : Int)] rfl rfl rfl (Nat.le_of_ble_eq_true rfl) rfl rfl (Nat.le_of_ble_eq_true rfl) ⟨_, _, _, rfl, o_572⟩ (Nat.le_of_ble_eq_true rfl) (c159 (M := M2) (d + 2) hS2 (by rw [List.length_append, List.length_singleton]; omega)) rfl ?_
  rintro v3 M3 ⟨rfl, hS3, hF3⟩
  refine x_rtv rfl rfl ?_
  exact ⟨none, M3, rfl, rfl, rfl, by rw [List.append_nil]; rw [List.append_assoc] at hS3; exact hS3, Fy_trans hF2 hF3⟩
theorem c158_step (d : Nat) {Q : ab_Q} {o1 o2 o3 o4 o5 : Option Value} {bs : List (Nat × Nat × Nat)} (hb : bs.length < 256) {k f n : Nat} (hk : k < 32) (hf : f < 1000) (hn : n < 1000) {u : List Nat} (hS : kyS M (bs ++ [(k, f, n)]) u) {F : mm → Prop} (c1 : ab_Z (pg_G L xs) (d + 4) 160 [.ref 572, zi (k : Nat), zi (f : Nat), zi (n : Nat)] (sI M 572 53 ((bs.length : Nat) : Int)) es (fun v M' => v = none ∧ F M')) (kk : ∀ M', F M' → ab_W (pg_G L xs) (ab_X (pg_G L xs) (d + 4)) 158 Q 47 [some (.ref 572), o1, o2, o3, o4, o5] [] (hp M' ++ es)) : ab_W (pg_G L xs) (ab_X (pg_G L xs) (d + 4)) 158 Q 47 [some (.ref 572), o1, o2, o3, o4, o5] [] (hp M ++ es) := by
  have hl : M.1 572 53 = ((bs.length + 1 : Nat) : Int) := by rw [hS.1.1, List.length_append]; rfl
  have ht := hS.1.2 bs.length (by rw [List.length_append]; simp)
  rw [snoc_at] at ht
  have t1 : (sI M 572 53 ((bs.length : Nat) : Int)).1 608 ((bs.length : Nat) : Int) = (k : Int) := (rd_na (by decide)).trans ht.1
  have t2 : (sI M 572 53 ((bs.length : Nat) : Int)).1 609 ((bs.length : Nat) : Int) = (f : Int) := (rd_na (by decide)).trans ht.2.1
  have t3 : (sI M 572 53 ((bs.length : Nat) : Int)).1 610 ((bs.length : Nat) : Int) = (n : Int) := (rd_na (by decide)).trans ht.2.2
  refine x_ld 0 1 2 48 rfl rfl rfl rfl rfl ?_
  refine g_572_53 308 51 rfl rfl hl rfl ?_
  refine z_ifle 98 54 rfl rfl rfl ⟨by omega, by omega⟩ (fun c => absurd c (by omega)) (fun _ => ?_)
  refine x_ld 0 1 2 55 rfl rfl rfl rfl rfl ?_
  refine x_dup 56 rfl rfl rfl ?_
  refine g_572_53 308 59 rfl rfl hl rfl ?_
  refine x_cst (zi 1) 1 60 rfl rfl rfl ?_
  refine z_sub 61 rfl rfl ?_
  rw [show ((bs.length + 1 : Nat) : Int) - 1 = ((bs.length : Nat) : Int) from (by omega)]
  refine s_572_53 308 64 rfl rfl rfl rfl rfl rfl ?_
  refine x_ld 0 1 2 65 rfl rfl rfl rfl rfl ?_
  refine x_ld 0 1 2 66 rfl rfl rfl rfl rfl ?_
  refine g_572_54 123 69 rfl rfl rfl ?_
  refine x_ld 0 1 2 70 rfl rfl rfl rfl rfl ?_
  refine g_572_53 308 73 rfl rfl rd_eq rfl ?_
  refine z_ild ((k : Nat) : Int) 74 rfl i_608 rfl ⟨by omega, by omega⟩ t1 rfl ?_
  refine x_ld 0 1 2 75 rfl rfl rfl rfl rfl ?_
  refine g_572_55 126 78 rfl rfl rfl ?_
  refine x_ld 0 1 2 79 rfl rfl rfl rfl rfl ?_
  refine g_572_53 308 82 rfl rfl rd_eq rfl ?_
  refine z_ild ((f : Nat) : Int) 83 rfl i_609 rfl ⟨by omega, by omega⟩ t2 rfl ?_
  refine x_ld 0 1 2 84 rfl rfl rfl rfl rfl ?_
  refine g_572_56 129 87 rfl rfl rfl ?_
  refine x_ld 0 1 2 88 rfl rfl rfl rfl rfl ?_
  refine g_572_53 308 91 rfl rfl rd_eq rfl ?_
  refine z_ild ((n : Nat) : Int) 92 rfl i_610 rfl ⟨by omega, by omega⟩ t3 rfl ?_
  refine x_ce 317 160 95 [.ref 572, zi ((k : Nat) : Int), zi ((f : Nat) : Int), zi ((n : Nat) : Int)] rfl rfl rfl (Nat.le_of_ble_eq_true rfl) rfl rfl (Nat.le_of_ble_eq_true rfl) ⟨_, _, _, rfl, o_572⟩ (Nat.le_of_ble_eq_true rfl) c1 rfl ?_
  rintro v M' ⟨rfl, hF⟩
  refine x_go 47 rfl rfl ?_
  exact kk M' hF
theorem key_run (d : Nat) {Q : ab_Q} {o1 o2 o3 o4 o5 : Option Value} {ps : Nat → prt} {c : Nat} : ∀ k, k < c → ∀ m, ∀ (M : mm) (w : List Nat) (f : Nat) (bs : List (Nat × Nat × Nat)) (u : List Nat), w.length = m → mdl M ps c → tx_L w → w.length ≤ 6 → (sts ps k).2 (tx_num w) = true → f + w.length ≤ 6 → roL (M.1 611) f w → bs.length + 2 + k ≤ 200 → u.length + w.length ≤ 250 → kyS M (bs ++ [(k, f, w.length)]) u → (∀ M', Fy M M' → kyS M' bs (u ++ sem_ky (pgo ps) k w) → ab_W (pg_G L xs) (ab_X (pg_G L xs) (d + 4)) 158 Q 47 [some (.ref 572), o1, o2, o3, o4, o5] [] (hp M' ++ es)) → ab_W (pg_G L xs) (ab_X (pg_G L xs) (d + 4)) 158 Q 47 [some (.ref 572), o1, o2, o3, o4, o5] [] (hp M ++ es) := by
  intro k
  induction k using Nat.strongRecOn with
  | _ k ih =>
    intro hk m
    induction m using Nat.strongRecOn with
    | _ m ihm =>
    intro M w f bs u hwm hm hw h6 ms hf hr hbs hul hS kk
    have hc31 := hm.1
    have hwf := (hm.2 k hk).1
    have hl := hwf.2.2.2
    have gA := mdl_gds hm
    have g2 := (gA k hk).2
    have hP := kyS_pop hS (y := (bs.length : Int)) rfl
    have hFP := Fy_pop M (bs.length : Int)
    have hmP := mdl_Fk hm (Fy_Fk hFP)
    have hrP : roL ((sI M 572 53 (bs.length : Int)).1 611) f w := by rw [sI_ne (by decide)]; exact hr
    have hK8 := hwf.1
    have hKK : ∃ K, (ps k).1 = K := ⟨_, rfl⟩
    obtain ⟨K, hK⟩ := hKK
    have hpK : pK (pgo ps) k = K := hK
    rw [show pK (pgo ps) k = K from hK] at g2
    rw [hK] at hK8
    have fin : ∀ M2, Fy (sI M 572 53 (bs.length : Int)) M2 → ∀ v, kyS M2 bs (u ++ v) → sem_ky (pgo ps) k w = v → ab_W (pg_G L xs) (ab_X (pg_G L xs) (d + 4)) 158 Q 47 [some (.ref 572), o1, o2, o3, o4, o5] [] (hp M2 ++ es) := fun M2 hF2 v hS2 e => kk M2 (Fy_trans hFP hF2) (by rw [e]; exact hS2)
    have roM : ∀ M2, Fy (sI M 572 53 (bs.length : Int)) M2 → M2.1 611 = M.1 611 := fun M2 hF2 => (hF2.1 611 (by decide) (by decide) (by decide)).trans (sI_ne (by decide))
    match K, hK8, hK, hpK, g2 with
    | 0, _, hK, hpK, g2 =>
      by_cases hT : (ps k).2.2.2 = 0
      · refine c158_step d (by omega) (by omega) (by omega) (by omega) hS (c160_0a d hmP hk hw h6 ms hf hrP (bs := bs) (by omega) (u := u) (by omega) hP hK hT) (fun M2 ⟨hS2, hF2⟩ => ?_)
        rw [List.append_nil] at hS2; exact fin M2 hF2 [] hS2 (ky_0 hpK w)
      · refine c158_step d (by omega) (by omega) (by omega) (by omega) hS (c160_0b d hmP hk hw h6 ms hf hrP (bs := bs) (by omega) (u := u) (by omega) hP hK hT) (fun M2 ⟨hS2, hF2⟩ => ?_)
        rw [List.append_nil] at hS2; exact fin M2 hF2 [] hS2 (ky_0 hpK w)
    | 1, _, hK, hpK, g2 =>
      refine c158_step d (by omega) (by omega) (by omega) (by omega) hS (c160_1 d hmP hk hw h6 ms hf hrP (bs := bs) (by omega) (u := u) (by omega) hP hK) (fun M2 ⟨hS2, hF2⟩ => ?_)
      rw [List.append_nil] at hS2; exact fin M2 hF2 [] hS2 (ky_1 hpK w)
    | 2, _, hK, hpK, g2 =>
      refine c158_step d (by omega) (by omega) (by omega) (by omega) hS (c160_2 d hmP hk hw h6 ms hf hrP (bs := bs) (by omega) (u := u) (by omega) hP hK) (fun M2 ⟨hS2, hF2⟩ => ?_)
      rw [List.append_nil] at hS2; exact fin M2 hF2 [] hS2 (ky_2 hpK w)
    | 3, _, hK, hpK, g2 =>
      refine c158_step d (by omega) (by omega) (by omega) (by omega) hS (c160_3 d hmP hk hw h6 ms hf hrP (bs := bs) (by omega) (u := u) (by omega) hP hK) (fun M2 ⟨hS2, hF2⟩ => ?_)
      rw [List.append_nil] at hS2; exact fin M2 hF2 w hS2 (ky_3 hpK g2.1 w)
    | 4, _, hK, hpK, g2 =>
      refine c158_step d (by omega) (by omega) (by omega) (by omega) hS (c160_4 d hmP hk hw h6 ms hf hrP (bs := bs) (by omega) (u := u) (by omega) hP hK) (fun M2 ⟨hS2, hF2⟩ => ?_)
      rw [List.append_nil] at hS2
      have hlk := hl (by omega)
      have e := ky_4 hpK g2.1 w
      rw [show pV (pgo ps) (pL (pgo ps) k) (tx_num w) = (sts ps (ps k).2.1).2 (tx_num w) from rfl] at e
      have hor : ((sts ps (ps k).2.1).2 (tx_num w) || (sts ps (ps k).2.2.1).2 (tx_num w)) = true := (g2.2.2 _).symm.trans ms
      cases hb : (sts ps (ps k).2.1).2 (tx_num w) with
      | true =>
        rw [hb, cond_true] at hS2 e
        exact ih _ hlk.1 (Nat.lt_trans hlk.1 hk) _ M2 w f bs u rfl (mdl_Fk hmP (Fy_Fk hF2)) hw h6 hb hf (by rw [roM M2 hF2]; exact hr) (by omega) hul hS2 (fun M3 hF3 hS3 => fin M3 (Fy_trans hF2 hF3) _ hS3 e)
      | false =>
        rw [hb, cond_false] at hS2 e
        rw [hb, Bool.false_or] at hor
        exact ih _ hlk.2 (Nat.lt_trans hlk.2 hk) _ M2 w f bs u rfl (mdl_Fk hmP (Fy_Fk hF2)) hw h6 hor hf (by rw [roM M2 hF2]; exact hr) (by omega) hul hS2 (fun M3 hF3 hS3 => fin M3 (Fy_trans hF2 hF3) _ hS3 e)
    | 5, _, hK, hpK, g2 =>
      refine c158_step d (by omega) (by omega) (by omega) (by omega) hS (c160_5 d hmP hk hw h6 ms hf hrP (bs := bs) (by omega) (u := u) (by omega) hP hK) (fun M2 ⟨hS2, hF2⟩ => ?_)
      rw [List.append_nil] at hS2
      have hlk := hl (by omega)
      have e := ky_5 hpK g2.1 w
      have hcu := jn_cut hw ((g2.2.2 _).mp ms)
      have hle : (cut (sts ps (ps k).2.1).2 (sts ps (ps k).2.2.1).2 w) ≤ w.length := cut_le _ _ w
      have ll : (w.take (cut (sts ps (ps k).2.1).2 (sts ps (ps k).2.2.1).2 w)).length = (cut (sts ps (ps k).2.1).2 (sts ps (ps k).2.2.1).2 w) := by rw [List.length_take]; omega
      have lr : (w.drop (cut (sts ps (ps k).2.1).2 (sts ps (ps k).2.2.1).2 w)).length = w.length - (cut (sts ps (ps k).2.1).2 (sts ps (ps k).2.2.1).2 w) := List.length_drop
      have hkl := ky_len gA _ (Nat.lt_trans hlk.1 hk) (w.take (cut (sts ps (ps k).2.1).2 (sts ps (ps k).2.2.1).2 w))
      have hS2' : kyS M2 ((bs ++ [((ps k).2.2.1, (f + (cut (sts ps (ps k).2.1).2 (sts ps (ps k).2.2.1).2 w)), (w.drop (cut (sts ps (ps k).2.1).2 (sts ps (ps k).2.2.1).2 w)).length)]) ++ [((ps k).2.1, f, (w.take (cut (sts ps (ps k).2.1).2 (sts ps (ps k).2.2.1).2 w)).length)]) u := by rw [List.append_assoc, ll, lr]; exact hS2
      refine ih _ hlk.1 (Nat.lt_trans hlk.1 hk) _ M2 (w.take (cut (sts ps (ps k).2.1).2 (sts ps (ps k).2.2.1).2 w)) f (bs ++ [((ps k).2.2.1, (f + (cut (sts ps (ps k).2.1).2 (sts ps (ps k).2.2.1).2 w)), (w.drop (cut (sts ps (ps k).2.1).2 (sts ps (ps k).2.2.1).2 w)).length)]) u rfl (mdl_Fk hmP (Fy_Fk hF2)) (tx_L_take hw _) (by omega) hcu.1 (by omega) (roL_take (by rw [roM M2 hF2]; exact hr) _) (by rw [List.length_append, List.length_singleton]; omega) (by omega) hS2' (fun M3 hF3 hS3 => ?_)
      refine ih _ hlk.2 (Nat.lt_trans hlk.2 hk) _ M3 (w.drop (cut (sts ps (ps k).2.1).2 (sts ps (ps k).2.2.1).2 w)) (f + (cut (sts ps (ps k).2.1).2 (sts ps (ps k).2.2.1).2 w)) bs (u ++ sem_ky (pgo ps) (ps k).2.1 (w.take (cut (sts ps (ps k).2.1).2 (sts ps (ps k).2.2.1).2 w))) rfl (mdl_Fk hmP (Fy_Fk (Fy_trans hF2 hF3))) (tx_L_drop hw _) (by omega) hcu.2 (by omega) (roL_drop (by rw [hF3.1 611 (by decide) (by decide) (by decide), roM M2 hF2]; exact hr) _) (by omega) (by rw [List.length_append]; omega) hS3 (fun M4 hF4 hS4 => ?_)
      rw [List.append_assoc] at hS4
      exact fin M4 (Fy_trans (Fy_trans hF2 hF3) hF4) _ hS4 e
    | 6, _, hK, hpK, g2 =>
      refine c158_step d (by omega) (by omega) (by omega) (by omega) hS (c160_6 d hmP hk hw h6 ms hf hrP (bs := bs) (by omega) (u := u) (by omega) hP hK) (fun M2 ⟨hS2, hF2⟩ => ?_)
      rw [List.append_nil] at hS2
      have hlk := hl (by omega)
      have e := ky_6 hpK g2.1 w
      have hcu := jn_cut hw ((g2.2.2 _).mp ms)
      have hle : (cut (sts ps (ps k).2.2.1).2 (sts ps (ps k).2.1).2 w) ≤ w.length := cut_le _ _ w
      have ll : (w.take (cut (sts ps (ps k).2.2.1).2 (sts ps (ps k).2.1).2 w)).length = (cut (sts ps (ps k).2.2.1).2 (sts ps (ps k).2.1).2 w) := by rw [List.length_take]; omega
      have lr : (w.drop (cut (sts ps (ps k).2.2.1).2 (sts ps (ps k).2.1).2 w)).length = w.length - (cut (sts ps (ps k).2.2.1).2 (sts ps (ps k).2.1).2 w) := List.length_drop
      have hkl := ky_len gA _ (Nat.lt_trans hlk.1 hk) (w.drop (cut (sts ps (ps k).2.2.1).2 (sts ps (ps k).2.1).2 w))
      have hS2' : kyS M2 ((bs ++ [((ps k).2.2.1, f, (w.take (cut (sts ps (ps k).2.2.1).2 (sts ps (ps k).2.1).2 w)).length)]) ++ [((ps k).2.1, (f + (cut (sts ps (ps k).2.2.1).2 (sts ps (ps k).2.1).2 w)), (w.drop (cut (sts ps (ps k).2.2.1).2 (sts ps (ps k).2.1).2 w)).length)]) u := by rw [List.append_assoc, ll, lr]; exact hS2
      refine ih _ hlk.1 (Nat.lt_trans hlk.1 hk) _ M2 (w.drop (cut (sts ps (ps k).2.2.1).2 (sts ps (ps k).2.1).2 w)) (f + (cut (sts ps (ps k).2.2.1).2 (sts ps (ps k).2.1).2 w)) (bs ++ [((ps k).2.2.1, f, (w.take (cut (sts ps (ps k).2.2.1).2 (sts ps (ps k).2.1).2 w)).length)]) u rfl (mdl_Fk hmP (Fy_Fk hF2)) (tx_L_drop hw _) (by omega) hcu.2 (by omega) (roL_drop (by rw [roM M2 hF2]; exact hr) _) (by rw [List.length_append, List.length_singleton]; omega) (by omega) hS2' (fun M3 hF3 hS3 => ?_)
      refine ih _ hlk.2 (Nat.lt_trans hlk.2 hk) _ M3 (w.take (cut (sts ps (ps k).2.2.1).2 (sts ps (ps k).2.1).2 w)) f bs (u ++ sem_ky (pgo ps) (ps k).2.1 (w.drop (cut (sts ps (ps k).2.2.1).2 (sts ps (ps k).2.1).2 w))) rfl (mdl_Fk hmP (Fy_Fk (Fy_trans hF2 hF3))) (tx_L_take hw _) (by omega) hcu.1 (by omega) (roL_take (by rw [hF3.1 611 (by decide) (by decide) (by decide), roM M2 hF2]; exact hr) _) (by omega) (by rw [List.length_append]; omega) hS3 (fun M4 hF4 hS4 => ?_)
      rw [List.append_assoc] at hS4
      exact fin M4 (Fy_trans (Fy_trans hF2 hF3) hF4) _ hS4 e
    | 7, _, hK, hpK, g2 =>
      by_cases hne : w = []
      · refine c158_step d (by omega) (by omega) (by omega) (by omega) hS (c160_7z d hmP hk hw h6 ms hf hrP (bs := bs) (by omega) (u := u) (by omega) hP hK hne) (fun M2 ⟨hS2, hF2⟩ => ?_)
        rw [List.append_nil] at hS2; exact fin M2 hF2 [] hS2 (by rw [ky_7 hpK g2.2.1 w, hne, rps_nil]; rfl)
      · refine c158_step d (by omega) (by omega) (by omega) (by omega) hS (c160_7 d hmP hk hw h6 ms hf hrP (bs := bs) (by omega) (u := u) (by omega) hP hK hne) (fun M2 ⟨hS2, hF2⟩ => ?_)
        rw [List.append_nil] at hS2
        have hlk := hl (by omega)
        have hcu := rq_cuf hw g2.2.2.2.2.2 hne ms
        have hle := cuf_le (sts ps (ps k).2.1).2 (sts ps k).2 w
        have hpos := cuf_pos (A := (sts ps (ps k).2.1).2) (B := (sts ps k).2) hne
        have ll : (w.take (cuf (sts ps (ps k).2.1).2 (sts ps k).2 w)).length = (cuf (sts ps (ps k).2.1).2 (sts ps k).2 w) := by rw [List.length_take]; omega
        have lr : (w.drop (cuf (sts ps (ps k).2.1).2 (sts ps k).2 w)).length = w.length - (cuf (sts ps (ps k).2.1).2 (sts ps k).2 w) := List.length_drop
        have e : sem_ky (pgo ps) k w = sem_ky (pgo ps) (ps k).2.1 (w.take (cuf (sts ps (ps k).2.1).2 (sts ps k).2 w)) ++ sem_ky (pgo ps) k (w.drop (cuf (sts ps (ps k).2.1).2 (sts ps k).2 w)) := by
          rw [ky_7 hpK g2.2.1 w, ky_7 hpK g2.2.1 (w.drop (cuf (sts ps (ps k).2.1).2 (sts ps k).2 w)), show rps (pV (pgo ps) (pL (pgo ps) k)) (pV (pgo ps) k) w = w.take (cuf (sts ps (ps k).2.1).2 (sts ps k).2 w) :: rps (pV (pgo ps) (pL (pgo ps) k)) (pV (pgo ps) k) (w.drop (cuf (sts ps (ps k).2.1).2 (sts ps k).2 w)) from rps_cons hne, List.flatMap_cons]
          rfl
        have hkl := ky_len gA _ (Nat.lt_trans hlk.1 hk) (w.take (cuf (sts ps (ps k).2.1).2 (sts ps k).2 w))
        have hS2' : kyS M2 ((bs ++ [(k, f + (cuf (sts ps (ps k).2.1).2 (sts ps k).2 w), (w.drop (cuf (sts ps (ps k).2.1).2 (sts ps k).2 w)).length)]) ++ [((ps k).2.1, f, (w.take (cuf (sts ps (ps k).2.1).2 (sts ps k).2 w)).length)]) u := by rw [List.append_assoc, ll, lr]; exact hS2
        refine ih _ hlk.1 (Nat.lt_trans hlk.1 hk) _ M2 (w.take (cuf (sts ps (ps k).2.1).2 (sts ps k).2 w)) f (bs ++ [(k, f + (cuf (sts ps (ps k).2.1).2 (sts ps k).2 w), (w.drop (cuf (sts ps (ps k).2.1).2 (sts ps k).2 w)).length)]) u rfl (mdl_Fk hmP (Fy_Fk hF2)) (tx_L_take hw _) (by omega) hcu.1 (by omega) (roL_take (by rw [roM M2 hF2]; exact hr) _) (by rw [List.length_append, List.length_singleton]; omega) (by omega) hS2' (fun M3 hF3 hS3 => ?_)
        refine ihm (w.drop (cuf (sts ps (ps k).2.1).2 (sts ps k).2 w)).length (by omega) M3 (w.drop (cuf (sts ps (ps k).2.1).2 (sts ps k).2 w)) (f + (cuf (sts ps (ps k).2.1).2 (sts ps k).2 w)) bs (u ++ sem_ky (pgo ps) (ps k).2.1 (w.take (cuf (sts ps (ps k).2.1).2 (sts ps k).2 w))) rfl (mdl_Fk hmP (Fy_Fk (Fy_trans hF2 hF3))) (tx_L_drop hw _) (by omega) hcu.2 (by omega) (roL_drop (by rw [hF3.1 611 (by decide) (by decide) (by decide), roM M2 hF2]; exact hr) _) (by omega) (by rw [List.length_append]; omega) hS3 (fun M4 hF4 hS4 => ?_)
        rw [List.append_assoc] at hS4
        exact fin M4 (Fy_trans (Fy_trans hF2 hF3) hF4) _ hS4 e
    | 8, _, hK, hpK, g2 =>
      by_cases hne : w = []
      · refine c158_step d (by omega) (by omega) (by omega) (by omega) hS (c160_8z d hmP hk hw h6 ms hf hrP (bs := bs) (by omega) (u := u) (by omega) hP hK hne) (fun M2 ⟨hS2, hF2⟩ => ?_)
        rw [List.append_nil] at hS2; exact fin M2 hF2 [] hS2 (by rw [ky_8 hpK g2.2.1 w, hne, rps_nil]; rfl)
      · refine c158_step d (by omega) (by omega) (by omega) (by omega) hS (c160_8 d hmP hk hw h6 ms hf hrP (bs := bs) (by omega) (u := u) (by omega) hP hK hne) (fun M2 ⟨hS2, hF2⟩ => ?_)
        rw [List.append_nil] at hS2
        have hlk := hl (by omega)
        have hcu := rq_cuf hw g2.2.2.2.2.2 hne ms
        have hle := cuf_le (sts ps (ps k).2.1).2 (sts ps k).2 w
        have hpos := cuf_pos (A := (sts ps (ps k).2.1).2) (B := (sts ps k).2) hne
        have ll : (w.take (cuf (sts ps (ps k).2.1).2 (sts ps k).2 w)).length = (cuf (sts ps (ps k).2.1).2 (sts ps k).2 w) := by rw [List.length_take]; omega
        have lr : (w.drop (cuf (sts ps (ps k).2.1).2 (sts ps k).2 w)).length = w.length - (cuf (sts ps (ps k).2.1).2 (sts ps k).2 w) := List.length_drop
        have e : sem_ky (pgo ps) k w = sem_ky (pgo ps) (ps k).2.1 (w.take (cuf (sts ps (ps k).2.1).2 (sts ps k).2 w)) ++ sem_ky (pgo ps) k (w.drop (cuf (sts ps (ps k).2.1).2 (sts ps k).2 w)) := by
          rw [ky_8 hpK g2.2.1 w, ky_8 hpK g2.2.1 (w.drop (cuf (sts ps (ps k).2.1).2 (sts ps k).2 w)), show rps (pV (pgo ps) (pL (pgo ps) k)) (pV (pgo ps) k) w = w.take (cuf (sts ps (ps k).2.1).2 (sts ps k).2 w) :: rps (pV (pgo ps) (pL (pgo ps) k)) (pV (pgo ps) k) (w.drop (cuf (sts ps (ps k).2.1).2 (sts ps k).2 w)) from rps_cons hne, List.flatMap_cons]
          rfl
        have hkl := ky_len gA _ (Nat.lt_trans hlk.1 hk) (w.take (cuf (sts ps (ps k).2.1).2 (sts ps k).2 w))
        have hS2' : kyS M2 ((bs ++ [(k, f + (cuf (sts ps (ps k).2.1).2 (sts ps k).2 w), (w.drop (cuf (sts ps (ps k).2.1).2 (sts ps k).2 w)).length)]) ++ [((ps k).2.1, f, (w.take (cuf (sts ps (ps k).2.1).2 (sts ps k).2 w)).length)]) u := by rw [List.append_assoc, ll, lr]; exact hS2
        refine ih _ hlk.1 (Nat.lt_trans hlk.1 hk) _ M2 (w.take (cuf (sts ps (ps k).2.1).2 (sts ps k).2 w)) f (bs ++ [(k, f + (cuf (sts ps (ps k).2.1).2 (sts ps k).2 w), (w.drop (cuf (sts ps (ps k).2.1).2 (sts ps k).2 w)).length)]) u rfl (mdl_Fk hmP (Fy_Fk hF2)) (tx_L_take hw _) (by omega) hcu.1 (by omega) (roL_take (by rw [roM M2 hF2]; exact hr) _) (by rw [List.length_append, List.length_singleton]; omega) (by omega) hS2' (fun M3 hF3 hS3 => ?_)
        refine ihm (w.drop (cuf (sts ps (ps k).2.1).2 (sts ps k).2 w)).length (by omega) M3 (w.drop (cuf (sts ps (ps k).2.1).2 (sts ps k).2 w)) (f + (cuf (sts ps (ps k).2.1).2 (sts ps k).2 w)) bs (u ++ sem_ky (pgo ps) (ps k).2.1 (w.take (cuf (sts ps (ps k).2.1).2 (sts ps k).2 w))) rfl (mdl_Fk hmP (Fy_Fk (Fy_trans hF2 hF3))) (tx_L_drop hw _) (by omega) hcu.2 (by omega) (roL_drop (by rw [hF3.1 611 (by decide) (by decide) (by decide), roM M2 hF2]; exact hr) _) (by omega) (by rw [List.length_append]; omega) hS3 (fun M4 hF4 hS4 => ?_)
        rw [List.append_assoc] at hS4
        exact fin M4 (Fy_trans (Fy_trans hF2 hF3) hF4) _ hS4 e
    | n + 9, h9, _, _, _ => exact absurd h9 (by omega)
def Fyt (M M' : mm) : Prop := (∀ a, a ≠ 572 → ¬ (608 ≤ a ∧ a ≤ 612) → M'.1 a = M.1 a) ∧ (∀ j, j ≠ 53 → j ≠ 59 → M'.1 572 j = M.1 572 j) ∧ M'.2 = M.2
theorem Fyt_Fk {M M' : mm} (h : Fyt M M') : Fk M M' := ⟨fun a h1 h2 => h.1 a (by omega) (by omega), h.2.2⟩
theorem c158_cp (d : Nat) {b N s k : Nat} (hb : isI b N) (hb2 : b ≠ 611) {w : List Nat} (h6 : w.length ≤ 6) (hr : roL (M.1 b) s w) (hs : s + w.length ≤ N) {Q : ab_Q} (kk : ∀ M', F1 611 M M' → roL (M'.1 611) 0 w → ab_W (pg_G L xs) (ab_X (pg_G L xs) d) 158 Q 29 [some (.ref 572), some (zi (k : Nat)), some (.ref b), some (zi (s : Nat)), some (zi (w.length : Nat)), some (zi (w.length : Nat))] [] (hp M' ++ es)) : ∀ m i : Nat, w.length - i = m → i ≤ w.length → ∀ M', F1 611 M M' → (∀ q, q < i → M'.1 611 (q : Int) = ((w[q]! : Nat) : Int)) → ab_W (pg_G L xs) (ab_X (pg_G L xs) d) 158 Q 3 [some (.ref 572), some (zi (k : Nat)), some (.ref b), some (zi (s : Nat)), some (zi (w.length : Nat)), some (zi (i : Nat))] [] (hp M' ++ es) := by
  have hN := hb.2.1
  intro m
  induction m using Nat.strongRecOn with
  | _ m ih =>
    intro i hm hi M' hF hq
    refine x_ld 5 2 0 5 rfl rfl rfl rfl rfl ?_
    refine x_ld 4 2 0 7 rfl rfl rfl rfl rfl ?_
    refine z_icge 29 10 rfl rfl rfl ⟨by omega, by omega⟩ ⟨by omega, by omega⟩ (fun c7 => ?_) (fun c7 => ?_)
    · have e : i = w.length := by omega
      subst e; exact kk M' hF (fun q hq2 => by rw [Nat.zero_add]; exact hq q hq2)
    · refine x_ld 0 1 2 11 rfl rfl rfl rfl rfl ?_
      refine g_572_57 132 14 rfl rfl rfl ?_
      refine x_ld 5 2 0 16 rfl rfl rfl rfl rfl ?_
      refine x_ld 2 1 2 17 rfl rfl rfl rfl rfl ?_
      refine x_ld 3 1 0 18 rfl rfl rfl rfl rfl ?_
      refine x_ld 5 2 0 20 rfl rfl rfl rfl rfl ?_
      refine z_add 21 rfl rfl ?_
      have hv : M'.1 b ((s + i : Nat) : Int) = ((w[i]! : Nat) : Int) := by rw [hF.1 b hb2]; exact hr i (by omega)
      rw [show ((s : Nat) : Int) + ((i : Nat) : Int) = ((s + i : Nat) : Int) by omega]
      refine z_ild ((w[i]! : Nat) : Int) 22 rfl hb rfl ⟨by omega, by omega⟩ hv rfl ?_
      refine z_ist 23 rfl i_611 rfl ⟨by omega, by omega⟩ rfl ?_
      refine z_inc 5 26 [some (.ref 572), some (zi ((k : Nat) : Int)), some (.ref b), some (zi ((s : Nat) : Int)), some (zi ((w.length : Nat) : Int)), some (zi (((i : Nat) : Int) + 1))] rfl rfl (Nat.le_of_ble_eq_true rfl) rfl rfl ?_
      refine x_go 3 rfl rfl ?_
      refine ih (w.length - (i + 1)) (by omega) (i + 1) rfl (by omega) _ ⟨fun a ha => (sI_ne ha).trans (hF.1 a ha), hF.2⟩ (fun q hq2 => ?_)
      rcases Nat.eq_or_lt_of_le (Nat.le_of_lt_succ hq2) with e | e
      · subst e; exact rd_eq
      · exact (rd_nk (by omega)).trans (hq q e)
theorem c158 (d : Nat) {ps : Nat → prt} {c : Nat} (hm : mdl M ps c) {k : Nat} (hk : k < c) {b N s : Nat} (hb : isI b N) (hb2 : b ≠ 611) {w : List Nat} (hw : tx_L w) (h6 : w.length ≤ 6) (ms : (sts ps k).2 (tx_num w) = true) (hr : roL (M.1 b) s w) (hs : s + w.length ≤ N) : ab_Z (pg_G L xs) (d + 5) 158 [.ref 572, zi (k : Nat), .ref b, zi (s : Nat), zi (w.length : Nat)] M es (fun v M' => v = some (zi ((tx_num (sem_ky (pgo ps) k w) : Nat) : Int)) ∧ Fyt M M') := by
  have hc31 := hm.1
  have gA := mdl_gds hm
  have hkl := ky_len gA k hk w
  have hkL := ky_L gA k hk w hw
  show ab_W (pg_G L xs) (ab_X (pg_G L xs) (d + 4)) 158 _ 0 [some (.ref 572), some (zi ((k : Nat) : Int)), some (.ref b), some (zi ((s : Nat) : Int)), some (zi ((w.length : Nat) : Int)), none] [] (hp M ++ es)
  refine x_cst (zi 0) 1 1 rfl rfl rfl ?_
  refine x_st 5 2 0 3 [some (.ref 572), some (zi ((k : Nat) : Int)), some (.ref b), some (zi ((s : Nat) : Int)), some (zi ((w.length : Nat) : Int)), some (zi 0)] rfl rfl rfl (Nat.le_of_ble_eq_true rfl) rfl rfl ?_
  refine c158_cp (d + 4) hb hb2 h6 hr hs (fun M' hF' hr' => ?_) _ 0 rfl (Nat.zero_le _) M ⟨fun _ _ => rfl, rfl⟩ (fun q hq => absurd hq (Nat.not_lt_zero q))
  refine x_ld 0 1 2 30 rfl rfl rfl rfl rfl ?_
  refine x_cst (zi 0) 1 31 rfl rfl rfl ?_
  refine s_572_53 308 34 rfl rfl rfl rfl rfl rfl ?_
  refine x_ld 0 1 2 35 rfl rfl rfl rfl rfl ?_
  refine x_cst (zi 0) 1 36 rfl rfl rfl ?_
  refine s_572_59 311 39 rfl rfl rfl rfl rfl rfl ?_
  refine x_ld 0 1 2 40 rfl rfl rfl rfl rfl ?_
  refine x_ld 1 1 0 41 rfl rfl rfl rfl rfl ?_
  refine x_cst (zi 0) 1 42 rfl rfl rfl ?_
  refine x_ld 4 2 0 44 rfl rfl rfl rfl rfl ?_
  refine x_ce 314 159 47 [.ref 572, zi ((k : Nat) : Int), zi 0, zi ((w.length : Nat) : Int)] rfl rfl rfl (Nat.le_of_ble_eq_true rfl) rfl rfl (Nat.le_of_ble_eq_true rfl) ⟨_, _, _, rfl, o_572⟩ (Nat.le_of_ble_eq_true rfl) (c159 (M := (sI (sI M' 572 53 0) 572 59 0)) (d + 3) (bs := []) (u := []) ⟨⟨(rd_nk (by decide)).trans rd_eq, fun i hi => absurd hi (Nat.not_lt_zero i)⟩, rd_eq, fun i hi => absurd hi (Nat.not_lt_zero i)⟩ (by decide) (k := k) (f := 0)) rfl ?_
  rintro v M4 ⟨rfl, hS4, hF4⟩
  have hF0 : Fyt M (sI (sI M' 572 53 0) 572 59 0) := ⟨fun a h1 h2 => by rw [sI_ne h1, sI_ne h1]; exact hF'.1 a (by omega), fun j h1 h2 => (rd_nk h2).trans ((rd_nk h1).trans (by rw [hF'.1 572 (by decide)])), hF'.2⟩
  have hF4' : Fyt M M4 := ⟨fun a h1 h2 => (hF4.1 a h1 (by omega) (by omega)).trans (hF0.1 a h1 h2), fun j h1 h2 => (hF4.2.1 j h1 h2).trans (hF0.2.1 j h1 h2), hF4.2.2.trans hF0.2.2⟩
  refine key_run d k hk _ M4 w 0 [] [] rfl (mdl_Fk hm (Fyt_Fk hF4')) hw h6 ms (by omega) (by rw [hF4.1 611 (by decide) (by decide) (by decide), sI_ne (by decide), sI_ne (by decide)]; exact hr') (by simp; omega) (by simp; omega) hS4 (fun M5 hF5 hS5 => ?_)
  rw [List.nil_append] at hS5
  have hF5' : Fyt M M5 := ⟨fun a h1 h2 => (hF5.1 a h1 (by omega) (by omega)).trans (hF4'.1 a h1 h2), fun j h1 h2 => (hF5.2.1 j h1 h2).trans (hF4'.2.1 j h1 h2), hF5.2.2.trans hF4'.2.2⟩
  refine x_ld 0 1 2 48 rfl rfl rfl rfl rfl ?_
  refine g_572_53 308 51 rfl rfl hS5.1.1 rfl ?_
  refine z_ifle 98 54 rfl rfl rfl (rg_lit 0 rfl) (fun _ => ?_) (fun c => absurd (Int.le_refl 0) c)
  refine x_ld 0 1 2 99 rfl rfl rfl rfl rfl ?_
  refine x_ld 0 1 2 100 rfl rfl rfl rfl rfl ?_
  refine g_572_58 135 103 rfl rfl rfl ?_
  refine x_cst (zi ((0 : Nat) : Int)) 1 104 rfl rfl rfl ?_
  refine x_ld 0 1 2 105 rfl rfl rfl rfl rfl ?_
  refine g_572_59 311 108 rfl rfl hS5.2.1 rfl ?_
  refine x_cv 274 144 111 [.ref 572, .ref 612, zi ((0 : Nat) : Int), zi (((sem_ky (pgo ps) k w).length : Nat) : Int)] rfl rfl rfl (Nat.le_of_ble_eq_true rfl) rfl rfl (Nat.le_of_ble_eq_true rfl) ⟨_, _, _, rfl, o_572⟩ (Nat.le_of_ble_eq_true rfl) (c144 (d + 3) i_612 hkL hS5.2.2 (by omega)) rfl ?_
  rw [nz_le (Nat.le_trans hkl h6)]
  refine x_ret rfl rfl rfl rfl ?_
  exact ⟨_, M5, rfl, rfl, rfl, hF5'⟩
end D9
