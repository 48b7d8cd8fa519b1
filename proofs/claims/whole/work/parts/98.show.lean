/-! OURS, printed by wip/tools/gen98.py: the reference shows. -/
section D8
variable {L : Nat} {xs : Nat → Int32} {M : mm} {es : ab_H}
theorem c142_0a (d : Nat) {ps : Nat → prt} {c : Nat} (hm : mdl M ps c) {k : Nat} (hk : k < c) {w : List Nat} (hw : tx_L w) (h6 : w.length ≤ 6) (ms : (sts ps k).1 (tx_num w) = true) {f : Nat} (hf : f + w.length ≤ 6) (hr : roL (M.1 596) f w) {bs : List (Nat × Nat × Nat)} (hbs : bs.length + 6 ≤ 256) {u : List Nat} (hu : u.length < 256) (hS : shS M bs u) (hK : (ps k).1 = 0) (hT : (ps k).2.2.2 = 0) : ab_Z (pg_G L xs) (d + 4) 142 [.ref 572, zi (k : Nat), zi (f : Nat), zi (w.length : Nat)] M es (fun v M' => v = none ∧ shS M' (bs ++ []) (u ++ w) ∧ Fs M M') := by
  have hc31 := hm.1
  obtain ⟨hwf, hok, qkd, qlf, qrt, qlt, agk, _⟩ := hm.2 k hk
  have hl := hwf.2.2.2
  rw [hK] at qkd qlf qrt
  rw [show mKd 0 (ps k).2.2.2 = (if (ps k).2.2.2 = 0 then 1 else 0) from rfl] at qkd
  have hkd : M.1 576 (k : Int) = 1 := by rw [qkd, if_pos hT]
  have hlf : M.1 577 (k : Int) = -1 := qlf
  have hrt : M.1 578 (k : Int) = -1 := qrt
  have g := (mdl_gds hm k hk).2
  rw [show pK (pgo ps) k = 0 from hK] at g
  have h1 := one_len hw ((g.1 _).symm.trans ms)
  have hr0 : M.1 596 (f : Int) = ((w[0]! : Nat) : Int) := by have := hr 0 (by omega); rwa [Nat.add_zero] at this
  have hw1 : w = [w[0]!] := by obtain ⟨a, ha⟩ := List.length_eq_one_iff.mp h1; rw [ha]; rfl
  show ab_W (pg_G L xs) (ab_X (pg_G L xs) (d + 3)) 142 _ 0 [some (.ref 572), some (zi ((k : Nat) : Int)), some (zi ((f : Nat) : Int)), some (zi ((w.length : Nat) : Int)), none, none, none, none] [] (hp M ++ es)
  refine x_ld 0 1 2 1 rfl rfl rfl rfl rfl ?_
  refine g_572_8 22 4 rfl rfl rfl ?_
  refine x_ld 1 1 0 5 rfl rfl rfl rfl rfl ?_
  refine z_ild (-1) 6 rfl i_577 rfl ⟨by omega, by omega⟩ hlf rfl ?_
  refine x_st 4 2 0 8 [some (.ref 572), some (zi ((k : Nat) : Int)), some (zi ((f : Nat) : Int)), some (zi ((w.length : Nat) : Int)), some (zi (-1)), none, none, none] rfl rfl rfl (Nat.le_of_ble_eq_true rfl) rfl rfl ?_
  refine x_ld 0 1 2 9 rfl rfl rfl rfl rfl ?_
  refine g_572_9 25 12 rfl rfl rfl ?_
  refine x_ld 1 1 0 13 rfl rfl rfl rfl rfl ?_
  refine z_ild (-1) 14 rfl i_578 rfl ⟨by omega, by omega⟩ hrt rfl ?_
  refine x_st 5 2 0 16 [some (.ref 572), some (zi ((k : Nat) : Int)), some (zi ((f : Nat) : Int)), some (zi ((w.length : Nat) : Int)), some (zi (-1)), some (zi (-1)), none, none] rfl rfl rfl (Nat.le_of_ble_eq_true rfl) rfl rfl ?_
  refine x_ld 0 1 2 17 rfl rfl rfl rfl rfl ?_
  refine g_572_7 19 20 rfl rfl rfl ?_
  refine x_ld 1 1 0 21 rfl rfl rfl rfl rfl ?_
  refine z_ild 1 22 rfl i_576 rfl ⟨by omega, by omega⟩ hkd rfl ?_
  refine x_tin 76 rfl (by decide) (by decide) rfl rfl ?_
  refine x_ld 0 1 2 77 rfl rfl rfl rfl rfl ?_
  refine x_ld 0 1 2 78 rfl rfl rfl rfl rfl ?_
  refine g_572_37 87 81 rfl rfl rfl ?_
  refine x_ld 2 1 0 82 rfl rfl rfl rfl rfl ?_
  refine z_ild ((w[0]! : Nat) : Int) 83 rfl i_596 rfl ⟨by omega, by omega⟩ hr0 rfl ?_
  refine x_ce 298 143 86 [.ref 572, zi ((w[0]! : Nat) : Int)] rfl rfl rfl (Nat.le_of_ble_eq_true rfl) rfl rfl (Nat.le_of_ble_eq_true rfl) ⟨_, _, _, rfl, o_572⟩ (Nat.le_of_ble_eq_true rfl) (c143 (d + 2) hS hu) rfl ?_
  rintro v M2 ⟨rfl, hS2, hF2⟩
  refine x_go 287 rfl rfl ?_
  refine x_rtv rfl rfl ?_
  exact ⟨none, M2, rfl, rfl, rfl, by rw [List.append_nil, hw1]; exact hS2, hF2⟩
theorem c142_0b (d : Nat) {ps : Nat → prt} {c : Nat} (hm : mdl M ps c) {k : Nat} (hk : k < c) {w : List Nat} (hw : tx_L w) (h6 : w.length ≤ 6) (ms : (sts ps k).1 (tx_num w) = true) {f : Nat} (hf : f + w.length ≤ 6) (hr : roL (M.1 596) f w) {bs : List (Nat × Nat × Nat)} (hbs : bs.length + 6 ≤ 256) {u : List Nat} (hu : u.length < 256) (hS : shS M bs u) (hK : (ps k).1 = 0) (hT : ¬ (ps k).2.2.2 = 0) : ab_Z (pg_G L xs) (d + 4) 142 [.ref 572, zi (k : Nat), zi (f : Nat), zi (w.length : Nat)] M es (fun v M' => v = none ∧ shS M' (bs ++ []) (u ++ w) ∧ Fs M M') := by
  have hc31 := hm.1
  obtain ⟨hwf, hok, qkd, qlf, qrt, qlt, agk, _⟩ := hm.2 k hk
  have hl := hwf.2.2.2
  rw [hK] at qkd qlf qrt
  rw [show mKd 0 (ps k).2.2.2 = (if (ps k).2.2.2 = 0 then 1 else 0) from rfl] at qkd
  have hkd : M.1 576 (k : Int) = 0 := by rw [qkd, if_neg hT]
  have hlf : M.1 577 (k : Int) = -1 := qlf
  have hrt : M.1 578 (k : Int) = -1 := qrt
  have g := (mdl_gds hm k hk).2
  rw [show pK (pgo ps) k = 0 from hK] at g
  have h1 := one_len hw ((g.1 _).symm.trans ms)
  have hr0 : M.1 596 (f : Int) = ((w[0]! : Nat) : Int) := by have := hr 0 (by omega); rwa [Nat.add_zero] at this
  have hw1 : w = [w[0]!] := by obtain ⟨a, ha⟩ := List.length_eq_one_iff.mp h1; rw [ha]; rfl
  show ab_W (pg_G L xs) (ab_X (pg_G L xs) (d + 3)) 142 _ 0 [some (.ref 572), some (zi ((k : Nat) : Int)), some (zi ((f : Nat) : Int)), some (zi ((w.length : Nat) : Int)), none, none, none, none] [] (hp M ++ es)
  refine x_ld 0 1 2 1 rfl rfl rfl rfl rfl ?_
  refine g_572_8 22 4 rfl rfl rfl ?_
  refine x_ld 1 1 0 5 rfl rfl rfl rfl rfl ?_
  refine z_ild (-1) 6 rfl i_577 rfl ⟨by omega, by omega⟩ hlf rfl ?_
  refine x_st 4 2 0 8 [some (.ref 572), some (zi ((k : Nat) : Int)), some (zi ((f : Nat) : Int)), some (zi ((w.length : Nat) : Int)), some (zi (-1)), none, none, none] rfl rfl rfl (Nat.le_of_ble_eq_true rfl) rfl rfl ?_
  refine x_ld 0 1 2 9 rfl rfl rfl rfl rfl ?_
  refine g_572_9 25 12 rfl rfl rfl ?_
  refine x_ld 1 1 0 13 rfl rfl rfl rfl rfl ?_
  refine z_ild (-1) 14 rfl i_578 rfl ⟨by omega, by omega⟩ hrt rfl ?_
  refine x_st 5 2 0 16 [some (.ref 572), some (zi ((k : Nat) : Int)), some (zi ((f : Nat) : Int)), some (zi ((w.length : Nat) : Int)), some (zi (-1)), some (zi (-1)), none, none] rfl rfl rfl (Nat.le_of_ble_eq_true rfl) rfl rfl ?_
  refine x_ld 0 1 2 17 rfl rfl rfl rfl rfl ?_
  refine g_572_7 19 20 rfl rfl rfl ?_
  refine x_ld 1 1 0 21 rfl rfl rfl rfl rfl ?_
  refine z_ild 0 22 rfl i_576 rfl ⟨by omega, by omega⟩ hkd rfl ?_
  refine x_tin 76 rfl (by decide) (by decide) rfl rfl ?_
  refine x_ld 0 1 2 77 rfl rfl rfl rfl rfl ?_
  refine x_ld 0 1 2 78 rfl rfl rfl rfl rfl ?_
  refine g_572_37 87 81 rfl rfl rfl ?_
  refine x_ld 2 1 0 82 rfl rfl rfl rfl rfl ?_
  refine z_ild ((w[0]! : Nat) : Int) 83 rfl i_596 rfl ⟨by omega, by omega⟩ hr0 rfl ?_
  refine x_ce 298 143 86 [.ref 572, zi ((w[0]! : Nat) : Int)] rfl rfl rfl (Nat.le_of_ble_eq_true rfl) rfl rfl (Nat.le_of_ble_eq_true rfl) ⟨_, _, _, rfl, o_572⟩ (Nat.le_of_ble_eq_true rfl) (c143 (d + 2) hS hu) rfl ?_
  rintro v M2 ⟨rfl, hS2, hF2⟩
  refine x_go 287 rfl rfl ?_
  refine x_rtv rfl rfl ?_
  exact ⟨none, M2, rfl, rfl, rfl, by rw [List.append_nil, hw1]; exact hS2, hF2⟩
theorem c142_1 (d : Nat) {ps : Nat → prt} {c : Nat} (hm : mdl M ps c) {k : Nat} (hk : k < c) {w : List Nat} (hw : tx_L w) (h6 : w.length ≤ 6) (ms : (sts ps k).1 (tx_num w) = true) {f : Nat} (hf : f + w.length ≤ 6) (hr : roL (M.1 596) f w) {bs : List (Nat × Nat × Nat)} (hbs : bs.length + 6 ≤ 256) {u : List Nat} (hu : u.length < 256) (hS : shS M bs u) (hK : (ps k).1 = 1) : ab_Z (pg_G L xs) (d + 4) 142 [.ref 572, zi (k : Nat), zi (f : Nat), zi (w.length : Nat)] M es (fun v M' => v = none ∧ shS M' (bs ++ []) (u ++ []) ∧ Fs M M') := by
  have hc31 := hm.1
  obtain ⟨hwf, hok, qkd, qlf, qrt, qlt, agk, _⟩ := hm.2 k hk
  have hl := hwf.2.2.2
  rw [hK] at qkd qlf qrt
  have hkd : M.1 576 (k : Int) = 2 := qkd
  have hlf : M.1 577 (k : Int) = -1 := qlf
  have hrt : M.1 578 (k : Int) = -1 := qrt
  show ab_W (pg_G L xs) (ab_X (pg_G L xs) (d + 3)) 142 _ 0 [some (.ref 572), some (zi ((k : Nat) : Int)), some (zi ((f : Nat) : Int)), some (zi ((w.length : Nat) : Int)), none, none, none, none] [] (hp M ++ es)
  refine x_ld 0 1 2 1 rfl rfl rfl rfl rfl ?_
  refine g_572_8 22 4 rfl rfl rfl ?_
  refine x_ld 1 1 0 5 rfl rfl rfl rfl rfl ?_
  refine z_ild (-1) 6 rfl i_577 rfl ⟨by omega, by omega⟩ hlf rfl ?_
  refine x_st 4 2 0 8 [some (.ref 572), some (zi ((k : Nat) : Int)), some (zi ((f : Nat) : Int)), some (zi ((w.length : Nat) : Int)), some (zi (-1)), none, none, none] rfl rfl rfl (Nat.le_of_ble_eq_true rfl) rfl rfl ?_
  refine x_ld 0 1 2 9 rfl rfl rfl rfl rfl ?_
  refine g_572_9 25 12 rfl rfl rfl ?_
  refine x_ld 1 1 0 13 rfl rfl rfl rfl rfl ?_
  refine z_ild (-1) 14 rfl i_578 rfl ⟨by omega, by omega⟩ hrt rfl ?_
  refine x_st 5 2 0 16 [some (.ref 572), some (zi ((k : Nat) : Int)), some (zi ((f : Nat) : Int)), some (zi ((w.length : Nat) : Int)), some (zi (-1)), some (zi (-1)), none, none] rfl rfl rfl (Nat.le_of_ble_eq_true rfl) rfl rfl ?_
  refine x_ld 0 1 2 17 rfl rfl rfl rfl rfl ?_
  refine g_572_7 19 20 rfl rfl rfl ?_
  refine x_ld 1 1 0 21 rfl rfl rfl rfl rfl ?_
  refine z_ild 2 22 rfl i_576 rfl ⟨by omega, by omega⟩ hkd rfl ?_
  refine x_tin 89 rfl (by decide) (by decide) rfl rfl ?_
  refine x_go 287 rfl rfl ?_
  refine x_rtv rfl rfl ?_
  exact ⟨none, M, rfl, rfl, rfl, by rw [List.append_nil, List.append_nil]; exact hS, Fs_refl M⟩
theorem c142_2 (d : Nat) {ps : Nat → prt} {c : Nat} (hm : mdl M ps c) {k : Nat} (hk : k < c) {w : List Nat} (hw : tx_L w) (h6 : w.length ≤ 6) (ms : (sts ps k).1 (tx_num w) = true) {f : Nat} (hf : f + w.length ≤ 6) (hr : roL (M.1 596) f w) {bs : List (Nat × Nat × Nat)} (hbs : bs.length + 6 ≤ 256) {u : List Nat} (hu : u.length < 256) (hS : shS M bs u) (hK : (ps k).1 = 2) : ab_Z (pg_G L xs) (d + 4) 142 [.ref 572, zi (k : Nat), zi (f : Nat), zi (w.length : Nat)] M es (fun v M' => v = none ∧ shS M' (bs ++ []) (u ++ [(ps k).2.2.2 - 1]) ∧ Fs M M') := by
  have hc31 := hm.1
  obtain ⟨hwf, hok, qkd, qlf, qrt, qlt, agk, _⟩ := hm.2 k hk
  have hl := hwf.2.2.2
  rw [hK] at qkd qlf qrt
  have hkd : M.1 576 (k : Int) = 3 := qkd
  have hlf : M.1 577 (k : Int) = -1 := qlf
  have hrt : M.1 578 (k : Int) = -1 := qrt
  have hlt : M.1 579 (k : Int) = (((ps k).2.2.2 - 1 : Nat) : Int) := by rw [qlt (by omega)]; unfold mLt; have := hwf.2.2.1 hK; rw [if_neg (by omega)]; omega
  show ab_W (pg_G L xs) (ab_X (pg_G L xs) (d + 3)) 142 _ 0 [some (.ref 572), some (zi ((k : Nat) : Int)), some (zi ((f : Nat) : Int)), some (zi ((w.length : Nat) : Int)), none, none, none, none] [] (hp M ++ es)
  refine x_ld 0 1 2 1 rfl rfl rfl rfl rfl ?_
  refine g_572_8 22 4 rfl rfl rfl ?_
  refine x_ld 1 1 0 5 rfl rfl rfl rfl rfl ?_
  refine z_ild (-1) 6 rfl i_577 rfl ⟨by omega, by omega⟩ hlf rfl ?_
  refine x_st 4 2 0 8 [some (.ref 572), some (zi ((k : Nat) : Int)), some (zi ((f : Nat) : Int)), some (zi ((w.length : Nat) : Int)), some (zi (-1)), none, none, none] rfl rfl rfl (Nat.le_of_ble_eq_true rfl) rfl rfl ?_
  refine x_ld 0 1 2 9 rfl rfl rfl rfl rfl ?_
  refine g_572_9 25 12 rfl rfl rfl ?_
  refine x_ld 1 1 0 13 rfl rfl rfl rfl rfl ?_
  refine z_ild (-1) 14 rfl i_578 rfl ⟨by omega, by omega⟩ hrt rfl ?_
  refine x_st 5 2 0 16 [some (.ref 572), some (zi ((k : Nat) : Int)), some (zi ((f : Nat) : Int)), some (zi ((w.length : Nat) : Int)), some (zi (-1)), some (zi (-1)), none, none] rfl rfl rfl (Nat.le_of_ble_eq_true rfl) rfl rfl ?_
  refine x_ld 0 1 2 17 rfl rfl rfl rfl rfl ?_
  refine g_572_7 19 20 rfl rfl rfl ?_
  refine x_ld 1 1 0 21 rfl rfl rfl rfl rfl ?_
  refine z_ild 3 22 rfl i_576 rfl ⟨by omega, by omega⟩ hkd rfl ?_
  refine x_tin 92 rfl (by decide) (by decide) rfl rfl ?_
  refine x_ld 0 1 2 93 rfl rfl rfl rfl rfl ?_
  refine x_ld 0 1 2 94 rfl rfl rfl rfl rfl ?_
  refine g_572_10 28 97 rfl rfl rfl ?_
  refine x_ld 1 1 0 98 rfl rfl rfl rfl rfl ?_
  refine z_ild (((ps k).2.2.2 - 1 : Nat) : Int) 99 rfl i_579 rfl ⟨by omega, by omega⟩ hlt rfl ?_
  refine x_ce 298 143 102 [.ref 572, zi (((ps k).2.2.2 - 1 : Nat) : Int)] rfl rfl rfl (Nat.le_of_ble_eq_true rfl) rfl rfl (Nat.le_of_ble_eq_true rfl) ⟨_, _, _, rfl, o_572⟩ (Nat.le_of_ble_eq_true rfl) (c143 (d + 2) hS hu) rfl ?_
  rintro v M2 ⟨rfl, hS2, hF2⟩
  refine x_go 287 rfl rfl ?_
  refine x_rtv rfl rfl ?_
  exact ⟨none, M2, rfl, rfl, rfl, by rw [List.append_nil]; exact hS2, hF2⟩
theorem c142_3 (d : Nat) {ps : Nat → prt} {c : Nat} (hm : mdl M ps c) {k : Nat} (hk : k < c) {w : List Nat} (hw : tx_L w) (h6 : w.length ≤ 6) (ms : (sts ps k).1 (tx_num w) = true) {f : Nat} (hf : f + w.length ≤ 6) (hr : roL (M.1 596) f w) {bs : List (Nat × Nat × Nat)} (hbs : bs.length + 6 ≤ 256) {u : List Nat} (hu : u.length < 256) (hS : shS M bs u) (hK : (ps k).1 = 3) : ab_Z (pg_G L xs) (d + 4) 142 [.ref 572, zi (k : Nat), zi (f : Nat), zi (w.length : Nat)] M es (fun v M' => v = none ∧ shS M' (bs ++ [((ps k).2.1, f, w.length)]) (u ++ []) ∧ Fs M M') := by
  have hc31 := hm.1
  obtain ⟨hwf, hok, qkd, qlf, qrt, qlt, agk, _⟩ := hm.2 k hk
  have hl := hwf.2.2.2
  rw [hK] at qkd qlf qrt
  have hkd : M.1 576 (k : Int) = 6 := qkd
  have hlf : M.1 577 (k : Int) = (((ps k).2.1 : Nat) : Int) := qlf
  have hrt : M.1 578 (k : Int) = -1 := qrt
  have hlk := hl (by omega)
  have al := (hm.2 _ (Nat.lt_trans hlk.1 hk)).2.2.2.2.2.2.1
  show ab_W (pg_G L xs) (ab_X (pg_G L xs) (d + 3)) 142 _ 0 [some (.ref 572), some (zi ((k : Nat) : Int)), some (zi ((f : Nat) : Int)), some (zi ((w.length : Nat) : Int)), none, none, none, none] [] (hp M ++ es)
  refine x_ld 0 1 2 1 rfl rfl rfl rfl rfl ?_
  refine g_572_8 22 4 rfl rfl rfl ?_
  refine x_ld 1 1 0 5 rfl rfl rfl rfl rfl ?_
  refine z_ild (((ps k).2.1 : Nat) : Int) 6 rfl i_577 rfl ⟨by omega, by omega⟩ hlf rfl ?_
  refine x_st 4 2 0 8 [some (.ref 572), some (zi ((k : Nat) : Int)), some (zi ((f : Nat) : Int)), some (zi ((w.length : Nat) : Int)), some (zi (((ps k).2.1 : Nat) : Int)), none, none, none] rfl rfl rfl (Nat.le_of_ble_eq_true rfl) rfl rfl ?_
  refine x_ld 0 1 2 9 rfl rfl rfl rfl rfl ?_
  refine g_572_9 25 12 rfl rfl rfl ?_
  refine x_ld 1 1 0 13 rfl rfl rfl rfl rfl ?_
  refine z_ild (-1) 14 rfl i_578 rfl ⟨by omega, by omega⟩ hrt rfl ?_
  refine x_st 5 2 0 16 [some (.ref 572), some (zi ((k : Nat) : Int)), some (zi ((f : Nat) : Int)), some (zi ((w.length : Nat) : Int)), some (zi (((ps k).2.1 : Nat) : Int)), some (zi (-1)), none, none] rfl rfl rfl (Nat.le_of_ble_eq_true rfl) rfl rfl ?_
  refine x_ld 0 1 2 17 rfl rfl rfl rfl rfl ?_
  refine g_572_7 19 20 rfl rfl rfl ?_
  refine x_ld 1 1 0 21 rfl rfl rfl rfl rfl ?_
  refine z_ild 6 22 rfl i_576 rfl ⟨by omega, by omega⟩ hkd rfl ?_
  refine x_tin 105 rfl (by decide) (by decide) rfl rfl ?_
  refine x_ld 0 1 2 106 rfl rfl rfl rfl rfl ?_
  refine x_ld 4 2 0 108 rfl rfl rfl rfl rfl ?_
  refine x_ld 2 1 0 109 rfl rfl rfl rfl rfl ?_
  refine x_ld 3 1 0 110 rfl rfl rfl rfl rfl ?_
  refine x_ce 291 141 113 [.ref 572, zi (((ps k).2.1 : Nat) : Int), zi ((f : Nat) : Int), zi ((w.length : Nat) : Int)] rfl rfl rfl (Nat.le_of_ble_eq_true rfl) rfl rfl (Nat.le_of_ble_eq_true rfl) ⟨_, _, _, rfl, o_572⟩ (Nat.le_of_ble_eq_true rfl) (c141 (d + 2) hS (by omega)) rfl ?_
  rintro v M2 ⟨rfl, hS2, hF2⟩
  refine x_go 287 rfl rfl ?_
  refine x_rtv rfl rfl ?_
  exact ⟨none, M2, rfl, rfl, rfl, by rw [List.append_nil]; exact hS2, hF2⟩
theorem c142_4 (d : Nat) {ps : Nat → prt} {c : Nat} (hm : mdl M ps c) {k : Nat} (hk : k < c) {w : List Nat} (hw : tx_L w) (h6 : w.length ≤ 6) (ms : (sts ps k).1 (tx_num w) = true) {f : Nat} (hf : f + w.length ≤ 6) (hr : roL (M.1 596) f w) {bs : List (Nat × Nat × Nat)} (hbs : bs.length + 6 ≤ 256) {u : List Nat} (hu : u.length < 256) (hS : shS M bs u) (hK : (ps k).1 = 4) : ab_Z (pg_G L xs) (d + 4) 142 [.ref 572, zi (k : Nat), zi (f : Nat), zi (w.length : Nat)] M es (fun v M' => v = none ∧ shS M' (bs ++ [(bif (sts ps (ps k).2.1).1 (tx_num w) then (ps k).2.1 else (ps k).2.2.1, f, w.length)]) (u ++ []) ∧ Fs M M') := by
  have hc31 := hm.1
  obtain ⟨hwf, hok, qkd, qlf, qrt, qlt, agk, _⟩ := hm.2 k hk
  have hl := hwf.2.2.2
  rw [hK] at qkd qlf qrt
  have hkd : M.1 576 (k : Int) = 7 := qkd
  have hlf : M.1 577 (k : Int) = (((ps k).2.1 : Nat) : Int) := qlf
  have hrt : M.1 578 (k : Int) = (((ps k).2.2.1 : Nat) : Int) := qrt
  have hlk := hl (by omega)
  have al := (hm.2 _ (Nat.lt_trans hlk.1 hk)).2.2.2.2.2.2.1
  have ar := (hm.2 _ (Nat.lt_trans hlk.2 hk)).2.2.2.2.2.2.1
  have hlt9 := num_lt hw h6
  show ab_W (pg_G L xs) (ab_X (pg_G L xs) (d + 3)) 142 _ 0 [some (.ref 572), some (zi ((k : Nat) : Int)), some (zi ((f : Nat) : Int)), some (zi ((w.length : Nat) : Int)), none, none, none, none] [] (hp M ++ es)
  refine x_ld 0 1 2 1 rfl rfl rfl rfl rfl ?_
  refine g_572_8 22 4 rfl rfl rfl ?_
  refine x_ld 1 1 0 5 rfl rfl rfl rfl rfl ?_
  refine z_ild (((ps k).2.1 : Nat) : Int) 6 rfl i_577 rfl ⟨by omega, by omega⟩ hlf rfl ?_
  refine x_st 4 2 0 8 [some (.ref 572), some (zi ((k : Nat) : Int)), some (zi ((f : Nat) : Int)), some (zi ((w.length : Nat) : Int)), some (zi (((ps k).2.1 : Nat) : Int)), none, none, none] rfl rfl rfl (Nat.le_of_ble_eq_true rfl) rfl rfl ?_
  refine x_ld 0 1 2 9 rfl rfl rfl rfl rfl ?_
  refine g_572_9 25 12 rfl rfl rfl ?_
  refine x_ld 1 1 0 13 rfl rfl rfl rfl rfl ?_
  refine z_ild (((ps k).2.2.1 : Nat) : Int) 14 rfl i_578 rfl ⟨by omega, by omega⟩ hrt rfl ?_
  refine x_st 5 2 0 16 [some (.ref 572), some (zi ((k : Nat) : Int)), some (zi ((f : Nat) : Int)), some (zi ((w.length : Nat) : Int)), some (zi (((ps k).2.1 : Nat) : Int)), some (zi (((ps k).2.2.1 : Nat) : Int)), none, none] rfl rfl rfl (Nat.le_of_ble_eq_true rfl) rfl rfl ?_
  refine x_ld 0 1 2 17 rfl rfl rfl rfl rfl ?_
  refine g_572_7 19 20 rfl rfl rfl ?_
  refine x_ld 1 1 0 21 rfl rfl rfl rfl rfl ?_
  refine z_ild 7 22 rfl i_576 rfl ⟨by omega, by omega⟩ hkd rfl ?_
  refine x_tin 116 rfl (by decide) (by decide) rfl rfl ?_
  refine x_ld 0 1 2 117 rfl rfl rfl rfl rfl ?_
  refine x_ld 0 1 2 118 rfl rfl rfl rfl rfl ?_
  refine g_572_11 31 121 rfl rfl rfl ?_
  refine x_ld 4 2 0 123 rfl rfl rfl rfl rfl ?_
  refine x_ld 0 1 2 124 rfl rfl rfl rfl rfl ?_
  refine x_ld 0 1 2 125 rfl rfl rfl rfl rfl ?_
  refine g_572_37 87 128 rfl rfl rfl ?_
  refine x_ld 2 1 0 129 rfl rfl rfl rfl rfl ?_
  refine x_ld 3 1 0 130 rfl rfl rfl rfl rfl ?_
  refine x_cv 274 144 133 [.ref 572, .ref 596, zi ((f : Nat) : Int), zi ((w.length : Nat) : Int)] rfl rfl rfl (Nat.le_of_ble_eq_true rfl) rfl rfl (Nat.le_of_ble_eq_true rfl) ⟨_, _, _, rfl, o_572⟩ (Nat.le_of_ble_eq_true rfl) (by have q := c144 (L := L) (xs := xs) (es := es) (M := M) (d + 2) i_596 hw hr (by omega); rw [nz_le h6] at q; exact q) rfl ?_
  refine x_cv 228 123 136 [.ref 580, zi (((ps k).2.1 : Nat) : Int), zi ((tx_num w : Nat) : Int)] rfl rfl rfl (Nat.le_of_ble_eq_true rfl) rfl rfl (Nat.le_of_ble_eq_true rfl) trivial (Nat.le_of_ble_eq_true rfl) (c123 (d + 2) i_580 (k := (ps k).2.1) (t := tx_num w) (by omega) (by omega)) rfl ?_
  rw [show M.2.1 580 (1152 * (((ps k).2.1 : Nat) : Int) + ((tx_num w : Nat) : Int)) = (sts ps (ps k).2.1).1 (tx_num w) from al _ (by omega)]
  rcases Bool.eq_false_or_eq_true ((sts ps (ps k).2.1).1 (tx_num w)) with hb | hb
  · rw [hb]
    refine z_ifeq 144 139 rfl rfl rfl (rg_lit 1 rfl) (fun c => absurd c (by decide)) (fun _ => ?_)
    refine x_ld 4 2 0 141 rfl rfl rfl rfl rfl ?_
    refine x_go 146 rfl rfl ?_
    refine x_ld 2 1 0 147 rfl rfl rfl rfl rfl ?_
    refine x_ld 3 1 0 148 rfl rfl rfl rfl rfl ?_
    refine x_ce 291 141 151 [.ref 572, zi (((ps k).2.1 : Nat) : Int), zi ((f : Nat) : Int), zi ((w.length : Nat) : Int)] rfl rfl rfl (Nat.le_of_ble_eq_true rfl) rfl rfl (Nat.le_of_ble_eq_true rfl) ⟨_, _, _, rfl, o_572⟩ (Nat.le_of_ble_eq_true rfl) (c141 (d + 2) hS (by omega)) rfl ?_
    rintro v M2 ⟨rfl, hS2, hF2⟩
    refine x_go 287 rfl rfl ?_
    refine x_rtv rfl rfl ?_
    exact ⟨none, M2, rfl, rfl, rfl, by rw [List.append_nil]; exact hS2, hF2⟩
  · rw [hb]
    refine z_ifeq 144 139 rfl rfl rfl (rg_lit 0 rfl) (fun _ => ?_) (fun c => absurd c (by decide))
    refine x_ld 5 2 0 146 rfl rfl rfl rfl rfl ?_
    refine x_ld 2 1 0 147 rfl rfl rfl rfl rfl ?_
    refine x_ld 3 1 0 148 rfl rfl rfl rfl rfl ?_
    refine x_ce 291 141 151 [.ref 572, zi (((ps k).2.2.1 : Nat) : Int), zi ((f : Nat) : Int), zi ((w.length : Nat) : Int)] rfl rfl rfl (Nat.le_of_ble_eq_true rfl) rfl rfl (Nat.le_of_ble_eq_true rfl) ⟨_, _, _, rfl, o_572⟩ (Nat.le_of_ble_eq_true rfl) (c141 (d + 2) hS (by omega)) rfl ?_
    rintro v M2 ⟨rfl, hS2, hF2⟩
    refine x_go 287 rfl rfl ?_
    refine x_rtv rfl rfl ?_
    exact ⟨none, M2, rfl, rfl, rfl, by rw [List.append_nil]; exact hS2, hF2⟩
theorem c142_5 (d : Nat) {ps : Nat → prt} {c : Nat} (hm : mdl M ps c) {k : Nat} (hk : k < c) {w : List Nat} (hw : tx_L w) (h6 : w.length ≤ 6) (ms : (sts ps k).1 (tx_num w) = true) {f : Nat} (hf : f + w.length ≤ 6) (hr : roL (M.1 596) f w) {bs : List (Nat × Nat × Nat)} (hbs : bs.length + 6 ≤ 256) {u : List Nat} (hu : u.length < 256) (hS : shS M bs u) (hK : (ps k).1 = 5) : ab_Z (pg_G L xs) (d + 4) 142 [.ref 572, zi (k : Nat), zi (f : Nat), zi (w.length : Nat)] M es (fun v M' => v = none ∧ shS M' (bs ++ [((ps k).2.2.1, f + (cut (sts ps (ps k).2.1).1 (sts ps (ps k).2.2.1).1 w), w.length - (cut (sts ps (ps k).2.1).1 (sts ps (ps k).2.2.1).1 w)), ((ps k).2.1, f, (cut (sts ps (ps k).2.1).1 (sts ps (ps k).2.2.1).1 w))]) (u ++ []) ∧ Fs M M') := by
  have hc31 := hm.1
  obtain ⟨hwf, hok, qkd, qlf, qrt, qlt, agk, _⟩ := hm.2 k hk
  have hl := hwf.2.2.2
  rw [hK] at qkd qlf qrt
  have hkd : M.1 576 (k : Int) = 4 := qkd
  have hlf : M.1 577 (k : Int) = (((ps k).2.1 : Nat) : Int) := qlf
  have hrt : M.1 578 (k : Int) = (((ps k).2.2.1 : Nat) : Int) := qrt
  have hlk := hl (by omega)
  have al := (hm.2 _ (Nat.lt_trans hlk.1 hk)).2.2.2.2.2.2.1
  have ar := (hm.2 _ (Nat.lt_trans hlk.2 hk)).2.2.2.2.2.2.1
  have hle := cut_le (sts ps (ps k).2.1).1 (sts ps (ps k).2.2.1).1 w
  show ab_W (pg_G L xs) (ab_X (pg_G L xs) (d + 3)) 142 _ 0 [some (.ref 572), some (zi ((k : Nat) : Int)), some (zi ((f : Nat) : Int)), some (zi ((w.length : Nat) : Int)), none, none, none, none] [] (hp M ++ es)
  refine x_ld 0 1 2 1 rfl rfl rfl rfl rfl ?_
  refine g_572_8 22 4 rfl rfl rfl ?_
  refine x_ld 1 1 0 5 rfl rfl rfl rfl rfl ?_
  refine z_ild (((ps k).2.1 : Nat) : Int) 6 rfl i_577 rfl ⟨by omega, by omega⟩ hlf rfl ?_
  refine x_st 4 2 0 8 [some (.ref 572), some (zi ((k : Nat) : Int)), some (zi ((f : Nat) : Int)), some (zi ((w.length : Nat) : Int)), some (zi (((ps k).2.1 : Nat) : Int)), none, none, none] rfl rfl rfl (Nat.le_of_ble_eq_true rfl) rfl rfl ?_
  refine x_ld 0 1 2 9 rfl rfl rfl rfl rfl ?_
  refine g_572_9 25 12 rfl rfl rfl ?_
  refine x_ld 1 1 0 13 rfl rfl rfl rfl rfl ?_
  refine z_ild (((ps k).2.2.1 : Nat) : Int) 14 rfl i_578 rfl ⟨by omega, by omega⟩ hrt rfl ?_
  refine x_st 5 2 0 16 [some (.ref 572), some (zi ((k : Nat) : Int)), some (zi ((f : Nat) : Int)), some (zi ((w.length : Nat) : Int)), some (zi (((ps k).2.1 : Nat) : Int)), some (zi (((ps k).2.2.1 : Nat) : Int)), none, none] rfl rfl rfl (Nat.le_of_ble_eq_true rfl) rfl rfl ?_
  refine x_ld 0 1 2 17 rfl rfl rfl rfl rfl ?_
  refine g_572_7 19 20 rfl rfl rfl ?_
  refine x_ld 1 1 0 21 rfl rfl rfl rfl rfl ?_
  refine z_ild 4 22 rfl i_576 rfl ⟨by omega, by omega⟩ hkd rfl ?_
  refine x_tin 164 rfl (by decide) (by decide) rfl rfl ?_
  refine x_ld 0 1 2 165 rfl rfl rfl rfl rfl ?_
  refine x_ld 0 1 2 166 rfl rfl rfl rfl rfl ?_
  refine g_572_11 31 169 rfl rfl rfl ?_
  refine x_ld 4 2 0 171 rfl rfl rfl rfl rfl ?_
  refine x_ld 5 2 0 173 rfl rfl rfl rfl rfl ?_
  refine x_ld 0 1 2 174 rfl rfl rfl rfl rfl ?_
  refine g_572_37 87 177 rfl rfl rfl ?_
  refine x_ld 2 1 0 178 rfl rfl rfl rfl rfl ?_
  refine x_ld 3 1 0 179 rfl rfl rfl rfl rfl ?_
  refine x_cv 304 147 182 [.ref 572, .ref 580, zi (((ps k).2.1 : Nat) : Int), zi (((ps k).2.2.1 : Nat) : Int), .ref 596, zi ((f : Nat) : Int), zi ((w.length : Nat) : Int)] rfl rfl rfl (Nat.le_of_ble_eq_true rfl) rfl rfl (Nat.le_of_ble_eq_true rfl) ⟨_, _, _, rfl, o_572⟩ (Nat.le_of_ble_eq_true rfl) (c147 (d + 1) i_580 (f := (ps k).2.1) (g := (ps k).2.2.1) (by omega) (by omega) i_596 hw h6 hr (by omega)) rfl ?_
  rw [cut_ag al ar hw h6]
  refine x_st 6 2 0 184 [some (.ref 572), some (zi ((k : Nat) : Int)), some (zi ((f : Nat) : Int)), some (zi ((w.length : Nat) : Int)), some (zi (((ps k).2.1 : Nat) : Int)), some (zi (((ps k).2.2.1 : Nat) : Int)), some (zi (((cut (sts ps (ps k).2.1).1 (sts ps (ps k).2.2.1).1 w) : Nat) : Int)), none] rfl rfl rfl (Nat.le_of_ble_eq_true rfl) rfl rfl ?_
  refine x_ld 0 1 2 185 rfl rfl rfl rfl rfl ?_
  refine g_572_7 19 188 rfl rfl rfl ?_
  refine x_ld 1 1 0 189 rfl rfl rfl rfl rfl ?_
  refine z_ild 4 190 rfl i_576 rfl ⟨by omega, by omega⟩ hkd rfl ?_
  refine x_cst (zi 4) 1 191 rfl rfl rfl ?_
  refine z_icne 198 194 rfl rfl rfl (rg_lit 4 rfl) (rg_lit 4 rfl) (fun c => absurd c (by decide)) (fun _ => ?_)
  refine x_cst (zi 1) 1 195 rfl rfl rfl ?_
  refine x_go 199 rfl rfl ?_
  refine x_st 7 2 0 201 [some (.ref 572), some (zi ((k : Nat) : Int)), some (zi ((f : Nat) : Int)), some (zi ((w.length : Nat) : Int)), some (zi (((ps k).2.1 : Nat) : Int)), some (zi (((ps k).2.2.1 : Nat) : Int)), some (zi (((cut (sts ps (ps k).2.1).1 (sts ps (ps k).2.2.1).1 w) : Nat) : Int)), some (zi 1)] rfl rfl rfl (Nat.le_of_ble_eq_true rfl) rfl rfl ?_
  refine x_ld 0 1 2 202 rfl rfl rfl rfl rfl ?_
  refine x_ld 7 2 0 204 rfl rfl rfl rfl rfl ?_
  refine z_ifeq 212 207 rfl rfl rfl (rg_lit 1 rfl) (fun c => absurd c (by decide)) (fun _ => ?_)
  refine x_ld 5 2 0 209 rfl rfl rfl rfl rfl ?_
  refine x_go 214 rfl rfl ?_
  refine x_ld 7 2 0 216 rfl rfl rfl rfl rfl ?_
  refine z_ifeq 226 219 rfl rfl rfl (rg_lit 1 rfl) (fun c => absurd c (by decide)) (fun _ => ?_)
  refine x_ld 2 1 0 220 rfl rfl rfl rfl rfl ?_
  refine x_ld 6 2 0 222 rfl rfl rfl rfl rfl ?_
  refine z_add 223 rfl rfl ?_
  rw [show ((f : Nat) : Int) + (((cut (sts ps (ps k).2.1).1 (sts ps (ps k).2.2.1).1 w) : Nat) : Int) = ((f + (cut (sts ps (ps k).2.1).1 (sts ps (ps k).2.2.1).1 w) : Nat) : Int) from (by omega)]
  refine x_go 227 rfl rfl ?_
  refine x_ld 7 2 0 229 rfl rfl rfl rfl rfl ?_
  refine z_ifeq 239 232 rfl rfl rfl (rg_lit 1 rfl) (fun c => absurd c (by decide)) (fun _ => ?_)
  refine x_ld 3 1 0 233 rfl rfl rfl rfl rfl ?_
  refine x_ld 6 2 0 235 rfl rfl rfl rfl rfl ?_
  refine z_sub 236 rfl rfl ?_
  rw [show ((w.length : Nat) : Int) - (((cut (sts ps (ps k).2.1).1 (sts ps (ps k).2.2.1).1 w) : Nat) : Int) = ((w.length - (cut (sts ps (ps k).2.1).1 (sts ps (ps k).2.2.1).1 w) : Nat) : Int) from (by omega)]
  refine x_go 241 rfl rfl ?_
  refine x_ce 291 141 244 [.ref 572, zi (((ps k).2.2.1 : Nat) : Int), zi ((f + (cut (sts ps (ps k).2.1).1 (sts ps (ps k).2.2.1).1 w) : Nat) : Int), zi ((w.length - (cut (sts ps (ps k).2.1).1 (sts ps (ps k).2.2.1).1 w) : Nat) : Int)] rfl rfl rfl (Nat.le_of_ble_eq_true rfl) rfl rfl (Nat.le_of_ble_eq_true rfl) ⟨_, _, _, rfl, o_572⟩ (Nat.le_of_ble_eq_true rfl) (c141 (d + 2) hS (by omega)) rfl ?_
  rintro v M2 ⟨rfl, hS2, hF2⟩
  refine x_ld 0 1 2 245 rfl rfl rfl rfl rfl ?_
  refine x_ld 7 2 0 247 rfl rfl rfl rfl rfl ?_
  refine z_ifeq 255 250 rfl rfl rfl (rg_lit 1 rfl) (fun c => absurd c (by decide)) (fun _ => ?_)
  refine x_ld 4 2 0 252 rfl rfl rfl rfl rfl ?_
  refine x_go 257 rfl rfl ?_
  refine x_ld 7 2 0 259 rfl rfl rfl rfl rfl ?_
  refine z_ifeq 266 262 rfl rfl rfl (rg_lit 1 rfl) (fun c => absurd c (by decide)) (fun _ => ?_)
  refine x_ld 2 1 0 263 rfl rfl rfl rfl rfl ?_
  refine x_go 270 rfl rfl ?_
  refine x_ld 7 2 0 272 rfl rfl rfl rfl rfl ?_
  refine z_ifeq 280 275 rfl rfl rfl (rg_lit 1 rfl) (fun c => absurd c (by decide)) (fun _ => ?_)
  refine x_ld 6 2 0 277 rfl rfl rfl rfl rfl ?_
  refine x_go 284 rfl rfl ?_
  refine x_ce 291 141 287 [.ref 572, zi (((ps k).2.1 : Nat) : Int), zi ((f : Nat) : Int), zi (((cut (sts ps (ps k).2.1).1 (sts ps (ps k).2.2.1).1 w) : Nat) : Int)] rfl rfl rfl (Nat.le_of_ble_eq_true rfl) rfl rfl (Nat.le_of_ble_eq_true rfl) ⟨_, _, _, rfl, o_572⟩ (Nat.le_of_ble_eq_true rfl) (c141 (M := M2) (d + 2) hS2 (by rw [List.length_append, List.length_singleton]; omega)) rfl ?_
  rintro v3 M3 ⟨rfl, hS3, hF3⟩
  refine x_rtv rfl rfl ?_
  exact ⟨none, M3, rfl, rfl, rfl, by rw [List.append_nil]; rw [List.append_assoc] at hS3; exact hS3, Fs_trans hF2 hF3⟩
theorem c142_6 (d : Nat) {ps : Nat → prt} {c : Nat} (hm : mdl M ps c) {k : Nat} (hk : k < c) {w : List Nat} (hw : tx_L w) (h6 : w.length ≤ 6) (ms : (sts ps k).1 (tx_num w) = true) {f : Nat} (hf : f + w.length ≤ 6) (hr : roL (M.1 596) f w) {bs : List (Nat × Nat × Nat)} (hbs : bs.length + 6 ≤ 256) {u : List Nat} (hu : u.length < 256) (hS : shS M bs u) (hK : (ps k).1 = 6) : ab_Z (pg_G L xs) (d + 4) 142 [.ref 572, zi (k : Nat), zi (f : Nat), zi (w.length : Nat)] M es (fun v M' => v = none ∧ shS M' (bs ++ [((ps k).2.1, f, (cut (sts ps (ps k).2.1).1 (sts ps (ps k).2.2.1).1 w)), ((ps k).2.2.1, f + (cut (sts ps (ps k).2.1).1 (sts ps (ps k).2.2.1).1 w), w.length - (cut (sts ps (ps k).2.1).1 (sts ps (ps k).2.2.1).1 w))]) (u ++ []) ∧ Fs M M') := by
  have hc31 := hm.1
  obtain ⟨hwf, hok, qkd, qlf, qrt, qlt, agk, _⟩ := hm.2 k hk
  have hl := hwf.2.2.2
  rw [hK] at qkd qlf qrt
  have hkd : M.1 576 (k : Int) = 5 := qkd
  have hlf : M.1 577 (k : Int) = (((ps k).2.1 : Nat) : Int) := qlf
  have hrt : M.1 578 (k : Int) = (((ps k).2.2.1 : Nat) : Int) := qrt
  have hlk := hl (by omega)
  have al := (hm.2 _ (Nat.lt_trans hlk.1 hk)).2.2.2.2.2.2.1
  have ar := (hm.2 _ (Nat.lt_trans hlk.2 hk)).2.2.2.2.2.2.1
  have hle := cut_le (sts ps (ps k).2.1).1 (sts ps (ps k).2.2.1).1 w
  show ab_W (pg_G L xs) (ab_X (pg_G L xs) (d + 3)) 142 _ 0 [some (.ref 572), some (zi ((k : Nat) : Int)), some (zi ((f : Nat) : Int)), some (zi ((w.length : Nat) : Int)), none, none, none, none] [] (hp M ++ es)
  refine x_ld 0 1 2 1 rfl rfl rfl rfl rfl ?_
  refine g_572_8 22 4 rfl rfl rfl ?_
  refine x_ld 1 1 0 5 rfl rfl rfl rfl rfl ?_
  refine z_ild (((ps k).2.1 : Nat) : Int) 6 rfl i_577 rfl ⟨by omega, by omega⟩ hlf rfl ?_
  refine x_st 4 2 0 8 [some (.ref 572), some (zi ((k : Nat) : Int)), some (zi ((f : Nat) : Int)), some (zi ((w.length : Nat) : Int)), some (zi (((ps k).2.1 : Nat) : Int)), none, none, none] rfl rfl rfl (Nat.le_of_ble_eq_true rfl) rfl rfl ?_
  refine x_ld 0 1 2 9 rfl rfl rfl rfl rfl ?_
  refine g_572_9 25 12 rfl rfl rfl ?_
  refine x_ld 1 1 0 13 rfl rfl rfl rfl rfl ?_
  refine z_ild (((ps k).2.2.1 : Nat) : Int) 14 rfl i_578 rfl ⟨by omega, by omega⟩ hrt rfl ?_
  refine x_st 5 2 0 16 [some (.ref 572), some (zi ((k : Nat) : Int)), some (zi ((f : Nat) : Int)), some (zi ((w.length : Nat) : Int)), some (zi (((ps k).2.1 : Nat) : Int)), some (zi (((ps k).2.2.1 : Nat) : Int)), none, none] rfl rfl rfl (Nat.le_of_ble_eq_true rfl) rfl rfl ?_
  refine x_ld 0 1 2 17 rfl rfl rfl rfl rfl ?_
  refine g_572_7 19 20 rfl rfl rfl ?_
  refine x_ld 1 1 0 21 rfl rfl rfl rfl rfl ?_
  refine z_ild 5 22 rfl i_576 rfl ⟨by omega, by omega⟩ hkd rfl ?_
  refine x_tin 164 rfl (by decide) (by decide) rfl rfl ?_
  refine x_ld 0 1 2 165 rfl rfl rfl rfl rfl ?_
  refine x_ld 0 1 2 166 rfl rfl rfl rfl rfl ?_
  refine g_572_11 31 169 rfl rfl rfl ?_
  refine x_ld 4 2 0 171 rfl rfl rfl rfl rfl ?_
  refine x_ld 5 2 0 173 rfl rfl rfl rfl rfl ?_
  refine x_ld 0 1 2 174 rfl rfl rfl rfl rfl ?_
  refine g_572_37 87 177 rfl rfl rfl ?_
  refine x_ld 2 1 0 178 rfl rfl rfl rfl rfl ?_
  refine x_ld 3 1 0 179 rfl rfl rfl rfl rfl ?_
  refine x_cv 304 147 182 [.ref 572, .ref 580, zi (((ps k).2.1 : Nat) : Int), zi (((ps k).2.2.1 : Nat) : Int), .ref 596, zi ((f : Nat) : Int), zi ((w.length : Nat) : Int)] rfl rfl rfl (Nat.le_of_ble_eq_true rfl) rfl rfl (Nat.le_of_ble_eq_true rfl) ⟨_, _, _, rfl, o_572⟩ (Nat.le_of_ble_eq_true rfl) (c147 (d + 1) i_580 (f := (ps k).2.1) (g := (ps k).2.2.1) (by omega) (by omega) i_596 hw h6 hr (by omega)) rfl ?_
  rw [cut_ag al ar hw h6]
  refine x_st 6 2 0 184 [some (.ref 572), some (zi ((k : Nat) : Int)), some (zi ((f : Nat) : Int)), some (zi ((w.length : Nat) : Int)), some (zi (((ps k).2.1 : Nat) : Int)), some (zi (((ps k).2.2.1 : Nat) : Int)), some (zi (((cut (sts ps (ps k).2.1).1 (sts ps (ps k).2.2.1).1 w) : Nat) : Int)), none] rfl rfl rfl (Nat.le_of_ble_eq_true rfl) rfl rfl ?_
  refine x_ld 0 1 2 185 rfl rfl rfl rfl rfl ?_
  refine g_572_7 19 188 rfl rfl rfl ?_
  refine x_ld 1 1 0 189 rfl rfl rfl rfl rfl ?_
  refine z_ild 5 190 rfl i_576 rfl ⟨by omega, by omega⟩ hkd rfl ?_
  refine x_cst (zi 4) 1 191 rfl rfl rfl ?_
  refine z_icne 198 194 rfl rfl rfl (rg_lit 5 rfl) (rg_lit 4 rfl) (fun _ => ?_) (fun c => absurd c (by decide))
  refine x_cst (zi 0) 1 199 rfl rfl rfl ?_
  refine x_st 7 2 0 201 [some (.ref 572), some (zi ((k : Nat) : Int)), some (zi ((f : Nat) : Int)), some (zi ((w.length : Nat) : Int)), some (zi (((ps k).2.1 : Nat) : Int)), some (zi (((ps k).2.2.1 : Nat) : Int)), some (zi (((cut (sts ps (ps k).2.1).1 (sts ps (ps k).2.2.1).1 w) : Nat) : Int)), some (zi 0)] rfl rfl rfl (Nat.le_of_ble_eq_true rfl) rfl rfl ?_
  refine x_ld 0 1 2 202 rfl rfl rfl rfl rfl ?_
  refine x_ld 7 2 0 204 rfl rfl rfl rfl rfl ?_
  refine z_ifeq 212 207 rfl rfl rfl (rg_lit 0 rfl) (fun _ => ?_) (fun c => absurd c (by decide))
  refine x_ld 4 2 0 214 rfl rfl rfl rfl rfl ?_
  refine x_ld 7 2 0 216 rfl rfl rfl rfl rfl ?_
  refine z_ifeq 226 219 rfl rfl rfl (rg_lit 0 rfl) (fun _ => ?_) (fun c => absurd c (by decide))
  refine x_ld 2 1 0 227 rfl rfl rfl rfl rfl ?_
  refine x_ld 7 2 0 229 rfl rfl rfl rfl rfl ?_
  refine z_ifeq 239 232 rfl rfl rfl (rg_lit 0 rfl) (fun _ => ?_) (fun c => absurd c (by decide))
  refine x_ld 6 2 0 241 rfl rfl rfl rfl rfl ?_
  refine x_ce 291 141 244 [.ref 572, zi (((ps k).2.1 : Nat) : Int), zi ((f : Nat) : Int), zi (((cut (sts ps (ps k).2.1).1 (sts ps (ps k).2.2.1).1 w) : Nat) : Int)] rfl rfl rfl (Nat.le_of_ble_eq_true rfl) rfl rfl (Nat.le_of_ble_eq_true rfl) ⟨_, _, _, rfl, o_572⟩ (Nat.le_of_ble_eq_true rfl) (c141 (d + 2) hS (by omega)) rfl ?_
  rintro v M2 ⟨rfl, hS2, hF2⟩
  refine x_ld 0 1 2 245 rfl rfl rfl rfl rfl ?_
  refine x_ld 7 2 0 247 rfl rfl rfl rfl rfl ?_
  refine z_ifeq 255 250 rfl rfl rfl (rg_lit 0 rfl) (fun _ => ?_) (fun c => absurd c (by decide))
  refine x_ld 5 2 0 257 rfl rfl rfl rfl rfl ?_
  refine x_ld 7 2 0 259 rfl rfl rfl rfl rfl ?_
  refine z_ifeq 266 262 rfl rfl rfl (rg_lit 0 rfl) (fun _ => ?_) (fun c => absurd c (by decide))
  refine x_ld 2 1 0 267 rfl rfl rfl rfl rfl ?_
  refine x_ld 6 2 0 269 rfl rfl rfl rfl rfl ?_
  refine z_add 270 rfl rfl ?_
  rw [show ((f : Nat) : Int) + (((cut (sts ps (ps k).2.1).1 (sts ps (ps k).2.2.1).1 w) : Nat) : Int) = ((f + (cut (sts ps (ps k).2.1).1 (sts ps (ps k).2.2.1).1 w) : Nat) : Int) from (by omega)]
  refine x_ld 7 2 0 272 rfl rfl rfl rfl rfl ?_
  refine z_ifeq 280 275 rfl rfl rfl (rg_lit 0 rfl) (fun _ => ?_) (fun c => absurd c (by decide))
  refine x_ld 3 1 0 281 rfl rfl rfl rfl rfl ?_
  refine x_ld 6 2 0 283 rfl rfl rfl rfl rfl ?_
  refine z_sub 284 rfl rfl ?_
  rw [show ((w.length : Nat) : Int) - (((cut (sts ps (ps k).2.1).1 (sts ps (ps k).2.2.1).1 w) : Nat) : Int) = ((w.length - (cut (sts ps (ps k).2.1).1 (sts ps (ps k).2.2.1).1 w) : Nat) : Int) from (by omega)]
  refine x_ce 291 141 287 [.ref 572, zi (((ps k).2.2.1 : Nat) : Int), zi ((f + (cut (sts ps (ps k).2.1).1 (sts ps (ps k).2.2.1).1 w) : Nat) : Int), zi ((w.length - (cut (sts ps (ps k).2.1).1 (sts ps (ps k).2.2.1).1 w) : Nat) : Int)] rfl rfl rfl (Nat.le_of_ble_eq_true rfl) rfl rfl (Nat.le_of_ble_eq_true rfl) ⟨_, _, _, rfl, o_572⟩ (Nat.le_of_ble_eq_true rfl) (c141 (M := M2) (d + 2) hS2 (by rw [List.length_append, List.length_singleton]; omega)) rfl ?_
  rintro v3 M3 ⟨rfl, hS3, hF3⟩
  refine x_rtv rfl rfl ?_
  exact ⟨none, M3, rfl, rfl, rfl, by rw [List.append_nil]; rw [List.append_assoc] at hS3; exact hS3, Fs_trans hF2 hF3⟩
theorem c142_7 (d : Nat) {ps : Nat → prt} {c : Nat} (hm : mdl M ps c) {k : Nat} (hk : k < c) {w : List Nat} (hw : tx_L w) (h6 : w.length ≤ 6) (ms : (sts ps k).1 (tx_num w) = true) {f : Nat} (hf : f + w.length ≤ 6) (hr : roL (M.1 596) f w) {bs : List (Nat × Nat × Nat)} (hbs : bs.length + 6 ≤ 256) {u : List Nat} (hu : u.length < 256) (hS : shS M bs u) (hK : (ps k).1 = 7) : ab_Z (pg_G L xs) (d + 4) 142 [.ref 572, zi (k : Nat), zi (f : Nat), zi (w.length : Nat)] M es (fun v M' => v = none ∧ shS M' (bs ++ itL (ps k).2.1 f (rps (sts ps (ps k).2.1).1 (sts ps k).1 w) 0) (u ++ []) ∧ Fs M M') := by
  have hc31 := hm.1
  obtain ⟨hwf, hok, qkd, qlf, qrt, qlt, agk, _⟩ := hm.2 k hk
  have hl := hwf.2.2.2
  rw [hK] at qkd qlf qrt
  have hkd : M.1 576 (k : Int) = 8 := qkd
  have hlf : M.1 577 (k : Int) = (((ps k).2.1 : Nat) : Int) := qlf
  have hrt : M.1 578 (k : Int) = -1 := qrt
  have hlk := hl (by omega)
  have al := (hm.2 _ (Nat.lt_trans hlk.1 hk)).2.2.2.2.2.2.1
  show ab_W (pg_G L xs) (ab_X (pg_G L xs) (d + 3)) 142 _ 0 [some (.ref 572), some (zi ((k : Nat) : Int)), some (zi ((f : Nat) : Int)), some (zi ((w.length : Nat) : Int)), none, none, none, none] [] (hp M ++ es)
  refine x_ld 0 1 2 1 rfl rfl rfl rfl rfl ?_
  refine g_572_8 22 4 rfl rfl rfl ?_
  refine x_ld 1 1 0 5 rfl rfl rfl rfl rfl ?_
  refine z_ild (((ps k).2.1 : Nat) : Int) 6 rfl i_577 rfl ⟨by omega, by omega⟩ hlf rfl ?_
  refine x_st 4 2 0 8 [some (.ref 572), some (zi ((k : Nat) : Int)), some (zi ((f : Nat) : Int)), some (zi ((w.length : Nat) : Int)), some (zi (((ps k).2.1 : Nat) : Int)), none, none, none] rfl rfl rfl (Nat.le_of_ble_eq_true rfl) rfl rfl ?_
  refine x_ld 0 1 2 9 rfl rfl rfl rfl rfl ?_
  refine g_572_9 25 12 rfl rfl rfl ?_
  refine x_ld 1 1 0 13 rfl rfl rfl rfl rfl ?_
  refine z_ild (-1) 14 rfl i_578 rfl ⟨by omega, by omega⟩ hrt rfl ?_
  refine x_st 5 2 0 16 [some (.ref 572), some (zi ((k : Nat) : Int)), some (zi ((f : Nat) : Int)), some (zi ((w.length : Nat) : Int)), some (zi (((ps k).2.1 : Nat) : Int)), some (zi (-1)), none, none] rfl rfl rfl (Nat.le_of_ble_eq_true rfl) rfl rfl ?_
  refine x_ld 0 1 2 17 rfl rfl rfl rfl rfl ?_
  refine g_572_7 19 20 rfl rfl rfl ?_
  refine x_ld 1 1 0 21 rfl rfl rfl rfl rfl ?_
  refine z_ild 8 22 rfl i_576 rfl ⟨by omega, by omega⟩ hkd rfl ?_
  refine x_tin 154 rfl (by decide) (by decide) rfl rfl ?_
  refine x_ld 0 1 2 155 rfl rfl rfl rfl rfl ?_
  refine x_ld 1 1 0 156 rfl rfl rfl rfl rfl ?_
  refine x_ld 2 1 0 157 rfl rfl rfl rfl rfl ?_
  refine x_ld 3 1 0 158 rfl rfl rfl rfl rfl ?_
  refine x_ce 301 145 161 [.ref 572, zi ((k : Nat) : Int), zi ((f : Nat) : Int), zi ((w.length : Nat) : Int)] rfl rfl rfl (Nat.le_of_ble_eq_true rfl) rfl rfl (Nat.le_of_ble_eq_true rfl) ⟨_, _, _, rfl, o_572⟩ (Nat.le_of_ble_eq_true rfl) (c145 d hm hk (by omega) hw h6 ms hf hr hbs hS) rfl ?_
  rintro v M2 ⟨rfl, hS2, hF2⟩
  refine x_go 287 rfl rfl ?_
  refine x_rtv rfl rfl ?_
  exact ⟨none, M2, rfl, rfl, rfl, by rw [List.append_nil]; exact hS2, hF2⟩
theorem c142_8 (d : Nat) {ps : Nat → prt} {c : Nat} (hm : mdl M ps c) {k : Nat} (hk : k < c) {w : List Nat} (hw : tx_L w) (h6 : w.length ≤ 6) (ms : (sts ps k).1 (tx_num w) = true) {f : Nat} (hf : f + w.length ≤ 6) (hr : roL (M.1 596) f w) {bs : List (Nat × Nat × Nat)} (hbs : bs.length + 6 ≤ 256) {u : List Nat} (hu : u.length < 256) (hS : shS M bs u) (hK : (ps k).1 = 8) : ab_Z (pg_G L xs) (d + 4) 142 [.ref 572, zi (k : Nat), zi (f : Nat), zi (w.length : Nat)] M es (fun v M' => v = none ∧ shS M' (bs ++ itL (ps k).2.1 f (rps (sts ps (ps k).2.1).1 (sts ps k).1 w) 0) (u ++ []) ∧ Fs M M') := by
  have hc31 := hm.1
  obtain ⟨hwf, hok, qkd, qlf, qrt, qlt, agk, _⟩ := hm.2 k hk
  have hl := hwf.2.2.2
  rw [hK] at qkd qlf qrt
  have hkd : M.1 576 (k : Int) = 9 := qkd
  have hlf : M.1 577 (k : Int) = (((ps k).2.1 : Nat) : Int) := qlf
  have hrt : M.1 578 (k : Int) = -1 := qrt
  have hlk := hl (by omega)
  have al := (hm.2 _ (Nat.lt_trans hlk.1 hk)).2.2.2.2.2.2.1
  show ab_W (pg_G L xs) (ab_X (pg_G L xs) (d + 3)) 142 _ 0 [some (.ref 572), some (zi ((k : Nat) : Int)), some (zi ((f : Nat) : Int)), some (zi ((w.length : Nat) : Int)), none, none, none, none] [] (hp M ++ es)
  refine x_ld 0 1 2 1 rfl rfl rfl rfl rfl ?_
  refine g_572_8 22 4 rfl rfl rfl ?_
  refine x_ld 1 1 0 5 rfl rfl rfl rfl rfl ?_
  refine z_ild (((ps k).2.1 : Nat) : Int) 6 rfl i_577 rfl ⟨by omega, by omega⟩ hlf rfl ?_
  refine x_st 4 2 0 8 [some (.ref 572), some (zi ((k : Nat) : Int)), some (zi ((f : Nat) : Int)), some (zi ((w.length : Nat) : Int)), some (zi (((ps k).2.1 : Nat) : Int)), none, none, none] rfl rfl rfl (Nat.le_of_ble_eq_true rfl) rfl rfl ?_
  refine x_ld 0 1 2 9 rfl rfl rfl rfl rfl ?_
  refine g_572_9 25 12 rfl rfl rfl ?_
  refine x_ld 1 1 0 13 rfl rfl rfl rfl rfl ?_
  refine z_ild (-1) 14 rfl i_578 rfl ⟨by omega, by omega⟩ hrt rfl ?_
  refine x_st 5 2 0 16 [some (.ref 572), some (zi ((k : Nat) : Int)), some (zi ((f : Nat) : Int)), some (zi ((w.length : Nat) : Int)), some (zi (((ps k).2.1 : Nat) : Int)), some (zi (-1)), none, none] rfl rfl rfl (Nat.le_of_ble_eq_true rfl) rfl rfl ?_
  refine x_ld 0 1 2 17 rfl rfl rfl rfl rfl ?_
  refine g_572_7 19 20 rfl rfl rfl ?_
  refine x_ld 1 1 0 21 rfl rfl rfl rfl rfl ?_
  refine z_ild 9 22 rfl i_576 rfl ⟨by omega, by omega⟩ hkd rfl ?_
  refine x_tin 154 rfl (by decide) (by decide) rfl rfl ?_
  refine x_ld 0 1 2 155 rfl rfl rfl rfl rfl ?_
  refine x_ld 1 1 0 156 rfl rfl rfl rfl rfl ?_
  refine x_ld 2 1 0 157 rfl rfl rfl rfl rfl ?_
  refine x_ld 3 1 0 158 rfl rfl rfl rfl rfl ?_
  refine x_ce 301 145 161 [.ref 572, zi ((k : Nat) : Int), zi ((f : Nat) : Int), zi ((w.length : Nat) : Int)] rfl rfl rfl (Nat.le_of_ble_eq_true rfl) rfl rfl (Nat.le_of_ble_eq_true rfl) ⟨_, _, _, rfl, o_572⟩ (Nat.le_of_ble_eq_true rfl) (c145 d hm hk (by omega) hw h6 ms hf hr hbs hS) rfl ?_
  rintro v M2 ⟨rfl, hS2, hF2⟩
  refine x_go 287 rfl rfl ?_
  refine x_rtv rfl rfl ?_
  exact ⟨none, M2, rfl, rfl, rfl, by rw [List.append_nil]; exact hS2, hF2⟩
theorem shS_pop {M : mm} {bs : List (Nat × Nat × Nat)} {x : Nat × Nat × Nat} {u : List Nat} (h : shS M (bs ++ [x]) u) {y : Int} (hy : y = (bs.length : Int)) : shS (sI M 572 47 y) bs u := by
  refine ⟨⟨rd_eq.trans hy, fun i hi => ?_⟩, (rd_nk (by decide)).trans h.2.1, ?_⟩
  · have := h.1.2 i (by rw [List.length_append]; omega)
    rw [snoc_lt hi] at this
    exact ⟨(rd_na (by decide)).trans this.1, (rd_na (by decide)).trans this.2.1, (rd_na (by decide)).trans this.2.2⟩
  · rw [sI_ne (by decide)]; exact h.2.2
theorem Fs_pop (M : mm) (y : Int) : Fs M (sI M 572 47 y) := ⟨fun a h _ => sI_ne h, fun j h _ => rd_nk h, rfl⟩
theorem c140_step (d : Nat) {Q : ab_Q} {o1 o2 o3 : Option Value} {bs : List (Nat × Nat × Nat)} (hb : bs.length < 256) {k f n : Nat} (hk : k < 32) (hf : f < 1000) (hn : n < 1000) {u : List Nat} (hS : shS M (bs ++ [(k, f, n)]) u) {F : mm → Prop} (c1 : ab_Z (pg_G L xs) (d + 4) 142 [.ref 572, zi (k : Nat), zi (f : Nat), zi (n : Nat)] (sI M 572 47 ((bs.length : Nat) : Int)) es (fun v M' => v = none ∧ F M')) (kk : ∀ M', F M' → ab_W (pg_G L xs) (ab_X (pg_G L xs) (d + 4)) 140 Q 17 [some (.ref 572), o1, o2, o3] [] (hp M' ++ es)) : ab_W (pg_G L xs) (ab_X (pg_G L xs) (d + 4)) 140 Q 17 [some (.ref 572), o1, o2, o3] [] (hp M ++ es) := by
  have hl : M.1 572 47 = ((bs.length + 1 : Nat) : Int) := by rw [hS.1.1, List.length_append]; rfl
  have ht := hS.1.2 bs.length (by rw [List.length_append]; simp)
  rw [snoc_at] at ht
  have t1 : (sI M 572 47 ((bs.length : Nat) : Int)).1 604 ((bs.length : Nat) : Int) = (k : Int) := (rd_na (by decide)).trans ht.1
  have t2 : (sI M 572 47 ((bs.length : Nat) : Int)).1 605 ((bs.length : Nat) : Int) = (f : Int) := (rd_na (by decide)).trans ht.2.1
  have t3 : (sI M 572 47 ((bs.length : Nat) : Int)).1 606 ((bs.length : Nat) : Int) = (n : Int) := (rd_na (by decide)).trans ht.2.2
  refine x_ld 0 1 2 18 rfl rfl rfl rfl rfl ?_
  refine g_572_47 281 21 rfl rfl hl rfl ?_
  refine z_ifle 68 24 rfl rfl rfl ⟨by omega, by omega⟩ (fun c => absurd c (by omega)) (fun _ => ?_)
  refine x_ld 0 1 2 25 rfl rfl rfl rfl rfl ?_
  refine x_dup 26 rfl rfl rfl ?_
  refine g_572_47 281 29 rfl rfl hl rfl ?_
  refine x_cst (zi 1) 1 30 rfl rfl rfl ?_
  refine z_sub 31 rfl rfl ?_
  rw [show ((bs.length + 1 : Nat) : Int) - 1 = ((bs.length : Nat) : Int) from (by omega)]
  refine s_572_47 281 34 rfl rfl rfl rfl rfl rfl ?_
  refine x_ld 0 1 2 35 rfl rfl rfl rfl rfl ?_
  refine x_ld 0 1 2 36 rfl rfl rfl rfl rfl ?_
  refine g_572_48 111 39 rfl rfl rfl ?_
  refine x_ld 0 1 2 40 rfl rfl rfl rfl rfl ?_
  refine g_572_47 281 43 rfl rfl rd_eq rfl ?_
  refine z_ild ((k : Nat) : Int) 44 rfl i_604 rfl ⟨by omega, by omega⟩ t1 rfl ?_
  refine x_ld 0 1 2 45 rfl rfl rfl rfl rfl ?_
  refine g_572_49 114 48 rfl rfl rfl ?_
  refine x_ld 0 1 2 49 rfl rfl rfl rfl rfl ?_
  refine g_572_47 281 52 rfl rfl rd_eq rfl ?_
  refine z_ild ((f : Nat) : Int) 53 rfl i_605 rfl ⟨by omega, by omega⟩ t2 rfl ?_
  refine x_ld 0 1 2 54 rfl rfl rfl rfl rfl ?_
  refine g_572_50 117 57 rfl rfl rfl ?_
  refine x_ld 0 1 2 58 rfl rfl rfl rfl rfl ?_
  refine g_572_47 281 61 rfl rfl rd_eq rfl ?_
  refine z_ild ((n : Nat) : Int) 62 rfl i_606 rfl ⟨by omega, by omega⟩ t3 rfl ?_
  refine x_ce 295 142 65 [.ref 572, zi ((k : Nat) : Int), zi ((f : Nat) : Int), zi ((n : Nat) : Int)] rfl rfl rfl (Nat.le_of_ble_eq_true rfl) rfl rfl (Nat.le_of_ble_eq_true rfl) ⟨_, _, _, rfl, o_572⟩ (Nat.le_of_ble_eq_true rfl) c1 rfl ?_
  rintro v M' ⟨rfl, hF⟩
  refine x_go 17 rfl rfl ?_
  exact kk M' hF
theorem show_run (d : Nat) {Q : ab_Q} {o1 o2 o3 : Option Value} {ps : Nat → prt} {c : Nat} : ∀ k, k < c → ∀ (M : mm) (w : List Nat) (f : Nat) (bs : List (Nat × Nat × Nat)) (u : List Nat), mdl M ps c → tx_L w → w.length ≤ 6 → (sts ps k).1 (tx_num w) = true → f + w.length ≤ 6 → roL (M.1 596) f w → bs.length + 1 + 5 * k ≤ 200 → u.length + (sem_sh (pgo ps) k w).length ≤ 250 → shS M (bs ++ [(k, f, w.length)]) u → (∀ M', Fs M M' → shS M' bs (u ++ sem_sh (pgo ps) k w) → ab_W (pg_G L xs) (ab_X (pg_G L xs) (d + 4)) 140 Q 17 [some (.ref 572), o1, o2, o3] [] (hp M' ++ es)) → ab_W (pg_G L xs) (ab_X (pg_G L xs) (d + 4)) 140 Q 17 [some (.ref 572), o1, o2, o3] [] (hp M ++ es) := by
  intro k
  induction k using Nat.strongRecOn with
  | _ k ih =>
    intro hk M w f bs u hm hw h6 ms hf hr hbs hul hS kk
    have hc31 := hm.1
    have hwf := (hm.2 k hk).1
    have hl := hwf.2.2.2
    have g2 := (mdl_gds hm k hk).2
    have hP := shS_pop hS (y := (bs.length : Int)) rfl
    have hFP := Fs_pop M (bs.length : Int)
    have hmP := mdl_Fk hm (Fs_Fk hFP)
    have hrP : roL ((sI M 572 47 (bs.length : Int)).1 596) f w := by rw [sI_ne (by decide)]; exact hr
    have hK8 := hwf.1
    have hKK : ∃ K, (ps k).1 = K := ⟨_, rfl⟩
    obtain ⟨K, hK⟩ := hKK
    have hpK : pK (pgo ps) k = K := hK
    rw [show pK (pgo ps) k = K from hK] at g2
    rw [hK] at hK8
    have fin : ∀ M2, Fs (sI M 572 47 (bs.length : Int)) M2 → ∀ v, shS M2 bs (u ++ v) → sem_sh (pgo ps) k w = v → ab_W (pg_G L xs) (ab_X (pg_G L xs) (d + 4)) 140 Q 17 [some (.ref 572), o1, o2, o3] [] (hp M2 ++ es) := fun M2 hF2 v hS2 e => kk M2 (Fs_trans hFP hF2) (by rw [e]; exact hS2)
    have roM : ∀ M2, Fs (sI M 572 47 (bs.length : Int)) M2 → M2.1 596 = M.1 596 := fun M2 hF2 => (hF2.1 596 (by decide) (by decide)).trans (sI_ne (by decide))
    match K, hK8, hK, hpK, g2 with
    | 0, _, hK, hpK, g2 =>
      by_cases hT : (ps k).2.2.2 = 0
      · refine c140_step d (by omega) (by omega) (by omega) (by omega) hS (c142_0a d hmP hk hw h6 ms hf hrP (bs := bs) (by omega) (u := u) (by omega) hP hK hT) (fun M2 ⟨hS2, hF2⟩ => ?_)
        rw [List.append_nil] at hS2; exact fin M2 hF2 w hS2 (sh_0 hpK w)
      · refine c140_step d (by omega) (by omega) (by omega) (by omega) hS (c142_0b d hmP hk hw h6 ms hf hrP (bs := bs) (by omega) (u := u) (by omega) hP hK hT) (fun M2 ⟨hS2, hF2⟩ => ?_)
        rw [List.append_nil] at hS2; exact fin M2 hF2 w hS2 (sh_0 hpK w)
    | 1, _, hK, hpK, g2 =>
      refine c140_step d (by omega) (by omega) (by omega) (by omega) hS (c142_1 d hmP hk hw h6 ms hf hrP (bs := bs) (by omega) (u := u) (by omega) hP hK) (fun M2 ⟨hS2, hF2⟩ => ?_)
      rw [List.append_nil] at hS2; exact fin M2 hF2 [] hS2 (sh_1 hpK w)
    | 2, _, hK, hpK, g2 =>
      refine c140_step d (by omega) (by omega) (by omega) (by omega) hS (c142_2 d hmP hk hw h6 ms hf hrP (bs := bs) (by omega) (u := u) (by omega) hP hK) (fun M2 ⟨hS2, hF2⟩ => ?_)
      rw [List.append_nil] at hS2; exact fin M2 hF2 _ hS2 (sh_2 hpK w)
    | 3, _, hK, hpK, g2 =>
      refine c140_step d (by omega) (by omega) (by omega) (by omega) hS (c142_3 d hmP hk hw h6 ms hf hrP (bs := bs) (by omega) (u := u) (by omega) hP hK) (fun M2 ⟨hS2, hF2⟩ => ?_)
      rw [List.append_nil] at hS2
      have hlk := hl (by omega)
      have e := sh_3 hpK g2.1 w
      refine ih _ hlk.1 (Nat.lt_trans hlk.1 hk) M2 w f bs u (mdl_Fk hmP (Fs_Fk hF2)) hw h6 ((g2.2.1 _).symm.trans ms) hf (by rw [roM M2 hF2]; exact hr) (by omega) (by rw [e] at hul; exact hul) hS2 (fun M3 hF3 hS3 => fin M3 (Fs_trans hF2 hF3) _ hS3 e)
    | 4, _, hK, hpK, g2 =>
      refine c140_step d (by omega) (by omega) (by omega) (by omega) hS (c142_4 d hmP hk hw h6 ms hf hrP (bs := bs) (by omega) (u := u) (by omega) hP hK) (fun M2 ⟨hS2, hF2⟩ => ?_)
      rw [List.append_nil] at hS2
      have hlk := hl (by omega)
      have e := sh_4 hpK g2.1 w
      rw [show pS_ (pgo ps) (pL (pgo ps) k) (tx_num w) = (sts ps (ps k).2.1).1 (tx_num w) from rfl] at e
      have hor : ((sts ps (ps k).2.1).1 (tx_num w) || (sts ps (ps k).2.2.1).1 (tx_num w)) = true := (g2.2.1 _).symm.trans ms
      cases hb : (sts ps (ps k).2.1).1 (tx_num w) with
      | true =>
        rw [hb, cond_true] at hS2 e
        exact ih _ hlk.1 (Nat.lt_trans hlk.1 hk) M2 w f bs u (mdl_Fk hmP (Fs_Fk hF2)) hw h6 hb hf (by rw [roM M2 hF2]; exact hr) (by omega) (by rw [e] at hul; exact hul) hS2 (fun M3 hF3 hS3 => fin M3 (Fs_trans hF2 hF3) _ hS3 e)
      | false =>
        rw [hb, cond_false] at hS2 e
        rw [hb, Bool.false_or] at hor
        exact ih _ hlk.2 (Nat.lt_trans hlk.2 hk) M2 w f bs u (mdl_Fk hmP (Fs_Fk hF2)) hw h6 hor hf (by rw [roM M2 hF2]; exact hr) (by omega) (by rw [e] at hul; exact hul) hS2 (fun M3 hF3 hS3 => fin M3 (Fs_trans hF2 hF3) _ hS3 e)
    | 5, _, hK, hpK, g2 =>
      refine c140_step d (by omega) (by omega) (by omega) (by omega) hS (c142_5 d hmP hk hw h6 ms hf hrP (bs := bs) (by omega) (u := u) (by omega) hP hK) (fun M2 ⟨hS2, hF2⟩ => ?_)
      rw [List.append_nil] at hS2
      have hlk := hl (by omega)
      have e := sh_5 hpK g2.1 w
      have hcu := jn_cut hw ((g2.2.1 _).mp ms)
      have hle := cut_le (sts ps (ps k).2.1).1 (sts ps (ps k).2.2.1).1 w
      rw [show (cut (sts ps (ps k).2.1).1 (sts ps (ps k).2.2.1).1 w) = (cut (sts ps (ps k).2.1).1 (sts ps (ps k).2.2.1).1 w) from rfl] at hS2
      have ll : (w.take (cut (sts ps (ps k).2.1).1 (sts ps (ps k).2.2.1).1 w)).length = (cut (sts ps (ps k).2.1).1 (sts ps (ps k).2.2.1).1 w) := by rw [List.length_take]; omega
      have lr : (w.drop (cut (sts ps (ps k).2.1).1 (sts ps (ps k).2.2.1).1 w)).length = w.length - (cut (sts ps (ps k).2.1).1 (sts ps (ps k).2.2.1).1 w) := List.length_drop
      have hul2 := hul
      rw [e, List.length_append] at hul2
      have hul3 : u.length + ((sem_sh (pgo ps) (ps k).2.1 (w.take (cut (sts ps (ps k).2.1).1 (sts ps (ps k).2.2.1).1 w))).length + (sem_sh (pgo ps) (ps k).2.2.1 (w.drop (cut (sts ps (ps k).2.1).1 (sts ps (ps k).2.2.1).1 w))).length) ≤ 250 := hul2
      have hS2' : shS M2 ((bs ++ [((ps k).2.2.1, (f + (cut (sts ps (ps k).2.1).1 (sts ps (ps k).2.2.1).1 w)), (w.drop (cut (sts ps (ps k).2.1).1 (sts ps (ps k).2.2.1).1 w)).length)]) ++ [((ps k).2.1, f, (w.take (cut (sts ps (ps k).2.1).1 (sts ps (ps k).2.2.1).1 w)).length)]) u := by rw [List.append_assoc, ll, lr]; exact hS2
      refine ih _ hlk.1 (Nat.lt_trans hlk.1 hk) M2 (w.take (cut (sts ps (ps k).2.1).1 (sts ps (ps k).2.2.1).1 w)) f (bs ++ [((ps k).2.2.1, (f + (cut (sts ps (ps k).2.1).1 (sts ps (ps k).2.2.1).1 w)), (w.drop (cut (sts ps (ps k).2.1).1 (sts ps (ps k).2.2.1).1 w)).length)]) u (mdl_Fk hmP (Fs_Fk hF2)) (tx_L_take hw _) (by omega) hcu.1 (by omega) (roL_take (by rw [roM M2 hF2]; exact hr) _) (by rw [List.length_append, List.length_singleton]; omega) (by omega) hS2' (fun M3 hF3 hS3 => ?_)
      refine ih _ hlk.2 (Nat.lt_trans hlk.2 hk) M3 (w.drop (cut (sts ps (ps k).2.1).1 (sts ps (ps k).2.2.1).1 w)) (f + (cut (sts ps (ps k).2.1).1 (sts ps (ps k).2.2.1).1 w)) bs (u ++ (sem_sh (pgo ps) (ps k).2.1 (w.take (cut (sts ps (ps k).2.1).1 (sts ps (ps k).2.2.1).1 w)))) (mdl_Fk hmP (Fs_Fk (Fs_trans hF2 hF3))) (tx_L_drop hw _) (by omega) hcu.2 (by omega) (roL_drop (by rw [hF3.1 596 (by decide) (by decide), roM M2 hF2]; exact hr) _) (by omega) (by rw [List.length_append]; omega) hS3 (fun M4 hF4 hS4 => ?_)
      rw [List.append_assoc] at hS4
      exact fin M4 (Fs_trans (Fs_trans hF2 hF3) hF4) _ hS4 e
    | 6, _, hK, hpK, g2 =>
      refine c140_step d (by omega) (by omega) (by omega) (by omega) hS (c142_6 d hmP hk hw h6 ms hf hrP (bs := bs) (by omega) (u := u) (by omega) hP hK) (fun M2 ⟨hS2, hF2⟩ => ?_)
      rw [List.append_nil] at hS2
      have hlk := hl (by omega)
      have e := sh_6 hpK g2.1 w
      have hcu := jn_cut hw ((g2.2.1 _).mp ms)
      have hle := cut_le (sts ps (ps k).2.1).1 (sts ps (ps k).2.2.1).1 w
      rw [show (cut (sts ps (ps k).2.1).1 (sts ps (ps k).2.2.1).1 w) = (cut (sts ps (ps k).2.1).1 (sts ps (ps k).2.2.1).1 w) from rfl] at hS2
      have ll : (w.take (cut (sts ps (ps k).2.1).1 (sts ps (ps k).2.2.1).1 w)).length = (cut (sts ps (ps k).2.1).1 (sts ps (ps k).2.2.1).1 w) := by rw [List.length_take]; omega
      have lr : (w.drop (cut (sts ps (ps k).2.1).1 (sts ps (ps k).2.2.1).1 w)).length = w.length - (cut (sts ps (ps k).2.1).1 (sts ps (ps k).2.2.1).1 w) := List.length_drop
      have hul2 := hul
      rw [e, List.length_append] at hul2
      have hul3 : u.length + ((sem_sh (pgo ps) (ps k).2.2.1 (w.drop (cut (sts ps (ps k).2.1).1 (sts ps (ps k).2.2.1).1 w))).length + (sem_sh (pgo ps) (ps k).2.1 (w.take (cut (sts ps (ps k).2.1).1 (sts ps (ps k).2.2.1).1 w))).length) ≤ 250 := hul2
      have hS2' : shS M2 ((bs ++ [((ps k).2.1, f, (w.take (cut (sts ps (ps k).2.1).1 (sts ps (ps k).2.2.1).1 w)).length)]) ++ [((ps k).2.2.1, (f + (cut (sts ps (ps k).2.1).1 (sts ps (ps k).2.2.1).1 w)), (w.drop (cut (sts ps (ps k).2.1).1 (sts ps (ps k).2.2.1).1 w)).length)]) u := by rw [List.append_assoc, ll, lr]; exact hS2
      refine ih _ hlk.2 (Nat.lt_trans hlk.2 hk) M2 (w.drop (cut (sts ps (ps k).2.1).1 (sts ps (ps k).2.2.1).1 w)) (f + (cut (sts ps (ps k).2.1).1 (sts ps (ps k).2.2.1).1 w)) (bs ++ [((ps k).2.1, f, (w.take (cut (sts ps (ps k).2.1).1 (sts ps (ps k).2.2.1).1 w)).length)]) u (mdl_Fk hmP (Fs_Fk hF2)) (tx_L_drop hw _) (by omega) hcu.2 (by omega) (roL_drop (by rw [roM M2 hF2]; exact hr) _) (by rw [List.length_append, List.length_singleton]; omega) (by omega) hS2' (fun M3 hF3 hS3 => ?_)
      refine ih _ hlk.1 (Nat.lt_trans hlk.1 hk) M3 (w.take (cut (sts ps (ps k).2.1).1 (sts ps (ps k).2.2.1).1 w)) f bs (u ++ (sem_sh (pgo ps) (ps k).2.2.1 (w.drop (cut (sts ps (ps k).2.1).1 (sts ps (ps k).2.2.1).1 w)))) (mdl_Fk hmP (Fs_Fk (Fs_trans hF2 hF3))) (tx_L_take hw _) (by omega) hcu.1 (by omega) (roL_take (by rw [hF3.1 596 (by decide) (by decide), roM M2 hF2]; exact hr) _) (by omega) (by rw [List.length_append]; omega) hS3 (fun M4 hF4 hS4 => ?_)
      rw [List.append_assoc] at hS4
      exact fin M4 (Fs_trans (Fs_trans hF2 hF3) hF4) _ hS4 e
    | 7, _, hK, hpK, g2 =>
      refine c140_step d (by omega) (by omega) (by omega) (by omega) hS (c142_7 d hmP hk hw h6 ms hf hrP (bs := bs) (by omega) (u := u) (by omega) hP hK) (fun M2 ⟨hS2, hF2⟩ => ?_)
      rw [List.append_nil] at hS2
      have hlk := hl (by omega)
      have e := sh_7 hpK g2.2.1 w
      have hmem := rps_mem g2.2.2.2.2.1 hw ms
      have hPl := rps_len (sts ps (ps k).2.1).1 (sts ps k).1 w
      have hloop : ∀ m j : Nat, (rps (sts ps (ps k).2.1).1 (sts ps k).1 w).length - j = m → j ≤ (rps (sts ps (ps k).2.1).1 (sts ps k).1 w).length → ∀ M3, Fs (sI M 572 47 (bs.length : Int)) M3 → shS M3 (bs ++ itL (ps k).2.1 f (rps (sts ps (ps k).2.1).1 (sts ps k).1 w) j) (u ++ ((rps (sts ps (ps k).2.1).1 (sts ps k).1 w).take j).flatMap (sem_sh (pgo ps) (ps k).2.1)) → ab_W (pg_G L xs) (ab_X (pg_G L xs) (d + 4)) 140 Q 17 [some (.ref 572), o1, o2, o3] [] (hp M3 ++ es) := by
        intro m
        induction m using Nat.strongRecOn with
        | _ m ihm =>
          intro j hmj hj M3 hF3 hS3
          rcases Nat.eq_or_lt_of_le hj with q | q
          · rw [q, itL_end, List.append_nil, List.take_length] at hS3
            exact fin M3 hF3 _ hS3 e
          · rw [itL_step _ _ q, ← List.append_assoc] at hS3
            have hmj2 := hmem _ (get_mem q)
            have hot := off_le (sts ps (ps k).2.1).1 (sts ps k).1 w j
            have hn := rps_nth (A := (sts ps (ps k).2.1).1) (B := (sts ps k).1) (w := w) q
            have hln := rps_nth_len (A := (sts ps (ps k).2.1).1) (B := (sts ps k).1) (w := w) q
            have hcl := cuf_le (sts ps (ps k).2.1).1 (sts ps k).1 (w.drop (off (rps (sts ps (ps k).2.1).1 (sts ps k).1 w) j))
            rw [List.length_drop] at hcl
            have hil := itL_len (ps k).2.1 f (rps (sts ps (ps k).2.1).1 (sts ps k).1 w) (j + 1)
            have hts : (rps (sts ps (ps k).2.1).1 (sts ps k).1 w).take (j + 1) = (rps (sts ps (ps k).2.1).1 (sts ps k).1 w).take j ++ [(rps (sts ps (ps k).2.1).1 (sts ps k).1 w)[j]!] := by rw [List.take_add_one, List.getElem?_eq_getElem q, getElem!_pos _ j q]; rfl
            have hfl : ((((rps (sts ps (ps k).2.1).1 (sts ps k).1 w).take j).flatMap (sem_sh (pgo ps) (ps k).2.1)).length + (sem_sh (pgo ps) (ps k).2.1 (rps (sts ps (ps k).2.1).1 (sts ps k).1 w)[j]!).length) ≤ (sem_sh (pgo ps) k w).length := by
              have e3 : (rps (sts ps (ps k).2.1).1 (sts ps k).1 w) = (rps (sts ps (ps k).2.1).1 (sts ps k).1 w).take (j + 1) ++ (rps (sts ps (ps k).2.1).1 (sts ps k).1 w).drop (j + 1) := (List.take_append_drop _ _).symm
              have e4 : sem_sh (pgo ps) k w = ((rps (sts ps (ps k).2.1).1 (sts ps k).1 w).take j).flatMap (sem_sh (pgo ps) (ps k).2.1) ++ sem_sh (pgo ps) (ps k).2.1 (rps (sts ps (ps k).2.1).1 (sts ps k).1 w)[j]! ++ ((rps (sts ps (ps k).2.1).1 (sts ps k).1 w).drop (j + 1)).flatMap (sem_sh (pgo ps) (ps k).2.1) := by
                rw [e]
                show ((rps (sts ps (ps k).2.1).1 (sts ps k).1 w)).flatMap (fun u => sem_sh (pgo ps) (ps k).2.1 u) = _
                conv => lhs; rw [e3, List.flatMap_append, hts, List.flatMap_append]
                simp
              rw [e4, List.length_append, List.length_append]
              omega
            refine ih _ hlk.1 (Nat.lt_trans hlk.1 hk) M3 (rps (sts ps (ps k).2.1).1 (sts ps k).1 w)[j]! (f + off (rps (sts ps (ps k).2.1).1 (sts ps k).1 w) j) (bs ++ itL (ps k).2.1 f (rps (sts ps (ps k).2.1).1 (sts ps k).1 w) (j + 1)) _ (mdl_Fk hmP (Fs_Fk hF3)) hmj2.2.1 (by omega) hmj2.1 (by omega) ?_ (by rw [List.length_append]; omega) (by rw [List.length_append]; omega) hS3 (fun M4 hF4 hS4 => ?_)
            · rw [hn.2]
              exact roL_take (roL_drop (by rw [roM M3 hF3]; exact hr) _) _
            · refine ihm ((rps (sts ps (ps k).2.1).1 (sts ps k).1 w).length - (j + 1)) (by omega) (j + 1) rfl (by omega) M4 (Fs_trans hF3 hF4) ?_
              rw [List.append_assoc] at hS4
              rw [hts, List.flatMap_append]
              simpa using hS4
      exact hloop _ 0 rfl (Nat.zero_le _) M2 hF2 (by rw [List.take_zero, List.flatMap_nil, List.append_nil]; exact hS2)
    | 8, _, hK, hpK, g2 =>
      refine c140_step d (by omega) (by omega) (by omega) (by omega) hS (c142_8 d hmP hk hw h6 ms hf hrP (bs := bs) (by omega) (u := u) (by omega) hP hK) (fun M2 ⟨hS2, hF2⟩ => ?_)
      rw [List.append_nil] at hS2
      have hlk := hl (by omega)
      have e := sh_8 hpK g2.2.1 w
      have hmem := rps_mem g2.2.2.2.2.1 hw ms
      have hPl := rps_len (sts ps (ps k).2.1).1 (sts ps k).1 w
      have hloop : ∀ m j : Nat, (rps (sts ps (ps k).2.1).1 (sts ps k).1 w).length - j = m → j ≤ (rps (sts ps (ps k).2.1).1 (sts ps k).1 w).length → ∀ M3, Fs (sI M 572 47 (bs.length : Int)) M3 → shS M3 (bs ++ itL (ps k).2.1 f (rps (sts ps (ps k).2.1).1 (sts ps k).1 w) j) (u ++ ((rps (sts ps (ps k).2.1).1 (sts ps k).1 w).take j).flatMap (sem_sh (pgo ps) (ps k).2.1)) → ab_W (pg_G L xs) (ab_X (pg_G L xs) (d + 4)) 140 Q 17 [some (.ref 572), o1, o2, o3] [] (hp M3 ++ es) := by
        intro m
        induction m using Nat.strongRecOn with
        | _ m ihm =>
          intro j hmj hj M3 hF3 hS3
          rcases Nat.eq_or_lt_of_le hj with q | q
          · rw [q, itL_end, List.append_nil, List.take_length] at hS3
            exact fin M3 hF3 _ hS3 e
          · rw [itL_step _ _ q, ← List.append_assoc] at hS3
            have hmj2 := hmem _ (get_mem q)
            have hot := off_le (sts ps (ps k).2.1).1 (sts ps k).1 w j
            have hn := rps_nth (A := (sts ps (ps k).2.1).1) (B := (sts ps k).1) (w := w) q
            have hln := rps_nth_len (A := (sts ps (ps k).2.1).1) (B := (sts ps k).1) (w := w) q
            have hcl := cuf_le (sts ps (ps k).2.1).1 (sts ps k).1 (w.drop (off (rps (sts ps (ps k).2.1).1 (sts ps k).1 w) j))
            rw [List.length_drop] at hcl
            have hil := itL_len (ps k).2.1 f (rps (sts ps (ps k).2.1).1 (sts ps k).1 w) (j + 1)
            have hts : (rps (sts ps (ps k).2.1).1 (sts ps k).1 w).take (j + 1) = (rps (sts ps (ps k).2.1).1 (sts ps k).1 w).take j ++ [(rps (sts ps (ps k).2.1).1 (sts ps k).1 w)[j]!] := by rw [List.take_add_one, List.getElem?_eq_getElem q, getElem!_pos _ j q]; rfl
            have hfl : ((((rps (sts ps (ps k).2.1).1 (sts ps k).1 w).take j).flatMap (sem_sh (pgo ps) (ps k).2.1)).length + (sem_sh (pgo ps) (ps k).2.1 (rps (sts ps (ps k).2.1).1 (sts ps k).1 w)[j]!).length) ≤ (sem_sh (pgo ps) k w).length := by
              have e3 : (rps (sts ps (ps k).2.1).1 (sts ps k).1 w) = (rps (sts ps (ps k).2.1).1 (sts ps k).1 w).take (j + 1) ++ (rps (sts ps (ps k).2.1).1 (sts ps k).1 w).drop (j + 1) := (List.take_append_drop _ _).symm
              have e4 : sem_sh (pgo ps) k w = ((rps (sts ps (ps k).2.1).1 (sts ps k).1 w).take j).flatMap (sem_sh (pgo ps) (ps k).2.1) ++ sem_sh (pgo ps) (ps k).2.1 (rps (sts ps (ps k).2.1).1 (sts ps k).1 w)[j]! ++ ((rps (sts ps (ps k).2.1).1 (sts ps k).1 w).drop (j + 1)).flatMap (sem_sh (pgo ps) (ps k).2.1) := by
                rw [e]
                show ((rps (sts ps (ps k).2.1).1 (sts ps k).1 w)).flatMap (fun u => sem_sh (pgo ps) (ps k).2.1 u) = _
                conv => lhs; rw [e3, List.flatMap_append, hts, List.flatMap_append]
                simp
              rw [e4, List.length_append, List.length_append]
              omega
            refine ih _ hlk.1 (Nat.lt_trans hlk.1 hk) M3 (rps (sts ps (ps k).2.1).1 (sts ps k).1 w)[j]! (f + off (rps (sts ps (ps k).2.1).1 (sts ps k).1 w) j) (bs ++ itL (ps k).2.1 f (rps (sts ps (ps k).2.1).1 (sts ps k).1 w) (j + 1)) _ (mdl_Fk hmP (Fs_Fk hF3)) hmj2.2.1 (by omega) hmj2.1 (by omega) ?_ (by rw [List.length_append]; omega) (by rw [List.length_append]; omega) hS3 (fun M4 hF4 hS4 => ?_)
            · rw [hn.2]
              exact roL_take (roL_drop (by rw [roM M3 hF3]; exact hr) _) _
            · refine ihm ((rps (sts ps (ps k).2.1).1 (sts ps k).1 w).length - (j + 1)) (by omega) (j + 1) rfl (by omega) M4 (Fs_trans hF3 hF4) ?_
              rw [List.append_assoc] at hS4
              rw [hts, List.flatMap_append]
              simpa using hS4
      exact hloop _ 0 rfl (Nat.zero_le _) M2 hF2 (by rw [List.take_zero, List.flatMap_nil, List.append_nil]; exact hS2)
    | n + 9, h9, _, _, _ => exact absurd h9 (by omega)
theorem c140 (d : Nat) {ps : Nat → prt} {c : Nat} (hm : mdl M ps c) {k : Nat} (hk : k < c) {w : List Nat} (hw : tx_L w) (h6 : w.length ≤ 6) (ms : (sts ps k).1 (tx_num w) = true) {f : Nat} (hf : f + w.length ≤ 6) (hr : roL (M.1 596) f w) (hsl : (sem_sh (pgo ps) k w).length ≤ 250) : ab_Z (pg_G L xs) (d + 5) 140 [.ref 572, zi (k : Nat), zi (f : Nat), zi (w.length : Nat)] M es (fun v M' => v = none ∧ Fs M M' ∧ M'.1 572 52 = ((sem_sh (pgo ps) k w).length : Int) ∧ roL (M'.1 607) 0 (sem_sh (pgo ps) k w)) := by
  have hc31 := hm.1
  show ab_W (pg_G L xs) (ab_X (pg_G L xs) (d + 4)) 140 _ 0 [some (.ref 572), some (zi ((k : Nat) : Int)), some (zi ((f : Nat) : Int)), some (zi ((w.length : Nat) : Int))] [] (hp M ++ es)
  refine x_ld 0 1 2 1 rfl rfl rfl rfl rfl ?_
  refine x_cst (zi 0) 1 2 rfl rfl rfl ?_
  refine s_572_47 281 5 rfl rfl rfl rfl rfl rfl ?_
  refine x_ld 0 1 2 6 rfl rfl rfl rfl rfl ?_
  refine x_cst (zi 0) 1 7 rfl rfl rfl ?_
  refine s_572_52 284 10 rfl rfl rfl rfl rfl rfl ?_
  refine x_ld 0 1 2 11 rfl rfl rfl rfl rfl ?_
  refine x_ld 1 1 0 12 rfl rfl rfl rfl rfl ?_
  refine x_ld 2 1 0 13 rfl rfl rfl rfl rfl ?_
  refine x_ld 3 1 0 14 rfl rfl rfl rfl rfl ?_
  refine x_ce 291 141 17 [.ref 572, zi ((k : Nat) : Int), zi ((f : Nat) : Int), zi ((w.length : Nat) : Int)] rfl rfl rfl (Nat.le_of_ble_eq_true rfl) rfl rfl (Nat.le_of_ble_eq_true rfl) ⟨_, _, _, rfl, o_572⟩ (Nat.le_of_ble_eq_true rfl) (c141 (M := (sI (sI M 572 47 0) 572 52 0)) (d + 3) (bs := []) (u := []) ⟨⟨(rd_nk (by decide)).trans rd_eq, fun i hi => absurd hi (Nat.not_lt_zero i)⟩, rd_eq, fun i hi => absurd hi (Nat.not_lt_zero i)⟩ (by decide)) rfl ?_
  rintro v M3 ⟨rfl, hS3, hF3⟩
  have hF0 : Fs M (sI (sI M 572 47 0) 572 52 0) := ⟨fun a h _ => by rw [sI_ne h, sI_ne h], fun j h1 h2 => (rd_nk h2).trans (rd_nk h1), rfl⟩
  have hF3' := Fs_trans hF0 hF3
  refine show_run d k hk M3 w f [] [] (mdl_Fk hm (Fs_Fk hF3')) hw h6 ms hf (by rw [hF3'.1 596 (by decide) (by decide)]; exact hr) (by simp; omega) (by simpa using hsl) hS3 (fun M4 hF4 hS4 => ?_)
  refine x_ld 0 1 2 18 rfl rfl rfl rfl rfl ?_
  refine g_572_47 281 21 rfl rfl hS4.1.1 rfl ?_
  refine z_ifle 68 24 rfl rfl rfl (rg_lit 0 rfl) (fun _ => ?_) (fun c => absurd (Int.le_refl 0) c)
  refine x_rtv rfl rfl ⟨none, M4, rfl, rfl, rfl, Fs_trans hF3' hF4, ?_, ?_⟩
  · have := hS4.2.1; rwa [List.nil_append] at this
  · have := hS4.2.2; rwa [List.nil_append] at this
end D8
