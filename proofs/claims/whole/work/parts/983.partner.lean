/-! OURS, printed by wip/tools/gen983.py: the reference's keys, partners, repeats carried. -/
/-- what laying keys may change -/
def Fvk (M M' : mm) : Prop := (∀ a, a ≠ 572 → (a ≤ 603 ∨ a = 613 ∨ a = 614 ∨ a = 616 ∨ a = 617) → M'.1 a = M.1 a) ∧ (∀ j, j ≠ 47 → j ≠ 52 → j ≠ 53 → j ≠ 59 → M'.1 572 j = M.1 572 j) ∧ M'.2 = M.2
theorem Fvk_refl (M : mm) : Fvk M M := ⟨fun _ _ _ => rfl, fun _ _ _ _ _ => rfl, rfl⟩
theorem Fvk_trans {M M' M'' : mm} (h : Fvk M M') (g : Fvk M' M'') : Fvk M M'' := ⟨fun a h1 h2 => (g.1 a h1 h2).trans (h.1 a h1 h2), fun j h1 h2 h3 h4 => (g.2.1 j h1 h2 h3 h4).trans (h.2.1 j h1 h2 h3 h4), g.2.2.trans h.2.2⟩
theorem Fvk_Fk {M M' : mm} (h : Fvk M M') : Fk M M' := ⟨fun a h1 h2 => h.1 a (by omega) (by omega), h.2.2⟩
theorem Fvk_Fc {M M' : mm} (h : Fvk M M') : Fc M M' := ⟨fun a h1 h2 => h.1 a h1 (by omega), fun j hj => by unfold cF at hj; exact h.2.1 j (by omega) (by omega) (by omega) (by omega), h.2.2⟩
theorem Fs_Fvk {M M' : mm} (h : Fs M M') : Fvk M M' := ⟨fun a h1 h2 => h.1 a h1 (by omega), fun j h1 h2 h3 h4 => h.2.1 j h1 h2, h.2.2⟩
theorem Fyt_Fvk {M M' : mm} (h : Fyt M M') : Fvk M M' := ⟨fun a h1 h2 => h.1 a h1 (by omega), fun j h1 h2 h3 h4 => h.2.1 j h3 h4, h.2.2⟩
theorem Fvk_ctS {M M' : mm} (h : Fvk M M') {bs : List cI} {u : List Nat} (hS : ctS M bs u) : ctS M' bs u := by
  refine ⟨⟨(h.2.1 41 (by omega) (by omega) (by omega) (by omega)).trans hS.1.1, fun i hi => ?_⟩, (h.2.1 40 (by omega) (by omega) (by omega) (by omega)).trans hS.2.1, ?_⟩
  · have q := hS.1.2 i hi
    rw [h.1 599 (by decide) (by decide), h.1 600 (by decide) (by decide), h.1 601 (by decide) (by decide), h.1 602 (by decide) (by decide), h.1 603 (by decide) (by decide)]
    exact q
  · rw [h.1 598 (by decide) (by decide)]; exact hS.2.2
/-- a row is written -/
theorem Fvk_ro {M : mm} {a : Nat} {i x : Int} (h : a = 615 ∨ a = 618) : Fvk M (sI M a i x) := ⟨fun b h1 h2 => sI_ne (by omega), fun j _ _ _ _ => rd_na (by omega), rfl⟩
section E3
variable {L : Nat} {xs : Nat → Int32} {M : mm} {es : ab_H}
theorem c157_a (d : Nat) {ps : Nat → prt} {c : Nat} (hm : mdl M ps c) {k : Nat} (hk : k < c) (hK : 7 ≤ (ps k).1) {f : Nat} {VP : List (List Nat)} (v6 : VP.length ≤ 6) (hv : ∀ i, i < VP.length → tx_L VP[i]! ∧ VP[i]!.length ≤ 6 ∧ (sts ps (ps k).2.1).2 (tx_num VP[i]!) = true ∧ roL (M.1 597) (f + off VP i) VP[i]! ∧ f + off VP i + VP[i]!.length ≤ 6) (hV : lpP M 63 613 614 f VP VP.length) {Q : ab_Q} (kk : ∀ M', Fvk M M' → lkK M' 615 (VP.map (fun u => tx_num (sem_ky (pgo ps) (ps k).2.1 u))) VP.length → ab_W (pg_G L xs) (ab_X (pg_G L xs) (d + 5)) 157 Q 50 [some (.ref 572), some (zi (k : Nat)), some (zi ((ps k).2.1 : Nat)), some (zi (VP.length : Nat))] [] (hp M' ++ es)) : ∀ m j : Nat, VP.length - j = m → j ≤ VP.length → ∀ M', Fvk M M' → lkK M' 615 (VP.map (fun u => tx_num (sem_ky (pgo ps) (ps k).2.1 u))) j → ab_W (pg_G L xs) (ab_X (pg_G L xs) (d + 5)) 157 Q 9 [some (.ref 572), some (zi (k : Nat)), some (zi ((ps k).2.1 : Nat)), some (zi (j : Nat))] [] (hp M' ++ es) := by
  have hlk := (hm.2 k hk).1.2.2.2 (by omega)
  have hc31 := hm.1
  intro m
  induction m using Nat.strongRecOn with
  | _ m ih =>
    intro j hm2 hj M' hF hL
    have q1 : j < VP.length → M'.1 613 (j : Int) = ((f + off VP j : Nat) : Int) := fun h => by rw [hF.1 613 (by decide) (by decide)]; exact (hV.2 j h).1
    have q2 : j < VP.length → M'.1 614 (j : Int) = ((VP[j]!.length : Nat) : Int) := fun h => by rw [hF.1 614 (by decide) (by decide)]; exact (hV.2 j h).2
    have q3 : M'.1 572 63 = (VP.length : Int) := (hF.2.1 63 (by decide) (by decide) (by decide) (by decide)).trans hV.1
    refine x_ld 3 1 0 10 rfl rfl rfl rfl rfl ?_
    refine x_ld 0 1 2 11 rfl rfl rfl rfl rfl ?_
    refine g_572_63 338 14 rfl rfl q3 rfl ?_
    refine z_icge 50 17 rfl rfl rfl ⟨by omega, by omega⟩ ⟨by omega, by omega⟩ (fun c14 => ?_) (fun c14 => ?_)
    · have e : j = VP.length := by omega
      subst e; exact kk M' hF hL
    · refine x_ld 0 1 2 18 rfl rfl rfl rfl rfl ?_
      refine g_572_62 144 21 rfl rfl rfl ?_
      refine x_ld 3 1 0 22 rfl rfl rfl rfl rfl ?_
      refine x_ld 0 1 2 23 rfl rfl rfl rfl rfl ?_
      refine x_ld 2 1 0 24 rfl rfl rfl rfl rfl ?_
      refine x_ld 0 1 2 25 rfl rfl rfl rfl rfl ?_
      refine g_572_38 90 28 rfl rfl rfl ?_
      refine x_ld 0 1 2 29 rfl rfl rfl rfl rfl ?_
      refine g_572_60 138 32 rfl rfl rfl ?_
      refine x_ld 3 1 0 33 rfl rfl rfl rfl rfl ?_
      refine z_ild ((f + off VP j : Nat) : Int) 34 rfl i_613 rfl ⟨by omega, by omega⟩ (q1 (by omega)) rfl ?_
      refine x_ld 0 1 2 35 rfl rfl rfl rfl rfl ?_
      refine g_572_61 141 38 rfl rfl rfl ?_
      refine x_ld 3 1 0 39 rfl rfl rfl rfl rfl ?_
      refine z_ild ((VP[j]!.length : Nat) : Int) 40 rfl i_614 rfl ⟨by omega, by omega⟩ (q2 (by omega)) rfl ?_
      refine x_ce 344 158 43 [.ref 572, zi (((ps k).2.1 : Nat) : Int), .ref 597, zi ((f + off VP j : Nat) : Int), zi ((VP[j]!.length : Nat) : Int)] rfl rfl rfl (Nat.le_of_ble_eq_true rfl) rfl rfl (Nat.le_of_ble_eq_true rfl) ⟨_, _, _, rfl, o_572⟩ (Nat.le_of_ble_eq_true rfl) (by have t := hv j (by omega); exact c158 (M := M') d (mdl_Fk hm (Fvk_Fk hF)) (Nat.lt_trans hlk.1 hk) i_597 (by decide) t.1 t.2.1 t.2.2.1 (by rw [hF.1 597 (by decide) (by decide)]; exact t.2.2.2.1) (by omega)) rfl ?_
      rintro v M2 ⟨rfl, hF2⟩
      refine z_ist 44 rfl i_615 rfl ⟨by omega, by omega⟩ rfl ?_
      refine z_inc 3 47 [some (.ref 572), some (zi ((k : Nat) : Int)), some (zi (((ps k).2.1 : Nat) : Int)), some (zi (((j : Nat) : Int) + 1))] rfl rfl (Nat.le_of_ble_eq_true rfl) rfl rfl ?_
      refine x_go 9 rfl rfl ?_
      refine ih (VP.length - (j + 1)) (by omega) (j + 1) rfl (by omega) _ (Fvk_trans (Fvk_trans hF (Fyt_Fvk hF2)) (Fvk_ro (.inl rfl))) (fun i hi => ?_)
      rcases Nat.eq_or_lt_of_le (Nat.le_of_lt_succ hi) with e | e
      · subst e; rw [rd_eq, getE _ (by omega)]
      · exact (rd_nk (by omega)).trans ((congrFun (hF2.1 615 (by decide) (by decide)) _).trans (hL i e))
theorem c157_b (d : Nat) {ps : Nat → prt} {c : Nat} (hm : mdl M ps c) {k : Nat} (hk : k < c) (hK : 7 ≤ (ps k).1) {s : Nat} {SP : List (List Nat)} (s6 : SP.length ≤ 6) (hs : ∀ i, i < SP.length → tx_L SP[i]! ∧ SP[i]!.length ≤ 6 ∧ (sts ps (ps k).2.1).1 (tx_num SP[i]!) = true ∧ roL (M.1 596) (s + off SP i) SP[i]! ∧ s + off SP i + SP[i]!.length ≤ 6 ∧ (sem_sh (pgo ps) (ps k).2.1 SP[i]!).length ≤ 6) (hS : lpP M 67 616 617 s SP SP.length) {Q : ab_Q} (kk : ∀ M', Fvk M M' → M'.1 615 = M.1 615 → lkK M' 618 (SP.map (fun u => tx_num (sem_ky (pgo ps) (ps k).2.1 (sem_sh (pgo ps) (ps k).2.1 u)))) SP.length → Q (.inl none) (hp M' ++ es)) : ∀ m j : Nat, SP.length - j = m → j ≤ SP.length → ∀ M', Fvk M M' → M'.1 615 = M.1 615 → lkK M' 618 (SP.map (fun u => tx_num (sem_ky (pgo ps) (ps k).2.1 (sem_sh (pgo ps) (ps k).2.1 u)))) j → ab_W (pg_G L xs) (ab_X (pg_G L xs) (d + 5)) 157 Q 52 [some (.ref 572), some (zi (k : Nat)), some (zi ((ps k).2.1 : Nat)), some (zi (j : Nat))] [] (hp M' ++ es) := by
  have hlk := (hm.2 k hk).1.2.2.2 (by omega)
  have hc31 := hm.1
  intro m
  induction m using Nat.strongRecOn with
  | _ m ih =>
    intro j hm2 hj M' hF h615 hL
    have q1 : j < SP.length → M'.1 616 (j : Int) = ((s + off SP j : Nat) : Int) := fun h => by rw [hF.1 616 (by decide) (by decide)]; exact (hS.2 j h).1
    have q2 : j < SP.length → M'.1 617 (j : Int) = ((SP[j]!.length : Nat) : Int) := fun h => by rw [hF.1 617 (by decide) (by decide)]; exact (hS.2 j h).2
    have q3 : M'.1 572 67 = (SP.length : Int) := (hF.2.1 67 (by decide) (by decide) (by decide) (by decide)).trans hS.1
    refine x_ld 3 1 0 53 rfl rfl rfl rfl rfl ?_
    refine x_ld 0 1 2 54 rfl rfl rfl rfl rfl ?_
    refine g_572_67 341 57 rfl rfl q3 rfl ?_
    refine z_icge 103 60 rfl rfl rfl ⟨by omega, by omega⟩ ⟨by omega, by omega⟩ (fun c57 => ?_) (fun c57 => ?_)
    · refine x_rtv rfl rfl ?_
      have e : j = SP.length := by omega
      subst e; exact kk M' hF h615 hL
    · refine x_ld 0 1 2 61 rfl rfl rfl rfl rfl ?_
      refine x_ld 2 1 0 62 rfl rfl rfl rfl rfl ?_
      refine x_ld 0 1 2 63 rfl rfl rfl rfl rfl ?_
      refine g_572_64 147 66 rfl rfl rfl ?_
      refine x_ld 3 1 0 67 rfl rfl rfl rfl rfl ?_
      refine z_ild ((s + off SP j : Nat) : Int) 68 rfl i_616 rfl ⟨by omega, by omega⟩ (q1 (by omega)) rfl ?_
      refine x_ld 0 1 2 69 rfl rfl rfl rfl rfl ?_
      refine g_572_65 150 72 rfl rfl rfl ?_
      refine x_ld 3 1 0 73 rfl rfl rfl rfl rfl ?_
      refine z_ild ((SP[j]!.length : Nat) : Int) 74 rfl i_617 rfl ⟨by omega, by omega⟩ (q2 (by omega)) rfl ?_
      refine x_ce 348 140 77 [.ref 572, zi (((ps k).2.1 : Nat) : Int), zi ((s + off SP j : Nat) : Int), zi ((SP[j]!.length : Nat) : Int)] rfl rfl rfl (Nat.le_of_ble_eq_true rfl) rfl rfl (Nat.le_of_ble_eq_true rfl) ⟨_, _, _, rfl, o_572⟩ (Nat.le_of_ble_eq_true rfl) (by have t := hs j (by omega); exact c140 (M := M') d (mdl_Fk hm (Fvk_Fk hF)) (Nat.lt_trans hlk.1 hk) t.1 t.2.1 t.2.2.1 t.2.2.2.2.1 (by rw [hF.1 596 (by decide) (by decide)]; exact t.2.2.2.1) (by omega)) rfl ?_
      rintro v M2 ⟨rfl, hF2, q4, q5⟩
      refine x_ld 0 1 2 78 rfl rfl rfl rfl rfl ?_
      refine g_572_66 153 81 rfl rfl rfl ?_
      refine x_ld 3 1 0 82 rfl rfl rfl rfl rfl ?_
      refine x_ld 0 1 2 83 rfl rfl rfl rfl rfl ?_
      refine x_ld 2 1 0 84 rfl rfl rfl rfl rfl ?_
      refine x_ld 0 1 2 85 rfl rfl rfl rfl rfl ?_
      refine g_572_51 120 88 rfl rfl rfl ?_
      refine x_cst (zi 0) 1 89 rfl rfl rfl ?_
      refine x_ld 0 1 2 90 rfl rfl rfl rfl rfl ?_
      refine g_572_52 284 93 rfl rfl q4 rfl ?_
      refine x_ce 344 158 96 [.ref 572, zi (((ps k).2.1 : Nat) : Int), .ref 607, zi 0, zi (((sem_sh (pgo ps) (ps k).2.1 SP[j]!).length : Nat) : Int)] rfl rfl rfl (Nat.le_of_ble_eq_true rfl) rfl rfl (Nat.le_of_ble_eq_true rfl) ⟨_, _, _, rfl, o_572⟩ (Nat.le_of_ble_eq_true rfl) (by have t := hs j (by omega); exact c158 (M := M2) d (s := 0) (mdl_Fk hm (Fvk_Fk (Fvk_trans hF (Fs_Fvk hF2)))) (Nat.lt_trans hlk.1 hk) i_607 (by decide) (sh_L (mdl_gds hm) _ (Nat.lt_trans hlk.1 hk) _ t.1) t.2.2.2.2.2 (sh_V (mdl_gds hm) _ (Nat.lt_trans hlk.1 hk) _ t.1 t.2.2.1 t.2.2.2.2.2) q5 (by omega)) rfl ?_
      rintro v M3 ⟨rfl, hF3⟩
      refine z_ist 97 rfl i_618 rfl ⟨by omega, by omega⟩ rfl ?_
      refine z_inc 3 100 [some (.ref 572), some (zi ((k : Nat) : Int)), some (zi (((ps k).2.1 : Nat) : Int)), some (zi (((j : Nat) : Int) + 1))] rfl rfl (Nat.le_of_ble_eq_true rfl) rfl rfl ?_
      refine x_go 52 rfl rfl ?_
      refine ih (SP.length - (j + 1)) (by omega) (j + 1) rfl (by omega) _ (Fvk_trans (Fvk_trans (Fvk_trans hF (Fs_Fvk hF2)) (Fyt_Fvk hF3)) (Fvk_ro (.inr rfl))) ?_ (fun i hi => ?_)
      · rw [sI_ne (by decide), hF3.1 615 (by decide) (by decide), hF2.1 615 (by decide) (by decide)]; exact h615
      rcases Nat.eq_or_lt_of_le (Nat.le_of_lt_succ hi) with e | e
      · subst e; rw [rd_eq, getE _ (by omega)]
      · exact (rd_nk (by omega)).trans ((congrFun (hF3.1 618 (by decide) (by decide)) _).trans ((congrFun (hF2.1 618 (by decide) (by decide)) _).trans (hL i e)))
theorem c157 (d : Nat) {ps : Nat → prt} {c : Nat} (hm : mdl M ps c) {k : Nat} (hk : k < c) (hK : 7 ≤ (ps k).1) {f : Nat} {VP : List (List Nat)} (v6 : VP.length ≤ 6) (hv : ∀ i, i < VP.length → tx_L VP[i]! ∧ VP[i]!.length ≤ 6 ∧ (sts ps (ps k).2.1).2 (tx_num VP[i]!) = true ∧ roL (M.1 597) (f + off VP i) VP[i]! ∧ f + off VP i + VP[i]!.length ≤ 6) (hV : lpP M 63 613 614 f VP VP.length) {s : Nat} {SP : List (List Nat)} (s6 : SP.length ≤ 6) (hs : ∀ i, i < SP.length → tx_L SP[i]! ∧ SP[i]!.length ≤ 6 ∧ (sts ps (ps k).2.1).1 (tx_num SP[i]!) = true ∧ roL (M.1 596) (s + off SP i) SP[i]! ∧ s + off SP i + SP[i]!.length ≤ 6 ∧ (sem_sh (pgo ps) (ps k).2.1 SP[i]!).length ≤ 6) (hS : lpP M 67 616 617 s SP SP.length) : ab_Z (pg_G L xs) (d + 6) 157 [.ref 572, zi (k : Nat)] M es (fun v M' => v = none ∧ Fvk M M' ∧ lkK M' 615 (VP.map (fun u => tx_num (sem_ky (pgo ps) (ps k).2.1 u))) VP.length ∧ lkK M' 618 (SP.map (fun u => tx_num (sem_ky (pgo ps) (ps k).2.1 (sem_sh (pgo ps) (ps k).2.1 u)))) SP.length) := by
  have hlk := (hm.2 k hk).1.2.2.2 (by omega)
  have hc31 := hm.1
  have hlf : M.1 577 (k : Int) = (((ps k).2.1 : Nat) : Int) := by
    have := (hm.2 k hk).2.2.2.1
    unfold mLf at this
    rw [if_pos (by omega)] at this
    exact this
  show ab_W (pg_G L xs) (ab_X (pg_G L xs) (d + 5)) 157 _ 0 [some (.ref 572), some (zi ((k : Nat) : Int)), none, none] [] (hp M ++ es)
  refine x_ld 0 1 2 1 rfl rfl rfl rfl rfl ?_
  refine g_572_8 22 4 rfl rfl rfl ?_
  refine x_ld 1 1 0 5 rfl rfl rfl rfl rfl ?_
  refine z_ild (((ps k).2.1 : Nat) : Int) 6 rfl i_577 rfl ⟨by omega, by omega⟩ hlf rfl ?_
  refine x_st 2 1 0 7 [some (.ref 572), some (zi ((k : Nat) : Int)), some (zi (((ps k).2.1 : Nat) : Int)), none] rfl rfl rfl (Nat.le_of_ble_eq_true rfl) rfl rfl ?_
  refine x_cst (zi 0) 1 8 rfl rfl rfl ?_
  refine x_st 3 1 0 9 [some (.ref 572), some (zi ((k : Nat) : Int)), some (zi (((ps k).2.1 : Nat) : Int)), some (zi 0)] rfl rfl rfl (Nat.le_of_ble_eq_true rfl) rfl rfl ?_
  refine c157_a (L := L) (xs := xs) (es := es) (M := M) d hm hk hK v6 hv hV (Q := fun r' h' => ∃ v M', r' = .inl v ∧ h' = hp M' ++ es ∧ v = none ∧ Fvk M M' ∧ lkK M' 615 (VP.map (fun u => tx_num (sem_ky (pgo ps) (ps k).2.1 u))) VP.length ∧ lkK M' 618 (SP.map (fun u => tx_num (sem_ky (pgo ps) (ps k).2.1 (sem_sh (pgo ps) (ps k).2.1 u)))) SP.length) ?_ _ 0 rfl (Nat.zero_le _) M (Fvk_refl _) (fun i hi => absurd hi (Nat.not_lt_zero i))
  intro M1 hF1 hL1
  refine x_cst (zi 0) 1 51 rfl rfl rfl ?_
  refine x_st 3 1 0 52 [some (.ref 572), some (zi ((k : Nat) : Int)), some (zi (((ps k).2.1 : Nat) : Int)), some (zi 0)] rfl rfl rfl (Nat.le_of_ble_eq_true rfl) rfl rfl ?_
  exact c157_b (L := L) (xs := xs) (es := es) (M := M1) d (mdl_Fk hm (Fvk_Fk hF1)) hk hK s6 (fun i hi => by rw [hF1.1 596 (by decide) (by decide)]; exact hs i hi) ⟨(hF1.2.1 67 (by decide) (by decide) (by decide) (by decide)).trans hS.1, fun i hi => by rw [hF1.1 616 (by decide) (by decide), hF1.1 617 (by decide) (by decide)]; exact hS.2 i hi⟩ (Q := fun r' h' => ∃ v M', r' = .inl v ∧ h' = hp M' ++ es ∧ v = none ∧ Fvk M M' ∧ lkK M' 615 (VP.map (fun u => tx_num (sem_ky (pgo ps) (ps k).2.1 u))) VP.length ∧ lkK M' 618 (SP.map (fun u => tx_num (sem_ky (pgo ps) (ps k).2.1 (sem_sh (pgo ps) (ps k).2.1 u)))) SP.length) (fun M2 hF2 e2 hL2 => ⟨none, M2, rfl, rfl, rfl, Fvk_trans hF1 hF2, fun i hi => by rw [e2]; exact hL1 i hi, hL2⟩) _ 0 rfl (Nat.zero_le _) M1 (Fvk_refl _) rfl (fun i hi => absurd hi (Nat.not_lt_zero i))
theorem rk_s (sk : List Nat) (x j : Nat) : rk sk x (j + 1) = rk sk x j + (if sk[j]! = x then 1 else 0) := by
  unfold rk
  simp only [cnt]
  by_cases h : sk[j]! = x
  · rw [if_pos h, beq_iff_eq.mpr h]; rfl
  · rw [if_neg h, beq_eq_false_iff_ne.mpr h]; rfl
theorem rk_mono (sk : List Nat) (x : Nat) {i j : Nat} (h : i ≤ j) : rk sk x i ≤ rk sk x j := by
  induction j with
  | zero => have : i = 0 := by omega
            subst this; exact Nat.le_refl _
  | succ j ih =>
    rcases Nat.eq_or_lt_of_le h with e | e
    · subst e; exact Nat.le_refl _
    · have := ih (by omega)
      rw [rk_s]; omega
theorem ct_take {vk : List Nat} {x i : Nat} (h : i < vk.length) : (vk.take (i + 1)).countP (fun y => y == x) = (vk.take i).countP (fun y => y == x) + (if vk[i]! = x then 1 else 0) := by
  rw [List.take_add_one, List.countP_append]
  have e : vk[i]? = some vk[i]! := by rw [List.getElem!_eq_getElem?_getD, List.getElem?_eq_getElem h]; rfl
  rw [e]
  by_cases g : vk[i]! = x
  · rw [if_pos g, show (some vk[i]!).toList = [vk[i]!] from rfl, List.countP_cons, beq_iff_eq.mpr g]; rfl
  · rw [if_neg g, show (some vk[i]!).toList = [vk[i]!] from rfl, List.countP_cons, beq_eq_false_iff_ne.mpr g]; rfl
theorem nth_no {sk : List Nat} {x c : Nat} (h : rk sk x sk.length ≤ c) : nth sk x c = none := by
  cases e : nth sk x c with
  | none => rfl
  | some j =>
    obtain ⟨h1, h2, h3⟩ := (nth_iff _ _ _ _).mp e
    have := rk_mono sk x (show j + 1 ≤ sk.length from h1)
    rw [rk_s, if_pos h2] at this
    omega
theorem c161_b (d : Nat) {sk vk : List Nat} (s6 : sk.length ≤ 6) (v6 : vk.length ≤ 6) (hsb : ∀ i, i < sk.length → sk[i]! < 1093) (hvb : ∀ i, i < vk.length → vk[i]! < 1093) {j : Nat} (hj : j < vk.length) (h67 : M.1 572 67 = (sk.length : Int)) (hvk : lkK M 615 vk vk.length) (hsk : lkK M 618 sk sk.length) {Q : ab_Q} (kk : Q (.inl (some (zi (oz (nth sk vk[j]! ((vk.take j).countP (fun y => y == vk[j]!))))))) (hp M ++ es)) : ∀ m i : Nat, sk.length - i = m → i ≤ sk.length → rk sk vk[j]! i ≤ ((vk.take j).countP (fun y => y == vk[j]!)) → ab_W (pg_G L xs) (ab_X (pg_G L xs) d) 161 Q 62 [some (.ref 572), some (zi (j : Nat)), some (zi 1), some (zi ((((vk.take j).countP (fun y => y == vk[j]!)) - rk sk vk[j]! i : Nat) : Int)), some (zi (i : Nat))] [] (hp M ++ es) := by
  have hcl : ((vk.take j).countP (fun y => y == vk[j]!)) ≤ 6 := Nat.le_trans List.countP_le_length (by rw [List.length_take]; omega)
  have hvj := hvb j hj
  intro m
  induction m using Nat.strongRecOn with
  | _ m ih =>
    intro i hm2 hi hr
    have q1 : i < sk.length → M.1 618 (i : Int) = ((sk[i]! : Nat) : Int) := fun h => hsk i h
    have q2 : i < sk.length → sk[i]! < 1093 := fun h => hsb i h
    have q3 := rk_s sk vk[j]! i
    refine x_ld 4 2 0 64 rfl rfl rfl rfl rfl ?_
    refine x_ld 0 1 2 65 rfl rfl rfl rfl rfl ?_
    refine g_572_67 341 68 rfl rfl h67 rfl ?_
    refine z_icge 103 71 rfl rfl rfl ⟨by omega, by omega⟩ ⟨by omega, by omega⟩ (fun c68 => ?_) (fun c68 => ?_)
    · refine x_cst (zi (-1)) 1 104 rfl rfl rfl ?_
      refine x_ret rfl rfl rfl rfl ?_
      rw [nth_no (sk := sk) (x := vk[j]!) (c := ((vk.take j).countP (fun y => y == vk[j]!))) (by rw [show sk.length = i by omega]; exact hr)] at kk; exact kk
    · refine x_ld 0 1 2 72 rfl rfl rfl rfl rfl ?_
      refine g_572_66 153 75 rfl rfl rfl ?_
      refine x_ld 4 2 0 77 rfl rfl rfl rfl rfl ?_
      refine z_ild ((sk[i]! : Nat) : Int) 78 rfl i_618 rfl ⟨by omega, by omega⟩ (q1 (by omega)) rfl ?_
      refine x_ld 0 1 2 79 rfl rfl rfl rfl rfl ?_
      refine g_572_62 144 82 rfl rfl rfl ?_
      refine x_ld 1 1 0 83 rfl rfl rfl rfl rfl ?_
      refine z_ild ((vk[j]! : Nat) : Int) 84 rfl i_615 rfl ⟨by omega, by omega⟩ (hvk j hj) rfl ?_
      refine z_icne 97 87 rfl rfl rfl ⟨by omega, by omega⟩ ⟨by omega, by omega⟩ (fun c84 => ?_) (fun c84 => ?_)
      · refine z_inc 4 100 [some (.ref 572), some (zi ((j : Nat) : Int)), some (zi 1), some (zi ((((vk.take j).countP (fun y => y == vk[j]!)) - rk sk vk[j]! i : Nat) : Int)), some (zi (((i : Nat) : Int) + 1))] rfl rfl (Nat.le_of_ble_eq_true rfl) rfl rfl ?_
        refine x_go 62 rfl rfl ?_
        have e9 : rk sk vk[j]! (i + 1) = rk sk vk[j]! i := by rw [if_neg (by omega)] at q3; omega
        have q9 := ih (sk.length - (i + 1)) (by omega) (i + 1) rfl (by omega) (by omega)
        have e8 : ((((vk.take j).countP (fun y => y == vk[j]!)) - rk sk vk[j]! i : Nat) : Int) = ((((vk.take j).countP (fun y => y == vk[j]!)) - rk sk vk[j]! (i + 1) : Nat) : Int) := by omega
        rw [e8]; exact q9
      · refine x_ld 3 1 0 88 rfl rfl rfl rfl rfl ?_
        refine z_ifne 94 91 rfl rfl rfl ⟨by omega, by omega⟩ (fun c88 => ?_) (fun c88 => ?_)
        · refine z_inc 3 97 [some (.ref 572), some (zi ((j : Nat) : Int)), some (zi 1), some (zi (((((vk.take j).countP (fun y => y == vk[j]!)) - rk sk vk[j]! i : Nat) : Int) + (-1))), some (zi ((i : Nat) : Int))] rfl rfl (Nat.le_of_ble_eq_true rfl) rfl rfl ?_
          refine z_inc 4 100 [some (.ref 572), some (zi ((j : Nat) : Int)), some (zi 1), some (zi (((((vk.take j).countP (fun y => y == vk[j]!)) - rk sk vk[j]! i : Nat) : Int) + (-1))), some (zi (((i : Nat) : Int) + 1))] rfl rfl (Nat.le_of_ble_eq_true rfl) rfl rfl ?_
          refine x_go 62 rfl rfl ?_
          have e9 : rk sk vk[j]! (i + 1) = rk sk vk[j]! i + 1 := by rw [if_pos (by omega)] at q3; omega
          have q9 := ih (sk.length - (i + 1)) (by omega) (i + 1) rfl (by omega) (by omega)
          have e8 : (((((vk.take j).countP (fun y => y == vk[j]!)) - rk sk vk[j]! i : Nat) : Int) + (-1)) = ((((vk.take j).countP (fun y => y == vk[j]!)) - rk sk vk[j]! (i + 1) : Nat) : Int) := by omega
          rw [e8]; exact q9
        · refine x_ld 4 2 0 93 rfl rfl rfl rfl rfl ?_
          refine x_ret rfl rfl rfl rfl ?_
          rw [(nth_iff sk vk[j]! ((vk.take j).countP (fun y => y == vk[j]!)) i).mpr ⟨by omega, by omega, by omega⟩] at kk; exact kk
theorem c161_a (d : Nat) {sk vk : List Nat} (s6 : sk.length ≤ 6) (v6 : vk.length ≤ 6) (hsb : ∀ i, i < sk.length → sk[i]! < 1093) (hvb : ∀ i, i < vk.length → vk[i]! < 1093) {j : Nat} (hj : j < vk.length) (h67 : M.1 572 67 = (sk.length : Int)) (hvk : lkK M 615 vk vk.length) (hsk : lkK M 618 sk sk.length) {Q : ab_Q} (kk : Q (.inl (some (zi (oz (nth sk vk[j]! ((vk.take j).countP (fun y => y == vk[j]!))))))) (hp M ++ es)) : ∀ m i : Nat, j - i = m → i ≤ j → ab_W (pg_G L xs) (ab_X (pg_G L xs) d) 161 Q 23 [some (.ref 572), some (zi (j : Nat)), some (zi 1), some (zi (((vk.take i).countP (fun y => y == vk[j]!) : Nat) : Int)), some (zi (i : Nat))] [] (hp M ++ es) := by
  have hvj := hvb j hj
  intro m
  induction m using Nat.strongRecOn with
  | _ m ih =>
    intro i hm2 hi
    have hcl : (vk.take i).countP (fun y => y == vk[j]!) ≤ 6 := Nat.le_trans List.countP_le_length (by rw [List.length_take]; omega)
    have q1 : i < vk.length → M.1 615 (i : Int) = ((vk[i]! : Nat) : Int) := fun h => hvk i h
    have q2 : i < vk.length → vk[i]! < 1093 := fun h => hvb i h
    have q3 : i < j → (vk.take (i + 1)).countP (fun y => y == vk[j]!) = (vk.take i).countP (fun y => y == vk[j]!) + (if vk[i]! = vk[j]! then 1 else 0) := fun h => ct_take (by omega)
    refine x_ld 4 2 0 25 rfl rfl rfl rfl rfl ?_
    refine x_ld 1 1 0 26 rfl rfl rfl rfl rfl ?_
    refine z_icge 59 29 rfl rfl rfl ⟨by omega, by omega⟩ ⟨by omega, by omega⟩ (fun c26 => ?_) (fun c26 => ?_)
    · have e : i = j := by omega
      subst e
      refine x_cst (zi 0) 1 60 rfl rfl rfl ?_
      refine x_st 4 2 0 62 [some (.ref 572), some (zi ((i : Nat) : Int)), some (zi 1), some (zi ((((vk.take i).countP (fun y => y == vk[i]!)) : Nat) : Int)), some (zi 0)] rfl rfl rfl (Nat.le_of_ble_eq_true rfl) rfl rfl ?_
      exact c161_b d s6 v6 hsb hvb hj h67 hvk hsk kk _ 0 rfl (Nat.zero_le _) (Nat.zero_le _)
    · refine x_ld 0 1 2 30 rfl rfl rfl rfl rfl ?_
      refine g_572_62 144 33 rfl rfl rfl ?_
      refine x_ld 4 2 0 35 rfl rfl rfl rfl rfl ?_
      refine z_ild ((vk[i]! : Nat) : Int) 36 rfl i_615 rfl ⟨by omega, by omega⟩ (q1 (by omega)) rfl ?_
      refine x_ld 0 1 2 37 rfl rfl rfl rfl rfl ?_
      refine g_572_62 144 40 rfl rfl rfl ?_
      refine x_ld 1 1 0 41 rfl rfl rfl rfl rfl ?_
      refine z_ild ((vk[j]! : Nat) : Int) 42 rfl i_615 rfl ⟨by omega, by omega⟩ (hvk j hj) rfl ?_
      refine z_icne 51 45 rfl rfl rfl ⟨by omega, by omega⟩ ⟨by omega, by omega⟩ (fun c42 => ?_) (fun c42 => ?_)
      · refine x_ld 3 1 0 52 rfl rfl rfl rfl rfl ?_
        refine x_st 3 1 0 53 [some (.ref 572), some (zi ((j : Nat) : Int)), some (zi 1), some (zi (((vk.take i).countP (fun y => y == vk[j]!) : Nat) : Int)), some (zi ((i : Nat) : Int))] rfl rfl rfl (Nat.le_of_ble_eq_true rfl) rfl rfl ?_
        refine z_inc 4 56 [some (.ref 572), some (zi ((j : Nat) : Int)), some (zi 1), some (zi (((vk.take i).countP (fun y => y == vk[j]!) : Nat) : Int)), some (zi (((i : Nat) : Int) + 1))] rfl rfl (Nat.le_of_ble_eq_true rfl) rfl rfl ?_
        refine x_go 23 rfl rfl ?_
        have e9 := q3 (by omega); rw [if_neg (by omega)] at e9
        have q9 := ih (j - (i + 1)) (by omega) (i + 1) rfl (by omega)
        rw [e9] at q9; exact q9
      · refine x_ld 3 1 0 46 rfl rfl rfl rfl rfl ?_
        refine x_cst (zi 1) 1 47 rfl rfl rfl ?_
        refine z_add 48 rfl rfl ?_
        refine x_go 52 rfl rfl ?_
        refine x_st 3 1 0 53 [some (.ref 572), some (zi ((j : Nat) : Int)), some (zi 1), some (zi ((((vk.take i).countP (fun y => y == vk[j]!) : Nat) : Int) + 1)), some (zi ((i : Nat) : Int))] rfl rfl rfl (Nat.le_of_ble_eq_true rfl) rfl rfl ?_
        refine z_inc 4 56 [some (.ref 572), some (zi ((j : Nat) : Int)), some (zi 1), some (zi ((((vk.take i).countP (fun y => y == vk[j]!) : Nat) : Int) + 1)), some (zi (((i : Nat) : Int) + 1))] rfl rfl (Nat.le_of_ble_eq_true rfl) rfl rfl ?_
        refine x_go 23 rfl rfl ?_
        have e9 := q3 (by omega); rw [if_pos (by omega)] at e9
        have q9 := ih (j - (i + 1)) (by omega) (i + 1) rfl (by omega)
        rw [e9] at q9; exact q9
theorem c161 (d : Nat) {sk vk : List Nat} (s6 : sk.length ≤ 6) (v6 : vk.length ≤ 6) (hsb : ∀ i, i < sk.length → sk[i]! < 1093) (hvb : ∀ i, i < vk.length → vk[i]! < 1093) {j : Nat} (hj : j < vk.length) (h67 : M.1 572 67 = (sk.length : Int)) (hvk : lkK M 615 vk vk.length) (hsk : lkK M 618 sk sk.length) : ab_S (pg_G L xs) (d + 1) 161 [.ref 572, zi (j : Nat), zi 1] (hp M ++ es) (some (zi (oz (org true sk vk j)))) (hp M ++ es) := by
  show ab_W (pg_G L xs) (ab_X (pg_G L xs) d) 161 _ 0 [some (.ref 572), some (zi ((j : Nat) : Int)), some (zi 1), none, none] [] (hp M ++ es)
  refine x_ld 2 1 0 1 rfl rfl rfl rfl rfl ?_
  refine z_ifne 18 4 rfl rfl rfl (rg_lit 1 rfl) (fun _ => ?_) (fun c => absurd c (by decide))
  refine x_cst (zi 0) 1 19 rfl rfl rfl ?_
  refine x_st 3 1 0 20 [some (.ref 572), some (zi ((j : Nat) : Int)), some (zi 1), some (zi 0), none] rfl rfl rfl (Nat.le_of_ble_eq_true rfl) rfl rfl ?_
  refine x_cst (zi 0) 1 21 rfl rfl rfl ?_
  refine x_st 4 2 0 23 [some (.ref 572), some (zi ((j : Nat) : Int)), some (zi 1), some (zi 0), some (zi 0)] rfl rfl rfl (Nat.le_of_ble_eq_true rfl) rfl rfl ?_
  exact c161_a (i := 0) d s6 v6 hsb hvb hj h67 hvk hsk ⟨rfl, rfl⟩ _ rfl (Nat.zero_le _)
theorem c161p (d : Nat) {sk vk : List Nat} (s6 : sk.length ≤ 6) {j : Nat} (hj : j ≤ 6) (h67 : M.1 572 67 = (sk.length : Int)) : ab_S (pg_G L xs) (d + 1) 161 [.ref 572, zi (j : Nat), zi 0] (hp M ++ es) (some (zi (oz (org false sk vk j)))) (hp M ++ es) := by
  rw [show org false sk vk j = (if j < sk.length then some j else none) from rfl]
  show ab_W (pg_G L xs) (ab_X (pg_G L xs) d) 161 _ 0 [some (.ref 572), some (zi ((j : Nat) : Int)), some (zi 0), none, none] [] (hp M ++ es)
  refine x_ld 2 1 0 1 rfl rfl rfl rfl rfl ?_
  refine z_ifne 18 4 rfl rfl rfl (rg_lit 0 rfl) (fun c => absurd c (by decide)) (fun _ => ?_)
  refine x_ld 1 1 0 5 rfl rfl rfl rfl rfl ?_
  refine x_ld 0 1 2 6 rfl rfl rfl rfl rfl ?_
  refine g_572_67 341 9 rfl rfl h67 rfl ?_
  refine z_icge 16 12 rfl rfl rfl ⟨by omega, by omega⟩ ⟨by omega, by omega⟩ (fun c9 => ?_) (fun c9 => ?_)
  · refine x_cst (zi (-1)) 1 17 rfl rfl rfl ?_
    refine x_ret rfl rfl rfl rfl ?_
    rw [if_neg (by omega)]; exact ⟨rfl, rfl⟩
  · refine x_ld 1 1 0 13 rfl rfl rfl rfl rfl ?_
    refine x_go 17 rfl rfl ?_
    refine x_ret rfl rfl rfl rfl ?_
    rw [if_pos (by omega)]; exact ⟨rfl, rfl⟩
end E3
