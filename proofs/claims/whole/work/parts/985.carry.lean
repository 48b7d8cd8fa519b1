/-! OURS, printed by wip/tools/gen985.py: the reference carries a view. -/
abbrev tk : Type := Nat × Nat × List Nat × Option (Nat × List Nat)
def spx : Option (Nat × List Nat) → Int × Nat
  | none => (-1, 0)
  | some p => ((p.1 : Int), p.2.length)
def tki (t : tk) : cI := (t.1, t.2.1, t.2.2.1.length, spx t.2.2.2)
def sca (P : pgm) (k : Nat) (w : List Nat) : Option (Nat × List Nat) → List Nat
  | none => sem_cr P k w
  | some p => sem_pu P k p.2 w
def tkr (P : pgm) (t : tk) : List Nat := sca P t.1 t.2.2.1 t.2.2.2
def sok (M : mm) (ps : Nat → prt) (k : Nat) : Option (Nat × List Nat) → Prop
  | none => True
  | some p => tx_L p.2 ∧ p.2.length ≤ 6 ∧ (sts ps k).1 (tx_num p.2) = true ∧ p.1 + p.2.length ≤ 6 ∧ roL (M.1 596) p.1 p.2 ∧ (sem_sh (pgo ps) k p.2).length ≤ 6
def tok (M : mm) (ps : Nat → prt) (t : tk) : Prop := tx_L t.2.2.1 ∧ t.2.2.1.length ≤ 6 ∧ (sts ps t.1).2 (tx_num t.2.2.1) = true ∧ t.2.1 + t.2.2.1.length ≤ 6 ∧ roL (M.1 597) t.2.1 t.2.2.1 ∧ sok M ps t.1 t.2.2.2
theorem tok_of {M M' : mm} {ps : Nat → prt} {t : tk} (h1 : M'.1 596 = M.1 596) (h2 : M'.1 597 = M.1 597) (h : tok M ps t) : tok M' ps t := by
  obtain ⟨a, b, c, d, e, g⟩ := h
  refine ⟨a, b, c, d, by rw [h2]; exact e, ?_⟩
  generalize t.2.2.2 = o at g
  cases o with
  | none => trivial
  | some p => exact ⟨g.1, g.2.1, g.2.2.1, g.2.2.2.1, by rw [h1]; exact g.2.2.2.2.1, g.2.2.2.2.2⟩
theorem rng_le {α : Type} (R : Nat → List α) (j n : Nat) (h : j ≤ n) : ((List.range j).flatMap R).length ≤ ((List.range n).flatMap R).length := by
  induction n with
  | zero => have : j = 0 := by omega
            subst this; exact Nat.le_refl _
  | succ n ih =>
    rcases Nat.eq_or_lt_of_le h with e | e
    · subst e; exact Nat.le_refl _
    · have := ih (by omega)
      rw [List.range_succ, List.flatMap_append, List.length_append]; omega
theorem rng_fm {α β : Type} [Inhabited α] (l : List α) (f : α → List β) : l.flatMap f = (List.range l.length).flatMap (fun i => f l[i]!) := by
  have e : l = (List.range l.length).map (fun i => l[i]!) := by
    apply List.ext_getElem
    · simp
    · intro i h1 h2
      simp [h1]
  conv => lhs; rw [e]
  rw [List.flatMap_map]
abbrev cW (L : Nat) (xs : Nat → Int32) (es : ab_H) (d : Nat) (Q : ab_Q) (o1 o2 o3 o4 : Option Value) (M : mm) : Prop := ab_W (pg_G L xs) (ab_X (pg_G L xs) (d + 8)) 150 Q 20 [some (.ref 572), o1, o2, o3, o4] [] (hp M ++ es)
def CA (L : Nat) (xs : Nat → Int32) (es : ab_H) (d : Nat) (Q : ab_Q) (o1 o2 o3 o4 : Option Value) (ps : Nat → prt) (c k : Nat) : Prop := ∀ (M : mm) (t : tk) (bs : List cI) (u : List Nat), t.1 = k → mdl M ps c → M.1 572 6 = (c : Int) → tok M ps t → bs.length + 1 + 5 * k ≤ 200 → u.length + (tkr (pgo ps) t).length ≤ 250 → ctS M (bs ++ [tki t]) u → (∀ M', Fc M M' → ctS M' bs (u ++ tkr (pgo ps) t) → cW L xs es d Q o1 o2 o3 o4 M') → cW L xs es d Q o1 o2 o3 o4 M
theorem run_list {L : Nat} {xs : Nat → Int32} {es : ab_H} {d : Nat} {Q : ab_Q} {o1 o2 o3 o4 : Option Value} {ps : Nat → prt} {c k : Nat} (hCA : ∀ l, l < k → CA L xs es d Q o1 o2 o3 o4 ps c l) {bs : List cI} : ∀ (rs : List tk) (M : mm) (u : List Nat), mdl M ps c → M.1 572 6 = (c : Int) → (∀ t ∈ rs, t.1 < k ∧ tok M ps t) → bs.length + rs.length + 5 * (k - 1) ≤ 200 → u.length + (rs.flatMap (tkr (pgo ps))).length ≤ 250 → ctS M (bs ++ (rs.map tki).reverse) u → (∀ M', Fc M M' → ctS M' bs (u ++ rs.flatMap (tkr (pgo ps))) → cW L xs es d Q o1 o2 o3 o4 M') → cW L xs es d Q o1 o2 o3 o4 M := by
  intro rs
  induction rs with
  | nil =>
    intro M u hm h6 ht hb hu hS kk
    refine kk M (Fc_refl _) ?_
    rw [List.flatMap_nil, List.append_nil]
    rw [List.map_nil, List.reverse_nil, List.append_nil] at hS
    exact hS
  | cons t rs ih =>
    intro M u hm h6 ht hb hu hS kk
    have h1 := ht t (List.mem_cons_self ..)
    rw [List.map_cons, List.reverse_cons, ← List.append_assoc] at hS
    rw [List.flatMap_cons, List.length_append] at hu
    rw [List.length_cons] at hb
    refine hCA t.1 h1.1 M t _ u rfl hm h6 h1.2 (by rw [List.length_append, List.length_reverse, List.length_map]; omega) (by omega) hS (fun M2 hF2 hS2 => ?_)
    refine ih M2 _ (mdl_Fk hm (Fc_Fk hF2)) ((hF2.2.1 6 (by unfold cF; omega)).trans h6) (fun t' h' => ⟨(ht t' (List.mem_cons_of_mem _ h')).1, tok_of (hF2.1 596 (by decide) (by decide)) (hF2.1 597 (by decide) (by decide)) (ht t' (List.mem_cons_of_mem _ h')).2⟩) (by omega) (by rw [List.length_append]; omega) hS2 (fun M3 hF3 hS3 => ?_)
    refine kk M3 (Fc_trans hF2 hF3) ?_
    rw [List.flatMap_cons, ← List.append_assoc]
    exact hS3
section E5
variable {L : Nat} {xs : Nat → Int32} {M : mm} {es : ab_H}
theorem c150_step (d : Nat) {Q : ab_Q} {o1 o2 o3 o4 : Option Value} {bs : List cI} (hb : bs.length < 256) {t : tk} {u : List Nat} (hS : ctS M (bs ++ [tki t]) u) {F : mm → Prop} (c1 : ab_Z (pg_G L xs) (d + 8) 152 [.ref 572, zi (t.1 : Nat), zi (t.2.1 : Nat), zi (t.2.2.1.length : Nat), zi (spx t.2.2.2).1, zi ((spx t.2.2.2).2 : Nat)] (sI M 572 41 ((bs.length : Nat) : Int)) es (fun v M' => v = none ∧ F M')) (kk : ∀ M', F M' → cW L xs es d Q o1 o2 o3 o4 M') : cW L xs es d Q o1 o2 o3 o4 M := by
  have hl : M.1 572 41 = ((bs.length + 1 : Nat) : Int) := by rw [hS.1.1, List.length_append]; rfl
  have ht := hS.1.2 bs.length (by rw [List.length_append]; simp)
  rw [snoc_at] at ht
  have t1 : (sI M 572 41 ((bs.length : Nat) : Int)).1 599 ((bs.length : Nat) : Int) = ((t.1 : Nat) : Int) := (rd_na (by decide)).trans ht.1
  have t2 : (sI M 572 41 ((bs.length : Nat) : Int)).1 600 ((bs.length : Nat) : Int) = ((t.2.1 : Nat) : Int) := (rd_na (by decide)).trans ht.2.1
  have t3 : (sI M 572 41 ((bs.length : Nat) : Int)).1 601 ((bs.length : Nat) : Int) = ((t.2.2.1.length : Nat) : Int) := (rd_na (by decide)).trans ht.2.2.1
  have t4 : (sI M 572 41 ((bs.length : Nat) : Int)).1 602 ((bs.length : Nat) : Int) = (spx t.2.2.2).1 := (rd_na (by decide)).trans ht.2.2.2.1
  have t5 : (sI M 572 41 ((bs.length : Nat) : Int)).1 603 ((bs.length : Nat) : Int) = (((spx t.2.2.2).2 : Nat) : Int) := (rd_na (by decide)).trans ht.2.2.2.2
  refine x_ld 0 1 2 21 rfl rfl rfl rfl rfl ?_
  refine g_572_41 320 24 rfl rfl hl rfl ?_
  refine z_ifle 89 27 rfl rfl rfl ⟨by omega, by omega⟩ (fun c => absurd c (by omega)) (fun _ => ?_)
  refine x_ld 0 1 2 28 rfl rfl rfl rfl rfl ?_
  refine x_dup 29 rfl rfl rfl ?_
  refine g_572_41 320 32 rfl rfl hl rfl ?_
  refine x_cst (zi 1) 1 33 rfl rfl rfl ?_
  refine z_sub 34 rfl rfl ?_
  rw [show ((bs.length + 1 : Nat) : Int) - 1 = ((bs.length : Nat) : Int) from (by omega)]
  refine s_572_41 320 37 rfl rfl rfl rfl rfl rfl ?_
  refine x_ld 0 1 2 38 rfl rfl rfl rfl rfl ?_
  refine x_ld 0 1 2 39 rfl rfl rfl rfl rfl ?_
  refine g_572_42 96 42 rfl rfl rfl ?_
  refine x_ld 0 1 2 43 rfl rfl rfl rfl rfl ?_
  refine g_572_41 320 46 rfl rfl rd_eq rfl ?_
  refine z_ild ((t.1 : Nat) : Int) 47 rfl i_599 rfl ⟨by omega, by omega⟩ t1 rfl ?_
  refine x_ld 0 1 2 48 rfl rfl rfl rfl rfl ?_
  refine g_572_43 99 51 rfl rfl rfl ?_
  refine x_ld 0 1 2 52 rfl rfl rfl rfl rfl ?_
  refine g_572_41 320 55 rfl rfl rd_eq rfl ?_
  refine z_ild ((t.2.1 : Nat) : Int) 56 rfl i_600 rfl ⟨by omega, by omega⟩ t2 rfl ?_
  refine x_ld 0 1 2 57 rfl rfl rfl rfl rfl ?_
  refine g_572_44 102 60 rfl rfl rfl ?_
  refine x_ld 0 1 2 61 rfl rfl rfl rfl rfl ?_
  refine g_572_41 320 64 rfl rfl rd_eq rfl ?_
  refine z_ild ((t.2.2.1.length : Nat) : Int) 65 rfl i_601 rfl ⟨by omega, by omega⟩ t3 rfl ?_
  refine x_ld 0 1 2 66 rfl rfl rfl rfl rfl ?_
  refine g_572_45 105 69 rfl rfl rfl ?_
  refine x_ld 0 1 2 70 rfl rfl rfl rfl rfl ?_
  refine g_572_41 320 73 rfl rfl rd_eq rfl ?_
  refine z_ild ((spx t.2.2.2).1) 74 rfl i_602 rfl ⟨by omega, by omega⟩ t4 rfl ?_
  refine x_ld 0 1 2 75 rfl rfl rfl rfl rfl ?_
  refine g_572_46 108 78 rfl rfl rfl ?_
  refine x_ld 0 1 2 79 rfl rfl rfl rfl rfl ?_
  refine g_572_41 320 82 rfl rfl rd_eq rfl ?_
  refine z_ild (((spx t.2.2.2).2 : Nat) : Int) 83 rfl i_603 rfl ⟨by omega, by omega⟩ t5 rfl ?_
  refine x_ce 326 152 86 [.ref 572, zi ((t.1 : Nat) : Int), zi ((t.2.1 : Nat) : Int), zi ((t.2.2.1.length : Nat) : Int), zi ((spx t.2.2.2).1), zi (((spx t.2.2.2).2 : Nat) : Int)] rfl rfl rfl (Nat.le_of_ble_eq_true rfl) rfl rfl (Nat.le_of_ble_eq_true rfl) ⟨_, _, _, rfl, o_572⟩ (Nat.le_of_ble_eq_true rfl) c1 rfl ?_
  rintro v M' ⟨rfl, hF⟩
  refine x_go 20 rfl rfl ?_
  exact kk M' hF
theorem one_low (d : Nat) {ps : Nat → prt} {c : Nat} (hm : mdl M ps c) {k : Nat} (hk : k < c) {f : Nat} {w : List Nat} {src : Option (Nat × List Nat)} (ht : tok M ps (k, f, w, src)) {bs : List cI} (hbs : bs.length + 6 ≤ 256) {u : List Nat} (hu : u.length < 256) (hS : ctS M bs u) (hK6 : (ps k).1 ≤ 6) : ∃ (rs : List tk) (o : List Nat), (∀ t ∈ rs, t.1 < k ∧ tok M ps t) ∧ rs.length ≤ 6 ∧ o ++ rs.flatMap (tkr (pgo ps)) = tkr (pgo ps) (k, f, w, src) ∧ ab_Z (pg_G L xs) (d + 8) 152 [.ref 572, zi (k : Nat), zi (f : Nat), zi (w.length : Nat), zi (spx src).1, zi ((spx src).2 : Nat)] M es (fun v M' => v = none ∧ (ctS M' (bs ++ (rs.map tki).reverse) (u ++ o) ∧ Fc M M')) := by
  obtain ⟨hw, h6, ms, hf, hr, hso⟩ : tx_L w ∧ w.length ≤ 6 ∧ (sts ps k).2 (tx_num w) = true ∧ f + w.length ≤ 6 ∧ roL (M.1 597) f w ∧ sok M ps k src := ht
  have hc31 := hm.1
  have hwf := (hm.2 k hk).1
  have hl := hwf.2.2.2
  have g2 := (mdl_gds hm k hk).2
  have hKK : ∃ K, (ps k).1 = K := ⟨_, rfl⟩
  obtain ⟨K, hK⟩ := hKK
  have hpK : pK (pgo ps) k = K := hK
  rw [show pK (pgo ps) k = K from hK] at g2
  rw [hK] at hK6
  match K, hK6, hK, hpK, g2 with
  | 0, _, hK, hpK, g2 =>
    cases src with
    | none =>
      refine ⟨[], w, fun t h => absurd h (List.not_mem_nil), by decide, ?_, ?_⟩
      · rw [List.flatMap_nil, List.append_nil]; exact (cr_0 hpK w).symm
      · by_cases hT : (ps k).2.2.2 = 0
        · exact c152n_0a (d + 4) hm hk hw h6 ms hf hr hbs hu hS hK hT
        · exact c152n_0b (d + 4) hm hk hw h6 ms hf hr hbs hu hS hK hT
    | some p =>
      obtain ⟨s, sw⟩ := p
      obtain ⟨hs, s6, mss, hsf, hsr, hsh⟩ : tx_L sw ∧ sw.length ≤ 6 ∧ (sts ps k).1 (tx_num sw) = true ∧ s + sw.length ≤ 6 ∧ roL (M.1 596) s sw ∧ (sem_sh (pgo ps) k sw).length ≤ 6 := hso
      refine ⟨[], w, fun t h => absurd h (List.not_mem_nil), by decide, ?_, ?_⟩
      · rw [List.flatMap_nil, List.append_nil]; exact (pu_0 hpK sw w).symm
      · by_cases hT : (ps k).2.2.2 = 0
        · exact c152s_0a (d + 4) hm hk hw h6 ms hf hr hbs hu hS hs s6 mss hsf hsr hK hT
        · exact c152s_0b (d + 4) hm hk hw h6 ms hf hr hbs hu hS hs s6 mss hsf hsr hK hT
  | 1, _, hK, hpK, g2 =>
    cases src with
    | none =>
      refine ⟨[], [(ps k).2.2.2 - 1], fun t h => absurd h (List.not_mem_nil), by decide, ?_, ?_⟩
      · rw [List.flatMap_nil, List.append_nil]; exact (cr_1 hpK w).symm
      · by_cases hT : (ps k).2.2.2 = 0
        · exact c152n_1a (d + 4) hm hk hw h6 ms hf hr hbs hu hS hK hT
        · exact c152n_1b (d + 4) hm hk hw h6 ms hf hr hbs hu hS hK hT
    | some p =>
      obtain ⟨s, sw⟩ := p
      obtain ⟨hs, s6, mss, hsf, hsr, hsh⟩ : tx_L sw ∧ sw.length ≤ 6 ∧ (sts ps k).1 (tx_num sw) = true ∧ s + sw.length ≤ 6 ∧ roL (M.1 596) s sw ∧ (sem_sh (pgo ps) k sw).length ≤ 6 := hso
      refine ⟨[], sw, fun t h => absurd h (List.not_mem_nil), by decide, ?_, ?_⟩
      · rw [List.flatMap_nil, List.append_nil]; exact (pu_1 hpK sw w).symm
      · exact c152s_1 (d + 4) hm hk hw h6 ms hf hr hbs hu hS hs s6 mss hsf hsr hK
  | 2, _, hK, hpK, g2 =>
    cases src with
    | none =>
      refine ⟨[], [], fun t h => absurd h (List.not_mem_nil), by decide, ?_, ?_⟩
      · rw [List.flatMap_nil, List.append_nil]; exact (cr_2 hpK w).symm
      · exact c152n_2 (d + 4) hm hk hw h6 ms hf hr hbs hu hS hK
    | some p =>
      obtain ⟨s, sw⟩ := p
      obtain ⟨hs, s6, mss, hsf, hsr, hsh⟩ : tx_L sw ∧ sw.length ≤ 6 ∧ (sts ps k).1 (tx_num sw) = true ∧ s + sw.length ≤ 6 ∧ roL (M.1 596) s sw ∧ (sem_sh (pgo ps) k sw).length ≤ 6 := hso
      refine ⟨[], [], fun t h => absurd h (List.not_mem_nil), by decide, ?_, ?_⟩
      · rw [List.flatMap_nil, List.append_nil]; exact (pu_2 hpK sw w).symm
      · exact c152s_2 (d + 4) hm hk hw h6 ms hf hr hbs hu hS hs s6 mss hsf hsr hK
  | 3, _, hK, hpK, g2 =>
    have hlk := hl (by omega)
    cases src with
    | none =>
      refine ⟨[((ps k).2.1, f, w, none)], [], fun t h => ?_, by simp, ?_, ?_⟩
      · rw [List.mem_singleton.mp h]
        exact ⟨hlk.1, hw, h6, (g2.2.2 _).symm.trans ms, hf, hr, trivial⟩
      · rw [List.nil_append, List.flatMap_singleton]; show _ = sem_cr (pgo ps) k w; rw [cr_3 hpK g2.1]; rfl
      · exact c152n_3 (d + 4) hm hk hw h6 ms hf hr hbs hu hS hK
    | some p =>
      obtain ⟨s, sw⟩ := p
      obtain ⟨hs, s6, mss, hsf, hsr, hsh⟩ : tx_L sw ∧ sw.length ≤ 6 ∧ (sts ps k).1 (tx_num sw) = true ∧ s + sw.length ≤ 6 ∧ roL (M.1 596) s sw ∧ (sem_sh (pgo ps) k sw).length ≤ 6 := hso
      refine ⟨[((ps k).2.1, f, w, some (s, sw))], [], fun t h => ?_, by simp, ?_, ?_⟩
      · rw [List.mem_singleton.mp h]
        have e := sh_3 hpK g2.1 sw
        rw [e] at hsh
        exact ⟨hlk.1, hw, h6, (g2.2.2 _).symm.trans ms, hf, hr, hs, s6, (g2.2.1 _).symm.trans mss, hsf, hsr, hsh⟩
      · rw [List.nil_append, List.flatMap_singleton]; show _ = sem_pu (pgo ps) k sw w; rw [pu_3 hpK g2.1]; rfl
      · exact c152s_3 (d + 4) hm hk hw h6 ms hf hr hbs hu hS hs s6 mss hsf hsr hK
  | 4, _, hK, hpK, g2 =>
    have hlk := hl (by omega)
    cases src with
    | none =>
      have hor : ((sts ps (ps k).2.1).2 (tx_num w) || (sts ps (ps k).2.2.1).2 (tx_num w)) = true := (g2.2.2 _).symm.trans ms
      have q := c152n_4 (L := L) (xs := xs) (es := es) (d + 4) hm hk hw h6 ms hf hr hbs hu hS hK (c154n (d + 4) hm hk hw h6 ms hf hr hbs hu hS hK)
      cases hb : (sts ps (ps k).2.1).2 (tx_num w) with
      | true =>
        rw [hb] at q hor
        refine ⟨[((ps k).2.1, f, w, none)], [], fun t h => ?_, by simp, ?_, q⟩
        · rw [List.mem_singleton.mp h]
          exact ⟨hlk.1, hw, h6, hb, hf, hr, trivial⟩
        · rw [List.nil_append, List.flatMap_singleton]; show _ = sem_cr (pgo ps) k w; rw [cr_4 hpK g2.1, show pV (pgo ps) (pL (pgo ps) k) (tx_num w) = true from hb]; rfl
      | false =>
        rw [hb] at q hor
        refine ⟨[((ps k).2.2.1, f, w, none)], [], fun t h => ?_, by simp, ?_, q⟩
        · rw [List.mem_singleton.mp h]
          exact ⟨hlk.2, hw, h6, hor, hf, hr, trivial⟩
        · rw [List.nil_append, List.flatMap_singleton]; show _ = sem_cr (pgo ps) k w; rw [cr_4 hpK g2.1, show pV (pgo ps) (pL (pgo ps) k) (tx_num w) = false from hb]; rfl
    | some p =>
      obtain ⟨s, sw⟩ := p
      obtain ⟨hs, s6, mss, hsf, hsr, hsh⟩ : tx_L sw ∧ sw.length ≤ 6 ∧ (sts ps k).1 (tx_num sw) = true ∧ s + sw.length ≤ 6 ∧ roL (M.1 596) s sw ∧ (sem_sh (pgo ps) k sw).length ≤ 6 := hso
      have hor : ((sts ps (ps k).2.1).2 (tx_num w) || (sts ps (ps k).2.2.1).2 (tx_num w)) = true := (g2.2.2 _).symm.trans ms
      have hos : ((sts ps (ps k).2.1).1 (tx_num sw) || (sts ps (ps k).2.2.1).1 (tx_num sw)) = true := (g2.2.1 _).symm.trans mss
      have q := c152s_4 (L := L) (xs := xs) (es := es) (d + 4) hm hk hw h6 ms hf hr hbs hu hS hs s6 mss hsf hsr hK (c154s (d + 4) hm hk hw h6 ms hf hr hbs hu hS hs s6 mss hsf hsr hK)
      have e := sh_4 hpK g2.1 sw
      rw [e] at hsh
      have e2 := pu_4 hpK g2.1 sw w
      cases hb : (sts ps (ps k).2.1).1 (tx_num sw) with
      | true =>
        rw [hb] at q hos
        rw [show pS_ (pgo ps) (pL (pgo ps) k) (tx_num sw) = true from hb] at hsh e2
        cases hv : (sts ps (ps k).2.1).2 (tx_num w) with
        | true =>
          rw [hv] at q hor
          rw [show pV (pgo ps) (pL (pgo ps) k) (tx_num w) = true from hv] at e2
          refine ⟨[((ps k).2.1, f, w, some (s, sw))], [], fun t h => ?_, by simp, ?_, q⟩
          · rw [List.mem_singleton.mp h]
            exact ⟨hlk.1, hw, h6, hv, hf, hr, hs, s6, hb, hsf, hsr, hsh⟩
          · rw [List.nil_append, List.flatMap_singleton]; show _ = sem_pu (pgo ps) k sw w; rw [e2]; rfl
        | false =>
          rw [hv] at q hor
          rw [show pV (pgo ps) (pL (pgo ps) k) (tx_num w) = false from hv] at e2
          refine ⟨[((ps k).2.2.1, f, w, none)], [], fun t h => ?_, by simp, ?_, q⟩
          · rw [List.mem_singleton.mp h]
            exact ⟨hlk.2, hw, h6, by simpa using hor, hf, hr, trivial⟩
          · rw [List.nil_append, List.flatMap_singleton]; show _ = sem_pu (pgo ps) k sw w; rw [e2]; rfl
      | false =>
        rw [hb] at q hos
        rw [show pS_ (pgo ps) (pL (pgo ps) k) (tx_num sw) = false from hb] at hsh e2
        cases hv : (sts ps (ps k).2.2.1).2 (tx_num w) with
        | true =>
          rw [hv] at q hor
          rw [show pV (pgo ps) (pR (pgo ps) k) (tx_num w) = true from hv] at e2
          refine ⟨[((ps k).2.2.1, f, w, some (s, sw))], [], fun t h => ?_, by simp, ?_, q⟩
          · rw [List.mem_singleton.mp h]
            exact ⟨hlk.2, hw, h6, hv, hf, hr, hs, s6, hos, hsf, hsr, hsh⟩
          · rw [List.nil_append, List.flatMap_singleton]; show _ = sem_pu (pgo ps) k sw w; rw [e2]; rfl
        | false =>
          rw [hv] at q hor
          rw [show pV (pgo ps) (pR (pgo ps) k) (tx_num w) = false from hv] at e2
          refine ⟨[((ps k).2.1, f, w, none)], [], fun t h => ?_, by simp, ?_, q⟩
          · rw [List.mem_singleton.mp h]
            exact ⟨hlk.1, hw, h6, by simpa using hor, hf, hr, trivial⟩
          · rw [List.nil_append, List.flatMap_singleton]; show _ = sem_pu (pgo ps) k sw w; rw [e2]; rfl
  | 5, _, hK, hpK, g2 =>
    have hlk := hl (by omega)
    cases src with
    | none =>
      have hcu := jn_cut hw ((g2.2.2 _).mp ms)
      have hle : (cut (sts ps (ps k).2.1).2 (sts ps (ps k).2.2.1).2 w) ≤ w.length := cut_le _ _ w
      have ll : (w.take (cut (sts ps (ps k).2.1).2 (sts ps (ps k).2.2.1).2 w)).length = (cut (sts ps (ps k).2.1).2 (sts ps (ps k).2.2.1).2 w) := by rw [List.length_take]; omega
      have lr : (w.drop (cut (sts ps (ps k).2.1).2 (sts ps (ps k).2.2.1).2 w)).length = w.length - (cut (sts ps (ps k).2.1).2 (sts ps (ps k).2.2.1).2 w) := List.length_drop
      refine ⟨[((ps k).2.1, f, w.take (cut (sts ps (ps k).2.1).2 (sts ps (ps k).2.2.1).2 w), none), ((ps k).2.2.1, f + (cut (sts ps (ps k).2.1).2 (sts ps (ps k).2.2.1).2 w), w.drop (cut (sts ps (ps k).2.1).2 (sts ps (ps k).2.2.1).2 w), none)], [], fun t h => ?_, by simp, ?_, ?_⟩
      · rcases List.mem_cons.mp h with e1 | h
        · rw [e1]
          exact ⟨hlk.1, tx_L_take hw _, (show (w.take (cut (sts ps (ps k).2.1).2 (sts ps (ps k).2.2.1).2 w)).length ≤ 6 by rw [ll]; omega), hcu.1, (show f + (w.take (cut (sts ps (ps k).2.1).2 (sts ps (ps k).2.2.1).2 w)).length ≤ 6 by rw [ll]; omega), roL_take hr _, trivial⟩
        · rw [List.mem_singleton.mp h]
          exact ⟨hlk.2, tx_L_drop hw _, (show (w.drop (cut (sts ps (ps k).2.1).2 (sts ps (ps k).2.2.1).2 w)).length ≤ 6 by rw [lr]; omega), hcu.2, (show f + (cut (sts ps (ps k).2.1).2 (sts ps (ps k).2.2.1).2 w) + (w.drop (cut (sts ps (ps k).2.1).2 (sts ps (ps k).2.2.1).2 w)).length ≤ 6 by rw [lr]; omega), roL_drop hr _, trivial⟩
      · rw [List.nil_append, List.flatMap_cons, List.flatMap_singleton]; show _ = sem_cr (pgo ps) k w; rw [cr_5 hpK g2.1]; rfl
      · have q := c152n_5 (L := L) (xs := xs) (es := es) (d + 4) hm hk hw h6 ms hf hr hbs hu hS hK
        have e9 : (List.map tki [((ps k).2.1, f, w.take (cut (sts ps (ps k).2.1).2 (sts ps (ps k).2.2.1).2 w), none), ((ps k).2.2.1, f + (cut (sts ps (ps k).2.1).2 (sts ps (ps k).2.2.1).2 w), w.drop (cut (sts ps (ps k).2.1).2 (sts ps (ps k).2.2.1).2 w), none)]).reverse = [((ps k).2.2.1, f + (cut (sts ps (ps k).2.1).2 (sts ps (ps k).2.2.1).2 w), (w.drop (cut (sts ps (ps k).2.1).2 (sts ps (ps k).2.2.1).2 w)).length, -1, 0), ((ps k).2.1, f, (w.take (cut (sts ps (ps k).2.1).2 (sts ps (ps k).2.2.1).2 w)).length, -1, 0)] := rfl
        rw [e9, ll, lr]
        exact q
    | some p =>
      obtain ⟨s, sw⟩ := p
      obtain ⟨hs, s6, mss, hsf, hsr, hsh⟩ : tx_L sw ∧ sw.length ≤ 6 ∧ (sts ps k).1 (tx_num sw) = true ∧ s + sw.length ≤ 6 ∧ roL (M.1 596) s sw ∧ (sem_sh (pgo ps) k sw).length ≤ 6 := hso
      have hcu := jn_cut hw ((g2.2.2 _).mp ms)
      have hle : (cut (sts ps (ps k).2.1).2 (sts ps (ps k).2.2.1).2 w) ≤ w.length := cut_le _ _ w
      have ll : (w.take (cut (sts ps (ps k).2.1).2 (sts ps (ps k).2.2.1).2 w)).length = (cut (sts ps (ps k).2.1).2 (sts ps (ps k).2.2.1).2 w) := by rw [List.length_take]; omega
      have lr : (w.drop (cut (sts ps (ps k).2.1).2 (sts ps (ps k).2.2.1).2 w)).length = w.length - (cut (sts ps (ps k).2.1).2 (sts ps (ps k).2.2.1).2 w) := List.length_drop
      have hcs := jn_cut hs ((g2.2.1 _).mp mss)
      have hls : (cut (sts ps (ps k).2.1).1 (sts ps (ps k).2.2.1).1 sw) ≤ sw.length := cut_le _ _ sw
      have sl : (sw.take (cut (sts ps (ps k).2.1).1 (sts ps (ps k).2.2.1).1 sw)).length = (cut (sts ps (ps k).2.1).1 (sts ps (ps k).2.2.1).1 sw) := by rw [List.length_take]; omega
      have sr : (sw.drop (cut (sts ps (ps k).2.1).1 (sts ps (ps k).2.2.1).1 sw)).length = sw.length - (cut (sts ps (ps k).2.1).1 (sts ps (ps k).2.2.1).1 sw) := List.length_drop
      have e := sh_5 hpK g2.1 sw
      rw [e, List.length_append] at hsh
      have h1 : (sem_sh (pgo ps) (ps k).2.1 (sw.take (cut (sts ps (ps k).2.1).1 (sts ps (ps k).2.2.1).1 sw))).length ≤ 6 := Nat.le_trans (Nat.le_add_right _ _) hsh
      have h2 : (sem_sh (pgo ps) (ps k).2.2.1 (sw.drop (cut (sts ps (ps k).2.1).1 (sts ps (ps k).2.2.1).1 sw))).length ≤ 6 := Nat.le_trans (Nat.le_add_left _ _) hsh
      refine ⟨[((ps k).2.1, f, w.take (cut (sts ps (ps k).2.1).2 (sts ps (ps k).2.2.1).2 w), some (s, sw.take (cut (sts ps (ps k).2.1).1 (sts ps (ps k).2.2.1).1 sw))), ((ps k).2.2.1, f + (cut (sts ps (ps k).2.1).2 (sts ps (ps k).2.2.1).2 w), w.drop (cut (sts ps (ps k).2.1).2 (sts ps (ps k).2.2.1).2 w), some (s + (cut (sts ps (ps k).2.1).1 (sts ps (ps k).2.2.1).1 sw), sw.drop (cut (sts ps (ps k).2.1).1 (sts ps (ps k).2.2.1).1 sw)))], [], fun t h => ?_, by simp, ?_, ?_⟩
      · rcases List.mem_cons.mp h with e1 | h
        · rw [e1]
          exact ⟨hlk.1, tx_L_take hw _, (show (w.take (cut (sts ps (ps k).2.1).2 (sts ps (ps k).2.2.1).2 w)).length ≤ 6 by rw [ll]; omega), hcu.1, (show f + (w.take (cut (sts ps (ps k).2.1).2 (sts ps (ps k).2.2.1).2 w)).length ≤ 6 by rw [ll]; omega), roL_take hr _, tx_L_take hs _, (show (sw.take (cut (sts ps (ps k).2.1).1 (sts ps (ps k).2.2.1).1 sw)).length ≤ 6 by rw [sl]; omega), hcs.1, (show s + (sw.take (cut (sts ps (ps k).2.1).1 (sts ps (ps k).2.2.1).1 sw)).length ≤ 6 by rw [sl]; omega), roL_take hsr _, h1⟩
        · rw [List.mem_singleton.mp h]
          exact ⟨hlk.2, tx_L_drop hw _, (show (w.drop (cut (sts ps (ps k).2.1).2 (sts ps (ps k).2.2.1).2 w)).length ≤ 6 by rw [lr]; omega), hcu.2, (show f + (cut (sts ps (ps k).2.1).2 (sts ps (ps k).2.2.1).2 w) + (w.drop (cut (sts ps (ps k).2.1).2 (sts ps (ps k).2.2.1).2 w)).length ≤ 6 by rw [lr]; omega), roL_drop hr _, tx_L_drop hs _, (show (sw.drop (cut (sts ps (ps k).2.1).1 (sts ps (ps k).2.2.1).1 sw)).length ≤ 6 by rw [sr]; omega), hcs.2, (show s + (cut (sts ps (ps k).2.1).1 (sts ps (ps k).2.2.1).1 sw) + (sw.drop (cut (sts ps (ps k).2.1).1 (sts ps (ps k).2.2.1).1 sw)).length ≤ 6 by rw [sr]; omega), roL_drop hsr _, h2⟩
      · rw [List.nil_append, List.flatMap_cons, List.flatMap_singleton]; show _ = sem_pu (pgo ps) k sw w; rw [pu_5 hpK g2.1]; rfl
      · have q := c152s_5 (L := L) (xs := xs) (es := es) (d + 4) hm hk hw h6 ms hf hr hbs hu hS hs s6 mss hsf hsr hK
        have e9 : (List.map tki [((ps k).2.1, f, w.take (cut (sts ps (ps k).2.1).2 (sts ps (ps k).2.2.1).2 w), some (s, sw.take (cut (sts ps (ps k).2.1).1 (sts ps (ps k).2.2.1).1 sw))), ((ps k).2.2.1, f + (cut (sts ps (ps k).2.1).2 (sts ps (ps k).2.2.1).2 w), w.drop (cut (sts ps (ps k).2.1).2 (sts ps (ps k).2.2.1).2 w), some (s + (cut (sts ps (ps k).2.1).1 (sts ps (ps k).2.2.1).1 sw), sw.drop (cut (sts ps (ps k).2.1).1 (sts ps (ps k).2.2.1).1 sw)))]).reverse = [((ps k).2.2.1, f + (cut (sts ps (ps k).2.1).2 (sts ps (ps k).2.2.1).2 w), (w.drop (cut (sts ps (ps k).2.1).2 (sts ps (ps k).2.2.1).2 w)).length, ((s + (cut (sts ps (ps k).2.1).1 (sts ps (ps k).2.2.1).1 sw) : Nat) : Int), (sw.drop (cut (sts ps (ps k).2.1).1 (sts ps (ps k).2.2.1).1 sw)).length), ((ps k).2.1, f, (w.take (cut (sts ps (ps k).2.1).2 (sts ps (ps k).2.2.1).2 w)).length, ((s : Nat) : Int), (sw.take (cut (sts ps (ps k).2.1).1 (sts ps (ps k).2.2.1).1 sw)).length)] := rfl
        rw [e9, ll, lr, sl, sr]
        exact q
  | 6, _, hK, hpK, g2 =>
    have hlk := hl (by omega)
    cases src with
    | none =>
      have hcu := jn_cut hw ((g2.2.2 _).mp ms)
      have hle : (cut (sts ps (ps k).2.2.1).2 (sts ps (ps k).2.1).2 w) ≤ w.length := cut_le _ _ w
      have ll : (w.take (cut (sts ps (ps k).2.2.1).2 (sts ps (ps k).2.1).2 w)).length = (cut (sts ps (ps k).2.2.1).2 (sts ps (ps k).2.1).2 w) := by rw [List.length_take]; omega
      have lr : (w.drop (cut (sts ps (ps k).2.2.1).2 (sts ps (ps k).2.1).2 w)).length = w.length - (cut (sts ps (ps k).2.2.1).2 (sts ps (ps k).2.1).2 w) := List.length_drop
      refine ⟨[((ps k).2.1, f + (cut (sts ps (ps k).2.2.1).2 (sts ps (ps k).2.1).2 w), w.drop (cut (sts ps (ps k).2.2.1).2 (sts ps (ps k).2.1).2 w), none), ((ps k).2.2.1, f, w.take (cut (sts ps (ps k).2.2.1).2 (sts ps (ps k).2.1).2 w), none)], [], fun t h => ?_, by simp, ?_, ?_⟩
      · rcases List.mem_cons.mp h with e1 | h
        · rw [e1]
          exact ⟨hlk.1, tx_L_drop hw _, (show (w.drop (cut (sts ps (ps k).2.2.1).2 (sts ps (ps k).2.1).2 w)).length ≤ 6 by rw [lr]; omega), hcu.2, (show f + (cut (sts ps (ps k).2.2.1).2 (sts ps (ps k).2.1).2 w) + (w.drop (cut (sts ps (ps k).2.2.1).2 (sts ps (ps k).2.1).2 w)).length ≤ 6 by rw [lr]; omega), roL_drop hr _, trivial⟩
        · rw [List.mem_singleton.mp h]
          exact ⟨hlk.2, tx_L_take hw _, (show (w.take (cut (sts ps (ps k).2.2.1).2 (sts ps (ps k).2.1).2 w)).length ≤ 6 by rw [ll]; omega), hcu.1, (show f + (w.take (cut (sts ps (ps k).2.2.1).2 (sts ps (ps k).2.1).2 w)).length ≤ 6 by rw [ll]; omega), roL_take hr _, trivial⟩
      · rw [List.nil_append, List.flatMap_cons, List.flatMap_singleton]; show _ = sem_cr (pgo ps) k w; rw [cr_6 hpK g2.1]; rfl
      · have q := c152n_6 (L := L) (xs := xs) (es := es) (d + 4) hm hk hw h6 ms hf hr hbs hu hS hK
        have e9 : (List.map tki [((ps k).2.1, f + (cut (sts ps (ps k).2.2.1).2 (sts ps (ps k).2.1).2 w), w.drop (cut (sts ps (ps k).2.2.1).2 (sts ps (ps k).2.1).2 w), none), ((ps k).2.2.1, f, w.take (cut (sts ps (ps k).2.2.1).2 (sts ps (ps k).2.1).2 w), none)]).reverse = [((ps k).2.2.1, f, (w.take (cut (sts ps (ps k).2.2.1).2 (sts ps (ps k).2.1).2 w)).length, -1, 0), ((ps k).2.1, f + (cut (sts ps (ps k).2.2.1).2 (sts ps (ps k).2.1).2 w), (w.drop (cut (sts ps (ps k).2.2.1).2 (sts ps (ps k).2.1).2 w)).length, -1, 0)] := rfl
        rw [e9, ll, lr]
        exact q
    | some p =>
      obtain ⟨s, sw⟩ := p
      obtain ⟨hs, s6, mss, hsf, hsr, hsh⟩ : tx_L sw ∧ sw.length ≤ 6 ∧ (sts ps k).1 (tx_num sw) = true ∧ s + sw.length ≤ 6 ∧ roL (M.1 596) s sw ∧ (sem_sh (pgo ps) k sw).length ≤ 6 := hso
      have hcu := jn_cut hw ((g2.2.2 _).mp ms)
      have hle : (cut (sts ps (ps k).2.2.1).2 (sts ps (ps k).2.1).2 w) ≤ w.length := cut_le _ _ w
      have ll : (w.take (cut (sts ps (ps k).2.2.1).2 (sts ps (ps k).2.1).2 w)).length = (cut (sts ps (ps k).2.2.1).2 (sts ps (ps k).2.1).2 w) := by rw [List.length_take]; omega
      have lr : (w.drop (cut (sts ps (ps k).2.2.1).2 (sts ps (ps k).2.1).2 w)).length = w.length - (cut (sts ps (ps k).2.2.1).2 (sts ps (ps k).2.1).2 w) := List.length_drop
      have hcs := jn_cut hs ((g2.2.1 _).mp mss)
      have hls : (cut (sts ps (ps k).2.1).1 (sts ps (ps k).2.2.1).1 sw) ≤ sw.length := cut_le _ _ sw
      have sl : (sw.take (cut (sts ps (ps k).2.1).1 (sts ps (ps k).2.2.1).1 sw)).length = (cut (sts ps (ps k).2.1).1 (sts ps (ps k).2.2.1).1 sw) := by rw [List.length_take]; omega
      have sr : (sw.drop (cut (sts ps (ps k).2.1).1 (sts ps (ps k).2.2.1).1 sw)).length = sw.length - (cut (sts ps (ps k).2.1).1 (sts ps (ps k).2.2.1).1 sw) := List.length_drop
      have e := sh_6 hpK g2.1 sw
      rw [e, List.length_append] at hsh
      have h1 : (sem_sh (pgo ps) (ps k).2.1 (sw.take (cut (sts ps (ps k).2.1).1 (sts ps (ps k).2.2.1).1 sw))).length ≤ 6 := Nat.le_trans (Nat.le_add_left _ _) hsh
      have h2 : (sem_sh (pgo ps) (ps k).2.2.1 (sw.drop (cut (sts ps (ps k).2.1).1 (sts ps (ps k).2.2.1).1 sw))).length ≤ 6 := Nat.le_trans (Nat.le_add_right _ _) hsh
      refine ⟨[((ps k).2.1, f + (cut (sts ps (ps k).2.2.1).2 (sts ps (ps k).2.1).2 w), w.drop (cut (sts ps (ps k).2.2.1).2 (sts ps (ps k).2.1).2 w), some (s, sw.take (cut (sts ps (ps k).2.1).1 (sts ps (ps k).2.2.1).1 sw))), ((ps k).2.2.1, f, w.take (cut (sts ps (ps k).2.2.1).2 (sts ps (ps k).2.1).2 w), some (s + (cut (sts ps (ps k).2.1).1 (sts ps (ps k).2.2.1).1 sw), sw.drop (cut (sts ps (ps k).2.1).1 (sts ps (ps k).2.2.1).1 sw)))], [], fun t h => ?_, by simp, ?_, ?_⟩
      · rcases List.mem_cons.mp h with e1 | h
        · rw [e1]
          exact ⟨hlk.1, tx_L_drop hw _, (show (w.drop (cut (sts ps (ps k).2.2.1).2 (sts ps (ps k).2.1).2 w)).length ≤ 6 by rw [lr]; omega), hcu.2, (show f + (cut (sts ps (ps k).2.2.1).2 (sts ps (ps k).2.1).2 w) + (w.drop (cut (sts ps (ps k).2.2.1).2 (sts ps (ps k).2.1).2 w)).length ≤ 6 by rw [lr]; omega), roL_drop hr _, tx_L_take hs _, (show (sw.take (cut (sts ps (ps k).2.1).1 (sts ps (ps k).2.2.1).1 sw)).length ≤ 6 by rw [sl]; omega), hcs.1, (show s + (sw.take (cut (sts ps (ps k).2.1).1 (sts ps (ps k).2.2.1).1 sw)).length ≤ 6 by rw [sl]; omega), roL_take hsr _, h1⟩
        · rw [List.mem_singleton.mp h]
          exact ⟨hlk.2, tx_L_take hw _, (show (w.take (cut (sts ps (ps k).2.2.1).2 (sts ps (ps k).2.1).2 w)).length ≤ 6 by rw [ll]; omega), hcu.1, (show f + (w.take (cut (sts ps (ps k).2.2.1).2 (sts ps (ps k).2.1).2 w)).length ≤ 6 by rw [ll]; omega), roL_take hr _, tx_L_drop hs _, (show (sw.drop (cut (sts ps (ps k).2.1).1 (sts ps (ps k).2.2.1).1 sw)).length ≤ 6 by rw [sr]; omega), hcs.2, (show s + (cut (sts ps (ps k).2.1).1 (sts ps (ps k).2.2.1).1 sw) + (sw.drop (cut (sts ps (ps k).2.1).1 (sts ps (ps k).2.2.1).1 sw)).length ≤ 6 by rw [sr]; omega), roL_drop hsr _, h2⟩
      · rw [List.nil_append, List.flatMap_cons, List.flatMap_singleton]; show _ = sem_pu (pgo ps) k sw w; rw [pu_6 hpK g2.1]; rfl
      · have q := c152s_6 (L := L) (xs := xs) (es := es) (d + 4) hm hk hw h6 ms hf hr hbs hu hS hs s6 mss hsf hsr hK
        have e9 : (List.map tki [((ps k).2.1, f + (cut (sts ps (ps k).2.2.1).2 (sts ps (ps k).2.1).2 w), w.drop (cut (sts ps (ps k).2.2.1).2 (sts ps (ps k).2.1).2 w), some (s, sw.take (cut (sts ps (ps k).2.1).1 (sts ps (ps k).2.2.1).1 sw))), ((ps k).2.2.1, f, w.take (cut (sts ps (ps k).2.2.1).2 (sts ps (ps k).2.1).2 w), some (s + (cut (sts ps (ps k).2.1).1 (sts ps (ps k).2.2.1).1 sw), sw.drop (cut (sts ps (ps k).2.1).1 (sts ps (ps k).2.2.1).1 sw)))]).reverse = [((ps k).2.2.1, f, (w.take (cut (sts ps (ps k).2.2.1).2 (sts ps (ps k).2.1).2 w)).length, ((s + (cut (sts ps (ps k).2.1).1 (sts ps (ps k).2.2.1).1 sw) : Nat) : Int), (sw.drop (cut (sts ps (ps k).2.1).1 (sts ps (ps k).2.2.1).1 sw)).length), ((ps k).2.1, f + (cut (sts ps (ps k).2.2.1).2 (sts ps (ps k).2.1).2 w), (w.drop (cut (sts ps (ps k).2.2.1).2 (sts ps (ps k).2.1).2 w)).length, ((s : Nat) : Int), (sw.take (cut (sts ps (ps k).2.1).1 (sts ps (ps k).2.2.1).1 sw)).length)] := rfl
        rw [e9, ll, lr, sl, sr]
        exact q
  | n + 7, h7, _, _, _ => exact absurd h7 (by omega)
/-- where the parts of a view are put -/
noncomputable def ogS (ps : Nat → prt) (k : Nat) (w : List Nat) : Option (Nat × List Nat) → Nat → Option Nat
  | none => fun _ => none
  | some p => org ((ps k).1 == 8) ((rps (sts ps (ps k).2.1).1 (sts ps k).1 p.2).map (fun u => tx_num (sem_ky (pgo ps) (ps k).2.1 (sem_sh (pgo ps) (ps k).2.1 u)))) ((rps (sts ps (ps k).2.1).2 (sts ps k).2 w).map (fun u => tx_num (sem_ky (pgo ps) (ps k).2.1 u)))
theorem dsL_map (n : Nat) {g : Nat → cI} {h : Nat → tk} (e : ∀ i, i < n → g i = tki (h i)) : dsL n g 0 = (((List.range n).map h).map tki).reverse := by
  unfold dsL
  rw [List.drop_zero, List.map_map, ← List.map_reverse]
  apply List.map_congr_left
  intro i hi
  rw [List.mem_reverse, List.mem_range] at hi
  exact e i hi
theorem one_i (d : Nat) {ps : Nat → prt} {c : Nat} (hm : mdl M ps c) {k : Nat} (hk : k < c) {f : Nat} {w : List Nat} {src : Option (Nat × List Nat)} (ht : tok M ps (k, f, w, src)) {bs : List cI} (hbs : bs.length + 6 ≤ 256) {u : List Nat} (hu : u.length < 256) (hS : ctS M bs u) (h6c : M.1 572 6 = (c : Int)) (hK7 : 7 ≤ (ps k).1) (hrt : k + 1 < c) : ∃ (rs : List tk) (o : List Nat), (∀ t ∈ rs, t.1 < k ∧ tok M ps t) ∧ rs.length ≤ 6 ∧ o ++ rs.flatMap (tkr (pgo ps)) = tkr (pgo ps) (k, f, w, src) ∧ ab_Z (pg_G L xs) (d + 8) 152 [.ref 572, zi (k : Nat), zi (f : Nat), zi (w.length : Nat), zi (spx src).1, zi ((spx src).2 : Nat)] M es (fun v M' => v = none ∧ (ctS M' (bs ++ (rs.map tki).reverse) (u ++ o) ∧ Fc M M')) := by
  obtain ⟨hw, h6, ms, hf, hr, hso⟩ : tx_L w ∧ w.length ≤ 6 ∧ (sts ps k).2 (tx_num w) = true ∧ f + w.length ≤ 6 ∧ roL (M.1 597) f w ∧ sok M ps k src := ht
  have hc31 := hm.1
  have hwf := (hm.2 k hk).1
  have hlk := hwf.2.2.2 (by omega)
  have g2 := (mdl_gds hm k hk).2
  have hK8 := hwf.1
  have hPl := rps_len (sts ps (ps k).2.1).2 (sts ps k).2 w
  have hc : (ps k).1 = 7 ∨ (ps k).1 = 8 := by omega
  rcases hc with hK | hK
  · have hpK : pK (pgo ps) k = 7 := hK
    rw [show pK (pgo ps) k = 7 from hK] at g2
    have hvv := rp_v (A := (sts ps (ps k).2.1).2) (B := (sts ps k).2) g2.2.2.2.2.2 hw h6 ms hf hr
    cases src with
    | none =>
      refine ⟨(List.range (rps (sts ps (ps k).2.1).2 (sts ps k).2 w).length).map (fun i => (((ps k).2.1, f + off (rps (sts ps (ps k).2.1).2 (sts ps k).2 w) i, (rps (sts ps (ps k).2.1).2 (sts ps k).2 w)[i]!, none) : tk)), [], fun t h => ?_, by rw [List.length_map, List.length_range]; omega, ?_, ?_⟩
      · obtain ⟨i, hi, e⟩ := List.mem_map.mp h
        rw [List.mem_range] at hi
        subst e
        have t := hvv i hi
        refine ⟨hlk.1, t.1, t.2.1, t.2.2.1, t.2.2.2.2, t.2.2.2.1, ?_⟩
        trivial
      · rw [List.nil_append, List.flatMap_map]; show _ = sem_cr (pgo ps) k w; rw [cr_7 hpK g2.2.1]; exact (rng_fm (rps (sts ps (ps k).2.1).2 (sts ps k).2 w) (fun u => sem_cr (pgo ps) (ps k).2.1 u)).symm
      · have q := c152ni_7 (L := L) (xs := xs) (es := es) d hm h6c hk hw h6 ms hf hr hbs hu hS hK hrt
        rw [dsL_map (rps (sts ps (ps k).2.1).2 (sts ps k).2 w).length (h := (fun i => (((ps k).2.1, f + off (rps (sts ps (ps k).2.1).2 (sts ps k).2 w) i, (rps (sts ps (ps k).2.1).2 (sts ps k).2 w)[i]!, none) : tk))) (fun i hi => by rfl)] at q
        rw [List.append_nil]
        exact q
    | some p =>
      obtain ⟨s, sw⟩ := p
      obtain ⟨hs, s6, mss, hsf, hsr, hsh⟩ : tx_L sw ∧ sw.length ≤ 6 ∧ (sts ps k).1 (tx_num sw) = true ∧ s + sw.length ≤ 6 ∧ roL (M.1 596) s sw ∧ (sem_sh (pgo ps) k sw).length ≤ 6 := hso
      have hss := rp_v (A := (sts ps (ps k).2.1).1) (B := (sts ps k).1) g2.2.2.2.2.1 hs s6 mss hsf hsr
      have hsh2 : ∀ i, i < (rps (sts ps (ps k).2.1).1 (sts ps k).1 sw).length → (sem_sh (pgo ps) (ps k).2.1 (rps (sts ps (ps k).2.1).1 (sts ps k).1 sw)[i]!).length ≤ 6 := by
        intro i hi
        have e := sh_7 hpK g2.2.1 sw
        rw [e] at hsh
        exact Nat.le_trans (len_fm (g := fun u => sem_sh (pgo ps) (ps k).2.1 u) (get_mem hi)) hsh
      refine ⟨(List.range (rps (sts ps (ps k).2.1).2 (sts ps k).2 w).length).map (fun i => (((ps k).2.1, f + off (rps (sts ps (ps k).2.1).2 (sts ps k).2 w) i, (rps (sts ps (ps k).2.1).2 (sts ps k).2 w)[i]!, (((org false ((rps (sts ps (ps k).2.1).1 (sts ps k).1 sw).map (fun u => tx_num (sem_ky (pgo ps) (ps k).2.1 (sem_sh (pgo ps) (ps k).2.1 u)))) ((rps (sts ps (ps k).2.1).2 (sts ps k).2 w).map (fun u => tx_num (sem_ky (pgo ps) (ps k).2.1 u)))) i).map (fun o => (s + off (rps (sts ps (ps k).2.1).1 (sts ps k).1 sw) o, (rps (sts ps (ps k).2.1).1 (sts ps k).1 sw)[o]!)))) : tk)), [], fun t h => ?_, by rw [List.length_map, List.length_range]; omega, ?_, ?_⟩
      · obtain ⟨i, hi, e⟩ := List.mem_map.mp h
        rw [List.mem_range] at hi
        subst e
        have t := hvv i hi
        refine ⟨hlk.1, t.1, t.2.1, t.2.2.1, t.2.2.2.2, t.2.2.2.1, ?_⟩
        show sok M ps (ps k).2.1 (((org false ((rps (sts ps (ps k).2.1).1 (sts ps k).1 sw).map (fun u => tx_num (sem_ky (pgo ps) (ps k).2.1 (sem_sh (pgo ps) (ps k).2.1 u)))) ((rps (sts ps (ps k).2.1).2 (sts ps k).2 w).map (fun u => tx_num (sem_ky (pgo ps) (ps k).2.1 u)))) i).map (fun o => (s + off (rps (sts ps (ps k).2.1).1 (sts ps k).1 sw) o, (rps (sts ps (ps k).2.1).1 (sts ps k).1 sw)[o]!)))
        cases ho : (org false ((rps (sts ps (ps k).2.1).1 (sts ps k).1 sw).map (fun u => tx_num (sem_ky (pgo ps) (ps k).2.1 (sem_sh (pgo ps) (ps k).2.1 u)))) ((rps (sts ps (ps k).2.1).2 (sts ps k).2 w).map (fun u => tx_num (sem_ky (pgo ps) (ps k).2.1 u)))) i with
        | none => trivial
        | some o =>
          have ho2 := org_lt ho
          rw [List.length_map] at ho2
          have t2 := hss o ho2
          exact ⟨t2.1, t2.2.1, t2.2.2.1, t2.2.2.2.2, t2.2.2.2.1, hsh2 o ho2⟩
      · rw [List.nil_append, List.flatMap_map]; show _ = sem_pu (pgo ps) k sw w; rw [pu_7 hpK g2.2.1]
        show (List.range (rps (sts ps (ps k).2.1).2 (sts ps k).2 w).length).flatMap _ = (List.range (rps (sts ps (ps k).2.1).2 (sts ps k).2 w).length).flatMap _
        apply congrArg (fun F => List.flatMap F _)
        funext i
        show sca (pgo ps) (ps k).2.1 (rps (sts ps (ps k).2.1).2 (sts ps k).2 w)[i]! (((org false ((rps (sts ps (ps k).2.1).1 (sts ps k).1 sw).map (fun u => tx_num (sem_ky (pgo ps) (ps k).2.1 (sem_sh (pgo ps) (ps k).2.1 u)))) ((rps (sts ps (ps k).2.1).2 (sts ps k).2 w).map (fun u => tx_num (sem_ky (pgo ps) (ps k).2.1 u)))) i).map (fun o => (s + off (rps (sts ps (ps k).2.1).1 (sts ps k).1 sw) o, (rps (sts ps (ps k).2.1).1 (sts ps k).1 sw)[o]!))) = _
        show _ = (match (org false ((rps (sts ps (ps k).2.1).1 (sts ps k).1 sw).map (fun u => tx_num (sem_ky (pgo ps) (ps k).2.1 (sem_sh (pgo ps) (ps k).2.1 u)))) ((rps (sts ps (ps k).2.1).2 (sts ps k).2 w).map (fun u => tx_num (sem_ky (pgo ps) (ps k).2.1 u)))) i with | none => sem_cr (pgo ps) (ps k).2.1 (rps (sts ps (ps k).2.1).2 (sts ps k).2 w)[i]! | some o => sem_pu (pgo ps) (ps k).2.1 (rps (sts ps (ps k).2.1).1 (sts ps k).1 sw)[o]! (rps (sts ps (ps k).2.1).2 (sts ps k).2 w)[i]!)
        cases (org false ((rps (sts ps (ps k).2.1).1 (sts ps k).1 sw).map (fun u => tx_num (sem_ky (pgo ps) (ps k).2.1 (sem_sh (pgo ps) (ps k).2.1 u)))) ((rps (sts ps (ps k).2.1).2 (sts ps k).2 w).map (fun u => tx_num (sem_ky (pgo ps) (ps k).2.1 u)))) i <;> rfl
      · have q := c152si_7 (L := L) (xs := xs) (es := es) d hm h6c hk hw h6 ms hf hr hbs hu hS hs s6 mss hsf hsr hsh hK hrt
        rw [dsL_map (rps (sts ps (ps k).2.1).2 (sts ps k).2 w).length (h := (fun i => (((ps k).2.1, f + off (rps (sts ps (ps k).2.1).2 (sts ps k).2 w) i, (rps (sts ps (ps k).2.1).2 (sts ps k).2 w)[i]!, (((org false ((rps (sts ps (ps k).2.1).1 (sts ps k).1 sw).map (fun u => tx_num (sem_ky (pgo ps) (ps k).2.1 (sem_sh (pgo ps) (ps k).2.1 u)))) ((rps (sts ps (ps k).2.1).2 (sts ps k).2 w).map (fun u => tx_num (sem_ky (pgo ps) (ps k).2.1 u)))) i).map (fun o => (s + off (rps (sts ps (ps k).2.1).1 (sts ps k).1 sw) o, (rps (sts ps (ps k).2.1).1 (sts ps k).1 sw)[o]!)))) : tk))) (fun i hi => by show ((ps k).2.1, f + off (rps (sts ps (ps k).2.1).2 (sts ps k).2 w) i, (rps (sts ps (ps k).2.1).2 (sts ps k).2 w)[i]!.length, spo s (rps (sts ps (ps k).2.1).1 (sts ps k).1 sw) ((org false ((rps (sts ps (ps k).2.1).1 (sts ps k).1 sw).map (fun u => tx_num (sem_ky (pgo ps) (ps k).2.1 (sem_sh (pgo ps) (ps k).2.1 u)))) ((rps (sts ps (ps k).2.1).2 (sts ps k).2 w).map (fun u => tx_num (sem_ky (pgo ps) (ps k).2.1 u)))) i)) = ((ps k).2.1, f + off (rps (sts ps (ps k).2.1).2 (sts ps k).2 w) i, (rps (sts ps (ps k).2.1).2 (sts ps k).2 w)[i]!.length, spx (((org false ((rps (sts ps (ps k).2.1).1 (sts ps k).1 sw).map (fun u => tx_num (sem_ky (pgo ps) (ps k).2.1 (sem_sh (pgo ps) (ps k).2.1 u)))) ((rps (sts ps (ps k).2.1).2 (sts ps k).2 w).map (fun u => tx_num (sem_ky (pgo ps) (ps k).2.1 u)))) i).map (fun o => (s + off (rps (sts ps (ps k).2.1).1 (sts ps k).1 sw) o, (rps (sts ps (ps k).2.1).1 (sts ps k).1 sw)[o]!)))); cases (org false ((rps (sts ps (ps k).2.1).1 (sts ps k).1 sw).map (fun u => tx_num (sem_ky (pgo ps) (ps k).2.1 (sem_sh (pgo ps) (ps k).2.1 u)))) ((rps (sts ps (ps k).2.1).2 (sts ps k).2 w).map (fun u => tx_num (sem_ky (pgo ps) (ps k).2.1 u)))) i <;> rfl)] at q
        rw [List.append_nil]
        exact q
  · have hpK : pK (pgo ps) k = 8 := hK
    rw [show pK (pgo ps) k = 8 from hK] at g2
    have hvv := rp_v (A := (sts ps (ps k).2.1).2) (B := (sts ps k).2) g2.2.2.2.2.2 hw h6 ms hf hr
    cases src with
    | none =>
      refine ⟨(List.range (rps (sts ps (ps k).2.1).2 (sts ps k).2 w).length).map (fun i => (((ps k).2.1, f + off (rps (sts ps (ps k).2.1).2 (sts ps k).2 w) i, (rps (sts ps (ps k).2.1).2 (sts ps k).2 w)[i]!, none) : tk)), [], fun t h => ?_, by rw [List.length_map, List.length_range]; omega, ?_, ?_⟩
      · obtain ⟨i, hi, e⟩ := List.mem_map.mp h
        rw [List.mem_range] at hi
        subst e
        have t := hvv i hi
        refine ⟨hlk.1, t.1, t.2.1, t.2.2.1, t.2.2.2.2, t.2.2.2.1, ?_⟩
        trivial
      · rw [List.nil_append, List.flatMap_map]; show _ = sem_cr (pgo ps) k w; rw [cr_8 hpK g2.2.1]; exact (rng_fm (rps (sts ps (ps k).2.1).2 (sts ps k).2 w) (fun u => sem_cr (pgo ps) (ps k).2.1 u)).symm
      · have q := c152ni_8 (L := L) (xs := xs) (es := es) d hm h6c hk hw h6 ms hf hr hbs hu hS hK hrt
        rw [dsL_map (rps (sts ps (ps k).2.1).2 (sts ps k).2 w).length (h := (fun i => (((ps k).2.1, f + off (rps (sts ps (ps k).2.1).2 (sts ps k).2 w) i, (rps (sts ps (ps k).2.1).2 (sts ps k).2 w)[i]!, none) : tk))) (fun i hi => by rfl)] at q
        rw [List.append_nil]
        exact q
    | some p =>
      obtain ⟨s, sw⟩ := p
      obtain ⟨hs, s6, mss, hsf, hsr, hsh⟩ : tx_L sw ∧ sw.length ≤ 6 ∧ (sts ps k).1 (tx_num sw) = true ∧ s + sw.length ≤ 6 ∧ roL (M.1 596) s sw ∧ (sem_sh (pgo ps) k sw).length ≤ 6 := hso
      have hss := rp_v (A := (sts ps (ps k).2.1).1) (B := (sts ps k).1) g2.2.2.2.2.1 hs s6 mss hsf hsr
      have hsh2 : ∀ i, i < (rps (sts ps (ps k).2.1).1 (sts ps k).1 sw).length → (sem_sh (pgo ps) (ps k).2.1 (rps (sts ps (ps k).2.1).1 (sts ps k).1 sw)[i]!).length ≤ 6 := by
        intro i hi
        have e := sh_8 hpK g2.2.1 sw
        rw [e] at hsh
        exact Nat.le_trans (len_fm (g := fun u => sem_sh (pgo ps) (ps k).2.1 u) (get_mem hi)) hsh
      refine ⟨(List.range (rps (sts ps (ps k).2.1).2 (sts ps k).2 w).length).map (fun i => (((ps k).2.1, f + off (rps (sts ps (ps k).2.1).2 (sts ps k).2 w) i, (rps (sts ps (ps k).2.1).2 (sts ps k).2 w)[i]!, (((org true ((rps (sts ps (ps k).2.1).1 (sts ps k).1 sw).map (fun u => tx_num (sem_ky (pgo ps) (ps k).2.1 (sem_sh (pgo ps) (ps k).2.1 u)))) ((rps (sts ps (ps k).2.1).2 (sts ps k).2 w).map (fun u => tx_num (sem_ky (pgo ps) (ps k).2.1 u)))) i).map (fun o => (s + off (rps (sts ps (ps k).2.1).1 (sts ps k).1 sw) o, (rps (sts ps (ps k).2.1).1 (sts ps k).1 sw)[o]!)))) : tk)), [], fun t h => ?_, by rw [List.length_map, List.length_range]; omega, ?_, ?_⟩
      · obtain ⟨i, hi, e⟩ := List.mem_map.mp h
        rw [List.mem_range] at hi
        subst e
        have t := hvv i hi
        refine ⟨hlk.1, t.1, t.2.1, t.2.2.1, t.2.2.2.2, t.2.2.2.1, ?_⟩
        show sok M ps (ps k).2.1 (((org true ((rps (sts ps (ps k).2.1).1 (sts ps k).1 sw).map (fun u => tx_num (sem_ky (pgo ps) (ps k).2.1 (sem_sh (pgo ps) (ps k).2.1 u)))) ((rps (sts ps (ps k).2.1).2 (sts ps k).2 w).map (fun u => tx_num (sem_ky (pgo ps) (ps k).2.1 u)))) i).map (fun o => (s + off (rps (sts ps (ps k).2.1).1 (sts ps k).1 sw) o, (rps (sts ps (ps k).2.1).1 (sts ps k).1 sw)[o]!)))
        cases ho : (org true ((rps (sts ps (ps k).2.1).1 (sts ps k).1 sw).map (fun u => tx_num (sem_ky (pgo ps) (ps k).2.1 (sem_sh (pgo ps) (ps k).2.1 u)))) ((rps (sts ps (ps k).2.1).2 (sts ps k).2 w).map (fun u => tx_num (sem_ky (pgo ps) (ps k).2.1 u)))) i with
        | none => trivial
        | some o =>
          have ho2 := org_lt ho
          rw [List.length_map] at ho2
          have t2 := hss o ho2
          exact ⟨t2.1, t2.2.1, t2.2.2.1, t2.2.2.2.2, t2.2.2.2.1, hsh2 o ho2⟩
      · rw [List.nil_append, List.flatMap_map]; show _ = sem_pu (pgo ps) k sw w; rw [pu_8 hpK g2.2.1]
        show (List.range (rps (sts ps (ps k).2.1).2 (sts ps k).2 w).length).flatMap _ = (List.range (rps (sts ps (ps k).2.1).2 (sts ps k).2 w).length).flatMap _
        apply congrArg (fun F => List.flatMap F _)
        funext i
        show sca (pgo ps) (ps k).2.1 (rps (sts ps (ps k).2.1).2 (sts ps k).2 w)[i]! (((org true ((rps (sts ps (ps k).2.1).1 (sts ps k).1 sw).map (fun u => tx_num (sem_ky (pgo ps) (ps k).2.1 (sem_sh (pgo ps) (ps k).2.1 u)))) ((rps (sts ps (ps k).2.1).2 (sts ps k).2 w).map (fun u => tx_num (sem_ky (pgo ps) (ps k).2.1 u)))) i).map (fun o => (s + off (rps (sts ps (ps k).2.1).1 (sts ps k).1 sw) o, (rps (sts ps (ps k).2.1).1 (sts ps k).1 sw)[o]!))) = _
        show _ = (match (org true ((rps (sts ps (ps k).2.1).1 (sts ps k).1 sw).map (fun u => tx_num (sem_ky (pgo ps) (ps k).2.1 (sem_sh (pgo ps) (ps k).2.1 u)))) ((rps (sts ps (ps k).2.1).2 (sts ps k).2 w).map (fun u => tx_num (sem_ky (pgo ps) (ps k).2.1 u)))) i with | none => sem_cr (pgo ps) (ps k).2.1 (rps (sts ps (ps k).2.1).2 (sts ps k).2 w)[i]! | some o => sem_pu (pgo ps) (ps k).2.1 (rps (sts ps (ps k).2.1).1 (sts ps k).1 sw)[o]! (rps (sts ps (ps k).2.1).2 (sts ps k).2 w)[i]!)
        cases (org true ((rps (sts ps (ps k).2.1).1 (sts ps k).1 sw).map (fun u => tx_num (sem_ky (pgo ps) (ps k).2.1 (sem_sh (pgo ps) (ps k).2.1 u)))) ((rps (sts ps (ps k).2.1).2 (sts ps k).2 w).map (fun u => tx_num (sem_ky (pgo ps) (ps k).2.1 u)))) i <;> rfl
      · have q := c152si_8 (L := L) (xs := xs) (es := es) d hm h6c hk hw h6 ms hf hr hbs hu hS hs s6 mss hsf hsr hsh hK hrt
        rw [dsL_map (rps (sts ps (ps k).2.1).2 (sts ps k).2 w).length (h := (fun i => (((ps k).2.1, f + off (rps (sts ps (ps k).2.1).2 (sts ps k).2 w) i, (rps (sts ps (ps k).2.1).2 (sts ps k).2 w)[i]!, (((org true ((rps (sts ps (ps k).2.1).1 (sts ps k).1 sw).map (fun u => tx_num (sem_ky (pgo ps) (ps k).2.1 (sem_sh (pgo ps) (ps k).2.1 u)))) ((rps (sts ps (ps k).2.1).2 (sts ps k).2 w).map (fun u => tx_num (sem_ky (pgo ps) (ps k).2.1 u)))) i).map (fun o => (s + off (rps (sts ps (ps k).2.1).1 (sts ps k).1 sw) o, (rps (sts ps (ps k).2.1).1 (sts ps k).1 sw)[o]!)))) : tk))) (fun i hi => by show ((ps k).2.1, f + off (rps (sts ps (ps k).2.1).2 (sts ps k).2 w) i, (rps (sts ps (ps k).2.1).2 (sts ps k).2 w)[i]!.length, spo s (rps (sts ps (ps k).2.1).1 (sts ps k).1 sw) ((org true ((rps (sts ps (ps k).2.1).1 (sts ps k).1 sw).map (fun u => tx_num (sem_ky (pgo ps) (ps k).2.1 (sem_sh (pgo ps) (ps k).2.1 u)))) ((rps (sts ps (ps k).2.1).2 (sts ps k).2 w).map (fun u => tx_num (sem_ky (pgo ps) (ps k).2.1 u)))) i)) = ((ps k).2.1, f + off (rps (sts ps (ps k).2.1).2 (sts ps k).2 w) i, (rps (sts ps (ps k).2.1).2 (sts ps k).2 w)[i]!.length, spx (((org true ((rps (sts ps (ps k).2.1).1 (sts ps k).1 sw).map (fun u => tx_num (sem_ky (pgo ps) (ps k).2.1 (sem_sh (pgo ps) (ps k).2.1 u)))) ((rps (sts ps (ps k).2.1).2 (sts ps k).2 w).map (fun u => tx_num (sem_ky (pgo ps) (ps k).2.1 u)))) i).map (fun o => (s + off (rps (sts ps (ps k).2.1).1 (sts ps k).1 sw) o, (rps (sts ps (ps k).2.1).1 (sts ps k).1 sw)[o]!)))); cases (org true ((rps (sts ps (ps k).2.1).1 (sts ps k).1 sw).map (fun u => tx_num (sem_ky (pgo ps) (ps k).2.1 (sem_sh (pgo ps) (ps k).2.1 u)))) ((rps (sts ps (ps k).2.1).2 (sts ps k).2 w).map (fun u => tx_num (sem_ky (pgo ps) (ps k).2.1 u)))) i <;> rfl)] at q
        rw [List.append_nil]
        exact q
theorem one_r (d : Nat) {ps : Nat → prt} {c : Nat} (hm : mdl M ps c) {k : Nat} (hk : k < c) {f : Nat} {w : List Nat} {src : Option (Nat × List Nat)} (ht : tok M ps (k, f, w, src)) {bs : List cI} (hbs : bs.length + 6 ≤ 256) {u : List Nat} (hu : u.length < 256) (hS : ctS M bs u) (h6c : M.1 572 6 = (c : Int)) (hK7 : 7 ≤ (ps k).1) (hrt : k + 1 = c) : ∃ (rs : List tk) (o : List Nat), (∀ t ∈ rs, t.1 < k ∧ tok M ps t) ∧ rs.length ≤ 6 ∧ o ++ rs.flatMap (tkr (pgo ps)) = tkr (pgo ps) (k, f, w, src) ∧ ab_Z (pg_G L xs) (d + 8) 152 [.ref 572, zi (k : Nat), zi (f : Nat), zi (w.length : Nat), zi (spx src).1, zi ((spx src).2 : Nat)] M es (fun v M' => v = none ∧ (ctS M' (bs ++ (rs.map tki).reverse) (u ++ o) ∧ Fdr M M' ∧ M'.1 572 35 = ((rps (sts ps (ps k).2.1).2 (sts ps k).2 w).length : Int) ∧ ∀ i : Nat, i < (rps (sts ps (ps k).2.1).2 (sts ps k).2 w).length → M'.1 595 (i : Int) = oz (ogS ps k w src i))) := by
  obtain ⟨hw, h6, ms, hf, hr, hso⟩ : tx_L w ∧ w.length ≤ 6 ∧ (sts ps k).2 (tx_num w) = true ∧ f + w.length ≤ 6 ∧ roL (M.1 597) f w ∧ sok M ps k src := ht
  have hc31 := hm.1
  have hwf := (hm.2 k hk).1
  have hlk := hwf.2.2.2 (by omega)
  have g2 := (mdl_gds hm k hk).2
  have hK8 := hwf.1
  have hPl := rps_len (sts ps (ps k).2.1).2 (sts ps k).2 w
  have hc : (ps k).1 = 7 ∨ (ps k).1 = 8 := by omega
  rcases hc with hK | hK
  · have hpK : pK (pgo ps) k = 7 := hK
    rw [show pK (pgo ps) k = 7 from hK] at g2
    have hvv := rp_v (A := (sts ps (ps k).2.1).2) (B := (sts ps k).2) g2.2.2.2.2.2 hw h6 ms hf hr
    cases src with
    | none =>
      refine ⟨(List.range (rps (sts ps (ps k).2.1).2 (sts ps k).2 w).length).map (fun i => (((ps k).2.1, f + off (rps (sts ps (ps k).2.1).2 (sts ps k).2 w) i, (rps (sts ps (ps k).2.1).2 (sts ps k).2 w)[i]!, none) : tk)), [], fun t h => ?_, by rw [List.length_map, List.length_range]; omega, ?_, ?_⟩
      · obtain ⟨i, hi, e⟩ := List.mem_map.mp h
        rw [List.mem_range] at hi
        subst e
        have t := hvv i hi
        refine ⟨hlk.1, t.1, t.2.1, t.2.2.1, t.2.2.2.2, t.2.2.2.1, ?_⟩
        trivial
      · rw [List.nil_append, List.flatMap_map]; show _ = sem_cr (pgo ps) k w; rw [cr_7 hpK g2.2.1]; exact (rng_fm (rps (sts ps (ps k).2.1).2 (sts ps k).2 w) (fun u => sem_cr (pgo ps) (ps k).2.1 u)).symm
      · have q := c152nr_7 (L := L) (xs := xs) (es := es) d hm h6c hk hw h6 ms hf hr hbs hu hS hK hrt
        rw [dsL_map (rps (sts ps (ps k).2.1).2 (sts ps k).2 w).length (h := (fun i => (((ps k).2.1, f + off (rps (sts ps (ps k).2.1).2 (sts ps k).2 w) i, (rps (sts ps (ps k).2.1).2 (sts ps k).2 w)[i]!, none) : tk))) (fun i hi => by rfl)] at q
        refine ab_X_mono (d + 8) _ _ _ _ _ ?_ q
        rintro r' h' ⟨v, M2, e1, e2, e3, e4, e5, e6, e7⟩
        exact ⟨v, M2, e1, e2, e3, by rw [List.append_nil]; exact e4, e5, e6, fun i hi => by exact e7 i (Nat.zero_le _) hi⟩
    | some p =>
      obtain ⟨s, sw⟩ := p
      obtain ⟨hs, s6, mss, hsf, hsr, hsh⟩ : tx_L sw ∧ sw.length ≤ 6 ∧ (sts ps k).1 (tx_num sw) = true ∧ s + sw.length ≤ 6 ∧ roL (M.1 596) s sw ∧ (sem_sh (pgo ps) k sw).length ≤ 6 := hso
      have hss := rp_v (A := (sts ps (ps k).2.1).1) (B := (sts ps k).1) g2.2.2.2.2.1 hs s6 mss hsf hsr
      have hsh2 : ∀ i, i < (rps (sts ps (ps k).2.1).1 (sts ps k).1 sw).length → (sem_sh (pgo ps) (ps k).2.1 (rps (sts ps (ps k).2.1).1 (sts ps k).1 sw)[i]!).length ≤ 6 := by
        intro i hi
        have e := sh_7 hpK g2.2.1 sw
        rw [e] at hsh
        exact Nat.le_trans (len_fm (g := fun u => sem_sh (pgo ps) (ps k).2.1 u) (get_mem hi)) hsh
      refine ⟨(List.range (rps (sts ps (ps k).2.1).2 (sts ps k).2 w).length).map (fun i => (((ps k).2.1, f + off (rps (sts ps (ps k).2.1).2 (sts ps k).2 w) i, (rps (sts ps (ps k).2.1).2 (sts ps k).2 w)[i]!, (((org false ((rps (sts ps (ps k).2.1).1 (sts ps k).1 sw).map (fun u => tx_num (sem_ky (pgo ps) (ps k).2.1 (sem_sh (pgo ps) (ps k).2.1 u)))) ((rps (sts ps (ps k).2.1).2 (sts ps k).2 w).map (fun u => tx_num (sem_ky (pgo ps) (ps k).2.1 u)))) i).map (fun o => (s + off (rps (sts ps (ps k).2.1).1 (sts ps k).1 sw) o, (rps (sts ps (ps k).2.1).1 (sts ps k).1 sw)[o]!)))) : tk)), [], fun t h => ?_, by rw [List.length_map, List.length_range]; omega, ?_, ?_⟩
      · obtain ⟨i, hi, e⟩ := List.mem_map.mp h
        rw [List.mem_range] at hi
        subst e
        have t := hvv i hi
        refine ⟨hlk.1, t.1, t.2.1, t.2.2.1, t.2.2.2.2, t.2.2.2.1, ?_⟩
        show sok M ps (ps k).2.1 (((org false ((rps (sts ps (ps k).2.1).1 (sts ps k).1 sw).map (fun u => tx_num (sem_ky (pgo ps) (ps k).2.1 (sem_sh (pgo ps) (ps k).2.1 u)))) ((rps (sts ps (ps k).2.1).2 (sts ps k).2 w).map (fun u => tx_num (sem_ky (pgo ps) (ps k).2.1 u)))) i).map (fun o => (s + off (rps (sts ps (ps k).2.1).1 (sts ps k).1 sw) o, (rps (sts ps (ps k).2.1).1 (sts ps k).1 sw)[o]!)))
        cases ho : (org false ((rps (sts ps (ps k).2.1).1 (sts ps k).1 sw).map (fun u => tx_num (sem_ky (pgo ps) (ps k).2.1 (sem_sh (pgo ps) (ps k).2.1 u)))) ((rps (sts ps (ps k).2.1).2 (sts ps k).2 w).map (fun u => tx_num (sem_ky (pgo ps) (ps k).2.1 u)))) i with
        | none => trivial
        | some o =>
          have ho2 := org_lt ho
          rw [List.length_map] at ho2
          have t2 := hss o ho2
          exact ⟨t2.1, t2.2.1, t2.2.2.1, t2.2.2.2.2, t2.2.2.2.1, hsh2 o ho2⟩
      · rw [List.nil_append, List.flatMap_map]; show _ = sem_pu (pgo ps) k sw w; rw [pu_7 hpK g2.2.1]
        show (List.range (rps (sts ps (ps k).2.1).2 (sts ps k).2 w).length).flatMap _ = (List.range (rps (sts ps (ps k).2.1).2 (sts ps k).2 w).length).flatMap _
        apply congrArg (fun F => List.flatMap F _)
        funext i
        show sca (pgo ps) (ps k).2.1 (rps (sts ps (ps k).2.1).2 (sts ps k).2 w)[i]! (((org false ((rps (sts ps (ps k).2.1).1 (sts ps k).1 sw).map (fun u => tx_num (sem_ky (pgo ps) (ps k).2.1 (sem_sh (pgo ps) (ps k).2.1 u)))) ((rps (sts ps (ps k).2.1).2 (sts ps k).2 w).map (fun u => tx_num (sem_ky (pgo ps) (ps k).2.1 u)))) i).map (fun o => (s + off (rps (sts ps (ps k).2.1).1 (sts ps k).1 sw) o, (rps (sts ps (ps k).2.1).1 (sts ps k).1 sw)[o]!))) = _
        show _ = (match (org false ((rps (sts ps (ps k).2.1).1 (sts ps k).1 sw).map (fun u => tx_num (sem_ky (pgo ps) (ps k).2.1 (sem_sh (pgo ps) (ps k).2.1 u)))) ((rps (sts ps (ps k).2.1).2 (sts ps k).2 w).map (fun u => tx_num (sem_ky (pgo ps) (ps k).2.1 u)))) i with | none => sem_cr (pgo ps) (ps k).2.1 (rps (sts ps (ps k).2.1).2 (sts ps k).2 w)[i]! | some o => sem_pu (pgo ps) (ps k).2.1 (rps (sts ps (ps k).2.1).1 (sts ps k).1 sw)[o]! (rps (sts ps (ps k).2.1).2 (sts ps k).2 w)[i]!)
        cases (org false ((rps (sts ps (ps k).2.1).1 (sts ps k).1 sw).map (fun u => tx_num (sem_ky (pgo ps) (ps k).2.1 (sem_sh (pgo ps) (ps k).2.1 u)))) ((rps (sts ps (ps k).2.1).2 (sts ps k).2 w).map (fun u => tx_num (sem_ky (pgo ps) (ps k).2.1 u)))) i <;> rfl
      · have q := c152sr_7 (L := L) (xs := xs) (es := es) d hm h6c hk hw h6 ms hf hr hbs hu hS hs s6 mss hsf hsr hsh hK hrt
        rw [dsL_map (rps (sts ps (ps k).2.1).2 (sts ps k).2 w).length (h := (fun i => (((ps k).2.1, f + off (rps (sts ps (ps k).2.1).2 (sts ps k).2 w) i, (rps (sts ps (ps k).2.1).2 (sts ps k).2 w)[i]!, (((org false ((rps (sts ps (ps k).2.1).1 (sts ps k).1 sw).map (fun u => tx_num (sem_ky (pgo ps) (ps k).2.1 (sem_sh (pgo ps) (ps k).2.1 u)))) ((rps (sts ps (ps k).2.1).2 (sts ps k).2 w).map (fun u => tx_num (sem_ky (pgo ps) (ps k).2.1 u)))) i).map (fun o => (s + off (rps (sts ps (ps k).2.1).1 (sts ps k).1 sw) o, (rps (sts ps (ps k).2.1).1 (sts ps k).1 sw)[o]!)))) : tk))) (fun i hi => by show ((ps k).2.1, f + off (rps (sts ps (ps k).2.1).2 (sts ps k).2 w) i, (rps (sts ps (ps k).2.1).2 (sts ps k).2 w)[i]!.length, spo s (rps (sts ps (ps k).2.1).1 (sts ps k).1 sw) ((org false ((rps (sts ps (ps k).2.1).1 (sts ps k).1 sw).map (fun u => tx_num (sem_ky (pgo ps) (ps k).2.1 (sem_sh (pgo ps) (ps k).2.1 u)))) ((rps (sts ps (ps k).2.1).2 (sts ps k).2 w).map (fun u => tx_num (sem_ky (pgo ps) (ps k).2.1 u)))) i)) = ((ps k).2.1, f + off (rps (sts ps (ps k).2.1).2 (sts ps k).2 w) i, (rps (sts ps (ps k).2.1).2 (sts ps k).2 w)[i]!.length, spx (((org false ((rps (sts ps (ps k).2.1).1 (sts ps k).1 sw).map (fun u => tx_num (sem_ky (pgo ps) (ps k).2.1 (sem_sh (pgo ps) (ps k).2.1 u)))) ((rps (sts ps (ps k).2.1).2 (sts ps k).2 w).map (fun u => tx_num (sem_ky (pgo ps) (ps k).2.1 u)))) i).map (fun o => (s + off (rps (sts ps (ps k).2.1).1 (sts ps k).1 sw) o, (rps (sts ps (ps k).2.1).1 (sts ps k).1 sw)[o]!)))); cases (org false ((rps (sts ps (ps k).2.1).1 (sts ps k).1 sw).map (fun u => tx_num (sem_ky (pgo ps) (ps k).2.1 (sem_sh (pgo ps) (ps k).2.1 u)))) ((rps (sts ps (ps k).2.1).2 (sts ps k).2 w).map (fun u => tx_num (sem_ky (pgo ps) (ps k).2.1 u)))) i <;> rfl)] at q
        refine ab_X_mono (d + 8) _ _ _ _ _ ?_ q
        rintro r' h' ⟨v, M2, e1, e2, e3, e4, e5, e6, e7⟩
        exact ⟨v, M2, e1, e2, e3, by rw [List.append_nil]; exact e4, e5, e6, fun i hi => by rw [show ogS ps k w (some (s, sw)) i = (org false ((rps (sts ps (ps k).2.1).1 (sts ps k).1 sw).map (fun u => tx_num (sem_ky (pgo ps) (ps k).2.1 (sem_sh (pgo ps) (ps k).2.1 u)))) ((rps (sts ps (ps k).2.1).2 (sts ps k).2 w).map (fun u => tx_num (sem_ky (pgo ps) (ps k).2.1 u)))) i from by show org ((ps k).1 == 8) _ _ i = _; rw [hK]; rfl]; exact e7 i (Nat.zero_le _) hi⟩
  · have hpK : pK (pgo ps) k = 8 := hK
    rw [show pK (pgo ps) k = 8 from hK] at g2
    have hvv := rp_v (A := (sts ps (ps k).2.1).2) (B := (sts ps k).2) g2.2.2.2.2.2 hw h6 ms hf hr
    cases src with
    | none =>
      refine ⟨(List.range (rps (sts ps (ps k).2.1).2 (sts ps k).2 w).length).map (fun i => (((ps k).2.1, f + off (rps (sts ps (ps k).2.1).2 (sts ps k).2 w) i, (rps (sts ps (ps k).2.1).2 (sts ps k).2 w)[i]!, none) : tk)), [], fun t h => ?_, by rw [List.length_map, List.length_range]; omega, ?_, ?_⟩
      · obtain ⟨i, hi, e⟩ := List.mem_map.mp h
        rw [List.mem_range] at hi
        subst e
        have t := hvv i hi
        refine ⟨hlk.1, t.1, t.2.1, t.2.2.1, t.2.2.2.2, t.2.2.2.1, ?_⟩
        trivial
      · rw [List.nil_append, List.flatMap_map]; show _ = sem_cr (pgo ps) k w; rw [cr_8 hpK g2.2.1]; exact (rng_fm (rps (sts ps (ps k).2.1).2 (sts ps k).2 w) (fun u => sem_cr (pgo ps) (ps k).2.1 u)).symm
      · have q := c152nr_8 (L := L) (xs := xs) (es := es) d hm h6c hk hw h6 ms hf hr hbs hu hS hK hrt
        rw [dsL_map (rps (sts ps (ps k).2.1).2 (sts ps k).2 w).length (h := (fun i => (((ps k).2.1, f + off (rps (sts ps (ps k).2.1).2 (sts ps k).2 w) i, (rps (sts ps (ps k).2.1).2 (sts ps k).2 w)[i]!, none) : tk))) (fun i hi => by rfl)] at q
        refine ab_X_mono (d + 8) _ _ _ _ _ ?_ q
        rintro r' h' ⟨v, M2, e1, e2, e3, e4, e5, e6, e7⟩
        exact ⟨v, M2, e1, e2, e3, by rw [List.append_nil]; exact e4, e5, e6, fun i hi => by exact e7 i (Nat.zero_le _) hi⟩
    | some p =>
      obtain ⟨s, sw⟩ := p
      obtain ⟨hs, s6, mss, hsf, hsr, hsh⟩ : tx_L sw ∧ sw.length ≤ 6 ∧ (sts ps k).1 (tx_num sw) = true ∧ s + sw.length ≤ 6 ∧ roL (M.1 596) s sw ∧ (sem_sh (pgo ps) k sw).length ≤ 6 := hso
      have hss := rp_v (A := (sts ps (ps k).2.1).1) (B := (sts ps k).1) g2.2.2.2.2.1 hs s6 mss hsf hsr
      have hsh2 : ∀ i, i < (rps (sts ps (ps k).2.1).1 (sts ps k).1 sw).length → (sem_sh (pgo ps) (ps k).2.1 (rps (sts ps (ps k).2.1).1 (sts ps k).1 sw)[i]!).length ≤ 6 := by
        intro i hi
        have e := sh_8 hpK g2.2.1 sw
        rw [e] at hsh
        exact Nat.le_trans (len_fm (g := fun u => sem_sh (pgo ps) (ps k).2.1 u) (get_mem hi)) hsh
      refine ⟨(List.range (rps (sts ps (ps k).2.1).2 (sts ps k).2 w).length).map (fun i => (((ps k).2.1, f + off (rps (sts ps (ps k).2.1).2 (sts ps k).2 w) i, (rps (sts ps (ps k).2.1).2 (sts ps k).2 w)[i]!, (((org true ((rps (sts ps (ps k).2.1).1 (sts ps k).1 sw).map (fun u => tx_num (sem_ky (pgo ps) (ps k).2.1 (sem_sh (pgo ps) (ps k).2.1 u)))) ((rps (sts ps (ps k).2.1).2 (sts ps k).2 w).map (fun u => tx_num (sem_ky (pgo ps) (ps k).2.1 u)))) i).map (fun o => (s + off (rps (sts ps (ps k).2.1).1 (sts ps k).1 sw) o, (rps (sts ps (ps k).2.1).1 (sts ps k).1 sw)[o]!)))) : tk)), [], fun t h => ?_, by rw [List.length_map, List.length_range]; omega, ?_, ?_⟩
      · obtain ⟨i, hi, e⟩ := List.mem_map.mp h
        rw [List.mem_range] at hi
        subst e
        have t := hvv i hi
        refine ⟨hlk.1, t.1, t.2.1, t.2.2.1, t.2.2.2.2, t.2.2.2.1, ?_⟩
        show sok M ps (ps k).2.1 (((org true ((rps (sts ps (ps k).2.1).1 (sts ps k).1 sw).map (fun u => tx_num (sem_ky (pgo ps) (ps k).2.1 (sem_sh (pgo ps) (ps k).2.1 u)))) ((rps (sts ps (ps k).2.1).2 (sts ps k).2 w).map (fun u => tx_num (sem_ky (pgo ps) (ps k).2.1 u)))) i).map (fun o => (s + off (rps (sts ps (ps k).2.1).1 (sts ps k).1 sw) o, (rps (sts ps (ps k).2.1).1 (sts ps k).1 sw)[o]!)))
        cases ho : (org true ((rps (sts ps (ps k).2.1).1 (sts ps k).1 sw).map (fun u => tx_num (sem_ky (pgo ps) (ps k).2.1 (sem_sh (pgo ps) (ps k).2.1 u)))) ((rps (sts ps (ps k).2.1).2 (sts ps k).2 w).map (fun u => tx_num (sem_ky (pgo ps) (ps k).2.1 u)))) i with
        | none => trivial
        | some o =>
          have ho2 := org_lt ho
          rw [List.length_map] at ho2
          have t2 := hss o ho2
          exact ⟨t2.1, t2.2.1, t2.2.2.1, t2.2.2.2.2, t2.2.2.2.1, hsh2 o ho2⟩
      · rw [List.nil_append, List.flatMap_map]; show _ = sem_pu (pgo ps) k sw w; rw [pu_8 hpK g2.2.1]
        show (List.range (rps (sts ps (ps k).2.1).2 (sts ps k).2 w).length).flatMap _ = (List.range (rps (sts ps (ps k).2.1).2 (sts ps k).2 w).length).flatMap _
        apply congrArg (fun F => List.flatMap F _)
        funext i
        show sca (pgo ps) (ps k).2.1 (rps (sts ps (ps k).2.1).2 (sts ps k).2 w)[i]! (((org true ((rps (sts ps (ps k).2.1).1 (sts ps k).1 sw).map (fun u => tx_num (sem_ky (pgo ps) (ps k).2.1 (sem_sh (pgo ps) (ps k).2.1 u)))) ((rps (sts ps (ps k).2.1).2 (sts ps k).2 w).map (fun u => tx_num (sem_ky (pgo ps) (ps k).2.1 u)))) i).map (fun o => (s + off (rps (sts ps (ps k).2.1).1 (sts ps k).1 sw) o, (rps (sts ps (ps k).2.1).1 (sts ps k).1 sw)[o]!))) = _
        show _ = (match (org true ((rps (sts ps (ps k).2.1).1 (sts ps k).1 sw).map (fun u => tx_num (sem_ky (pgo ps) (ps k).2.1 (sem_sh (pgo ps) (ps k).2.1 u)))) ((rps (sts ps (ps k).2.1).2 (sts ps k).2 w).map (fun u => tx_num (sem_ky (pgo ps) (ps k).2.1 u)))) i with | none => sem_cr (pgo ps) (ps k).2.1 (rps (sts ps (ps k).2.1).2 (sts ps k).2 w)[i]! | some o => sem_pu (pgo ps) (ps k).2.1 (rps (sts ps (ps k).2.1).1 (sts ps k).1 sw)[o]! (rps (sts ps (ps k).2.1).2 (sts ps k).2 w)[i]!)
        cases (org true ((rps (sts ps (ps k).2.1).1 (sts ps k).1 sw).map (fun u => tx_num (sem_ky (pgo ps) (ps k).2.1 (sem_sh (pgo ps) (ps k).2.1 u)))) ((rps (sts ps (ps k).2.1).2 (sts ps k).2 w).map (fun u => tx_num (sem_ky (pgo ps) (ps k).2.1 u)))) i <;> rfl
      · have q := c152sr_8 (L := L) (xs := xs) (es := es) d hm h6c hk hw h6 ms hf hr hbs hu hS hs s6 mss hsf hsr hsh hK hrt
        rw [dsL_map (rps (sts ps (ps k).2.1).2 (sts ps k).2 w).length (h := (fun i => (((ps k).2.1, f + off (rps (sts ps (ps k).2.1).2 (sts ps k).2 w) i, (rps (sts ps (ps k).2.1).2 (sts ps k).2 w)[i]!, (((org true ((rps (sts ps (ps k).2.1).1 (sts ps k).1 sw).map (fun u => tx_num (sem_ky (pgo ps) (ps k).2.1 (sem_sh (pgo ps) (ps k).2.1 u)))) ((rps (sts ps (ps k).2.1).2 (sts ps k).2 w).map (fun u => tx_num (sem_ky (pgo ps) (ps k).2.1 u)))) i).map (fun o => (s + off (rps (sts ps (ps k).2.1).1 (sts ps k).1 sw) o, (rps (sts ps (ps k).2.1).1 (sts ps k).1 sw)[o]!)))) : tk))) (fun i hi => by show ((ps k).2.1, f + off (rps (sts ps (ps k).2.1).2 (sts ps k).2 w) i, (rps (sts ps (ps k).2.1).2 (sts ps k).2 w)[i]!.length, spo s (rps (sts ps (ps k).2.1).1 (sts ps k).1 sw) ((org true ((rps (sts ps (ps k).2.1).1 (sts ps k).1 sw).map (fun u => tx_num (sem_ky (pgo ps) (ps k).2.1 (sem_sh (pgo ps) (ps k).2.1 u)))) ((rps (sts ps (ps k).2.1).2 (sts ps k).2 w).map (fun u => tx_num (sem_ky (pgo ps) (ps k).2.1 u)))) i)) = ((ps k).2.1, f + off (rps (sts ps (ps k).2.1).2 (sts ps k).2 w) i, (rps (sts ps (ps k).2.1).2 (sts ps k).2 w)[i]!.length, spx (((org true ((rps (sts ps (ps k).2.1).1 (sts ps k).1 sw).map (fun u => tx_num (sem_ky (pgo ps) (ps k).2.1 (sem_sh (pgo ps) (ps k).2.1 u)))) ((rps (sts ps (ps k).2.1).2 (sts ps k).2 w).map (fun u => tx_num (sem_ky (pgo ps) (ps k).2.1 u)))) i).map (fun o => (s + off (rps (sts ps (ps k).2.1).1 (sts ps k).1 sw) o, (rps (sts ps (ps k).2.1).1 (sts ps k).1 sw)[o]!)))); cases (org true ((rps (sts ps (ps k).2.1).1 (sts ps k).1 sw).map (fun u => tx_num (sem_ky (pgo ps) (ps k).2.1 (sem_sh (pgo ps) (ps k).2.1 u)))) ((rps (sts ps (ps k).2.1).2 (sts ps k).2 w).map (fun u => tx_num (sem_ky (pgo ps) (ps k).2.1 u)))) i <;> rfl)] at q
        refine ab_X_mono (d + 8) _ _ _ _ _ ?_ q
        rintro r' h' ⟨v, M2, e1, e2, e3, e4, e5, e6, e7⟩
        exact ⟨v, M2, e1, e2, e3, by rw [List.append_nil]; exact e4, e5, e6, fun i hi => by rw [show ogS ps k w (some (s, sw)) i = (org true ((rps (sts ps (ps k).2.1).1 (sts ps k).1 sw).map (fun u => tx_num (sem_ky (pgo ps) (ps k).2.1 (sem_sh (pgo ps) (ps k).2.1 u)))) ((rps (sts ps (ps k).2.1).2 (sts ps k).2 w).map (fun u => tx_num (sem_ky (pgo ps) (ps k).2.1 u)))) i from by show org ((ps k).1 == 8) _ _ i = _; rw [hK]; rfl]; exact e7 i (Nat.zero_le _) hi⟩
theorem CA_all (d : Nat) {Q : ab_Q} {o1 o2 o3 o4 : Option Value} {ps : Nat → prt} {c : Nat} : ∀ k, k + 1 < c → CA L xs es d Q o1 o2 o3 o4 ps c k := by
  intro k
  induction k using Nat.strongRecOn with
  | _ k ih =>
    intro hk M t bs u e hm h6c ht hb hu hS kk
    obtain ⟨k', f, w, src⟩ := t
    have e' : k' = k := e
    subst e'
    have hc31 := hm.1
    have hP := ctS_pop hS (y := (bs.length : Int)) rfl
    have hFP := Fc_pop M (bs.length : Int)
    have hmP := mdl_Fk hm (Fc_Fk hFP)
    have h6P : (sI M 572 41 (bs.length : Int)).1 572 6 = (c : Int) := (rd_nk (by decide)).trans h6c
    have htP : tok (sI M 572 41 (bs.length : Int)) ps (k', f, w, src) := tok_of (sI_ne (by decide)) (sI_ne (by decide)) ht
    have fin : ∀ (rs : List tk) (o : List Nat), (∀ t ∈ rs, t.1 < k' ∧ tok (sI M 572 41 (bs.length : Int)) ps t) → rs.length ≤ 6 → o ++ rs.flatMap (tkr (pgo ps)) = tkr (pgo ps) (k', f, w, src) → ab_Z (pg_G L xs) (d + 8) 152 [.ref 572, zi (k' : Nat), zi (f : Nat), zi (w.length : Nat), zi (spx src).1, zi ((spx src).2 : Nat)] (sI M 572 41 (bs.length : Int)) es (fun v M' => v = none ∧ (ctS M' (bs ++ (rs.map tki).reverse) (u ++ o) ∧ Fc (sI M 572 41 (bs.length : Int)) M')) → cW L xs es d Q o1 o2 o3 o4 M := by
      intro rs o h1 h2 h3 h4
      refine c150_step d (by omega) (t := (k', f, w, src)) hS h4 (fun M2 ⟨hS2, hF2⟩ => ?_)
      rw [← h3, List.length_append] at hu
      refine run_list (fun l hl => ih l hl (by omega)) rs M2 (u ++ o) (mdl_Fk hmP (Fc_Fk hF2)) ((hF2.2.1 6 (by unfold cF; omega)).trans h6P) (fun t' h' => ⟨(h1 t' h').1, tok_of (hF2.1 596 (by decide) (by decide)) (hF2.1 597 (by decide) (by decide)) (h1 t' h').2⟩) ?_ (by rw [List.length_append]; omega) hS2 (fun M3 hF3 hS3 => ?_)
      · rcases Nat.eq_zero_or_pos k' with q | q
        · have : rs = [] := by
            rcases rs with _ | ⟨t', rs'⟩
            · rfl
            · have := (h1 t' (List.mem_cons_self ..)).1
              omega
          subst this
          simp
          omega
        · omega
      · rw [List.append_assoc, h3] at hS3
        exact kk M3 (Fc_trans (Fc_trans hFP hF2) hF3) hS3
    by_cases hK : (ps k').1 ≤ 6
    · obtain ⟨rs, o, h1, h2, h3, h4⟩ := one_low (L := L) (xs := xs) (es := es) d hmP (show k' < c by omega) htP (by omega) (u := u) (by omega) hP hK
      exact fin rs o h1 h2 h3 h4
    · obtain ⟨rs, o, h1, h2, h3, h4⟩ := one_i (L := L) (xs := xs) (es := es) d hmP (show k' < c by omega) htP (by omega) (u := u) (by omega) hP h6P (by omega) hk
      exact fin rs o h1 h2 h3 h4
theorem c150 (d : Nat) {ps : Nat → prt} {c : Nat} (hm : mdl M ps c) (h6c : M.1 572 6 = (c : Int)) {k : Nat} (hk : k + 1 = c) {w : List Nat} {src : Option (Nat × List Nat)} (ht : tok M ps (k, 0, w, src)) (hsl : (tkr (pgo ps) (k, 0, w, src)).length ≤ 250) : ab_Z (pg_G L xs) (d + 9) 150 [.ref 572, zi (k : Nat), zi (w.length : Nat), zi (spx src).1, zi ((spx src).2 : Nat)] M es (fun v M' => v = none ∧ Fdr M M' ∧ M'.1 572 40 = ((tkr (pgo ps) (k, 0, w, src)).length : Int) ∧ roL (M'.1 598) 0 (tkr (pgo ps) (k, 0, w, src)) ∧ ((ps k).1 ≤ 6 → Fc M M') ∧ (7 ≤ (ps k).1 → M'.1 572 35 = ((rps (sts ps (ps k).2.1).2 (sts ps k).2 w).length : Int) ∧ ∀ i : Nat, i < (rps (sts ps (ps k).2.1).2 (sts ps k).2 w).length → M'.1 595 (i : Int) = oz (ogS ps k w src i))) := by
  have hc31 := hm.1
  have hw6 : w.length ≤ 6 := ht.2.1
  show ab_W (pg_G L xs) (ab_X (pg_G L xs) (d + 8)) 150 _ 0 [some (.ref 572), some (zi ((k : Nat) : Int)), some (zi ((w.length : Nat) : Int)), some (zi ((spx src).1)), some (zi (((spx src).2 : Nat) : Int))] [] (hp M ++ es)
  refine x_ld 0 1 2 1 rfl rfl rfl rfl rfl ?_
  refine x_cst (zi 0) 1 2 rfl rfl rfl ?_
  refine s_572_41 320 5 rfl rfl rfl rfl rfl rfl ?_
  refine x_ld 0 1 2 6 rfl rfl rfl rfl rfl ?_
  refine x_cst (zi 0) 1 7 rfl rfl rfl ?_
  refine s_572_40 278 10 rfl rfl rfl rfl rfl rfl ?_
  refine x_ld 0 1 2 11 rfl rfl rfl rfl rfl ?_
  refine x_ld 1 1 0 12 rfl rfl rfl rfl rfl ?_
  refine x_cst (zi 0) 1 13 rfl rfl rfl ?_
  refine x_ld 2 1 0 14 rfl rfl rfl rfl rfl ?_
  refine x_ld 3 1 0 15 rfl rfl rfl rfl rfl ?_
  refine x_ld 4 2 0 17 rfl rfl rfl rfl rfl ?_
  refine x_ce 323 151 20 [.ref 572, zi ((k : Nat) : Int), zi 0, zi ((w.length : Nat) : Int), zi ((spx src).1), zi (((spx src).2 : Nat) : Int)] rfl rfl rfl (Nat.le_of_ble_eq_true rfl) rfl rfl (Nat.le_of_ble_eq_true rfl) ⟨_, _, _, rfl, o_572⟩ (Nat.le_of_ble_eq_true rfl) (c151 (M := (sI (sI M 572 41 0) 572 40 0)) (d + 7) (f := 0) (bs := []) (u := []) ⟨⟨(rd_nk (by decide)).trans rd_eq, fun i hi => absurd hi (Nat.not_lt_zero i)⟩, rd_eq, fun i hi => absurd hi (Nat.not_lt_zero i)⟩ (by decide)) rfl ?_
  rintro v M3 ⟨rfl, hS3, hF3⟩
  have hF0 : Fc M (sI (sI M 572 41 0) 572 40 0) := ⟨fun a h _ => by rw [sI_ne h, sI_ne h], fun j h => (rd_nk (fun e => h (.inl e))).trans (rd_nk (fun e => h (.inr (.inl e)))), rfl⟩
  have hF3' := Fc_trans hF0 hF3
  have hm3 := mdl_Fk hm (Fc_Fk hF3')
  have h63 : M3.1 572 6 = (c : Int) := (hF3'.2.1 6 (by unfold cF; omega)).trans h6c
  have ht3 : tok M3 ps (k, 0, w, src) := tok_of (hF3'.1 596 (by decide) (by decide)) (hF3'.1 597 (by decide) (by decide)) ht
  have hP := ctS_pop (bs := []) hS3 (y := 0) rfl
  have hFP := Fc_pop M3 0
  have hFF := Fc_trans hF3' hFP
  have hmP := mdl_Fk hm (Fc_Fk hFF)
  have h6P : (sI M3 572 41 0).1 572 6 = (c : Int) := (hFF.2.1 6 (by unfold cF; omega)).trans h6c
  have htP : tok (sI M3 572 41 0) ps (k, 0, w, src) := tok_of (hFF.1 596 (by decide) (by decide)) (hFF.1 597 (by decide) (by decide)) ht
  have fin : ∀ (FX : mm → Prop) (rs : List tk) (o : List Nat), (∀ t ∈ rs, t.1 < k ∧ tok (sI M3 572 41 0) ps t) → rs.length ≤ 6 → o ++ rs.flatMap (tkr (pgo ps)) = tkr (pgo ps) (k, 0, w, src) → ab_Z (pg_G L xs) (d + 8) 152 [.ref 572, zi (k : Nat), zi ((0 : Nat) : Int), zi (w.length : Nat), zi (spx src).1, zi ((spx src).2 : Nat)] (sI M3 572 41 0) es (fun v M' => v = none ∧ (ctS M' ([] ++ (rs.map tki).reverse) ([] ++ o) ∧ FX M')) → (∀ M', FX M' → Fdr (sI M3 572 41 0) M') → (∀ M2 M', FX M2 → Fc M2 M' → Fdr M M' → ((ps k).1 ≤ 6 → Fc M M') ∧ (7 ≤ (ps k).1 → M'.1 572 35 = ((rps (sts ps (ps k).2.1).2 (sts ps k).2 w).length : Int) ∧ ∀ i : Nat, i < (rps (sts ps (ps k).2.1).2 (sts ps k).2 w).length → M'.1 595 (i : Int) = oz (ogS ps k w src i))) → cW L xs es d (fun r' h' => ∃ v M', r' = .inl v ∧ h' = hp M' ++ es ∧ v = none ∧ Fdr M M' ∧ M'.1 572 40 = ((tkr (pgo ps) (k, 0, w, src)).length : Int) ∧ roL (M'.1 598) 0 (tkr (pgo ps) (k, 0, w, src)) ∧ ((ps k).1 ≤ 6 → Fc M M') ∧ (7 ≤ (ps k).1 → M'.1 572 35 = ((rps (sts ps (ps k).2.1).2 (sts ps k).2 w).length : Int) ∧ ∀ i : Nat, i < (rps (sts ps (ps k).2.1).2 (sts ps k).2 w).length → M'.1 595 (i : Int) = oz (ogS ps k w src i))) (some (zi (k : Nat))) (some (zi (w.length : Nat))) (some (zi (spx src).1)) (some (zi ((spx src).2 : Nat))) M3 := by
    intro FX rs o h1 h2 h3 h4 h5 h7
    refine c150_step d (bs := []) (by decide) (t := (k, 0, w, src)) hS3 h4 (fun M2 ⟨hS2, hF2⟩ => ?_)
    have hD := h5 M2 hF2
    have h3' := h3
    rw [← h3, List.length_append] at hsl
    refine run_list (fun l hl => CA_all d l (by omega)) rs M2 ([] ++ o) (mdl_Fk hmP (Fdr_Fk hD)) ((hD.2.1 6 (by unfold cF; omega) (by decide)).trans h6P) (fun t' h' => ⟨(h1 t' h').1, tok_of (hD.1 596 (by decide) (by decide) (by decide)) (hD.1 597 (by decide) (by decide) (by decide)) (h1 t' h').2⟩) (by rw [List.length_nil]; omega) (by rw [List.nil_append]; omega) hS2 (fun M4 hF4 hS4 => ?_)
    rw [List.nil_append, h3'] at hS4
    have hDD : Fdr M M4 := Fdr_trans (Fdr_trans (Fc_Fdr hFF) hD) (Fc_Fdr hF4)
    refine x_ld 0 1 2 21 rfl rfl rfl rfl rfl ?_
    refine g_572_41 320 24 rfl rfl hS4.1.1 rfl ?_
    refine z_ifle 89 27 rfl rfl rfl (rg_lit 0 rfl) (fun _ => ?_) (fun c => absurd (Int.le_refl 0) c)
    exact x_rtv rfl rfl ⟨none, M4, rfl, rfl, rfl, hDD, hS4.2.1, hS4.2.2, h7 M2 M4 hF2 hF4 hDD⟩
  by_cases hK : (ps k).1 ≤ 6
  · obtain ⟨rs, o, h1, h2, h3, h4⟩ := one_low (L := L) (xs := xs) (es := es) d hmP (show k < c by omega) htP (bs := []) (by decide) (u := []) (by decide) hP hK
    exact fin (fun M' => Fc (sI M3 572 41 0) M') rs o h1 h2 h3 h4 (fun M' h => Fc_Fdr h) (fun M2 M' h g _ => ⟨fun _ => Fc_trans (Fc_trans hFF h) g, fun q => absurd q (by omega)⟩)
  · obtain ⟨rs, o, h1, h2, h3, h4⟩ := one_r (L := L) (xs := xs) (es := es) d hmP (show k < c by omega) htP (bs := []) (by decide) (u := []) (by decide) hP h6P (by omega) hk
    exact fin _ rs o h1 h2 h3 h4 (fun M' h => h.1) (fun M2 M' h g _ => ⟨fun q => absurd q (by omega), fun _ => ⟨(g.2.1 35 (by unfold cF; omega)).trans h.2.1, fun i hi => (congrFun (g.1 595 (by decide) (by decide)) _).trans (h.2.2 i hi)⟩⟩)
end E5
