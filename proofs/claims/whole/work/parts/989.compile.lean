/-! OURS, printed by wip/tools/gen989.py: the class reads a line, compiles. -/
def cpI (n : Nat) (A B : Int → Int) : Int → Int := fun j => if 0 ≤ j ∧ j < (n : Int) then A j else B j
theorem fit_t : ∀ n : Fin 127, fits .char (zi ((n.1 : Nat) : Int)) = true := by decide
section Zn
variable {L : Nat} {xs : Nat → Int32} {E : ab_E} {j : Nat} {Q : ab_Q} {pc : Nat} {ls : ab_L} {st : List Value} {M : mm} {es : ab_H}
theorem cpI_obj {a b n n1 : Nat} (hn : n ≤ n1) : va_cpy (fun k => Int32.ofInt (M.1 a ((k : Nat) : Int))) (fun k => Int32.ofInt (M.1 b ((k : Nat) : Int))) 0 0 n = (fun k => Int32.ofInt (cpI n (M.1 a) (M.1 b) ((k : Nat) : Int))) := by
  funext k
  unfold va_cpy cpI
  by_cases h : k < n
  · rw [if_pos (by omega), if_pos (by omega), show 0 + (k - 0) = k by omega]
  · rw [if_neg (by omega), if_neg (by omega)]
theorem z_cpc {a b n : Nat} (idx pc' : Nat) (hf : ab_f (pg_G L xs) j pc = some (.invokestatic idx)) (hl : ab_lm (pg_G L xs) j idx = some 1000001) (ha : isC a 16) (hb : isC b 16) (hn : n ≤ 16) (hc : ∀ i : Nat, i < n → ∃ c : Nat, c < 127 ∧ M.1 a (i : Int) = (c : Int)) (hs : (st.map (fun v => v.category)).sum ≤ 16) (hq : pc + 3 = pc') (k : ab_W (pg_G L xs) E j Q pc' ls st (hp (rI M b (cpI n (M.1 a) (M.1 b))) ++ es)) : ab_W (pg_G L xs) E j Q pc ls (zi (n : Nat) :: zi 0 :: .ref b :: zi 0 :: .ref a :: st) (hp M ++ es) := by
  have e0 : (Int32.ofInt 0).toNatClampNeg = 0 := rfl
  have en : (Int32.ofInt ((n : Nat) : Int)).toNatClampNeg = n := by rw [nat32 (by omega) (by omega), Int.toNat_natCast]
  refine x_cpi idx pc' hf hl (hp_ob ha.1 (ha.2.2 _ _ _)) (hp_ob hb.1 (hb.2.2 _ _ _)) (show ab_at (pg_G L xs) 2 = some .char from rfl) rfl (by decide) (by decide) ?_ (by rw [e0, en]; omega) (by rw [e0, en]; omega) (fun i hi => ?_) hs hq ?_
  · rw [show (0 : Int32) = Int32.ofInt 0 from rfl, lt32 ⟨by omega, by omega⟩ ⟨by omega, by omega⟩]; omega
  · rw [en] at hi
    obtain ⟨c, h1, h2⟩ := hc i hi
    rw [e0, Nat.zero_add]
    show fits .char (zi (M.1 a ((i : Nat) : Int))) = true
    rw [h2]
    exact fit_t ⟨c, h1⟩
  · rw [e0, en, cpI_obj hn, hp_rI (M := M) (es := es) (f := cpI n (M.1 a) (M.1 b)) hb.1 (hb.2.2 _ _ _)]
    exact k
theorem z_cp6 {a b : Nat} (idx pc' : Nat) (hf : ab_f (pg_G L xs) j pc = some (.invokestatic idx)) (hl : ab_lm (pg_G L xs) j idx = some 1000001) (ha : isI a 6) (hb : isI b 6) (hs : (st.map (fun v => v.category)).sum ≤ 16) (hq : pc + 3 = pc') (k : ab_W (pg_G L xs) E j Q pc' ls st (hp (rI M b (cpI 6 (M.1 a) (M.1 b))) ++ es)) : ab_W (pg_G L xs) E j Q pc ls (zi 6 :: zi 0 :: .ref b :: zi 0 :: .ref a :: st) (hp M ++ es) := by
  have e0 : (Int32.ofInt 0).toNatClampNeg = 0 := rfl
  have en : (Int32.ofInt 6).toNatClampNeg = 6 := rfl
  refine x_cpi idx pc' hf hl (hp_ob ha.1 (ha.2.2 _ _ _)) (hp_ob hb.1 (hb.2.2 _ _ _)) (show ab_at (pg_G L xs) 0 = some .int from rfl) rfl (by decide) (by decide) (by decide) (by decide) (by decide) (fun i hi => rfl) hs hq ?_
  rw [e0, en, cpI_obj (n1 := 6) (Nat.le_refl _), hp_rI (M := M) (es := es) (f := cpI 6 (M.1 a) (M.1 b)) hb.1 (hb.2.2 _ _ _)]
  exact k
end Zn
/-- what reading a whole line may change -/
def Frl (b : Nat) (M M' : mm) : Prop := (∀ q, q ≠ b → q ≠ b + 1 → (∀ k, k < 31 → q ≠ b + 3 + 9 * k) → M'.1 q = M.1 q ∧ M'.2.2 q = M.2.2 q) ∧ M'.2.1 = M.2.1
theorem Frd_Frl {b : Nat} {M M' : mm} (h : Frd b M M') : Frl b M M' := ⟨fun q h1 _ h2 => h.1 q h1 h2, h.2.2.2⟩
theorem Frl_trans {b : Nat} {M M' M'' : mm} (h : Frl b M M') (g : Frl b M' M'') : Frl b M M'' := ⟨fun q h1 h2 h3 => ⟨(g.1 q h1 h2 h3).1.trans (h.1 q h1 h2 h3).1, (g.1 q h1 h2 h3).2.trans (h.1 q h1 h2 h3).2⟩, g.2.trans h.2⟩
section C32
variable {L : Nat} {xs : Nat → Int32} {M : mm} {es : ab_H}
theorem c8 {D : Nat} (hD : 110 ≤ D) {b : Nat} (hG : isG b) {x : lne} (h16 : x.1 ≤ 16) (hx : ∀ i : Nat, i < x.1 → M.1 1 (i : Int) = ((x.2 i : Nat) : Int) ∧ x.2 i < 127) : ab_Z (pg_G L xs) D 8 [.ref b, .ref 1, zi (x.1 : Nat)] M es (fun v M' => Frl b M M' ∧ ((v = some (zi 0) ∧ rN b x M') ∨ (v = some (zi 1) ∧ ∃ a ps ls, Rch x s0 (7, a, ps, ls, []) ∧ cR b M' x a ps ∧ M'.2.2 b 5 = b + 3 + 9 * (ps.length - 1)))) := by
  have hg := isG_lt hG
  obtain ⟨d, rfl⟩ : ∃ d, D = d + 2 := ⟨D - 2, by omega⟩
  have hF0 : Frl b M (sI (sI (rI (sI M b 1 ((x.1 : Nat) : Int)) (b + 1) (cpI x.1 ((sI M b 1 ((x.1 : Nat) : Int)).1 1) ((sI M b 1 ((x.1 : Nat) : Int)).1 (b + 1)))) b 2 0) b 4 0) := ⟨fun q h1 h2 h3 => ⟨by rw [sI_ne h1, sI_ne h1, rI_ne h2, sI_ne h1], rfl⟩, rfl⟩
  have hC0 : cR b (sI (sI (rI (sI M b 1 ((x.1 : Nat) : Int)) (b + 1) (cpI x.1 ((sI M b 1 ((x.1 : Nat) : Int)).1 1) ((sI M b 1 ((x.1 : Nat) : Int)).1 (b + 1)))) b 2 0) b 4 0) x 0 [] := by
    refine ⟨hG, h16, (rd_nk (by decide)).trans ((rd_nk (by decide)).trans ((rd_ra (by omega)).trans rd_eq)), fun i hi => ⟨?_, (hx i hi).2⟩, (rd_nk (by decide)).trans rd_eq, rd_eq, fun k hk => absurd hk (Nat.not_lt_zero k), fun k hk => absurd hk (Nat.not_lt_zero k)⟩
    rw [sI_ne (by omega), sI_ne (by omega), rI_at]
    unfold cpI
    rw [if_pos (by omega), sI_ne (by omega)]
    exact (hx i hi).1
  show ab_W (pg_G L xs) (ab_X (pg_G L xs) (d + 1)) 8 _ 0 [some (.ref b), some (.ref 1), some (zi ((x.1 : Nat) : Int)), none] [] (hp M ++ es)
  refine x_ld 0 1 2 1 rfl rfl rfl rfl rfl ?_
  refine x_ld 2 1 0 2 rfl rfl rfl rfl rfl ?_
  refine x_cst (zi 16) 2 4 rfl rfl rfl ?_
  refine z_min 40 7 rfl rfl (Nat.le_of_ble_eq_true rfl) ⟨by omega, by omega⟩ (rg_lit 16 rfl) rfl ?_
  rw [show min ((x.1 : Nat) : Int) 16 = ((x.1 : Nat) : Int) from (by omega)]
  refine s_G_1 hG 15 10 rfl rfl rfl rfl rfl rfl ?_
  refine x_ld 1 1 2 11 rfl rfl rfl rfl rfl ?_
  refine x_cst (zi 0) 1 12 rfl rfl rfl ?_
  refine x_ld 0 1 2 13 rfl rfl rfl rfl rfl ?_
  refine g_G_0 hG 9 16 rfl rfl rfl ?_
  refine x_cst (zi 0) 1 17 rfl rfl rfl ?_
  refine x_ld 0 1 2 18 rfl rfl rfl rfl rfl ?_
  refine g_G_1 hG 15 21 rfl rfl rd_eq rfl ?_
  refine z_cpc 46 24 rfl rfl i_1 (iG1 hG) h16 (fun i hi => ⟨x.2 i, (hx i hi).2, by rw [sI_ne (by omega)]; exact (hx i hi).1⟩) (Nat.le_of_ble_eq_true rfl) rfl ?_
  refine x_ld 0 1 2 25 rfl rfl rfl rfl rfl ?_
  refine x_cst (zi 0) 1 26 rfl rfl rfl ?_
  refine s_G_2 hG 19 29 rfl rfl rfl rfl rfl rfl ?_
  refine x_ld 0 1 2 30 rfl rfl rfl rfl rfl ?_
  refine x_cst (zi 0) 1 31 rfl rfl rfl ?_
  refine s_G_4 hG 28 34 rfl rfl rfl rfl rfl rfl ?_
  refine x_ld 0 1 2 35 rfl rfl rfl rfl rfl ?_
  refine x_cst (zi 0) 1 36 rfl rfl rfl ?_
  refine x_ce 52 9 39 [.ref b, zi 0] rfl rfl rfl (Nat.le_of_ble_eq_true rfl) rfl rfl (Nat.le_of_ble_eq_true rfl) ⟨_, _, _, rfl, oG hG⟩ (Nat.le_of_ble_eq_true rfl) (by have q := (parse_all (L := L) (xs := xs) (es := es) (b := b) (x := x) (x.1 - 0)).2.2.2 (d + 1) (by omega) (sI (sI (rI (sI M b 1 ((x.1 : Nat) : Int)) (b + 1) (cpI x.1 ((sI M b 1 ((x.1 : Nat) : Int)).1 1) ((sI M b 1 ((x.1 : Nat) : Int)).1 (b + 1)))) b 2 0) b 4 0) 0 [] [] [] rfl ⟨rfl, rfl, rfl, rfl⟩ hC0 (Rch_refl x s0); exact q) rfl ?_
  rintro v M2 ⟨hF2, hv⟩
  rcases hv with ⟨rfl, hN⟩ | ⟨a2, ps2, p2, rfl, hlt, ⟨hn2, hR2⟩, hC2⟩
  · refine x_st 3 1 2 40 [some (.ref b), some (.ref 1), some (zi ((x.1 : Nat) : Int)), some (.null)] rfl rfl rfl (Nat.le_of_ble_eq_true rfl) rfl rfl ?_
    refine x_ld 3 1 2 41 rfl rfl rfl rfl rfl ?_
    refine x_nuT 55 rfl rfl ?_
    refine x_cst (zi 0) 1 56 rfl rfl rfl ?_
    refine x_ret rfl rfl rfl rfl ?_
    exact ⟨_, _, rfl, rfl, Frl_trans hF0 (Frd_Frl hF2), .inl ⟨rfl, hN⟩⟩
  · have hi2 := inv_Rch hR2 (inv_s0 x)
    have ha2 : a2 ≤ x.1 := hi2.1
    have hp2 : p2 + 1 = ps2.length := hi2.2.2.2.2.1 (show 1 ≤ 5 by decide) (show 5 ≠ 6 by decide)
    refine x_st 3 1 2 40 [some (.ref b), some (.ref 1), some (zi ((x.1 : Nat) : Int)), some (.ref (b + 3 + 9 * p2))] rfl rfl rfl (Nat.le_of_ble_eq_true rfl) rfl rfl ?_
    refine x_ld 3 1 2 41 rfl rfl rfl rfl rfl ?_
    refine x_nuF 55 44 rfl rfl rfl ?_
    refine x_ld 0 1 2 45 rfl rfl rfl rfl rfl ?_
    refine g_G_2 hG 19 48 rfl rfl hC2.2.2.2.2.1 rfl ?_
    refine x_ld 0 1 2 49 rfl rfl rfl rfl rfl ?_
    refine g_G_1 hG 15 52 rfl rfl hC2.2.2.1 rfl ?_
    refine z_icge 57 55 rfl rfl rfl ⟨by omega, by omega⟩ ⟨by omega, by omega⟩ (fun c52 => ?_) (fun c52 => ?_)
    · refine x_ld 0 1 2 58 rfl rfl rfl rfl rfl ?_
      refine x_ld 3 1 2 59 rfl rfl rfl rfl rfl ?_
      refine s_G_5 hG 36 62 rfl rfl rfl rfl rfl rfl ?_
      refine x_cst (zi 1) 1 63 rfl rfl rfl ?_
      refine x_ret rfl rfl rfl rfl ?_
      refine ⟨_, _, rfl, rfl, Frl_trans (Frl_trans hF0 (Frd_Frl hF2)) ⟨fun q h1 h2 h3 => ⟨rfl, sR_ne h1⟩, rfl⟩, .inr ⟨rfl, a2, ps2, _, Rch_step hR2 (md_A (by omega)), ?_, ?_⟩⟩
      · refine ⟨hC2.1, hC2.2.1, hC2.2.2.1, hC2.2.2.2.1, hC2.2.2.2.2.1, hC2.2.2.2.2.2.1, fun k hk => ?_, hC2.2.2.2.2.2.2.2⟩
        have t := hC2.2.2.2.2.2.2.1 k hk
        refine ⟨t.1, t.2.1, fun e => ?_⟩
        rw [sR_ne (by omega)]; exact t.2.2 e
      · have hp3 : ps2.length - 1 = p2 := by rw [← hp2]; rfl
        rw [hp3]; exact rdR_eq
    · refine x_cst (zi 0) 1 56 rfl rfl rfl ?_
      refine x_ret rfl rfl rfl rfl ?_
      exact ⟨_, _, rfl, rfl, Frl_trans hF0 (Frd_Frl hF2), .inl ⟨rfl, a2, ps2, _, _, Rch_step hR2 (md_F hn2 (fun e => absurd e.2 (by decide)) (.inl (by omega))), hC2.2.2.2.2.1⟩⟩
theorem c46 (d : Nat) {b1 b2 : Nat} (h3 : M.2.2 0 3 = b1) (h4 : M.2.2 0 4 = b2) : ab_S (pg_G L xs) (d + 1) 46 [.ref 0] (hp M ++ es) none (hp (sI (sI (sI (sR (sR M 0 3 b2) 0 4 b1) 0 5 1) 0 8 (-1)) 0 10 0) ++ es) := by
  show ab_W (pg_G L xs) (ab_X (pg_G L xs) d) 46 _ 0 [some (.ref 0), none] [] (hp M ++ es)
  refine x_ld 0 1 2 1 rfl rfl rfl rfl rfl ?_
  refine g_0_3 27 4 rfl rfl h3 rfl ?_
  refine x_st 1 1 2 5 [some (.ref 0), some (.ref b1)] rfl rfl rfl (Nat.le_of_ble_eq_true rfl) rfl rfl ?_
  refine x_ld 0 1 2 6 rfl rfl rfl rfl rfl ?_
  refine x_ld 0 1 2 7 rfl rfl rfl rfl rfl ?_
  refine g_0_4 31 10 rfl rfl h4 rfl ?_
  refine s_0_3 27 13 rfl rfl rfl rfl rfl rfl ?_
  refine x_ld 0 1 2 14 rfl rfl rfl rfl rfl ?_
  refine x_ld 1 1 2 15 rfl rfl rfl rfl rfl ?_
  refine s_0_4 31 18 rfl rfl rfl rfl rfl rfl ?_
  refine x_ld 0 1 2 19 rfl rfl rfl rfl rfl ?_
  refine x_cst (zi 1) 1 20 rfl rfl rfl ?_
  refine s_0_5 34 23 rfl rfl rfl rfl rfl rfl ?_
  refine x_ld 0 1 2 24 rfl rfl rfl rfl rfl ?_
  refine x_cst (zi (-1)) 1 25 rfl rfl rfl ?_
  refine s_0_8 44 28 rfl rfl rfl rfl rfl rfl ?_
  refine x_ld 0 1 2 29 rfl rfl rfl rfl rfl ?_
  refine x_cst (zi 0) 1 30 rfl rfl rfl ?_
  refine s_0_10 51 33 rfl rfl rfl rfl rfl rfl ?_
  refine x_rtv rfl rfl ?_
  exact ⟨rfl, rfl⟩
/-- places lie within the line -/
def plI (s : pst) : Prop := (∀ k, k < s.2.2.1.length → (s.2.2.1[k]!).2 ≤ s.2.1) ∧ ∀ o ∈ s.2.2.2.2, o.2.1 ≤ s.2.1
theorem plc_mem {os : List opn} {a : Nat} (h : ∀ o ∈ os, o.2.1 ≤ a) : plc os ≤ a := by
  cases os with
  | nil => exact Nat.zero_le _
  | cons o os => exact h o (List.mem_cons_self ..)
theorem plI_step {x : lne} {s : pst} (h : plI s) : plI (mstep x s) := by
  obtain ⟨m, a, ps, ls, os⟩ := s
  obtain ⟨h1, h2⟩ := h
  dsimp only at h1 h2
  have app : ∀ (y : prt × Nat) (a' : Nat), a ≤ a' → y.2 ≤ a' → ∀ k, k < (ps ++ [y]).length → ((ps ++ [y])[k]!).2 ≤ a' := by
    intro y a' ha hy k hk
    rw [List.length_append, List.length_singleton] at hk
    rcases Nat.eq_or_lt_of_le (Nat.le_of_lt_succ hk) with e | e
    · subst e; rw [snoc_at]; exact hy
    · rw [snoc_lt e]; have := h1 k e; omega
  have up : ∀ a', a ≤ a' → (∀ k, k < ps.length → (ps[k]!).2 ≤ a') := fun a' ha k hk => by have := h1 k hk; omega
  have upo : ∀ a', a ≤ a' → ∀ o ∈ os, o.2.1 ≤ a' := fun a' ha o ho => by have := h2 o ho; omega
  have tl : ∀ a', a ≤ a' → ∀ o ∈ os.tail, o.2.1 ≤ a' := fun a' ha o ho => upo a' ha o (List.mem_of_mem_tail ho)
  have cn : ∀ (o : opn) (a' : Nat), a ≤ a' → o.2.1 ≤ a' → ∀ o' ∈ o :: os, o'.2.1 ≤ a' := fun o a' ha ho o' h' => by
    rcases List.mem_cons.mp h' with e | e
    · subst e; exact ho
    · exact upo a' ha o' e
  have cnt' : ∀ (o : opn) (a' : Nat), a ≤ a' → o.2.1 ≤ a' → ∀ o' ∈ o :: os.tail, o'.2.1 ≤ a' := fun o a' ha ho o' h' => by
    rcases List.mem_cons.mp h' with e | e
    · subst e; exact ho
    · exact tl a' ha o' e
  have hp := plc_mem h2
  unfold mstep
  dsimp only
  split
  · split
    · split
      · exact ⟨app _ _ (Nat.le_add_right a _) (Nat.le_add_right a _), upo _ (Nat.le_add_right a _)⟩
      · split
        · split
          · exact ⟨app _ _ (Nat.le_add_right a _) (Nat.le_add_right a _), upo _ (Nat.le_add_right a _)⟩
          · exact ⟨up _ (Nat.le_add_right a _), upo _ (Nat.le_add_right a _)⟩
        · split
          · exact ⟨up _ (Nat.le_add_right a _), cn _ _ (Nat.le_add_right a _) (Nat.le_add_right a _)⟩
          · split
            · exact ⟨up _ (Nat.le_add_right a _), cn _ _ (Nat.le_add_right a _) (Nat.le_add_right a _)⟩
            · split
              · exact ⟨up _ (Nat.le_add_right a _), cn _ _ (Nat.le_add_right a _) (Nat.le_add_right a _)⟩
              · exact ⟨h1, h2⟩
    · exact ⟨h1, h2⟩
  · split
    · split
      · exact ⟨app _ _ (Nat.le_refl _) hp, tl _ (Nat.le_refl _)⟩
      · split
        · split
          · exact ⟨h1, cnt' _ _ (Nat.le_refl _) hp⟩
          · exact ⟨app _ _ (Nat.le_refl _) hp, tl _ (Nat.le_refl _)⟩
        · exact ⟨h1, h2⟩
    · split
      · split
        · exact ⟨app _ _ (Nat.le_add_right a _) (Nat.le_add_right a _), upo _ (Nat.le_add_right a _)⟩
        · split
          · exact ⟨app _ _ (Nat.le_refl _) hp, tl _ (Nat.le_refl _)⟩
          · exact ⟨h1, h2⟩
      · split
        · split
          · exact ⟨h1, cn _ _ (Nat.le_refl _) (Nat.le_refl _)⟩
          · split
            · exact ⟨app _ _ (Nat.le_refl _) hp, tl _ (Nat.le_refl _)⟩
            · exact ⟨h1, h2⟩
        · split
          · split
            · split
              · exact ⟨up _ (Nat.le_add_right a _), cn _ _ (Nat.le_add_right a _) (Nat.le_add_right a _)⟩
              · split
                · exact ⟨up _ (Nat.le_add_right a _), tl _ (Nat.le_add_right a _)⟩
                · exact ⟨h1, h2⟩
            · split
              · exact ⟨h1, h2⟩
              · exact ⟨h1, h2⟩
          · exact ⟨h1, h2⟩
theorem plI_Rch {x : lne} {s t : pst} (h : Rch x s t) (hi : plI s) : plI t := by
  obtain ⟨k, e⟩ := h
  induction k generalizing s with
  | zero => have : s = t := e
            subst this; exact hi
  | succ k ih => exact ih (plI_step hi) e
theorem plc_le {x : lne} {m a : Nat} {ps : List (prt × Nat)} {ls : List Nat} {os : List opn} (h : Rch x s0 (m, a, ps, ls, os)) (k : Nat) (hk : k < ps.length) : (ps[k]!).2 ≤ a := (plI_Rch h ⟨fun k hk => absurd hk (Nat.not_lt_zero k), fun o ho => (List.not_mem_nil ho).elim⟩).1 k hk
/-- what compiling may change -/
def Fcm (b : Nat) (M M' : mm) : Prop := (∀ a, a ≠ 0 → a ≠ 2 → a ≠ 3 → a ≠ 4 → ¬ (b ≤ a ∧ a < b + 282) → M'.1 a = M.1 a ∧ M'.2.1 a = M.2.1 a ∧ M'.2.2 a = M.2.2 a) ∧ M'.1 0 12 = M.1 0 12 ∧ M'.1 0 1 = 0
theorem okp_low {ps : Nat → prt} {k : Nat} (h : (ps k).1 < 4) : okp ps k := by
  unfold okp dD1 dD2
  have : (ps k).1 = 0 ∨ (ps k).1 = 1 ∨ (ps k).1 = 2 ∨ (ps k).1 = 3 := by omega
  rcases this with e | e | e | e <;> rw [e] <;> exact ⟨fun t h => h, fun t h => h⟩
/-- what compiling says: the answer, why, the witness -/
def cmO (x : lne) (r f d : Int) : Prop := (∃ a ps ls os, Rch x s0 (6, a, ps, ls, os) ∧ r = (a : Int) + 1 ∧ f = 1 ∧ d = -1) ∨ (∃ a ps ls, Rch x s0 (7, a, ps, ls, []) ∧ ((∃ k, k < ps.length ∧ (∀ j, j < k → okp (psf ps) j) ∧ bdO (psf ps) k f d ∧ r = (((ps[k]!).2 : Nat) : Int) + 1) ∨ ((∀ j, j < ps.length → okp (psf ps) j) ∧ r = 0 ∧ f = 0 ∧ d = -1)))
theorem cC7 {D : Nat} (hD : 130 ≤ D) {b1 b2 : Nat} (hG2 : isG b2) (h3 : M.2.2 0 3 = b1) (h4 : M.2.2 0 4 = b2) {x : lne} (h16 : x.1 ≤ 16) (hx1 : M.1 0 1 = (x.1 : Int)) (hx : ∀ i : Nat, i < x.1 → M.1 1 (i : Int) = ((x.2 i : Nat) : Int) ∧ x.2 i < 127) : ab_Z (pg_G L xs) D 7 [.ref 0] M es (fun v M' => ∃ r, v = some (zi r) ∧ rg r ∧ Fcm b2 M M' ∧ cmO x r (M'.1 0 6) (M'.1 0 7) ∧ ((r ≠ 0 ∧ M'.2.2 0 = M.2.2 0 ∧ M'.1 0 5 = M.1 0 5 ∧ M'.1 0 8 = M.1 0 8 ∧ M'.1 0 10 = M.1 0 10) ∨ (r = 0 ∧ M'.2.2 0 3 = b2 ∧ M'.2.2 0 4 = b1 ∧ M'.1 0 5 = 1 ∧ M'.1 0 8 = -1 ∧ M'.1 0 10 = 0 ∧ ∃ a ps ls, Rch x s0 (7, a, ps, ls, []) ∧ cls b2 M' (psf ps) ps.length ∧ M'.2.2 b2 5 = b2 + 3 + 9 * (ps.length - 1)))) := by
  have hg := isG_lt hG2
  obtain ⟨d, rfl⟩ : ∃ d, D = d + 10 := ⟨D - 10, by omega⟩
  have fr : ∀ M2, Frl b2 (sI (sI (sI M 0 1 0) 0 6 0) 0 7 (-1)) M2 → ∀ a, a ≠ 0 → ¬ (b2 ≤ a ∧ a < b2 + 282) → M2.1 a = M.1 a ∧ M2.2.1 a = M.2.1 a ∧ M2.2.2 a = M.2.2 a := by
    intro M2 hF a h0 hb
    have t := hF.1 a (by omega) (by omega) (fun k hk => by omega)
    rw [t.1, t.2, hF.2, sI_ne h0, sI_ne h0, sI_ne h0]; exact ⟨rfl, rfl, rfl⟩
  have f0 : ∀ M2, Frl b2 (sI (sI (sI M 0 1 0) 0 6 0) 0 7 (-1)) M2 → M2.1 0 = (sI (sI (sI M 0 1 0) 0 6 0) 0 7 (-1)).1 0 ∧ M2.2.2 0 = M.2.2 0 := by
    intro M2 hF
    have t := hF.1 0 (by omega) (by omega) (fun k hk => by omega)
    exact ⟨t.1, t.2⟩
  show ab_W (pg_G L xs) (ab_X (pg_G L xs) (d + 9)) 7 _ 0 [some (.ref 0), none, none] [] (hp M ++ es)
  refine x_ld 0 1 2 1 rfl rfl rfl rfl rfl ?_
  refine g_0_1 13 4 rfl rfl hx1 rfl ?_
  refine x_st 1 1 0 5 [some (.ref 0), some (zi ((x.1 : Nat) : Int)), none] rfl rfl rfl (Nat.le_of_ble_eq_true rfl) rfl rfl ?_
  refine x_ld 0 1 2 6 rfl rfl rfl rfl rfl ?_
  refine x_cst (zi 0) 1 7 rfl rfl rfl ?_
  refine s_0_1 13 10 rfl rfl rfl rfl rfl rfl ?_
  refine x_ld 0 1 2 11 rfl rfl rfl rfl rfl ?_
  refine x_cst (zi 0) 1 12 rfl rfl rfl ?_
  refine s_0_6 38 15 rfl rfl rfl rfl rfl rfl ?_
  refine x_ld 0 1 2 16 rfl rfl rfl rfl rfl ?_
  refine x_cst (zi (-1)) 1 17 rfl rfl rfl ?_
  refine s_0_7 41 20 rfl rfl rfl rfl rfl rfl ?_
  refine x_ld 0 1 2 21 rfl rfl rfl rfl rfl ?_
  refine g_0_4 31 24 rfl rfl h4 rfl ?_
  refine x_ld 0 1 2 25 rfl rfl rfl rfl rfl ?_
  refine g_0_0 9 28 rfl rfl rfl ?_
  refine x_ld 1 1 0 29 rfl rfl rfl rfl rfl ?_
  refine x_ce 75 8 32 [.ref b2, .ref 1, zi ((x.1 : Nat) : Int)] rfl rfl rfl (Nat.le_of_ble_eq_true rfl) rfl rfl (Nat.le_of_ble_eq_true rfl) ⟨_, _, _, rfl, oG hG2⟩ (Nat.le_of_ble_eq_true rfl) (c8 (M := (sI (sI (sI M 0 1 0) 0 6 0) 0 7 (-1))) (D := d + 9) (by omega) hG2 h16 (fun i hi => by rw [sI_ne (by omega), sI_ne (by omega), sI_ne (by omega)]; exact hx i hi)) rfl ?_
  rintro v M2 ⟨hF2, hv⟩
  obtain ⟨e0, e1⟩ := f0 M2 hF2
  have q4 : M2.2.2 0 4 = b2 := by rw [e1]; exact h4
  have q3 : M2.2.2 0 3 = b1 := by rw [e1]; exact h3
  rcases hv with ⟨rfl, a9, ps9, ls9, os9, hR9, hN9⟩ | ⟨rfl, a2, ps2, ls2, hR2, hC2, hw2⟩
  · have ha9 : a9 ≤ x.1 := (inv_Rch hR9 (inv_s0 x)).1
    refine z_ifne 50 35 rfl rfl rfl (rg_lit 0 rfl) (fun c => absurd c (by decide)) (fun _ => ?_)
    refine x_ld 0 1 2 36 rfl rfl rfl rfl rfl ?_
    refine x_cst (zi 1) 1 37 rfl rfl rfl ?_
    refine s_0_6 38 40 rfl rfl rfl rfl rfl rfl ?_
    refine x_ld 0 1 2 41 rfl rfl rfl rfl rfl ?_
    refine g_0_4 31 44 rfl rfl q4 rfl ?_
    refine g_G_2 hG2 79 47 rfl rfl ((rd_na (Ne.symm (by omega))).trans hN9) rfl ?_
    refine x_cst (zi 1) 1 48 rfl rfl rfl ?_
    refine z_add 49 rfl rfl ?_
    refine x_ret rfl rfl rfl rfl ?_
    refine ⟨_, _, rfl, rfl, _, rfl, ⟨by omega, by omega⟩, ⟨fun a h0 h2 h3 h4 hb => ?_, ?_, ?_⟩, .inl ⟨a9, ps9, ls9, os9, hR9, rfl, rd_eq, ?_⟩, .inl ⟨by omega, e1, ?_, ?_, ?_⟩⟩
    · rw [sI_ne h0]; exact fr M2 hF2 a h0 hb
    · exact (rd_nk (by decide)).trans ((congrFun e0 _).trans ((rd_nk (by decide)).trans ((rd_nk (by decide)).trans (rd_nk (by decide)))))
    · exact (rd_nk (by decide)).trans ((congrFun e0 _).trans ((rd_nk (by decide)).trans ((rd_nk (by decide)).trans rd_eq)))
    · exact (rd_nk (by decide)).trans ((congrFun e0 _).trans (rd_eq))
    · exact (rd_nk (by decide)).trans ((congrFun e0 _).trans ((rd_nk (by decide)).trans ((rd_nk (by decide)).trans (rd_nk (by decide)))))
    · exact (rd_nk (by decide)).trans ((congrFun e0 _).trans ((rd_nk (by decide)).trans ((rd_nk (by decide)).trans (rd_nk (by decide)))))
    · exact (rd_nk (by decide)).trans ((congrFun e0 _).trans ((rd_nk (by decide)).trans ((rd_nk (by decide)).trans (rd_nk (by decide)))))
  · have hi2 := inv_Rch hR2 (inv_s0 x)
    have ha2 : a2 ≤ x.1 := hi2.1
    have hb2 : ps2.length + ls2.length + 0 ≤ 2 * a2 := hi2.2.1
    have hl2 : ls2.length = 1 := hi2.2.2.2.2.2.2.2.2 rfl
    refine z_ifne 50 35 rfl rfl rfl (rg_lit 1 rfl) (fun _ => ?_) (fun c => absurd c (by decide))
    refine x_ld 0 1 2 51 rfl rfl rfl rfl rfl ?_
    refine g_0_4 31 54 rfl rfl q4 rfl ?_
    refine x_ld 0 1 2 55 rfl rfl rfl rfl rfl ?_
    refine g_0_2 20 58 rfl rfl rfl ?_
    refine x_ce 82 21 61 [.ref b2, .ref 2] rfl rfl rfl (Nat.le_of_ble_eq_true rfl) rfl rfl (Nat.le_of_ble_eq_true rfl) ⟨_, _, _, rfl, oG hG2⟩ (Nat.le_of_ble_eq_true rfl) (c21 (d + 2) hG2 (ps := psf ps2) (c := ps2.length) (by omega) hC2.2.2.2.2.2.1 hC2.2.2.2.2.2.2.1 hi2.2.2.2.2.2.2.1) rfl ?_
    rintro v M5 ⟨hF5, hv5⟩
    have e50 : M5.1 0 = M2.1 0 := hF5.1 0 (by decide) (by decide) (by decide) (fun k hk => by omega)
    have e5R : M5.2.2 = M2.2.2 := hF5.2.2.2
    have fr5 : ∀ a, a ≠ 0 → a ≠ 2 → a ≠ 3 → a ≠ 4 → ¬ (b2 ≤ a ∧ a < b2 + 282) → M5.1 a = M.1 a ∧ M5.2.1 a = M.2.1 a ∧ M5.2.2 a = M.2.2 a := by
      intro a h0 h2 h3 h4 hb
      have t := fr M2 hF2 a h0 hb
      rw [hF5.1 a h2 h3 h4 (fun k hk => by omega), hF5.2.2.1 a (fun k hk => by omega), e5R]; exact t
    rcases hv5 with ⟨rfl, hok⟩ | ⟨k, hk, rfl, hbef, hbd⟩
    · refine x_st 2 1 2 62 [some (.ref 0), some (zi ((x.1 : Nat) : Int)), some (.null)] rfl rfl rfl (Nat.le_of_ble_eq_true rfl) rfl rfl ?_
      refine x_ld 2 1 2 63 rfl rfl rfl rfl rfl ?_
      refine x_nuT 89 rfl rfl ?_
      refine x_ld 0 1 2 90 rfl rfl rfl rfl rfl ?_
      refine x_cv 93 46 93 [.ref 0] rfl rfl rfl (Nat.le_of_ble_eq_true rfl) rfl rfl (Nat.le_of_ble_eq_true rfl) ⟨_, _, _, rfl, o_0⟩ (Nat.le_of_ble_eq_true rfl) (c46 (M := M5) (d + 8) (b1 := b1) (b2 := b2) (by rw [e5R]; exact q3) (by rw [e5R]; exact q4)) rfl ?_
      refine x_cst (zi 0) 1 94 rfl rfl rfl ?_
      refine x_ret rfl rfl rfl rfl ?_
      refine ⟨_, _, rfl, rfl, _, rfl, ⟨by omega, by omega⟩, ⟨fun a h0 h2 h3 h4 hb => ?_, ?_, ?_⟩, .inr ⟨a2, ps2, ls2, hR2, .inr ⟨fun j hj => (hok j hj).1, rfl, ?_, ?_⟩⟩, .inr ⟨rfl, ?_, ?_, ?_, ?_, ?_, a2, ps2, ls2, hR2, ?_, ?_⟩⟩
      · show (sI (sI (sI M5 _ _ _) _ _ _) _ _ _).1 a = _ ∧ _ ∧ (sR (sR M5 _ _ _) _ _ _).2.2 a = _; rw [sI_ne h0, sI_ne h0, sI_ne h0, sR_ne h0, sR_ne h0]; exact fr5 a h0 h2 h3 h4 hb
      · show (sI (sI (sI M5 _ _ _) _ _ _) _ _ _).1 0 12 = _; exact (rd_nk (by decide)).trans ((rd_nk (by decide)).trans ((rd_nk (by decide)).trans ((congrFun e50 _).trans ((congrFun e0 _).trans ((rd_nk (by decide)).trans ((rd_nk (by decide)).trans (rd_nk (by decide))))))))
      · show (sI (sI (sI M5 _ _ _) _ _ _) _ _ _).1 0 1 = _; exact (rd_nk (by decide)).trans ((rd_nk (by decide)).trans ((rd_nk (by decide)).trans ((congrFun e50 _).trans ((congrFun e0 _).trans ((rd_nk (by decide)).trans ((rd_nk (by decide)).trans rd_eq))))))
      · show (sI (sI (sI M5 _ _ _) _ _ _) _ _ _).1 0 6 = _; exact (rd_nk (by decide)).trans ((rd_nk (by decide)).trans ((rd_nk (by decide)).trans ((congrFun e50 _).trans ((congrFun e0 _).trans ((rd_nk (by decide)).trans rd_eq)))))
      · show (sI (sI (sI M5 _ _ _) _ _ _) _ _ _).1 0 7 = _; exact (rd_nk (by decide)).trans ((rd_nk (by decide)).trans ((rd_nk (by decide)).trans ((congrFun e50 _).trans ((congrFun e0 _).trans (rd_eq)))))
      · show (sR (sR M5 _ _ _) _ _ _).2.2 0 3 = _; exact (rdR_nk (by decide)).trans rdR_eq
      · show (sR (sR M5 _ _ _) _ _ _).2.2 0 4 = _; exact rdR_eq
      · show (sI (sI (sI M5 _ _ _) _ _ _) _ _ _).1 0 5 = _; exact (rd_nk (by decide)).trans ((rd_nk (by decide)).trans rd_eq)
      · show (sI (sI (sI M5 _ _ _) _ _ _) _ _ _).1 0 8 = _; exact (rd_nk (by decide)).trans rd_eq
      · exact rd_eq
      · refine ⟨hG2, by omega, fun k hk => ?_, hok, hi2.2.2.2.2.2.2.1⟩
        have t := mPs_Fq (by omega) hC2.2.2.2.2.2.2.1 hF5 k hk
        show (sI (sI (sI M5 _ _ _) _ _ _) _ _ _).1 _ 0 = _ ∧ (_ → (sI (sI (sI M5 _ _ _) _ _ _) _ _ _).1 _ 2 = _) ∧ (_ → (sR (sR M5 _ _ _) _ _ _).2.2 _ 3 = _ ∧ (sR (sR M5 _ _ _) _ _ _).2.2 _ 4 = _)
        rw [sI_ne (by omega), sI_ne (by omega), sI_ne (by omega), sR_ne (by omega), sR_ne (by omega)]; exact t
      · show (sR (sR M5 _ _ _) _ _ _).2.2 b2 5 = _; rw [sR_ne (by omega), sR_ne (by omega), e5R]; exact hw2
    · have hP5 := isP_A hG2 (show k < 31 by omega)
      have hK4 : 4 ≤ (psf ps2 k).1 := Nat.le_of_not_lt (fun e => bdO_bad hbd (okp_low e))
      have hpl : M5.1 (b2 + 3 + 9 * k) 1 = (((ps2[k]!).2 : Nat) : Int) := (hF5.2.1 k (by omega) 1 (by decide) (by decide)).trans (hC2.2.2.2.2.2.2.2 k hk hK4)
      have hplb := plc_le hR2 k hk
      refine x_st 2 1 2 62 [some (.ref 0), some (zi ((x.1 : Nat) : Int)), some (.ref (b2 + 3 + 9 * k))] rfl rfl rfl (Nat.le_of_ble_eq_true rfl) rfl rfl ?_
      refine x_ld 2 1 2 63 rfl rfl rfl rfl rfl ?_
      refine x_nuF 89 66 rfl rfl rfl ?_
      refine x_ld 0 1 2 67 rfl rfl rfl rfl rfl ?_
      refine x_ld 2 1 2 68 rfl rfl rfl rfl rfl ?_
      refine g_P_7 hP5 86 71 rfl rfl rfl rfl ?_
      refine s_0_6 38 74 rfl rfl rfl rfl rfl rfl ?_
      refine x_ld 0 1 2 75 rfl rfl rfl rfl rfl ?_
      refine x_ld 2 1 2 76 rfl rfl rfl rfl rfl ?_
      refine g_P_8 hP5 89 79 rfl rfl (rd_na (Ne.symm (by omega))) rfl ?_
      refine s_0_7 41 82 rfl rfl rfl rfl rfl rfl ?_
      refine x_ld 2 1 2 83 rfl rfl rfl rfl rfl ?_
      refine g_P_1 hP5 90 86 rfl rfl ((rd_na (Ne.symm (by omega))).trans ((rd_na (Ne.symm (by omega))).trans hpl)) rfl ?_
      refine x_cst (zi 1) 1 87 rfl rfl rfl ?_
      refine z_add 88 rfl rfl ?_
      refine x_ret rfl rfl rfl rfl ?_
      refine ⟨_, _, rfl, rfl, _, rfl, ⟨by omega, by omega⟩, ⟨fun a h0 h2 h3 h4 hb => ?_, ?_, ?_⟩, .inr ⟨a2, ps2, ls2, hR2, .inl ⟨k, hk, hbef, ?_, rfl⟩⟩, .inl ⟨by omega, ?_, ?_, ?_, ?_⟩⟩
      · rw [sI_ne h0, sI_ne h0]; exact fr5 a h0 h2 h3 h4 hb
      · exact (rd_nk (by decide)).trans ((rd_nk (by decide)).trans ((congrFun e50 _).trans ((congrFun e0 _).trans ((rd_nk (by decide)).trans ((rd_nk (by decide)).trans (rd_nk (by decide)))))))
      · exact (rd_nk (by decide)).trans ((rd_nk (by decide)).trans ((congrFun e50 _).trans ((congrFun e0 _).trans ((rd_nk (by decide)).trans ((rd_nk (by decide)).trans rd_eq)))))
      · rw [rd_nk (by decide), rd_eq, rd_eq]; exact hbd
      · exact (congrFun e5R 0).trans e1
      · exact (rd_nk (by decide)).trans ((rd_nk (by decide)).trans ((congrFun e50 _).trans ((congrFun e0 _).trans ((rd_nk (by decide)).trans ((rd_nk (by decide)).trans (rd_nk (by decide)))))))
      · exact (rd_nk (by decide)).trans ((rd_nk (by decide)).trans ((congrFun e50 _).trans ((congrFun e0 _).trans ((rd_nk (by decide)).trans ((rd_nk (by decide)).trans (rd_nk (by decide)))))))
      · exact (rd_nk (by decide)).trans ((rd_nk (by decide)).trans ((congrFun e50 _).trans ((congrFun e0 _).trans ((rd_nk (by decide)).trans ((rd_nk (by decide)).trans (rd_nk (by decide)))))))
end C32
