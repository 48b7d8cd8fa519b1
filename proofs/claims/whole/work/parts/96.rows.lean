/-! OURS, printed by wip/tools/gen96.py: the reference's rows of letters: numbers, cuts, spelling. -/
/-- a row holds letters from a place on -/
def roL (f : Int → Int) (s : Nat) (w : List Nat) : Prop := ∀ i, i < w.length → f ((s + i : Nat) : Int) = ((w[i]! : Nat) : Int)
theorem roL_take {f : Int → Int} {s : Nat} {w : List Nat} (h : roL f s w) (i : Nat) : roL f s (w.take i) := by
  intro j hj
  rw [List.length_take] at hj
  rw [h j (by omega), getElem!_pos w j (by omega), getElem!_pos (w.take i) j (by rw [List.length_take]; exact hj), List.getElem_take]
theorem roL_drop {f : Int → Int} {s : Nat} {w : List Nat} (h : roL f s w) (i : Nat) : roL f (s + i) (w.drop i) := by
  intro j hj
  rw [List.length_drop] at hj
  have := h (i + j) (by omega)
  rw [show s + i + j = s + (i + j) by omega, this, getElem!_pos w (i + j) (by omega), getElem!_pos (w.drop i) j (by rw [List.length_drop]; exact hj), List.getElem_drop]
theorem val_take_succ (w : List Nat) {i : Nat} (h : i < w.length) : tx_val (w.take (i + 1)) = 3 * tx_val (w.take i) + w[i]! := by
  have : w.take (i + 1) = w.take i ++ [w[i]!] := by
    rw [List.take_add_one, List.getElem?_eq_getElem h, getElem!_pos w i h]; rfl
  rw [this, tx_val_app, tx_val_one, List.length_singleton, Nat.pow_one]
  omega
theorem tx_L_get {w : List Nat} (h : tx_L w) {i : Nat} (hi : i < w.length) : w[i]! < 3 := h _ (get_mem hi)
section D6
variable {L : Nat} {xs : Nat → Int32} {M : mm} {es : ab_H}
theorem c144_loop (d : Nat) {b N s : Nat} (hb : isI b N) {w : List Nat} (hw : tx_L w) (h6 : w.length ≤ 6) (hr : roL (M.1 b) s w) (hs : s + w.length ≤ N) {Q : ab_Q} (kk : Q (.inl (some (zi (tx_num w : Nat)))) (hp M ++ es)) : ∀ m i : Nat, w.length - i = m → i ≤ w.length → ab_W (pg_G L xs) (ab_X (pg_G L xs) d) 144 Q 15 [some (.ref 572), some (.ref b), some (zi (s : Nat)), some (zi (w.length : Nat)), some (zi (tx_val (w.take i) : Nat)), some (zi (i : Nat))] [] (hp M ++ es) := by
  have hN := hb.2.1
  intro m
  induction m using Nat.strongRecOn with
  | _ m ih =>
    intro i hm hi
    refine x_ld 5 2 0 17 rfl rfl rfl rfl rfl ?_
    refine x_ld 3 1 0 18 rfl rfl rfl rfl rfl ?_
    refine z_icge 40 21 rfl rfl rfl ⟨by omega, by omega⟩ ⟨by omega, by omega⟩ (fun c18 => ?_) (fun c18 => ?_)
    · refine x_ld 0 1 2 41 rfl rfl rfl rfl rfl ?_
      refine g_572_0 7 44 rfl rfl rfl ?_
      refine x_ld 3 1 0 45 rfl rfl rfl rfl rfl ?_
      refine z_mst w.length 46 rfl rfl (by omega) rfl ?_
      refine x_ld 4 2 0 48 rfl rfl rfl rfl rfl ?_
      refine z_add 49 rfl rfl ?_
      refine x_ret rfl rfl rfl rfl ?_
      have e : i = w.length := by omega
      subst e; rw [List.take_length]; exact kk
    · refine x_cst (zi 3) 1 22 rfl rfl rfl ?_
      refine x_ld 4 2 0 24 rfl rfl rfl rfl rfl ?_
      refine z_mul 25 rfl rfl ?_
      refine x_ld 1 1 2 26 rfl rfl rfl rfl rfl ?_
      refine x_ld 2 1 0 27 rfl rfl rfl rfl rfl ?_
      refine x_ld 5 2 0 29 rfl rfl rfl rfl rfl ?_
      refine z_add 30 rfl rfl ?_
      have hv := hr i (by omega)
      rw [show ((s : Nat) : Int) + ((i : Nat) : Int) = ((s + i : Nat) : Int) by omega]
      refine z_ild ((w[i]! : Nat) : Int) 31 rfl hb rfl ⟨by omega, by omega⟩ hv rfl ?_
      refine z_add 32 rfl rfl ?_
      rw [show (3 * ((tx_val (w.take i) : Nat) : Int)) + ((w[i]! : Nat) : Int) = ((tx_val (w.take (i + 1)) : Nat) : Int) from (by rw [val_take_succ w (by omega)]; omega)]
      refine x_st 4 2 0 34 [some (.ref 572), some (.ref b), some (zi ((s : Nat) : Int)), some (zi ((w.length : Nat) : Int)), some (zi ((tx_val (w.take (i + 1)) : Nat) : Int)), some (zi ((i : Nat) : Int))] rfl rfl rfl (Nat.le_of_ble_eq_true rfl) rfl rfl ?_
      refine z_inc 5 37 [some (.ref 572), some (.ref b), some (zi ((s : Nat) : Int)), some (zi ((w.length : Nat) : Int)), some (zi ((tx_val (w.take (i + 1)) : Nat) : Int)), some (zi (((i : Nat) : Int) + 1))] rfl rfl (Nat.le_of_ble_eq_true rfl) rfl rfl ?_
      refine x_go 15 rfl rfl ?_
      exact ih (w.length - (i + 1)) (by omega) (i + 1) rfl (by omega)
theorem c144 (d : Nat) {b N s : Nat} (hb : isI b N) {w : List Nat} (hw : tx_L w) (hr : roL (M.1 b) s w) (hs : s + w.length ≤ N) : ab_S (pg_G L xs) (d + 1) 144 [.ref 572, .ref b, zi (s : Nat), zi (w.length : Nat)] (hp M ++ es) (some (zi (nz w))) (hp M ++ es) := by
  have hN := hb.2.1
  show ab_W (pg_G L xs) (ab_X (pg_G L xs) d) 144 _ 0 [some (.ref 572), some (.ref b), some (zi ((s : Nat) : Int)), some (zi ((w.length : Nat) : Int)), none, none] [] (hp M ++ es)
  refine x_ld 3 1 0 1 rfl rfl rfl rfl rfl ?_
  refine x_cst (zi 6) 2 3 rfl rfl rfl ?_
  refine z_icle 9 6 rfl rfl rfl ⟨by omega, by omega⟩ (rg_lit 6 rfl) (fun c3 => ?_) (fun c3 => ?_)
  · refine x_cst (zi 0) 1 10 rfl rfl rfl ?_
    refine x_st 4 2 0 12 [some (.ref 572), some (.ref b), some (zi ((s : Nat) : Int)), some (zi ((w.length : Nat) : Int)), some (zi 0), none] rfl rfl rfl (Nat.le_of_ble_eq_true rfl) rfl rfl ?_
    refine x_cst (zi 0) 1 13 rfl rfl rfl ?_
    refine x_st 5 2 0 15 [some (.ref 572), some (.ref b), some (zi ((s : Nat) : Int)), some (zi ((w.length : Nat) : Int)), some (zi 0), some (zi 0)] rfl rfl rfl (Nat.le_of_ble_eq_true rfl) rfl rfl ?_
    rw [nz_le (by omega)]
    exact c144_loop d hb hw (by omega) hr hs ⟨rfl, rfl⟩ _ 0 rfl (Nat.zero_le _)
  · refine x_cst (zi (-2)) 2 8 rfl rfl rfl ?_
    refine x_ret rfl rfl rfl rfl ?_
    exact ⟨by rw [nz_gt (by omega)], rfl⟩
theorem c147_loop (d : Nat) {a Na b N s f g : Nat} (ha : isL a Na) (hf : 18 * f + 18 ≤ Na) (hg : 18 * g + 18 ≤ Na) (hb : isI b N) {w : List Nat} (hw : tx_L w) (h6 : w.length ≤ 6) (hr : roL (M.1 b) s w) (hs : s + w.length ≤ N) {Q : ab_Q} (kk : Q (.inl (some (zi ((cut (mS (M.2.1 a) f) (mS (M.2.1 a) g) w) : Nat)))) (hp M ++ es)) : ∀ m i : Nat, w.length - i = m → 0 ≤ i → i ≤ w.length → (∀ q, 0 ≤ q → q < i → cp (mS (M.2.1 a) f) (mS (M.2.1 a) g) w q = false) → ab_W (pg_G L xs) (ab_X (pg_G L xs) (d + 1)) 147 Q 3 [some (.ref 572), some (.ref a), some (zi (f : Nat)), some (zi (g : Nat)), some (.ref b), some (zi (s : Nat)), some (zi (w.length : Nat)), some (zi (i : Nat))] [] (hp M ++ es) := by
  have hNa := ha.2.1
  have hN := hb.2.1
  intro m
  induction m using Nat.strongRecOn with
  | _ m ih =>
    intro i hm hi0 hi hbf
    refine x_ld 7 2 0 5 rfl rfl rfl rfl rfl ?_
    refine x_ld 6 2 0 7 rfl rfl rfl rfl rfl ?_
    refine z_icge 58 10 rfl rfl rfl ⟨by omega, by omega⟩ ⟨by omega, by omega⟩ (fun c7 => ?_) (fun c7 => ?_)
    · refine x_ld 7 2 0 60 rfl rfl rfl rfl rfl ?_
      refine x_ret rfl rfl rfl rfl ?_
      have hc : (cut (mS (M.2.1 a) f) (mS (M.2.1 a) g) w) = i := fi_eq hi0 hi hbf (fun e => absurd e (by omega))
      rw [hc] at kk; exact kk
    · have l1 := num_lt (tx_L_take hw i) (by rw [List.length_take]; omega)
      have l2 := num_lt (tx_L_drop hw i) (by rw [List.length_drop]; omega)
      refine x_ld 1 1 2 11 rfl rfl rfl rfl rfl ?_
      refine x_ld 2 1 0 12 rfl rfl rfl rfl rfl ?_
      refine x_ld 0 1 2 13 rfl rfl rfl rfl rfl ?_
      refine x_ld 4 2 2 15 rfl rfl rfl rfl rfl ?_
      refine x_ld 5 2 0 17 rfl rfl rfl rfl rfl ?_
      refine x_ld 7 2 0 19 rfl rfl rfl rfl rfl ?_
      refine x_cv 274 144 22 [.ref 572, .ref b, zi ((s : Nat) : Int), zi ((i : Nat) : Int)] rfl rfl rfl (Nat.le_of_ble_eq_true rfl) rfl rfl (Nat.le_of_ble_eq_true rfl) ⟨_, _, _, rfl, o_572⟩ (Nat.le_of_ble_eq_true rfl) (by have q := c144 (L := L) (xs := xs) (es := es) (M := M) d hb (tx_L_take hw i) (roL_take hr i) (by rw [List.length_take]; omega); rw [show (w.take i).length = i by rw [List.length_take]; omega, nz_le (by rw [List.length_take]; omega)] at q; exact q) rfl ?_
      refine x_cv 228 123 25 [.ref a, zi ((f : Nat) : Int), zi ((tx_num (w.take i) : Nat) : Int)] rfl rfl rfl (Nat.le_of_ble_eq_true rfl) rfl rfl (Nat.le_of_ble_eq_true rfl) trivial (Nat.le_of_ble_eq_true rfl) (c123 d ha (k := f) (t := (tx_num (w.take i))) (by omega) hf) rfl ?_
      rcases Bool.eq_false_or_eq_true (M.2.1 a (1152 * ((f : Nat) : Int) + (((tx_num (w.take i)) : Nat) : Int))) with hb1 | hb1
      · rw [hb1]
        refine z_ifeq 52 28 rfl rfl rfl (rg_lit 1 rfl) (fun c => absurd c (by decide)) (fun _ => ?_)
        refine x_ld 1 1 2 29 rfl rfl rfl rfl rfl ?_
        refine x_ld 3 1 0 30 rfl rfl rfl rfl rfl ?_
        refine x_ld 0 1 2 31 rfl rfl rfl rfl rfl ?_
        refine x_ld 4 2 2 33 rfl rfl rfl rfl rfl ?_
        refine x_ld 5 2 0 35 rfl rfl rfl rfl rfl ?_
        refine x_ld 7 2 0 37 rfl rfl rfl rfl rfl ?_
        refine z_add 38 rfl rfl ?_
        rw [show ((s : Nat) : Int) + ((i : Nat) : Int) = ((s + i : Nat) : Int) from (by omega)]
        refine x_ld 6 2 0 40 rfl rfl rfl rfl rfl ?_
        refine x_ld 7 2 0 42 rfl rfl rfl rfl rfl ?_
        refine z_sub 43 rfl rfl ?_
        rw [show ((w.length : Nat) : Int) - ((i : Nat) : Int) = ((w.length - i : Nat) : Int) from (by omega)]
        refine x_cv 274 144 46 [.ref 572, .ref b, zi ((s + i : Nat) : Int), zi ((w.length - i : Nat) : Int)] rfl rfl rfl (Nat.le_of_ble_eq_true rfl) rfl rfl (Nat.le_of_ble_eq_true rfl) ⟨_, _, _, rfl, o_572⟩ (Nat.le_of_ble_eq_true rfl) (by have q := c144 (L := L) (xs := xs) (es := es) (M := M) d hb (tx_L_drop hw i) (roL_drop hr i) (by rw [List.length_drop]; omega); rw [show (w.drop i).length = w.length - i by rw [List.length_drop], nz_le (by rw [List.length_drop]; omega)] at q; exact q) rfl ?_
        refine x_cv 228 123 49 [.ref a, zi ((g : Nat) : Int), zi ((tx_num (w.drop i) : Nat) : Int)] rfl rfl rfl (Nat.le_of_ble_eq_true rfl) rfl rfl (Nat.le_of_ble_eq_true rfl) trivial (Nat.le_of_ble_eq_true rfl) (c123 d ha (k := g) (t := (tx_num (w.drop i))) (by omega) hg) rfl ?_
        rcases Bool.eq_false_or_eq_true (M.2.1 a (1152 * ((g : Nat) : Int) + (((tx_num (w.drop i)) : Nat) : Int))) with hb2 | hb2
        · rw [hb2]
          refine z_ifne 58 52 rfl rfl rfl (rg_lit 1 rfl) (fun _ => ?_) (fun c => absurd c (by decide))
          refine x_ld 7 2 0 60 rfl rfl rfl rfl rfl ?_
          refine x_ret rfl rfl rfl rfl ?_
          have hc : (cut (mS (M.2.1 a) f) (mS (M.2.1 a) g) w) = i := fi_eq hi0 hi hbf (fun _ => by unfold cp; show (M.2.1 a _ && M.2.1 a _) = true; rw [hb1, hb2]; rfl)
          rw [hc] at kk; exact kk
        · rw [hb2]
          refine z_ifne 58 52 rfl rfl rfl (rg_lit 0 rfl) (fun c => absurd c (by decide)) (fun _ => ?_)
          refine z_inc 7 55 [some (.ref 572), some (.ref a), some (zi ((f : Nat) : Int)), some (zi ((g : Nat) : Int)), some (.ref b), some (zi ((s : Nat) : Int)), some (zi ((w.length : Nat) : Int)), some (zi (((i : Nat) : Int) + 1))] rfl rfl (Nat.le_of_ble_eq_true rfl) rfl rfl ?_
          refine x_go 3 rfl rfl ?_
          have hcp : cp (mS (M.2.1 a) f) (mS (M.2.1 a) g) w i = false := by unfold cp; show (M.2.1 a _ && M.2.1 a _) = false; first | (rw [hb1]; rfl) | (rw [hb1, hb2]; rfl)
          exact ih (w.length - (i + 1)) (by omega) (i + 1) rfl (by omega) (by omega) (fun q hq0 hq => by rcases Nat.eq_or_lt_of_le (Nat.le_of_lt_succ hq) with e | e; (· rw [e]; exact hcp); (· exact hbf q hq0 e))
      · rw [hb1]
        refine z_ifeq 52 28 rfl rfl rfl (rg_lit 0 rfl) (fun _ => ?_) (fun c => absurd c (by decide))
        refine z_inc 7 55 [some (.ref 572), some (.ref a), some (zi ((f : Nat) : Int)), some (zi ((g : Nat) : Int)), some (.ref b), some (zi ((s : Nat) : Int)), some (zi ((w.length : Nat) : Int)), some (zi (((i : Nat) : Int) + 1))] rfl rfl (Nat.le_of_ble_eq_true rfl) rfl rfl ?_
        refine x_go 3 rfl rfl ?_
        have hcp : cp (mS (M.2.1 a) f) (mS (M.2.1 a) g) w i = false := by unfold cp; show (M.2.1 a _ && M.2.1 a _) = false; first | (rw [hb1]; rfl) | (rw [hb1, hb2]; rfl)
        exact ih (w.length - (i + 1)) (by omega) (i + 1) rfl (by omega) (by omega) (fun q hq0 hq => by rcases Nat.eq_or_lt_of_le (Nat.le_of_lt_succ hq) with e | e; (· rw [e]; exact hcp); (· exact hbf q hq0 e))
theorem c147 (d : Nat) {a Na b N s f g : Nat} (ha : isL a Na) (hf : 18 * f + 18 ≤ Na) (hg : 18 * g + 18 ≤ Na) (hb : isI b N) {w : List Nat} (hw : tx_L w) (h6 : w.length ≤ 6) (hr : roL (M.1 b) s w) (hs : s + w.length ≤ N) : ab_S (pg_G L xs) (d + 2) 147 [.ref 572, .ref a, zi (f : Nat), zi (g : Nat), .ref b, zi (s : Nat), zi (w.length : Nat)] (hp M ++ es) (some (zi ((cut (mS (M.2.1 a) f) (mS (M.2.1 a) g) w) : Nat))) (hp M ++ es) := by
  show ab_W (pg_G L xs) (ab_X (pg_G L xs) (d + 1)) 147 _ 0 [some (.ref 572), some (.ref a), some (zi ((f : Nat) : Int)), some (zi ((g : Nat) : Int)), some (.ref b), some (zi ((s : Nat) : Int)), some (zi ((w.length : Nat) : Int)), none] [] (hp M ++ es)
  refine x_cst (zi 0) 1 1 rfl rfl rfl ?_
  refine x_st 7 2 0 3 [some (.ref 572), some (.ref a), some (zi ((f : Nat) : Int)), some (zi ((g : Nat) : Int)), some (.ref b), some (zi ((s : Nat) : Int)), some (zi ((w.length : Nat) : Int)), some (zi 0)] rfl rfl rfl (Nat.le_of_ble_eq_true rfl) rfl rfl ?_
  exact c147_loop d ha hf hg hb hw h6 hr hs ⟨rfl, rfl⟩ _ 0 rfl (Nat.le_refl _) (Nat.zero_le _) (fun q a b => absurd b (by omega))
theorem c146_loop (d : Nat) {a Na b N s f g : Nat} (ha : isL a Na) (hf : 18 * f + 18 ≤ Na) (hg : 18 * g + 18 ≤ Na) (hb : isI b N) {w : List Nat} (hw : tx_L w) (h6 : w.length ≤ 6) (hr : roL (M.1 b) s w) (hs : s + w.length ≤ N) (hlf : M.1 577 (g : Int) = (f : Int)) (g32 : g < 32) (hne : w ≠ []) {Q : ab_Q} (kk : Q (.inl (some (zi ((cuf (mS (M.2.1 a) f) (mS (M.2.1 a) g) w) : Nat)))) (hp M ++ es)) : ∀ m i : Nat, w.length - i = m → 1 ≤ i → i ≤ w.length → (∀ q, 1 ≤ q → q < i → cp (mS (M.2.1 a) f) (mS (M.2.1 a) g) w q = false) → ab_W (pg_G L xs) (ab_X (pg_G L xs) (d + 1)) 146 Q 3 [some (.ref 572), some (.ref a), some (zi (g : Nat)), some (.ref b), some (zi (s : Nat)), some (zi (w.length : Nat)), some (zi (i : Nat))] [] (hp M ++ es) := by
  have hNa := ha.2.1
  have hN := hb.2.1
  intro m
  induction m using Nat.strongRecOn with
  | _ m ih =>
    intro i hm hi0 hi hbf
    refine x_ld 6 2 0 5 rfl rfl rfl rfl rfl ?_
    refine x_ld 5 2 0 7 rfl rfl rfl rfl rfl ?_
    refine z_icge 61 10 rfl rfl rfl ⟨by omega, by omega⟩ ⟨by omega, by omega⟩ (fun c7 => ?_) (fun c7 => ?_)
    · refine x_ld 6 2 0 63 rfl rfl rfl rfl rfl ?_
      refine x_ret rfl rfl rfl rfl ?_
      have hc : (cuf (mS (M.2.1 a) f) (mS (M.2.1 a) g) w) = i := fi_eq hi0 hi hbf (fun e => absurd e (by omega))
      rw [hc] at kk; exact kk
    · have l1 := num_lt (tx_L_take hw i) (by rw [List.length_take]; omega)
      have l2 := num_lt (tx_L_drop hw i) (by rw [List.length_drop]; omega)
      refine x_ld 1 1 2 11 rfl rfl rfl rfl rfl ?_
      refine x_ld 0 1 2 12 rfl rfl rfl rfl rfl ?_
      refine g_572_8 22 15 rfl rfl rfl ?_
      refine x_ld 2 1 0 16 rfl rfl rfl rfl rfl ?_
      refine z_ild ((f : Nat) : Int) 17 rfl i_577 rfl ⟨by omega, by omega⟩ hlf rfl ?_
      refine x_ld 0 1 2 18 rfl rfl rfl rfl rfl ?_
      refine x_ld 3 1 2 19 rfl rfl rfl rfl rfl ?_
      refine x_ld 4 2 0 21 rfl rfl rfl rfl rfl ?_
      refine x_ld 6 2 0 23 rfl rfl rfl rfl rfl ?_
      refine x_cv 274 144 26 [.ref 572, .ref b, zi ((s : Nat) : Int), zi ((i : Nat) : Int)] rfl rfl rfl (Nat.le_of_ble_eq_true rfl) rfl rfl (Nat.le_of_ble_eq_true rfl) ⟨_, _, _, rfl, o_572⟩ (Nat.le_of_ble_eq_true rfl) (by have q := c144 (L := L) (xs := xs) (es := es) (M := M) d hb (tx_L_take hw i) (roL_take hr i) (by rw [List.length_take]; omega); rw [show (w.take i).length = i by rw [List.length_take]; omega, nz_le (by rw [List.length_take]; omega)] at q; exact q) rfl ?_
      refine x_cv 228 123 29 [.ref a, zi ((f : Nat) : Int), zi ((tx_num (w.take i) : Nat) : Int)] rfl rfl rfl (Nat.le_of_ble_eq_true rfl) rfl rfl (Nat.le_of_ble_eq_true rfl) trivial (Nat.le_of_ble_eq_true rfl) (c123 d ha (k := f) (t := (tx_num (w.take i))) (by omega) hf) rfl ?_
      rcases Bool.eq_false_or_eq_true (M.2.1 a (1152 * ((f : Nat) : Int) + (((tx_num (w.take i)) : Nat) : Int))) with hb1 | hb1
      · rw [hb1]
        refine z_ifeq 55 32 rfl rfl rfl (rg_lit 1 rfl) (fun c => absurd c (by decide)) (fun _ => ?_)
        refine x_ld 1 1 2 33 rfl rfl rfl rfl rfl ?_
        refine x_ld 2 1 0 34 rfl rfl rfl rfl rfl ?_
        refine x_ld 0 1 2 35 rfl rfl rfl rfl rfl ?_
        refine x_ld 3 1 2 36 rfl rfl rfl rfl rfl ?_
        refine x_ld 4 2 0 38 rfl rfl rfl rfl rfl ?_
        refine x_ld 6 2 0 40 rfl rfl rfl rfl rfl ?_
        refine z_add 41 rfl rfl ?_
        rw [show ((s : Nat) : Int) + ((i : Nat) : Int) = ((s + i : Nat) : Int) from (by omega)]
        refine x_ld 5 2 0 43 rfl rfl rfl rfl rfl ?_
        refine x_ld 6 2 0 45 rfl rfl rfl rfl rfl ?_
        refine z_sub 46 rfl rfl ?_
        rw [show ((w.length : Nat) : Int) - ((i : Nat) : Int) = ((w.length - i : Nat) : Int) from (by omega)]
        refine x_cv 274 144 49 [.ref 572, .ref b, zi ((s + i : Nat) : Int), zi ((w.length - i : Nat) : Int)] rfl rfl rfl (Nat.le_of_ble_eq_true rfl) rfl rfl (Nat.le_of_ble_eq_true rfl) ⟨_, _, _, rfl, o_572⟩ (Nat.le_of_ble_eq_true rfl) (by have q := c144 (L := L) (xs := xs) (es := es) (M := M) d hb (tx_L_drop hw i) (roL_drop hr i) (by rw [List.length_drop]; omega); rw [show (w.drop i).length = w.length - i by rw [List.length_drop], nz_le (by rw [List.length_drop]; omega)] at q; exact q) rfl ?_
        refine x_cv 228 123 52 [.ref a, zi ((g : Nat) : Int), zi ((tx_num (w.drop i) : Nat) : Int)] rfl rfl rfl (Nat.le_of_ble_eq_true rfl) rfl rfl (Nat.le_of_ble_eq_true rfl) trivial (Nat.le_of_ble_eq_true rfl) (c123 d ha (k := g) (t := (tx_num (w.drop i))) (by omega) hg) rfl ?_
        rcases Bool.eq_false_or_eq_true (M.2.1 a (1152 * ((g : Nat) : Int) + (((tx_num (w.drop i)) : Nat) : Int))) with hb2 | hb2
        · rw [hb2]
          refine z_ifne 61 55 rfl rfl rfl (rg_lit 1 rfl) (fun _ => ?_) (fun c => absurd c (by decide))
          refine x_ld 6 2 0 63 rfl rfl rfl rfl rfl ?_
          refine x_ret rfl rfl rfl rfl ?_
          have hc : (cuf (mS (M.2.1 a) f) (mS (M.2.1 a) g) w) = i := fi_eq hi0 hi hbf (fun _ => by unfold cp; show (M.2.1 a _ && M.2.1 a _) = true; rw [hb1, hb2]; rfl)
          rw [hc] at kk; exact kk
        · rw [hb2]
          refine z_ifne 61 55 rfl rfl rfl (rg_lit 0 rfl) (fun c => absurd c (by decide)) (fun _ => ?_)
          refine z_inc 6 58 [some (.ref 572), some (.ref a), some (zi ((g : Nat) : Int)), some (.ref b), some (zi ((s : Nat) : Int)), some (zi ((w.length : Nat) : Int)), some (zi (((i : Nat) : Int) + 1))] rfl rfl (Nat.le_of_ble_eq_true rfl) rfl rfl ?_
          refine x_go 3 rfl rfl ?_
          have hcp : cp (mS (M.2.1 a) f) (mS (M.2.1 a) g) w i = false := by unfold cp; show (M.2.1 a _ && M.2.1 a _) = false; first | (rw [hb1]; rfl) | (rw [hb1, hb2]; rfl)
          exact ih (w.length - (i + 1)) (by omega) (i + 1) rfl (by omega) (by omega) (fun q hq0 hq => by rcases Nat.eq_or_lt_of_le (Nat.le_of_lt_succ hq) with e | e; (· rw [e]; exact hcp); (· exact hbf q hq0 e))
      · rw [hb1]
        refine z_ifeq 55 32 rfl rfl rfl (rg_lit 0 rfl) (fun _ => ?_) (fun c => absurd c (by decide))
        refine z_inc 6 58 [some (.ref 572), some (.ref a), some (zi ((g : Nat) : Int)), some (.ref b), some (zi ((s : Nat) : Int)), some (zi ((w.length : Nat) : Int)), some (zi (((i : Nat) : Int) + 1))] rfl rfl (Nat.le_of_ble_eq_true rfl) rfl rfl ?_
        refine x_go 3 rfl rfl ?_
        have hcp : cp (mS (M.2.1 a) f) (mS (M.2.1 a) g) w i = false := by unfold cp; show (M.2.1 a _ && M.2.1 a _) = false; first | (rw [hb1]; rfl) | (rw [hb1, hb2]; rfl)
        exact ih (w.length - (i + 1)) (by omega) (i + 1) rfl (by omega) (by omega) (fun q hq0 hq => by rcases Nat.eq_or_lt_of_le (Nat.le_of_lt_succ hq) with e | e; (· rw [e]; exact hcp); (· exact hbf q hq0 e))
theorem c146 (d : Nat) {a Na b N s f g : Nat} (ha : isL a Na) (hf : 18 * f + 18 ≤ Na) (hg : 18 * g + 18 ≤ Na) (hb : isI b N) {w : List Nat} (hw : tx_L w) (h6 : w.length ≤ 6) (hr : roL (M.1 b) s w) (hs : s + w.length ≤ N) (hlf : M.1 577 (g : Int) = (f : Int)) (g32 : g < 32) (hne : w ≠ []) : ab_S (pg_G L xs) (d + 2) 146 [.ref 572, .ref a, zi (g : Nat), .ref b, zi (s : Nat), zi (w.length : Nat)] (hp M ++ es) (some (zi ((cuf (mS (M.2.1 a) f) (mS (M.2.1 a) g) w) : Nat))) (hp M ++ es) := by
  show ab_W (pg_G L xs) (ab_X (pg_G L xs) (d + 1)) 146 _ 0 [some (.ref 572), some (.ref a), some (zi ((g : Nat) : Int)), some (.ref b), some (zi ((s : Nat) : Int)), some (zi ((w.length : Nat) : Int)), none] [] (hp M ++ es)
  refine x_cst (zi 1) 1 1 rfl rfl rfl ?_
  refine x_st 6 2 0 3 [some (.ref 572), some (.ref a), some (zi ((g : Nat) : Int)), some (.ref b), some (zi ((s : Nat) : Int)), some (zi ((w.length : Nat) : Int)), some (zi 1)] rfl rfl rfl (Nat.le_of_ble_eq_true rfl) rfl rfl ?_
  exact c146_loop d ha hf hg hb hw h6 hr hs hlf g32 hne ⟨rfl, rfl⟩ _ 1 rfl (Nat.le_refl _) (by have := ne_len hne; omega) (fun q a b => absurd b (by omega))
def F1 (b : Nat) (M M' : mm) : Prop := (∀ a, a ≠ b → M'.1 a = M.1 a) ∧ M'.2 = M.2
theorem c139_loop (d : Nat) {b N : Nat} (hb : isI b N) {w : List Nat} (hw : tx_L w) (h6 : w.length ≤ 6) (hN6 : 6 ≤ N) {Q : ab_Q} (kk : ∀ M', F1 b M M' → roL (M'.1 b) 0 w → Q (.inl none) (hp M' ++ es)) : ∀ m : Nat, m ≤ w.length → ∀ M', F1 b M M' → (∀ i, m ≤ i → i < w.length → M'.1 b (i : Int) = ((w[i]! : Nat) : Int)) → ab_W (pg_G L xs) (ab_X (pg_G L xs) d) 139 Q 21 [some (.ref 572), some (zi (tx_num w : Nat)), some (.ref b), some (zi (w.length : Nat)), some (zi (tx_val (w.take m) : Nat)), some (zi ((m : Int) - 1))] [] (hp M' ++ es) := by
  have hN := hb.2.1
  intro m
  induction m with
  | zero =>
    intro hm M' hF hr
    refine x_ld 5 2 0 23 rfl rfl rfl rfl rfl ?_
    refine z_iflt 46 26 rfl rfl rfl ⟨by omega, by omega⟩ (fun _ => ?_) (fun c => absurd c (by omega))
    refine x_rtv rfl rfl ?_
    exact kk M' hF (fun i hi => by rw [Nat.zero_add]; exact hr i (Nat.zero_le _) hi)
  | succ m ih =>
    intro hm M' hF hr
    have hvt := val_take_succ w (show m < w.length by omega)
    have hg3 := tx_L_get hw (show m < w.length by omega)
    have hvl := tx_val_lt (tx_L_take hw (m + 1))
    rw [List.length_take, Nat.min_eq_left (by omega)] at hvl
    have hp6 : 3 ^ (m + 1) ≤ 3 ^ 6 := Nat.pow_le_pow_right (by omega) (by omega)
    rw [show (3 ^ 6 : Nat) = 729 from rfl] at hp6
    refine x_ld 5 2 0 23 rfl rfl rfl rfl rfl ?_
    refine z_iflt 46 26 rfl rfl rfl ⟨by omega, by omega⟩ (fun c => absurd c (by omega)) (fun _ => ?_)
    refine x_ld 2 1 2 27 rfl rfl rfl rfl rfl ?_
    refine x_ld 5 2 0 29 rfl rfl rfl rfl rfl ?_
    refine x_ld 4 2 0 31 rfl rfl rfl rfl rfl ?_
    refine x_cst (zi 3) 1 32 rfl rfl rfl ?_
    refine z_rem 33 rfl ⟨by omega, by omega⟩ ⟨by omega, by omega⟩ rfl ?_
    rw [show ((tx_val (w.take (m + 1)) : Nat) : Int) % 3 = ((w[m]! : Nat) : Int) from (by omega)]
    refine z_ist 34 rfl hb rfl ⟨by omega, by omega⟩ rfl ?_
    refine x_ld 4 2 0 36 rfl rfl rfl rfl rfl ?_
    refine x_cst (zi 3) 1 37 rfl rfl rfl ?_
    refine z_div 38 rfl ⟨by omega, by omega⟩ ⟨by omega, by omega⟩ rfl ?_
    rw [show ((tx_val (w.take (m + 1)) : Nat) : Int) / 3 = ((tx_val (w.take m) : Nat) : Int) from (by omega)]
    refine x_st 4 2 0 40 [some (.ref 572), some (zi ((tx_num w : Nat) : Int)), some (.ref b), some (zi ((w.length : Nat) : Int)), some (zi ((tx_val (w.take m) : Nat) : Int)), some (zi (((m + 1 : Nat) : Int) - 1))] rfl rfl rfl (Nat.le_of_ble_eq_true rfl) rfl rfl ?_
    refine z_inc 5 43 [some (.ref 572), some (zi ((tx_num w : Nat) : Int)), some (.ref b), some (zi ((w.length : Nat) : Int)), some (zi ((tx_val (w.take m) : Nat) : Int)), some (zi ((((m + 1 : Nat) : Int) - 1) + (-1)))] rfl rfl (Nat.le_of_ble_eq_true rfl) rfl rfl ?_
    refine x_go 21 rfl rfl ?_
    rw [show ((m + 1 : Nat) : Int) - 1 + (-1) = (m : Int) - 1 by omega]
    refine ih (by omega) _ ⟨fun a ha => (sI_ne ha).trans (hF.1 a ha), hF.2⟩ (fun i hi hi2 => ?_)
    rcases Nat.eq_or_lt_of_le hi with e | e
    · subst e; rw [show ((m + 1 : Nat) : Int) - 1 = (m : Int) by omega, rd_eq]
    · rw [rd_nk (by omega)]; exact hr i e hi2
theorem c139 (d : Nat) {b N : Nat} (hb : isI b N) {w : List Nat} (hw : tx_L w) (h6 : w.length ≤ 6) (hN6 : 6 ≤ N) : ab_Z (pg_G L xs) (d + 2) 139 [.ref 572, zi (tx_num w : Nat), .ref b] M es (fun v M' => v = none ∧ F1 b M M' ∧ roL (M'.1 b) 0 w) := by
  show ab_W (pg_G L xs) (ab_X (pg_G L xs) (d + 1)) 139 _ 0 [some (.ref 572), some (zi ((tx_num w : Nat) : Int)), some (.ref b), none, none, none] [] (hp M ++ es)
  refine x_ld 0 1 2 1 rfl rfl rfl rfl rfl ?_
  refine x_ld 1 1 0 2 rfl rfl rfl rfl rfl ?_
  refine x_cv 221 125 5 [.ref 572, zi ((tx_num w : Nat) : Int)] rfl rfl rfl (Nat.le_of_ble_eq_true rfl) rfl rfl (Nat.le_of_ble_eq_true rfl) ⟨_, _, _, rfl, o_572⟩ (Nat.le_of_ble_eq_true rfl) (c125 d hw h6) rfl ?_
  refine x_st 3 1 0 6 [some (.ref 572), some (zi ((tx_num w : Nat) : Int)), some (.ref b), some (zi ((w.length : Nat) : Int)), none, none] rfl rfl rfl (Nat.le_of_ble_eq_true rfl) rfl rfl ?_
  refine x_ld 1 1 0 7 rfl rfl rfl rfl rfl ?_
  refine x_ld 0 1 2 8 rfl rfl rfl rfl rfl ?_
  refine g_572_0 7 11 rfl rfl rfl ?_
  refine x_ld 3 1 0 12 rfl rfl rfl rfl rfl ?_
  refine z_mst w.length 13 rfl rfl (by omega) rfl ?_
  refine z_sub 14 rfl rfl ?_
  rw [show ((tx_num w : Nat) : Int) - ((tx_st w.length : Nat) : Int) = ((tx_val (w.take w.length) : Nat) : Int) from (by rw [List.take_length]; unfold tx_num; omega)]
  refine x_st 4 2 0 16 [some (.ref 572), some (zi ((tx_num w : Nat) : Int)), some (.ref b), some (zi ((w.length : Nat) : Int)), some (zi ((tx_val (w.take w.length) : Nat) : Int)), none] rfl rfl rfl (Nat.le_of_ble_eq_true rfl) rfl rfl ?_
  refine x_ld 3 1 0 17 rfl rfl rfl rfl rfl ?_
  refine x_cst (zi 1) 1 18 rfl rfl rfl ?_
  refine z_sub 19 rfl rfl ?_
  refine x_st 5 2 0 21 [some (.ref 572), some (zi ((tx_num w : Nat) : Int)), some (.ref b), some (zi ((w.length : Nat) : Int)), some (zi ((tx_val (w.take w.length) : Nat) : Int)), some (zi (((w.length : Nat) : Int) - 1))] rfl rfl rfl (Nat.le_of_ble_eq_true rfl) rfl rfl ?_
  exact c139_loop (d + 1) hb hw h6 hN6 (fun M' a b => ⟨none, M', rfl, rfl, rfl, a, b⟩) w.length (Nat.le_refl _) M ⟨fun _ _ => rfl, rfl⟩ (fun i a b => absurd b (by omega))
end D6
