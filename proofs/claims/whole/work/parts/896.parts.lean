/-! OURS, printed by wip/tools/gen896.py: parts listed; origins by place and by key. -/
/-- how many places below j have a key -/
def rk (sk : List Nat) (x j : Nat) : Nat := cnt (fun i => sk[i]! == x) j
theorem cnt_filter (f : Nat → Bool) (n : Nat) : ((List.range n).filter f).length = cnt f n := by
  induction n with
  | zero => rfl
  | succ n ih =>
    rw [List.range_succ, List.filter_append, List.length_append, ih]
    simp only [cnt]
    cases h : f n <;> simp [h]
theorem filt_get (f : Nat → Bool) (n c j : Nat) : ((List.range n).filter f)[c]? = some j ↔ j < n ∧ f j = true ∧ cnt f j = c := by
  induction n with
  | zero => simp
  | succ n ih =>
    rw [List.range_succ, List.filter_append]
    cases h : f n with
    | false =>
      have : List.filter f [n] = [] := by simp [h]
      rw [this, List.append_nil, ih]
      constructor
      · rintro ⟨a, b, e⟩; exact ⟨by omega, b, e⟩
      · rintro ⟨a, b, e⟩
        refine ⟨?_, b, e⟩
        rcases Nat.eq_or_lt_of_le (Nat.le_of_lt_succ a) with q | q
        · subst q; rw [h] at b; cases b
        · exact q
    | true =>
      have : List.filter f [n] = [n] := by simp [h]
      rw [this]
      have hl := cnt_filter f n
      rcases Nat.lt_trichotomy c ((List.range n).filter f).length with q | q | q
      · rw [List.getElem?_append_left q, ih]
        constructor
        · rintro ⟨a, b, e⟩; exact ⟨by omega, b, e⟩
        · rintro ⟨a, b, e⟩
          refine ⟨?_, b, e⟩
          rcases Nat.eq_or_lt_of_le (Nat.le_of_lt_succ a) with p | p
          · subst p; omega
          · exact p
      · subst q
        rw [List.getElem?_append_right (Nat.le_refl _), Nat.sub_self]
        constructor
        · intro e
          have e : n = j := by simpa using e
          subst e
          exact ⟨by omega, h, hl.symm⟩
        · rintro ⟨a, b, e⟩
          rcases Nat.eq_or_lt_of_le (Nat.le_of_lt_succ a) with p | p
          · subst p; rfl
          · exfalso
            have h1 := cnt_add f j (n - j)
            rw [show j + (n - j) = n by omega] at h1
            have h2 : 0 < cnt (fun i => f (j + i)) (n - j) := (cnt_pos _ _).mpr ⟨0, by omega, b⟩
            omega
      · rw [List.getElem?_append_right (by omega)]
        constructor
        · intro e
          rw [List.getElem?_eq_none (by simp; omega)] at e; cases e
        · rintro ⟨a, b, e⟩
          exfalso
          have h1 := cnt_add f j (n - j)
          rw [show j + (n - j) = n by omega] at h1
          omega
theorem nth_iff (sk : List Nat) (x c j : Nat) : nth sk x c = some j ↔ j < sk.length ∧ sk[j]! = x ∧ rk sk x j = c := by
  unfold nth rk
  rw [filt_get]
  simp
/-- the keys that are left when those of vs have been taken -/
def lft (sk vs : List Nat) (j : Nat) : Bool := decide ((vs.countP (fun x => x == sk[j]!)) ≤ rk sk sk[j]! j)
def lfI (sk vs : List Nat) (f : Int → Int) : Int → Int := fun i => if 0 ≤ i ∧ i < (sk.length : Int) then (bif lft sk vs i.toNat then ((sk[i.toNat]! : Nat) : Int) else -1) else f i
/-- the first key that is left is the one of that rank -/
theorem take_nth {sk vs : List Nat} {x : Nat} : (∃ j, nth sk x (vs.countP (fun y => y == x)) = some j ∧ j < sk.length ∧ sk[j]! = x ∧ lft sk vs j = true ∧ ∀ i, i < j → ¬ (sk[i]! = x ∧ lft sk vs i = true)) ∨ (nth sk x (vs.countP (fun y => y == x)) = none ∧ ∀ i, i < sk.length → ¬ (sk[i]! = x ∧ lft sk vs i = true)) := by
  cases h : nth sk x (vs.countP (fun y => y == x)) with
  | some j =>
    obtain ⟨h1, h2, h3⟩ := (nth_iff _ _ _ _).mp h
    refine .inl ⟨j, rfl, h1, h2, ?_, ?_⟩
    · unfold lft
      rw [h2]
      exact decide_eq_true (by omega)
    · rintro i hi ⟨e1, e2⟩
      unfold lft at e2
      rw [e1] at e2
      have e2 := of_decide_eq_true e2
      have h4 := cnt_add (fun i => sk[i]! == x) i (j - i)
      rw [show i + (j - i) = j by omega] at h4
      have h5 : 0 < cnt (fun q => sk[i + q]! == x) (j - i) := (cnt_pos _ _).mpr ⟨0, by omega, by simpa using e1⟩
      unfold rk at h3 e2
      omega
  | none =>
    refine .inr ⟨rfl, ?_⟩
    rintro i hi ⟨e1, e2⟩
    unfold lft at e2
    rw [e1] at e2
    have e2 := of_decide_eq_true e2
    -- some place has exactly that rank
    have key : ∀ m, m ≤ i → vs.countP (fun y => y == x) ≤ rk sk x m → vs.countP (fun y => y == x) = rk sk x m ∨ ∃ j, j < m ∧ sk[j]! = x ∧ rk sk x j = vs.countP (fun y => y == x) := by
      intro m
      induction m with
      | zero => intro _ e; left; unfold rk at *; simp only [cnt] at *; omega
      | succ m ihm =>
        intro hm e
        rcases Nat.lt_or_ge (rk sk x m) (vs.countP (fun y => y == x)) with q | q
        · left
          unfold rk at *
          simp only [cnt] at *
          have := Bool.toNat_lt (sk[m]! == x)
          omega
        · rcases ihm (by omega) q with p | ⟨j, a, b, c⟩
          · by_cases hb : sk[m]! = x
            · exact .inr ⟨m, by omega, hb, p.symm⟩
            · left
              unfold rk at *
              simp only [cnt]
              rw [show (sk[m]! == x) = false by simpa using hb]
              simpa using p
          · exact .inr ⟨j, by omega, b, c⟩
    rcases key i (Nat.le_refl _) e2 with p | ⟨j, a, b, c⟩
    · rw [(nth_iff _ _ _ _).mpr ⟨hi, e1, p.symm⟩] at h; cases h
    · rw [(nth_iff _ _ _ _).mpr ⟨by omega, b, c⟩] at h; cases h
theorem lft_snoc {sk vs : List Nat} {x j : Nat} (h : nth sk x (vs.countP (fun y => y == x)) = some j) (i : Nat) (hi : i < sk.length) : lft sk (vs ++ [x]) i = if i = j then false else lft sk vs i := by
  obtain ⟨h1, h2, h3⟩ := (nth_iff _ _ _ _).mp h
  unfold lft
  rw [List.countP_append]
  by_cases e : i = j
  · subst e
    rw [if_pos rfl, h2]
    apply decide_eq_false
    simp
    omega
  · rw [if_neg e]
    by_cases hx : sk[i]! = x
    · rw [hx]
      have hne : rk sk x i ≠ vs.countP (fun y => y == x) := by
        intro e2
        have := (nth_iff sk x (vs.countP (fun y => y == x)) i).mpr ⟨hi, hx, e2⟩
        rw [h] at this
        exact e (Option.some.inj this).symm
      have : List.countP (fun y => y == x) [x] = 1 := by simp
      rw [this]
      by_cases q : vs.countP (fun y => y == x) ≤ rk sk x i
      · rw [decide_eq_true q, decide_eq_true (by omega)]
      · rw [decide_eq_false q, decide_eq_false (by omega)]
    · have : List.countP (fun y => y == sk[i]!) [x] = 0 := List.countP_eq_zero.mpr (fun a ha => by rw [List.mem_singleton.mp ha]; intro e; exact hx (beq_iff_eq.mp e).symm)
      rw [this, Nat.add_zero]
theorem lft_none {sk vs : List Nat} {x : Nat} (h : nth sk x (vs.countP (fun y => y == x)) = none) (i : Nat) (hi : i < sk.length) : lft sk (vs ++ [x]) i = lft sk vs i := by
  unfold lft
  rw [List.countP_append]
  by_cases hx : sk[i]! = x
  · rw [hx]
    have : List.countP (fun y => y == x) [x] = 1 := by simp
    rw [this]
    have hs : ¬ (sk[i]! = x ∧ lft sk vs i = true) := by
      rcases take_nth (sk := sk) (vs := vs) (x := x) with ⟨j, e, _⟩ | ⟨_, e⟩
      · rw [h] at e; cases e
      · exact e i hi
    have q : ¬ vs.countP (fun y => y == x) ≤ rk sk x i := by
      intro e
      apply hs
      refine ⟨hx, ?_⟩
      unfold lft
      rw [hx]
      exact decide_eq_true e
    rw [decide_eq_false q, decide_eq_false (by omega)]
  · have : List.countP (fun y => y == sk[i]!) [x] = 0 := List.countP_eq_zero.mpr (fun a ha => by rw [List.mem_singleton.mp ha]; intro e; exact hx (beq_iff_eq.mp e).symm)
    rw [this, Nat.add_zero]
/-- an origin as an int -/
def oz : Option Nat → Int
  | none => -1
  | some j => (j : Int)
section C13
variable {L : Nat} {xs : Nat → Int32} {M : mm} {es : ab_H}
theorem c84_loop (D : Nat) {r s1 w1 s2 w2 : Nat} (hr : isI r 6) (h1 : isT s1 w1) (h2 : isT s2 w2) {A B : Nat → Bool} (aA : ag (sN (M.2.1 w1)) A) (aB : ag (sN (M.2.1 w2)) B) (hB : ∀ t, B t = true ↔ rq A t) (h0 : A 0 = false) (w0 : List Nat) {Q : ab_Q} : ∀ m i : Nat, 6 - i = m → ∀ (w l : List Nat), tx_L w → l.length = i → i + w.length ≤ 6 → B (tx_num w) = true → Q (.inl (some (zi ((l.length + (rps A B w).length : Nat) : Int)))) (hp (rI M r (lsR (l ++ (rps A B w).map tx_num) (M.1 r))) ++ es) → ab_W (pg_G L xs) (ab_X (pg_G L xs) (D + 2)) 84 Q 6 [some (.ref r), some (zi (tx_num w0 : Nat)), some (.ref s1), some (.ref s2), some (zi (tx_num w : Nat)), some (zi (i : Nat))] [] (hp (rI M r (lsR l (M.1 r))) ++ es) := by
  intro m
  induction m using Nat.strongRecOn with
  | _ m ih =>
    intro i hm w l hw hl h6 hm2 hQ
    have hlt := num_lt hw (by omega)
    refine x_ld 5 2 0 8 rfl rfl rfl rfl rfl ?_
    refine x_ld 0 1 2 9 rfl rfl rfl rfl rfl ?_
    refine x_len (Int32.ofInt 6) 10 rfl (hp_ob hr.1 (hr.2.2 _ _ _)) rfl rfl rfl ?_
    refine z_icge 46 13 rfl rfl rfl ⟨by omega, by omega⟩ (rg_lit 6 rfl) (fun c10 => ?_) (fun c10 => ?_)
    · refine x_ld 5 2 0 48 rfl rfl rfl rfl rfl ?_
      refine x_ret rfl rfl rfl rfl ?_
      have e : w = [] := by
        rcases Nat.eq_zero_or_pos w.length with e | e
        · exact List.length_eq_zero_iff.mp e
        · have := tx_num_short (u := []) (v := w) (fun d hd => by cases hd) e
          rw [tx_num_nil] at this
          omega
      rw [e, rps_nil, List.map_nil, List.append_nil, List.length_nil, Nat.add_zero, hl] at hQ; exact hQ
    · refine x_ld 4 2 0 15 rfl rfl rfl rfl rfl ?_
      refine z_ifle 46 18 rfl rfl rfl ⟨by omega, by omega⟩ (fun c15 => ?_) (fun c15 => ?_)
      · refine x_ld 5 2 0 48 rfl rfl rfl rfl rfl ?_
        refine x_ret rfl rfl rfl rfl ?_
        have e : w = [] := by
          rcases Nat.eq_zero_or_pos w.length with e | e
          · exact List.length_eq_zero_iff.mp e
          · have := tx_num_short (u := []) (v := w) (fun d hd => by cases hd) e
            rw [tx_num_nil] at this
            omega
        rw [e, rps_nil, List.map_nil, List.append_nil, List.length_nil, Nat.add_zero, hl] at hQ; exact hQ
      · have hne : w ≠ [] := fun e => by rw [e, tx_num_nil] at c15; omega
        have hcu := rq_cuf hw hB hne hm2
        have hpos := cuf_pos (A := A) (B := B) hne
        have hle := cuf_le A B w
        have hex : ∃ i, i ≤ w.length ∧ cp (sN (M.2.1 w1)) (sN (M.2.1 w2)) w i = true := ⟨_, hle, by rw [cp_agw aA aB hw (by omega)]; unfold cp; rw [hcu.1, hcu.2]; rfl⟩
        refine x_ld 0 1 2 19 rfl rfl rfl rfl rfl ?_
        refine x_ld 5 2 0 21 rfl rfl rfl rfl rfl ?_
        refine x_ld 4 2 0 23 rfl rfl rfl rfl rfl ?_
        refine x_ld 2 1 2 24 rfl rfl rfl rfl rfl ?_
        refine x_ld 3 1 2 25 rfl rfl rfl rfl rfl ?_
        refine x_cv 34 68 28 [zi ((tx_num w : Nat) : Int), .ref s1, .ref s2] rfl rfl rfl (Nat.le_of_ble_eq_true rfl) rfl rfl (Nat.le_of_ble_eq_true rfl) trivial (Nat.le_of_ble_eq_true rfl) (c68 (M := (rI M r (lsR l (M.1 r)))) D hw (by omega) h1 h2 hex) rfl ?_
        rw [show sN ((rI M r (lsR l (M.1 r))).2.1 w1) = sN (M.2.1 w1) from rfl, show sN ((rI M r (lsR l (M.1 r))).2.1 w2) = sN (M.2.1 w2) from rfl, cut_ag aA aB hw (by omega), cut_cuf h0 hne]
        refine z_ist 29 rfl hr rfl ⟨by omega, by omega⟩ rfl ?_
        refine x_ld 4 2 0 31 rfl rfl rfl rfl rfl ?_
        refine x_ld 0 1 2 32 rfl rfl rfl rfl rfl ?_
        refine x_ld 5 2 0 34 rfl rfl rfl rfl rfl ?_
        refine z_ild ((tx_num (w.take (cuf A B w)) : Nat) : Int) 35 rfl hr rfl ⟨by omega, by omega⟩ rd_eq rfl ?_
        refine x_cv 38 69 38 [zi ((tx_num w : Nat) : Int), zi ((tx_num (w.take (cuf A B w)) : Nat) : Int)] rfl rfl rfl (Nat.le_of_ble_eq_true rfl) rfl rfl (Nat.le_of_ble_eq_true rfl) trivial (Nat.le_of_ble_eq_true rfl) (c69 D hw (by omega) hle) rfl ?_
        refine x_st 4 2 0 40 [some (.ref r), some (zi ((tx_num w0 : Nat) : Int)), some (.ref s1), some (.ref s2), some (zi ((tx_num (w.drop (cuf A B w)) : Nat) : Int)), some (zi ((i : Nat) : Int))] rfl rfl rfl (Nat.le_of_ble_eq_true rfl) rfl rfl ?_
        refine z_inc 5 43 [some (.ref r), some (zi ((tx_num w0 : Nat) : Int)), some (.ref s1), some (.ref s2), some (zi ((tx_num (w.drop (cuf A B w)) : Nat) : Int)), some (zi (((i : Nat) : Int) + 1))] rfl rfl (Nat.le_of_ble_eq_true rfl) rfl rfl ?_
        refine x_go 6 rfl rfl ?_
        rw [← hl, sI_lsR]
        have ih2 := ih (6 - (i + 1)) (by omega) (i + 1) rfl (w.drop (cuf A B w)) (l ++ [tx_num (w.take (cuf A B w))]) (tx_L_drop hw _) (by rw [List.length_append, hl]; rfl) (by rw [List.length_drop]; omega) hcu.2 (by
          rw [rps_cons hne, List.map_cons, List.length_cons] at hQ
          rw [List.append_assoc, List.length_append, List.length_singleton, show l.length + 1 + (rps A B (w.drop (cuf A B w))).length = l.length + ((rps A B (w.drop (cuf A B w))).length + 1) by omega]
          exact hQ)
        rw [show (((l.length : Nat) : Int) + 1) = ((i + 1 : Nat) : Int) by omega]; exact ih2
theorem c84 (D : Nat) {r s1 w1 s2 w2 : Nat} (hr : isI r 6) (h1 : isT s1 w1) (h2 : isT s2 w2) {A B : Nat → Bool} (aA : ag (sN (M.2.1 w1)) A) (aB : ag (sN (M.2.1 w2)) B) (hB : ∀ t, B t = true ↔ rq A t) (h0 : A 0 = false) {w : List Nat} (hw : tx_L w) (h6 : w.length ≤ 6) (hm : B (tx_num w) = true) : ab_S (pg_G L xs) (D + 3) 84 [.ref r, zi (tx_num w : Nat), .ref s1, .ref s2] (hp M ++ es) (some (zi ((rps A B w).length : Nat))) (hp (rI M r (lsR ((rps A B w).map tx_num) (M.1 r))) ++ es) := by
  show ab_W (pg_G L xs) (ab_X (pg_G L xs) (D + 2)) 84 _ 0 [some (.ref r), some (zi ((tx_num w : Nat) : Int)), some (.ref s1), some (.ref s2), none, none] [] (hp M ++ es)
  refine x_ld 1 1 0 1 rfl rfl rfl rfl rfl ?_
  refine x_st 4 2 0 3 [some (.ref r), some (zi ((tx_num w : Nat) : Int)), some (.ref s1), some (.ref s2), some (zi ((tx_num w : Nat) : Int)), none] rfl rfl rfl (Nat.le_of_ble_eq_true rfl) rfl rfl ?_
  refine x_cst (zi 0) 1 4 rfl rfl rfl ?_
  refine x_st 5 2 0 6 [some (.ref r), some (zi ((tx_num w : Nat) : Int)), some (.ref s1), some (.ref s2), some (zi ((tx_num w : Nat) : Int)), some (zi 0)] rfl rfl rfl (Nat.le_of_ble_eq_true rfl) rfl rfl ?_
  have q := c84_loop (L := L) (xs := xs) (M := M) (es := es) D hr h1 h2 aA aB hB h0 w (Q := fun r' h' => r' = .inl (some (zi ((rps A B w).length : Nat))) ∧ h' = hp (rI M r (lsR ((rps A B w).map tx_num) (M.1 r))) ++ es) _ 0 rfl w [] hw rfl (by omega) hm (by rw [List.nil_append, List.length_nil, Nat.zero_add]; exact ⟨rfl, rfl⟩)
  rw [lsR_nil, rI_self] at q; exact q
/-- origins by place -/
def opl (vc sc : Nat) (f : Int → Int) : Int → Int := fun j => if 0 ≤ j ∧ j < (vc : Int) then (if j < (sc : Int) then j else -1) else f j
theorem opl_0 (sc : Nat) (f : Int → Int) : opl 0 sc f = f := by
  funext j; unfold opl; rw [if_neg (by omega)]
theorem sI_opl (M : mm) (r i sc : Nat) (x : Int) (hx : x = if (i : Int) < (sc : Int) then (i : Int) else -1) : sI (rI M r (opl i sc (M.1 r))) r (i : Int) x = rI M r (opl (i + 1) sc (M.1 r)) := by
  unfold sI rI
  congr 1
  funext b j
  by_cases hb : b = r
  · subst hb
    simp only [true_and, if_true]
    unfold opl
    by_cases hj : j = (i : Int)
    · rw [if_pos hj, if_pos (by omega), hx, hj]
    · rw [if_neg hj]
      by_cases h2 : 0 ≤ j ∧ j < (i : Int)
      · rw [if_pos h2, if_pos (show 0 ≤ j ∧ j < ((i + 1 : Nat) : Int) by omega)]
      · rw [if_neg h2, if_neg (by omega)]
  · simp [hb]
theorem c90_loop (D : Nat) {p : Nat} (h : isP p) {vc sc : Nat} (hv : M.1 p 13 = (vc : Int)) (hv6 : vc ≤ 6) (hs6 : sc ≤ 6) {Q : ab_Q} (kk : Q (.inl none) (hp (rI M (p + 8) (opl vc sc (M.1 (p + 8)))) ++ es)) : ∀ m i : Nat, vc - i = m → i ≤ vc → ab_W (pg_G L xs) (ab_X (pg_G L xs) D) 90 Q 2 [some (.ref p), some (zi (sc : Nat)), some (zi (i : Nat))] [] (hp (rI M (p + 8) (opl i sc (M.1 (p + 8)))) ++ es) := by
  intro m
  induction m using Nat.strongRecOn with
  | _ m ih =>
    intro i hm hi
    have hv' : (rI M (p + 8) (opl i sc (M.1 (p + 8)))).1 p 13 = (vc : Int) := (rd_ra (by omega)).trans hv
    refine x_ld 2 1 0 3 rfl rfl rfl rfl rfl ?_
    refine x_ld 0 1 2 4 rfl rfl rfl rfl rfl ?_
    refine g_P_13 h 50 7 rfl rfl hv' rfl ?_
    refine z_icge 32 10 rfl rfl rfl ⟨by omega, by omega⟩ ⟨by omega, by omega⟩ (fun c7 => ?_) (fun c7 => ?_)
    · refine x_rtv rfl rfl ?_
      have e : i = vc := by omega
      subst e; exact kk
    · refine x_ld 0 1 2 11 rfl rfl rfl rfl rfl ?_
      refine g_P_12 h 47 14 rfl rfl rfl ?_
      refine x_ld 2 1 0 15 rfl rfl rfl rfl rfl ?_
      refine x_ld 2 1 0 16 rfl rfl rfl rfl rfl ?_
      refine x_ld 1 1 0 17 rfl rfl rfl rfl rfl ?_
      refine z_icge 24 20 rfl rfl rfl ⟨by omega, by omega⟩ ⟨by omega, by omega⟩ (fun c17 => ?_) (fun c17 => ?_)
      · refine x_cst (zi (-1)) 1 25 rfl rfl rfl ?_
        refine z_ist 26 rfl (iP8 h) rfl ⟨by omega, by omega⟩ rfl ?_
        refine z_inc 2 29 [some (.ref p), some (zi ((sc : Nat) : Int)), some (zi (((i : Nat) : Int) + 1))] rfl rfl (Nat.le_of_ble_eq_true rfl) rfl rfl ?_
        refine x_go 2 rfl rfl ?_
        rw [sI_opl M (p + 8) i sc (-1) (by rw [if_neg (by omega)])]
        exact ih (vc - (i + 1)) (by omega) (i + 1) rfl (by omega)
      · refine x_ld 2 1 0 21 rfl rfl rfl rfl rfl ?_
        refine x_go 25 rfl rfl ?_
        refine z_ist 26 rfl (iP8 h) rfl ⟨by omega, by omega⟩ rfl ?_
        refine z_inc 2 29 [some (.ref p), some (zi ((sc : Nat) : Int)), some (zi (((i : Nat) : Int) + 1))] rfl rfl (Nat.le_of_ble_eq_true rfl) rfl rfl ?_
        refine x_go 2 rfl rfl ?_
        rw [sI_opl M (p + 8) i sc ((i : Nat) : Int) (by rw [if_pos (by omega)])]
        exact ih (vc - (i + 1)) (by omega) (i + 1) rfl (by omega)
theorem c90 (D : Nat) {p : Nat} (h : isP p) {vc sc : Nat} (hv : M.1 p 13 = (vc : Int)) (hv6 : vc ≤ 6) (hs6 : sc ≤ 6) : ab_S (pg_G L xs) (D + 1) 90 [.ref p, zi (sc : Nat)] (hp M ++ es) none (hp (rI M (p + 8) (opl vc sc (M.1 (p + 8)))) ++ es) := by
  show ab_W (pg_G L xs) (ab_X (pg_G L xs) D) 90 _ 0 [some (.ref p), some (zi ((sc : Nat) : Int)), none] [] (hp M ++ es)
  refine x_cst (zi 0) 1 1 rfl rfl rfl ?_
  refine x_st 2 1 0 2 [some (.ref p), some (zi ((sc : Nat) : Int)), some (zi 0)] rfl rfl rfl (Nat.le_of_ble_eq_true rfl) rfl rfl ?_
  have q := c90_loop (L := L) (xs := xs) (M := M) (es := es) D h hv hv6 hs6 (Q := fun r' h' => r' = .inl none ∧ h' = hp (rI M (p + 8) (opl vc sc (M.1 (p + 8)))) ++ es) ⟨rfl, rfl⟩ _ 0 rfl (Nat.zero_le _)
  rw [opl_0, rI_self] at q; exact q
theorem lfI_at {sk vs : List Nat} {f : Int → Int} {i : Nat} (hi : i < sk.length) : lfI sk vs f (i : Int) = bif lft sk vs i then ((sk[i]! : Nat) : Int) else -1 := by
  unfold lfI
  rw [if_pos (by omega), Int.toNat_natCast]
theorem c89_loop (D : Nat) {p : Nat} (h : isP p) {sk vs : List Nat} (hs6 : sk.length ≤ 6) (hsk : ∀ i, i < sk.length → sk[i]! < 1093) {x : Nat} (hx : x < 1093) (hf : M.1 (p + 6) = lfI sk vs (M.1 (p + 6))) {Q : ab_Q} (kk : Q (.inl (some (zi (oz (nth sk x (vs.countP (fun y => y == x))))))) (hp (rI M (p + 6) (lfI sk (vs ++ [x]) (M.1 (p + 6)))) ++ es)) : ∀ m i : Nat, sk.length - i = m → i ≤ sk.length → (∀ j, j < i → ¬ (sk[j]! = x ∧ lft sk vs j = true)) → ab_W (pg_G L xs) (ab_X (pg_G L xs) D) 89 Q 2 [some (.ref p), some (zi (x : Nat)), some (zi (sk.length : Nat)), some (zi (i : Nat))] [] (hp M ++ es) := by
  intro m
  induction m using Nat.strongRecOn with
  | _ m ih =>
    intro i hm hi hb
    refine x_ld 3 1 0 3 rfl rfl rfl rfl rfl ?_
    refine x_ld 2 1 0 4 rfl rfl rfl rfl rfl ?_
    refine z_icge 32 7 rfl rfl rfl ⟨by omega, by omega⟩ ⟨by omega, by omega⟩ (fun c4 => ?_) (fun c4 => ?_)
    · refine x_cst (zi (-1)) 1 33 rfl rfl rfl ?_
      refine x_ret rfl rfl rfl rfl ?_
      have e : i = sk.length := by omega
      subst e
      rcases take_nth (sk := sk) (vs := vs) (x := x) with ⟨j, e, hj, e1, e2, _⟩ | ⟨e, _⟩
      · exact absurd ⟨e1, e2⟩ (hb j hj)
      · rw [e] at kk
        have hsame : lfI sk (vs ++ [x]) (M.1 (p + 6)) = M.1 (p + 6) := by
          rw [hf]
          funext q
          unfold lfI
          by_cases hq : 0 ≤ q ∧ q < (sk.length : Int)
          · rw [if_pos hq, if_pos hq, lft_none e q.toNat (by omega)]
          · rw [if_neg hq, if_neg hq]
        rw [hsame, rI_self] at kk
        exact kk
    · have hil : i < sk.length := by omega
      have hv : M.1 (p + 6) (i : Int) = (bif lft sk vs i then ((sk[i]! : Nat) : Int) else -1) := by rw [hf]; exact lfI_at hil
      have hsi := hsk i hil
      have hrg : rg (bif lft sk vs i then ((sk[i]! : Nat) : Int) else -1) := by cases lft sk vs i; (· exact rg_lit (-1) rfl); (· exact ⟨by rw [cond_true]; omega, by rw [cond_true]; omega⟩)
      refine x_ld 0 1 2 8 rfl rfl rfl rfl rfl ?_
      refine g_P_10 h 41 11 rfl rfl rfl ?_
      refine x_ld 3 1 0 12 rfl rfl rfl rfl rfl ?_
      refine z_ild (bif lft sk vs i then ((sk[i]! : Nat) : Int) else -1) 13 rfl (iP6 h) rfl ⟨by omega, by omega⟩ hv rfl ?_
      refine x_ld 1 1 0 14 rfl rfl rfl rfl rfl ?_
      refine z_icne 26 17 rfl rfl rfl hrg ⟨by omega, by omega⟩ (fun c14 => ?_) (fun c14 => ?_)
      · refine z_inc 3 29 [some (.ref p), some (zi ((x : Nat) : Int)), some (zi ((sk.length : Nat) : Int)), some (zi (((i : Nat) : Int) + 1))] rfl rfl (Nat.le_of_ble_eq_true rfl) rfl rfl ?_
        refine x_go 2 rfl rfl ?_
        refine ih (sk.length - (i + 1)) (by omega) (i + 1) rfl (by omega) (fun j hj => ?_)
        rcases Nat.eq_or_lt_of_le (Nat.le_of_lt_succ hj) with e | e
        · subst e; rintro ⟨e1, e2⟩; rw [e2, cond_true] at c14; omega
        · exact hb j e
      · refine x_ld 0 1 2 18 rfl rfl rfl rfl rfl ?_
        refine g_P_10 h 41 21 rfl rfl rfl ?_
        refine x_ld 3 1 0 22 rfl rfl rfl rfl rfl ?_
        refine x_cst (zi (-1)) 1 23 rfl rfl rfl ?_
        refine z_ist 24 rfl (iP6 h) rfl ⟨by omega, by omega⟩ rfl ?_
        refine x_ld 3 1 0 25 rfl rfl rfl rfl rfl ?_
        refine x_ret rfl rfl rfl rfl ?_
        have hl : lft sk vs i = true ∧ sk[i]! = x := by
          cases hq : lft sk vs i with
          | false => rw [hq, cond_false] at c14; omega
          | true => rw [hq, cond_true] at c14; exact ⟨rfl, by omega⟩
        rcases take_nth (sk := sk) (vs := vs) (x := x) with ⟨j, e, hj, e1, e2, e3⟩ | ⟨e, e1⟩
        · have hij : j = i := by
            rcases Nat.lt_trichotomy j i with q | q | q
            · exact absurd ⟨e1, e2⟩ (hb j q)
            · exact q
            · exact absurd ⟨hl.2, hl.1⟩ (e3 i q)
          subst hij
          rw [e] at kk
          have hsame : rI M (p + 6) (lfI sk (vs ++ [x]) (M.1 (p + 6))) = sI M (p + 6) (j : Int) (-1) := by
            unfold rI sI
            congr 1
            funext b q
            by_cases hbp : b = p + 6
            · subst hbp
              rw [if_pos rfl]
              by_cases hqj : q = (j : Int)
              · rw [if_pos ⟨rfl, hqj⟩, hqj, lfI_at hj, lft_snoc e j hj, if_pos rfl]; rfl
              · rw [if_neg (fun e => hqj e.2), hf]
                unfold lfI
                by_cases hq : 0 ≤ q ∧ q < (sk.length : Int)
                · rw [if_pos hq, if_pos hq, lft_snoc e q.toNat (by omega), if_neg (by omega)]
                · rw [if_neg hq, if_neg hq]
            · rw [if_neg hbp, if_neg (fun e => hbp e.1)]
          rw [hsame] at kk
          exact kk
        · exact absurd ⟨hl.2, hl.1⟩ (e1 i hil)
theorem c89 (D : Nat) {p : Nat} (h : isP p) {sk vs : List Nat} (hs6 : sk.length ≤ 6) (hsk : ∀ i, i < sk.length → sk[i]! < 1093) {x : Nat} (hx : x < 1093) (hf : M.1 (p + 6) = lfI sk vs (M.1 (p + 6))) : ab_S (pg_G L xs) (D + 1) 89 [.ref p, zi (x : Nat), zi (sk.length : Nat)] (hp M ++ es) (some (zi (oz (nth sk x (vs.countP (fun y => y == x)))))) (hp (rI M (p + 6) (lfI sk (vs ++ [x]) (M.1 (p + 6)))) ++ es) := by
  show ab_W (pg_G L xs) (ab_X (pg_G L xs) D) 89 _ 0 [some (.ref p), some (zi ((x : Nat) : Int)), some (zi ((sk.length : Nat) : Int)), none] [] (hp M ++ es)
  refine x_cst (zi 0) 1 1 rfl rfl rfl ?_
  refine x_st 3 1 0 2 [some (.ref p), some (zi ((x : Nat) : Int)), some (zi ((sk.length : Nat) : Int)), some (zi 0)] rfl rfl rfl (Nat.le_of_ble_eq_true rfl) rfl rfl ?_
  exact c89_loop D h hs6 hsk hx hf ⟨rfl, rfl⟩ _ 0 rfl (Nat.zero_le _) (fun j hj => absurd hj (Nat.not_lt_zero j))
end C13
