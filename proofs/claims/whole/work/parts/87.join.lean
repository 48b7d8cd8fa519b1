/-! OURS, printed by wip/tools/gen87.py: one text added and looked at; a front joined with all backs. -/
/-- a text is added; if it was there, it may be the least that comes twice -/
def al (w : Nat) (M : mm) (t : Int) : mm := if M.2.1 w t = true then (if M.1 2 3 = -1 ∨ t < M.1 2 3 then sI M 2 3 t else M) else rB M w (adB (M.2.1 w) t)
/-- nothing else changes -/
def Fa (w : Nat) (M M' : mm) : Prop := (∀ a, a ≠ 2 → M'.1 a = M.1 a) ∧ M'.1 2 2 = M.1 2 2 ∧ (∀ a, a ≠ w → M'.2.1 a = M.2.1 a) ∧ M'.2.2 = M.2.2
theorem Fa_refl (w : Nat) (M : mm) : Fa w M M := ⟨fun _ _ => rfl, rfl, fun _ _ => rfl, rfl⟩
theorem Fa_trans {w : Nat} {M M' M'' : mm} (h : Fa w M M') (k : Fa w M' M'') : Fa w M M'' := ⟨fun a ha => (k.1 a ha).trans (h.1 a ha), k.2.1.trans h.2.1, fun a ha => (k.2.2.1 a ha).trans (h.2.2.1 a ha), k.2.2.2.trans h.2.2.2⟩
theorem al_Fa (w : Nat) (M : mm) (t : Int) : Fa w M (al w M t) := by
  unfold al
  split
  · split
    · exact ⟨fun a ha => sI_ne ha, rd_nk (by decide), fun _ _ => rfl, rfl⟩
    · exact Fa_refl w M
  · exact ⟨fun _ _ => rfl, rfl, fun a ha => rB_ne ha, rfl⟩
theorem alf_Fa (w : Nat) (f : Nat → Int) (l : List Nat) (M : mm) : Fa w M (l.foldl (fun M b => al w M (f b)) M) := by
  induction l generalizing M with
  | nil => exact Fa_refl w M
  | cons b l ih => exact Fa_trans (al_Fa w M (f b)) (ih _)
/-- what a set holds, and the least of D -/
def JS (w : Nat) (M : mm) (R D : Nat → Prop) : Prop := (∀ t : Nat, t < 1152 → (M.2.1 w (t : Int) = true ↔ R t)) ∧ lst D (M.1 2 3)
theorem al_JS {w : Nat} {M : mm} {R D : Nat → Prop} (h : JS w M R D) {t : Nat} (ht : t < 1152) : JS w (al w M t) (fun x => R x ∨ x = t) (fun x => D x ∨ (x = t ∧ R t)) := by
  unfold al
  split
  · rename_i hb
    have hR := (h.1 t ht).mp hb
    split
    · rename_i hc
      refine ⟨fun x hx => ⟨fun e => .inl ((h.1 x hx).mp e), fun e => (h.1 x hx).mpr (e.elim id (fun e => by rw [e]; exact hR))⟩, ?_⟩
      rw [rd_eq]
      refine .inr ⟨t, rfl, .inr ⟨rfl, hR⟩, fun s hs e => ?_⟩
      rcases e with e | e
      · rcases h.2 with ⟨h1, h2⟩ | ⟨u, h1, h2, h3⟩
        · exact h2 s e
        · rcases hc with hc | hc
          · omega
          · exact h3 s (by omega) e
      · omega
    · rename_i hc
      refine ⟨fun x hx => ⟨fun e => .inl ((h.1 x hx).mp e), fun e => (h.1 x hx).mpr (e.elim id (fun e => by rw [e]; exact hR))⟩, ?_⟩
      rcases h.2 with ⟨h1, h2⟩ | ⟨u, h1, h2, h3⟩
      · exact absurd (.inl h1) hc
      · refine .inr ⟨u, h1, .inl h2, fun s hs e => ?_⟩
        rcases e with e | e
        · exact h3 s hs e
        · have : ¬ ((t : Int) < M.1 2 3) := fun e => hc (.inr e)
          omega
  · rename_i hb
    have hR : ¬ R t := fun e => hb ((h.1 t ht).mpr e)
    refine ⟨fun x hx => ?_, lst_congr (fun x => ⟨fun e => .inl e, fun e => e.elim id (fun e => absurd e.2 hR)⟩) h.2⟩
    rw [rB_at]
    unfold adB
    rw [Bool.or_eq_true, decide_eq_true_eq, h.1 x hx]
    exact ⟨fun e => e.elim .inl (fun e => .inr (by omega)), fun e => e.elim .inl (fun e => .inr (by omega))⟩
theorem alf_JS {w : Nat} (f : Nat → Nat) (l : List Nat) {M : mm} {R D : Nat → Prop} (h : JS w M R D) (hl : ∀ b ∈ l, f b < 1152) (hn : l.Nodup) (hi : ∀ b ∈ l, ∀ c ∈ l, f b = f c → b = c) : JS w (l.foldl (fun M b => al w M ((f b : Nat) : Int)) M) (fun x => R x ∨ ∃ b, b ∈ l ∧ x = f b) (fun x => D x ∨ (R x ∧ ∃ b, b ∈ l ∧ x = f b)) := by
  induction l generalizing M R D with
  | nil =>
    refine ⟨fun x hx => ?_, lst_congr (fun x => ⟨.inl, fun e => e.elim id (fun ⟨_, b, hb, _⟩ => by cases hb)⟩) h.2⟩
    rw [List.foldl_nil, h.1 x hx]
    exact ⟨.inl, fun e => e.elim id (fun ⟨b, hb, _⟩ => by cases hb)⟩
  | cons b l ih =>
    rw [List.foldl_cons]
    have hb := hl b (List.mem_cons_self ..)
    have h1 := al_JS h hb
    have hnd := List.nodup_cons.mp hn
    have h2 := ih h1 (fun c hc => hl c (List.mem_cons_of_mem _ hc)) hnd.2 (fun c hc e he => hi c (List.mem_cons_of_mem _ hc) e (List.mem_cons_of_mem _ he))
    have hx0 : ∀ c, c ∈ l → f c ≠ f b := fun c hc e => hnd.1 (hi c (List.mem_cons_of_mem _ hc) b (List.mem_cons_self ..) e ▸ hc)
    refine ⟨fun x hx => ?_, lst_congr (fun x => ?_) h2.2⟩
    · rw [h2.1 x hx]
      constructor
      · rintro ((e | e) | ⟨c, hc, e⟩)
        · exact .inl e
        · exact .inr ⟨b, List.mem_cons_self .., e⟩
        · exact .inr ⟨c, List.mem_cons_of_mem _ hc, e⟩
      · rintro (e | ⟨c, hc, e⟩)
        · exact .inl (.inl e)
        · rcases List.mem_cons.mp hc with k | k
          · subst k; exact .inl (.inr e)
          · exact .inr ⟨c, k, e⟩
    · constructor
      · rintro ((e | ⟨e1, e2⟩) | ⟨e1, c, hc, e⟩)
        · exact .inl e
        · exact .inr ⟨e1 ▸ e2, b, List.mem_cons_self .., e1⟩
        · rcases e1 with e1 | e1
          · exact .inr ⟨e1, c, List.mem_cons_of_mem _ hc, e⟩
          · exact absurd (e.symm.trans e1) (hx0 c hc)
      · rintro (e | ⟨e1, c, hc, e⟩)
        · exact .inl (.inl e)
        · rcases List.mem_cons.mp hc with k | k
          · subst k; exact .inl (.inr ⟨e, e ▸ e1⟩)
          · exact .inr ⟨.inl e1, c, k, e⟩
theorem el_mem {B : Int → Bool} {m b : Nat} : b ∈ el B m ↔ b < m ∧ B (b : Int) = true := by
  unfold el
  rw [List.mem_filter, List.mem_range]
theorem el_nodup (B : Int → Bool) (m : Nat) : (el B m).Nodup := List.Pairwise.filter _ List.nodup_range
theorem el_pre (B : Int → Bool) {m n : Nat} (h : m ≤ n) : ∃ l, el B n = el B m ++ l ∧ ∀ b ∈ l, m ≤ b := by
  obtain ⟨k, rfl⟩ := Nat.le.dest h
  induction k with
  | zero => exact ⟨[], by simp, fun b hb => by cases hb⟩
  | succ k ih =>
    obtain ⟨l, e, hl⟩ := ih (by omega)
    rw [← Nat.add_assoc, el_succ]
    by_cases hb : B ((m + k : Nat) : Int) = true
    · rw [if_pos hb, e]
      refine ⟨l ++ [m + k], by rw [List.append_assoc], fun b hb => ?_⟩
      rcases List.mem_append.mp hb with e | e
      · exact hl b e
      · rw [List.mem_singleton.mp e]; omega
    · rw [if_neg hb]
      exact ⟨l, e, hl⟩
theorem el_take (B : Int → Bool) {m n : Nat} (h : m ≤ n) : (el B n).take (el B m).length = el B m := by
  obtain ⟨l, e, _⟩ := el_pre B h
  rw [e, List.take_left]
theorem el_len_mono (B : Int → Bool) {m n : Nat} (h : m ≤ n) : (el B m).length ≤ (el B n).length := by
  obtain ⟨l, e, _⟩ := el_pre B h
  rw [e, List.length_append]; omega
theorem el_lt (B : Int → Bool) {m n : Nat} (h : m ≤ n) {i : Nat} (hi : i < (el B n).length) : (el B n).getD i 0 < m ↔ i < (el B m).length := by
  obtain ⟨l, e, hl⟩ := el_pre B h
  rw [List.getD_eq_getElem?_getD]
  constructor
  · intro hv
    rcases Nat.lt_or_ge i (el B m).length with k | k
    · exact k
    · rw [e, List.getElem?_append_right k] at hv
      rw [e, List.length_append] at hi
      have h2 : i - (el B m).length < l.length := by omega
      rw [List.getElem?_eq_getElem h2] at hv
      have := hl _ (List.getElem_mem h2)
      simp at hv
      omega
  · intro k
    rw [e, List.getElem?_append_left k, List.getElem?_eq_getElem k]
    exact (el_mem.mp (List.getElem_mem k)).1
theorem el_getD_mem (B : Int → Bool) {n i : Nat} (hi : i < (el B n).length) : (el B n).getD i 0 ∈ el B n := by
  rw [List.getD_eq_getElem?_getD, List.getElem?_eq_getElem hi]
  exact List.getElem_mem hi
theorem take_snoc (l : List Nat) {i : Nat} (hi : i < l.length) : l.take (i + 1) = l.take i ++ [l.getD i 0] := by
  rw [List.take_add_one, List.getElem?_eq_getElem hi, List.getD_eq_getElem?_getD, List.getElem?_eq_getElem hi]
  rfl
/-- a front's number and a back's make the number of both -/
theorem num_dist {u : List Nat} (b : Nat) {l : Nat} (hb : (tx_let b).length = l) : (b : Int) + (((tx_st (u.length + l) : Nat) : Int) + ((tx_num u : Int) - ((tx_st u.length : Nat) : Int)) * ((3 ^ l : Nat) : Int) - ((tx_st l : Nat) : Int)) = ((tx_num (u ++ tx_let b) : Nat) : Int) := by
  have e1 : (tx_num u : Int) - ((tx_st u.length : Nat) : Int) = ((tx_val u : Nat) : Int) := by unfold tx_num; omega
  have e2 : b = tx_st l + tx_val (tx_let b) := by
    have := tx_num_let b
    unfold tx_num at this
    rw [hb] at this
    exact this.symm
  rw [tx_num_app, hb, e1, Int.natCast_add, Int.natCast_add, Int.natCast_mul]
  omega
section C5
variable {L : Nat} {xs : Nat → Int32} {M : mm} {es : ab_H}
theorem c37 (d : Nat) {s w : Nat} (h : isT s w) {t : Int} (h0 : 0 ≤ t) (h1 : t < 1093) (hr : rg (M.1 2 3)) : ab_S (pg_G L xs) (d + 2) 37 [.ref 2, zi t, .ref s] (hp M ++ es) none (hp (al w M t) ++ es) := by
  show ab_W (pg_G L xs) (ab_X (pg_G L xs) (d + 1)) 37 _ 0 [some (.ref 2), some (zi t), some (.ref s)] [] (hp M ++ es)
  refine x_ld 2 1 2 1 rfl rfl rfl rfl rfl ?_
  refine x_ld 1 1 0 2 rfl rfl rfl rfl rfl ?_
  refine x_cv 38 38 5 [.ref s, zi t] rfl rfl rfl (Nat.le_of_ble_eq_true rfl) rfl rfl (Nat.le_of_ble_eq_true rfl) ⟨_, _, _, rfl, oT h⟩ (Nat.le_of_ble_eq_true rfl) (c38 d h (t := t) ⟨by omega, by omega⟩) rfl ?_
  rw [hasB_in (B := M.2.1 w) (t := t) (by omega) (by omega)]
  rcases Bool.eq_false_or_eq_true (M.2.1 w t) with hb | hb
  · rw [hb]
    refine z_ifne 16 8 rfl rfl rfl (rg_lit 1 rfl) (fun _ => ?_) (fun c => absurd c (by decide))
    refine x_ld 0 1 2 17 rfl rfl rfl rfl rfl ?_
    refine g_2_3 22 20 rfl rfl rfl rfl ?_
    refine x_cst (zi (-1)) 1 21 rfl rfl rfl ?_
    refine z_iceq 32 24 rfl rfl rfl hr (rg_lit (-1) rfl) (fun c21 => ?_) (fun c21 => ?_)
    · refine x_ld 0 1 2 33 rfl rfl rfl rfl rfl ?_
      refine x_ld 1 1 0 34 rfl rfl rfl rfl rfl ?_
      refine s_2_3 22 37 rfl rfl rfl rfl rfl rfl ?_
      refine x_rtv rfl rfl ?_
      exact ⟨rfl, by unfold al; rw [if_pos hb, if_pos (.inl c21)]⟩
    · refine x_ld 1 1 0 25 rfl rfl rfl rfl rfl ?_
      refine x_ld 0 1 2 26 rfl rfl rfl rfl rfl ?_
      refine g_2_3 22 29 rfl rfl rfl rfl ?_
      refine z_icge 37 32 rfl rfl rfl ⟨by omega, by omega⟩ hr (fun c29 => ?_) (fun c29 => ?_)
      · refine x_rtv rfl rfl ?_
        exact ⟨rfl, by unfold al; rw [if_pos hb, if_neg (fun e => e.elim c21 (fun e => by omega))]⟩
      · refine x_ld 0 1 2 33 rfl rfl rfl rfl rfl ?_
        refine x_ld 1 1 0 34 rfl rfl rfl rfl rfl ?_
        refine s_2_3 22 37 rfl rfl rfl rfl rfl rfl ?_
        refine x_rtv rfl rfl ?_
        exact ⟨rfl, by unfold al; rw [if_pos hb, if_pos (.inr (by omega))]⟩
  · rw [hb]
    refine z_ifne 16 8 rfl rfl rfl (rg_lit 0 rfl) (fun c => absurd c (by decide)) (fun _ => ?_)
    refine x_ld 2 1 2 9 rfl rfl rfl rfl rfl ?_
    refine x_ld 1 1 0 10 rfl rfl rfl rfl rfl ?_
    refine x_cv 42 39 13 [.ref s, zi t] rfl rfl rfl (Nat.le_of_ble_eq_true rfl) rfl rfl (Nat.le_of_ble_eq_true rfl) ⟨_, _, _, rfl, oT h⟩ (Nat.le_of_ble_eq_true rfl) (c39 d h h0 h1) rfl ?_
    refine x_go 37 rfl rfl ?_
    refine x_rtv rfl rfl ?_
    exact ⟨rfl, by unfold al; rw [if_neg (by rw [hb]; decide)]⟩
theorem al_rg {w : Nat} {M : mm} {t : Int} (h0 : -1 ≤ t) (h1 : t < 1093) (hr : -1 ≤ M.1 2 3 ∧ M.1 2 3 < 1093) : -1 ≤ (al w M t).1 2 3 ∧ (al w M t).1 2 3 < 1093 := by
  unfold al
  split
  · split
    · rw [rd_eq]; omega
    · exact hr
  · exact hr
theorem alf_rg {w : Nat} (f : Nat → Nat) (l : List Nat) (hl : ∀ b ∈ l, f b < 1093) {M : mm} (hr : -1 ≤ M.1 2 3 ∧ M.1 2 3 < 1093) : -1 ≤ (l.foldl (fun M b => al w M ((f b : Nat) : Int)) M).1 2 3 ∧ (l.foldl (fun M b => al w M ((f b : Nat) : Int)) M).1 2 3 < 1093 := by
  induction l generalizing M with
  | nil => exact hr
  | cons b l ih =>
    have hb := hl b (List.mem_cons_self ..)
    exact ih (fun c hc => hl c (List.mem_cons_of_mem _ hc)) (al_rg (by omega) (by omega) hr)
/-- all backs joined behind a front -/
def aj (B : Int → Bool) (w : Nat) (u : List Nat) (M : mm) (l : List Nat) : mm := l.foldl (fun M b => al w M ((tx_num (u ++ tx_let b) : Nat) : Int)) M
theorem c35_in (d : Nat) {s w : Nat} (h : isT s w) {B : Int → Bool} (hel9 : (el B 1152).length ≤ 1093) (hbc : M.1 2 2 = ((el B 1152).length : Nat)) (hb4 : ∀ i : Nat, i < (el B 1152).length → M.1 4 (i : Int) = ((el B 1152).getD i 0 : Nat)) (hrg : -1 ≤ M.1 2 3 ∧ M.1 2 3 < 1093) {u : List Nat} (hu : tx_L u) (h6 : u.length ≤ 6) (l : Nat) (hl : l + u.length ≤ 6) {Q : ab_Q} (kk : ab_W (pg_G L xs) (ab_X (pg_G L xs) (d + 2)) 35 Q 104 [some (.ref 2), some (zi (tx_num u : Nat)), some (.ref s), some (zi (u.length : Nat)), some (zi ((tx_num u : Int) - (tx_st u.length : Nat))), some (zi ((el B (tx_st (l + 1))).length : Nat)), some (zi (l : Nat)), some (zi (((tx_st (u.length + l) : Nat) : Int) + ((tx_num u : Int) - ((tx_st u.length : Nat) : Int)) * ((3 ^ l : Nat) : Int) - ((tx_st l : Nat) : Int)))] [] (hp (aj B w u M (el B (tx_st (l + 1)))) ++ es)) : ∀ m i : Nat, (el B (tx_st (l + 1))).length - i = m → (el B (tx_st l)).length ≤ i → i ≤ (el B (tx_st (l + 1))).length → ab_W (pg_G L xs) (ab_X (pg_G L xs) (d + 2)) 35 Q 56 [some (.ref 2), some (zi (tx_num u : Nat)), some (.ref s), some (zi (u.length : Nat)), some (zi ((tx_num u : Int) - (tx_st u.length : Nat))), some (zi (i : Nat)), some (zi (l : Nat)), some (zi (((tx_st (u.length + l) : Nat) : Int) + ((tx_num u : Int) - ((tx_st u.length : Nat) : Int)) * ((3 ^ l : Nat) : Int) - ((tx_st l : Nat) : Int)))] [] (hp (aj B w u M ((el B 1152).take i)) ++ es) := by
  have hs7 : tx_st (l + 1) ≤ 1093 := tx_st_mono (show l + 1 ≤ 7 by omega)
  have hmo : (el B (tx_st (l + 1))).length ≤ (el B 1152).length := el_len_mono B (by omega)
  have hle := el_len B 1152
  intro m
  induction m using Nat.strongRecOn with
  | _ m ih =>
    intro i hm h0 h1
    have hFa : Fa w M (aj B w u M ((el B 1152).take i)) := alf_Fa w (fun b => ((tx_num (u ++ tx_let b) : Nat) : Int)) _ M
    have hc' : (aj B w u M ((el B 1152).take i)).1 2 2 = ((el B 1152).length : Nat) := hFa.2.1.trans hbc
    have hall : ∀ b ∈ (el B 1152).take i, (tx_let b).length ≤ l := by
      intro b hb
      rw [tx_let_len]
      obtain ⟨q, hq, e⟩ := List.mem_take_iff_getElem.mp hb
      have h2 := (el_lt B (show tx_st (l + 1) ≤ 1152 by omega) (show q < (el B 1152).length by omega)).mpr (by omega)
      rw [List.getD_eq_getElem?_getD, List.getElem?_eq_getElem (by omega)] at h2
      rw [← e]; exact h2
    refine x_ld 5 2 0 58 rfl rfl rfl rfl rfl ?_
    refine x_ld 0 1 2 59 rfl rfl rfl rfl rfl ?_
    refine g_2_2 18 62 rfl rfl hc' rfl ?_
    refine z_icge 104 65 rfl rfl rfl ⟨by omega, by omega⟩ ⟨by omega, by omega⟩ (fun c62 => ?_) (fun c62 => ?_)
    · have e : i = (el B (tx_st (l + 1))).length := by omega
      rw [e, el_take B (by omega)]; exact kk
    · have hil : i < (el B 1152).length := by omega
      have hb' : (aj B w u M ((el B 1152).take i)).1 4 (i : Int) = (((el B 1152).getD i 0 : Nat) : Int) := by rw [hFa.1 4 (by decide)]; exact hb4 i hil
      have hel := el_lt B (show tx_st (l + 1) ≤ 1152 by omega) hil
      have hbl := (el_mem.mp (el_getD_mem B hil)).1
      refine x_ld 0 1 2 66 rfl rfl rfl rfl rfl ?_
      refine g_2_1 15 69 rfl rfl rfl ?_
      refine x_ld 5 2 0 71 rfl rfl rfl rfl rfl ?_
      refine z_ild (((el B 1152).getD i 0 : Nat) : Int) 72 rfl i_4 rfl ⟨by omega, by omega⟩ hb' rfl ?_
      refine x_sta 46 1000000 75 rfl rfl rfl ?_
      refine x_ld 6 2 0 77 rfl rfl rfl rfl rfl ?_
      refine x_cst (zi 1) 1 78 rfl rfl rfl ?_
      refine z_add 79 rfl rfl ?_
      refine z_st (l + 1) 80 rfl (by omega) (by omega) rfl ?_
      refine z_icge 104 83 rfl rfl rfl ⟨by omega, by omega⟩ ⟨by omega, by omega⟩ (fun c80 => ?_) (fun c80 => ?_)
      · have e : i = (el B (tx_st (l + 1))).length := by omega
        rw [e, el_take B (by omega)]; exact kk
      · refine x_ld 0 1 2 84 rfl rfl rfl rfl rfl ?_
        refine x_ld 0 1 2 85 rfl rfl rfl rfl rfl ?_
        refine g_2_1 15 88 rfl rfl rfl ?_
        refine x_ld 5 2 0 90 rfl rfl rfl rfl rfl ?_
        have hi1 : i < (el B (tx_st (l + 1))).length := by omega
        have hel0 := el_lt B (show tx_st l ≤ 1152 by have := tx_st_mono (show l ≤ l + 1 by omega); omega) hil
        have hlen : (tx_let ((el B 1152).getD i 0)).length = l := by
          have q1 := (tx_let_len ((el B 1152).getD i 0) l).mpr (by omega)
          rcases Nat.eq_zero_or_pos l with z | z
          · omega
          · have q2 := tx_let_len ((el B 1152).getD i 0) (l - 1)
            rw [show l - 1 + 1 = l by omega] at q2
            omega
        have hnd := num_dist (u := u) ((el B 1152).getD i 0) hlen
        have hn2 : tx_num (u ++ tx_let ((el B 1152).getD i 0)) < 1093 := num_lt (tx_L_app.mpr ⟨hu, tx_let_L _⟩) (by rw [List.length_append]; omega)
        have hrg1 := alf_rg (w := w) (fun b => tx_num (u ++ tx_let b)) ((el B 1152).take i) (fun b hb => by have hb2 := hall b hb; exact num_lt (tx_L_app.mpr ⟨hu, tx_let_L _⟩) (by rw [List.length_append]; omega)) hrg
        have hrg' : rg ((aj B w u M ((el B 1152).take i)).1 2 3) := ⟨by have := hrg1.1; unfold aj; omega, by have := hrg1.2; unfold aj; omega⟩
        refine z_ild (((el B 1152).getD i 0 : Nat) : Int) 91 rfl i_4 rfl ⟨by omega, by omega⟩ hb' rfl ?_
        refine x_ld 7 2 0 93 rfl rfl rfl rfl rfl ?_
        refine z_add 94 rfl rfl ?_
        rw [show (((el B 1152).getD i 0 : Nat) : Int) + (((tx_st (u.length + l) : Nat) : Int) + ((tx_num u : Int) - ((tx_st u.length : Nat) : Int)) * ((3 ^ l : Nat) : Int) - ((tx_st l : Nat) : Int)) = ((tx_num (u ++ tx_let ((el B 1152).getD i 0)) : Nat) : Int) from hnd]
        refine x_ld 2 1 2 95 rfl rfl rfl rfl rfl ?_
        refine x_cv 58 37 98 [.ref 2, zi ((tx_num (u ++ tx_let ((el B 1152).getD i 0)) : Nat) : Int), .ref s] rfl rfl rfl (Nat.le_of_ble_eq_true rfl) rfl rfl (Nat.le_of_ble_eq_true rfl) ⟨_, _, _, rfl, o_2⟩ (Nat.le_of_ble_eq_true rfl) (c37 d h (M := aj B w u M ((el B 1152).take i)) (t := ((tx_num (u ++ tx_let ((el B 1152).getD i 0)) : Nat) : Int)) (by omega) (by omega) hrg') rfl ?_
        refine z_inc 5 101 [some (.ref 2), some (zi ((tx_num u : Nat) : Int)), some (.ref s), some (zi ((u.length : Nat) : Int)), some (zi (((tx_num u : Nat) : Int) - ((tx_st u.length : Nat) : Int))), some (zi (((i : Nat) : Int) + 1)), some (zi ((l : Nat) : Int)), some (zi (((tx_st (u.length + l) : Nat) : Int) + ((tx_num u : Int) - ((tx_st u.length : Nat) : Int)) * ((3 ^ l : Nat) : Int) - ((tx_st l : Nat) : Int)))] rfl rfl (Nat.le_of_ble_eq_true rfl) rfl rfl ?_
        refine x_go 56 rfl rfl ?_
        have hts := take_snoc (el B 1152) hil
        have hme : al w (aj B w u M ((el B 1152).take i)) ((tx_num (u ++ tx_let ((el B 1152).getD i 0)) : Nat) : Int) = aj B w u M ((el B 1152).take (i + 1)) := by unfold aj; rw [hts, List.foldl_append]; rfl
        rw [hme]
        exact ih ((el B (tx_st (l + 1))).length - (i + 1)) (by omega) (i + 1) rfl (by omega) (by omega)
theorem c35_out (d : Nat) {s w : Nat} (h : isT s w) {B : Int → Bool} (hel9 : (el B 1152).length ≤ 1093) (hbc : M.1 2 2 = ((el B 1152).length : Nat)) (hb4 : ∀ i : Nat, i < (el B 1152).length → M.1 4 (i : Int) = ((el B 1152).getD i 0 : Nat)) (hrg : -1 ≤ M.1 2 3 ∧ M.1 2 3 < 1093) {u : List Nat} (hu : tx_L u) (h6 : u.length ≤ 6) {Q : ab_Q} (kk : Q (.inl none) (hp (aj B w u M (el B (tx_st (7 - u.length)))) ++ es)) : ∀ m l : Nat, 7 - u.length - l = m → l ≤ 7 - u.length → ∀ o7, ab_W (pg_G L xs) (ab_X (pg_G L xs) (d + 2)) 35 Q 20 [some (.ref 2), some (zi (tx_num u : Nat)), some (.ref s), some (zi (u.length : Nat)), some (zi ((tx_num u : Int) - (tx_st u.length : Nat))), some (zi ((el B (tx_st l)).length : Nat)), some (zi (l : Nat)), o7] [] (hp (aj B w u M (el B (tx_st l))) ++ es) := by
  intro m
  induction m using Nat.strongRecOn with
  | _ m ih =>
    intro l hm hl o7
    refine x_ld 6 2 0 22 rfl rfl rfl rfl rfl ?_
    refine x_cst (zi 6) 2 24 rfl rfl rfl ?_
    refine x_ld 3 1 0 25 rfl rfl rfl rfl rfl ?_
    refine z_sub 26 rfl rfl ?_
    refine z_icgt 110 29 rfl rfl rfl ⟨by omega, by omega⟩ ⟨by omega, by omega⟩ (fun c26 => ?_) (fun c26 => ?_)
    · refine x_rtv rfl rfl ?_
      have e : l = 7 - u.length := by omega
      subst e; exact kk
    · refine x_sta 46 1000000 32 rfl rfl rfl ?_
      refine x_ld 3 1 0 33 rfl rfl rfl rfl rfl ?_
      refine x_ld 6 2 0 35 rfl rfl rfl rfl rfl ?_
      refine z_add 36 rfl rfl ?_
      refine z_st (u.length + l) 37 rfl (by omega) (by omega) rfl ?_
      refine x_ld 4 2 0 39 rfl rfl rfl rfl rfl ?_
      refine x_sta 55 1000001 42 rfl rfl rfl ?_
      refine x_ld 6 2 0 44 rfl rfl rfl rfl rfl ?_
      refine z_pw (l) 45 rfl (by omega) (by omega) rfl ?_
      refine z_mul 46 rfl rfl ?_
      refine z_add 47 rfl rfl ?_
      refine x_sta 46 1000000 50 rfl rfl rfl ?_
      refine x_ld 6 2 0 52 rfl rfl rfl rfl rfl ?_
      refine z_st (l) 53 rfl (by omega) (by omega) rfl ?_
      refine z_sub 54 rfl rfl ?_
      refine x_st 7 2 0 56 [some (.ref 2), some (zi ((tx_num u : Nat) : Int)), some (.ref s), some (zi ((u.length : Nat) : Int)), some (zi (((tx_num u : Nat) : Int) - ((tx_st u.length : Nat) : Int))), some (zi (((el B (tx_st l)).length : Nat) : Int)), some (zi ((l : Nat) : Int)), some (zi ((((tx_st (u.length + l) : Nat) : Int) + ((((tx_num u : Nat) : Int) - ((tx_st u.length : Nat) : Int)) * ((3 ^ (l) : Nat) : Int))) - ((tx_st (l) : Nat) : Int)))] rfl rfl rfl (Nat.le_of_ble_eq_true rfl) rfl rfl ?_
      have hts := el_take B (show tx_st l ≤ 1152 by have := tx_st_mono (show l ≤ 7 by omega); rw [tx_st_7] at this; omega)
      rw [← hts]
      rw [show (List.take (el B (tx_st l)).length (el B 1152)).length = (el B (tx_st l)).length by rw [hts]]
      refine c35_in d h hel9 hbc hb4 hrg hu h6 l (by omega) ?_ _ _ rfl (Nat.le_refl _) (el_len_mono B (tx_st_mono (by omega)))
      refine z_inc 6 107 [some (.ref 2), some (zi (tx_num u : Nat)), some (.ref s), some (zi (u.length : Nat)), some (zi ((tx_num u : Int) - (tx_st u.length : Nat))), some (zi ((el B (tx_st (l + 1))).length : Nat)), some (zi ((l : Int) + 1)), some (zi (((tx_st (u.length + l) : Nat) : Int) + ((tx_num u : Int) - ((tx_st u.length : Nat) : Int)) * ((3 ^ l : Nat) : Int) - ((tx_st l : Nat) : Int)))] rfl rfl (Nat.le_of_ble_eq_true rfl) rfl rfl ?_
      refine x_go 20 rfl rfl ?_
      exact ih (7 - u.length - (l + 1)) (by omega) (l + 1) rfl (by omega) _
theorem c35 (d : Nat) {s w : Nat} (h : isT s w) {B : Int → Bool} (hel9 : (el B 1152).length ≤ 1093) (hbc : M.1 2 2 = ((el B 1152).length : Nat)) (hb4 : ∀ i : Nat, i < (el B 1152).length → M.1 4 (i : Int) = ((el B 1152).getD i 0 : Nat)) (hrg : -1 ≤ M.1 2 3 ∧ M.1 2 3 < 1093) {u : List Nat} (hu : tx_L u) (h6 : u.length ≤ 6) : ab_S (pg_G L xs) (d + 3) 35 [.ref 2, zi (tx_num u : Nat), .ref s] (hp M ++ es) none (hp (aj B w u M (el B (tx_st (7 - u.length)))) ++ es) := by
  show ab_W (pg_G L xs) (ab_X (pg_G L xs) (d + 2)) 35 _ 0 [some (.ref 2), some (zi ((tx_num u : Nat) : Int)), some (.ref s), none, none, none, none, none] [] (hp M ++ es)
  refine x_ld 1 1 0 1 rfl rfl rfl rfl rfl ?_
  refine x_cv 49 36 4 [zi ((tx_num u : Nat) : Int)] rfl rfl rfl (Nat.le_of_ble_eq_true rfl) rfl rfl (Nat.le_of_ble_eq_true rfl) trivial (Nat.le_of_ble_eq_true rfl) (c36 (d + 1) hu h6) rfl ?_
  refine x_st 3 1 0 5 [some (.ref 2), some (zi ((tx_num u : Nat) : Int)), some (.ref s), some (zi ((u.length : Nat) : Int)), none, none, none, none] rfl rfl rfl (Nat.le_of_ble_eq_true rfl) rfl rfl ?_
  refine x_ld 1 1 0 6 rfl rfl rfl rfl rfl ?_
  refine x_sta 46 1000000 9 rfl rfl rfl ?_
  refine x_ld 3 1 0 10 rfl rfl rfl rfl rfl ?_
  refine z_st (u.length) 11 rfl (by omega) (by omega) rfl ?_
  refine z_sub 12 rfl rfl ?_
  refine x_st 4 2 0 14 [some (.ref 2), some (zi ((tx_num u : Nat) : Int)), some (.ref s), some (zi ((u.length : Nat) : Int)), some (zi (((tx_num u : Nat) : Int) - ((tx_st (u.length) : Nat) : Int))), none, none, none] rfl rfl rfl (Nat.le_of_ble_eq_true rfl) rfl rfl ?_
  refine x_cst (zi 0) 1 15 rfl rfl rfl ?_
  refine x_st 5 2 0 17 [some (.ref 2), some (zi ((tx_num u : Nat) : Int)), some (.ref s), some (zi ((u.length : Nat) : Int)), some (zi (((tx_num u : Nat) : Int) - ((tx_st (u.length) : Nat) : Int))), some (zi 0), none, none] rfl rfl rfl (Nat.le_of_ble_eq_true rfl) rfl rfl ?_
  refine x_cst (zi 0) 1 18 rfl rfl rfl ?_
  refine x_st 6 2 0 20 [some (.ref 2), some (zi ((tx_num u : Nat) : Int)), some (.ref s), some (zi ((u.length : Nat) : Int)), some (zi (((tx_num u : Nat) : Int) - ((tx_st (u.length) : Nat) : Int))), some (zi 0), some (zi 0), none] rfl rfl rfl (Nat.le_of_ble_eq_true rfl) rfl rfl ?_
  exact c35_out d h hel9 hbc hb4 hrg hu h6 ⟨rfl, rfl⟩ _ 0 rfl (Nat.zero_le _) _
end C5
