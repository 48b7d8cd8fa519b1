/-! OURS, printed by wip/tools/gen88.py: sets joined; a set repeated. -/
/-- t is a front f and a back of B -/
def jo (B : Int → Bool) (f t : Nat) : Prop := ∃ b, b ∈ el B (tx_st (7 - (tx_let f).length)) ∧ t = tx_num (tx_let f ++ tx_let b)
def Fj (w : Nat) (M M' : mm) : Prop := (∀ a, a ≠ 2 → a ≠ 3 → a ≠ 4 → M'.1 a = M.1 a) ∧ (∀ a, a ≠ w → M'.2.1 a = M.2.1 a) ∧ M'.2.2 = M.2.2
theorem jo_lt {B : Int → Bool} {f t : Nat} (hf : f < 1093) (h : jo B f t) : t < 1093 := by
  obtain ⟨b, hb, e⟩ := h
  have h1 := (el_mem.mp hb).1
  have h2 := (tx_let_len f 6).mpr (by rw [tx_st_7]; exact hf)
  have h3 := (tx_let_len b (6 - (tx_let f).length)).mpr (by rw [show 6 - (tx_let f).length + 1 = 7 - (tx_let f).length by omega]; exact h1)
  rw [e]
  exact num_lt (tx_L_app.mpr ⟨tx_let_L _, tx_let_L _⟩) (by rw [List.length_append]; omega)
theorem jo_cut {B : Int → Bool} {f t : Nat} (hf : f < 1093) (h : jo B f t) : (tx_let f).length ≤ (tx_let t).length ∧ (tx_let t).take (tx_let f).length = tx_let f ∧ B (tx_num ((tx_let t).drop (tx_let f).length) : Nat) = true := by
  obtain ⟨b, hb, e⟩ := h
  have e2 : tx_let t = tx_let f ++ tx_let b := by rw [e, tx_let_num (tx_L_app.mpr ⟨tx_let_L _, tx_let_L _⟩)]
  rw [e2]
  refine ⟨by rw [List.length_append]; omega, by simp, ?_⟩
  rw [List.drop_left, tx_num_let]
  exact (el_mem.mp hb).2
theorem jo_mk {B : Int → Bool} {t i : Nat} (ht : t < 1093) (hi : i ≤ (tx_let t).length) (hB : B (tx_num ((tx_let t).drop i) : Nat) = true) : jo B (tx_num ((tx_let t).take i)) t := by
  have h6 := (tx_let_len t 6).mpr (by rw [tx_st_7]; exact ht)
  have hl := tx_let_L t
  have h1 : tx_let (tx_num ((tx_let t).take i)) = (tx_let t).take i := tx_let_num (tx_L_take hl i)
  have h2 : tx_let (tx_num ((tx_let t).drop i)) = (tx_let t).drop i := tx_let_num (tx_L_drop hl i)
  refine ⟨tx_num ((tx_let t).drop i), el_mem.mpr ⟨?_, hB⟩, ?_⟩
  · rw [h1, List.length_take, show 7 - min i (tx_let t).length = (6 - i) + 1 by omega]
    refine (tx_len_le (tx_L_drop hl i)).mp ?_
    rw [List.length_drop]; omega
  · rw [h1, h2, List.take_append_drop, tx_num_let]
theorem jn_jo {A B : Int → Bool} (t : Nat) : jn (sN A) (sN B) t ↔ ∃ f : Nat, f < 1093 ∧ A (f : Int) = true ∧ jo B f t := by
  constructor
  · rintro ⟨ht, i, hi, hc⟩
    have hc := Bool.and_eq_true_iff.mp hc
    have h6 := (tx_let_len t 6).mpr (by rw [tx_st_7]; exact ht)
    exact ⟨_, num_lt (tx_L_take (tx_let_L t) i) (by rw [List.length_take]; omega), hc.1, jo_mk ht hi hc.2⟩
  · rintro ⟨f, hf, hA, hj⟩
    obtain ⟨h1, h2, h3⟩ := jo_cut hf hj
    refine ⟨jo_lt hf hj, (tx_let f).length, h1, ?_⟩
    unfold cp
    rw [h2, tx_num_let]
    exact Bool.and_eq_true_iff.mpr ⟨hA, h3⟩
theorem jn2_jo {A B : Int → Bool} (t : Nat) : jn2 (sN A) (sN B) t ↔ ∃ f g : Nat, f ≠ g ∧ f < 1093 ∧ g < 1093 ∧ A (f : Int) = true ∧ A (g : Int) = true ∧ jo B f t ∧ jo B g t := by
  constructor
  · rintro ⟨ht, i, j, hij, hj, hc, hd⟩
    have hc := Bool.and_eq_true_iff.mp hc
    have hd := Bool.and_eq_true_iff.mp hd
    have hl := tx_let_L t
    have h6 := (tx_let_len t 6).mpr (by rw [tx_st_7]; exact ht)
    refine ⟨_, _, ?_, num_lt (tx_L_take hl i) (by rw [List.length_take]; omega), num_lt (tx_L_take hl j) (by rw [List.length_take]; omega), hc.1, hd.1, jo_mk ht (by omega) hc.2, jo_mk ht hj hd.2⟩
    intro e
    have := congrArg List.length (tx_inj (tx_L_take hl i) (tx_L_take hl j) e)
    rw [List.length_take, List.length_take] at this
    omega
  · rintro ⟨f, g, hne, hf, hg, hA, hC, hj, hk⟩
    obtain ⟨h1, h2, h3⟩ := jo_cut hf hj
    obtain ⟨k1, k2, k3⟩ := jo_cut hg hk
    have q1 : cp (sN A) (sN B) (tx_let t) (tx_let f).length = true := by
      unfold cp
      rw [h2, tx_num_let]
      exact Bool.and_eq_true_iff.mpr ⟨hA, h3⟩
    have q2 : cp (sN A) (sN B) (tx_let t) (tx_let g).length = true := by
      unfold cp
      rw [k2, tx_num_let]
      exact Bool.and_eq_true_iff.mpr ⟨hC, k3⟩
    rcases Nat.lt_trichotomy (tx_let f).length (tx_let g).length with e | e | e
    · exact ⟨jo_lt hf hj, _, _, e, k1, q1, q2⟩
    · refine absurd ?_ hne
      rw [← tx_num_let f, ← tx_num_let g, ← h2, ← k2, e]
    · exact ⟨jo_lt hf hj, _, _, e, h1, q2, q1⟩
/-- one more front -/
theorem aj_JS {B : Int → Bool} {w : Nat} {M : mm} {R D : Nat → Prop} (h : JS w M R D) {f : Nat} (hf : f < 1093) : JS w (aj B w (tx_let f) M (el B (tx_st (7 - (tx_let f).length)))) (fun t => R t ∨ jo B f t) (fun t => D t ∨ (R t ∧ jo B f t)) := by
  refine alf_JS (fun b => tx_num (tx_let f ++ tx_let b)) _ h ?_ (el_nodup _ _) ?_
  · intro b hb
    have := jo_lt hf ⟨b, hb, rfl⟩
    omega
  · intro b hb c hc e
    have := List.append_cancel_left (tx_inj (tx_L_app.mpr ⟨tx_let_L f, tx_let_L b⟩) (tx_L_app.mpr ⟨tx_let_L f, tx_let_L c⟩) e)
    rw [← tx_num_let b, ← tx_num_let c, this]
theorem aj_Fa (B : Int → Bool) (w : Nat) (u : List Nat) (M : mm) (l : List Nat) : Fa w M (aj B w u M l) := alf_Fa w (fun b => ((tx_num (u ++ tx_let b) : Nat) : Int)) l M
theorem lst_rg {D : Nat → Prop} {x : Int} (h : lst D x) (hD : ∀ t, D t → t < 1093) : -1 ≤ x ∧ x < 1093 := by
  rcases h with ⟨h1, _⟩ | ⟨t, h1, h2, _⟩
  · omega
  · have := hD t h2
    omega
theorem el_9 {B : Int → Bool} (hB : ∀ t : Nat, 1093 ≤ t → t < 1152 → B (t : Int) = false) : (el B 1152).length ≤ 1093 ∧ ∀ f, f ∈ el B 1152 → f < 1093 := by
  have e : el B 1152 = el B 1093 := el_skip B 1093 59 (fun i hi => hB (1093 + i) (by omega) (by omega))
  rw [e]
  exact ⟨el_len B 1093, fun f hf => (el_mem.mp hf).1⟩
theorem lsR_at (l : List Nat) (f : Int → Int) {i : Nat} (hi : i < l.length) : lsR l f (i : Int) = ((l.getD i 0 : Nat) : Int) := by
  unfold lsR
  rw [if_pos (by omega), Int.toNat_natCast]
section C6
variable {L : Nat} {xs : Nat → Int32} {M : mm} {es : ab_H}
theorem c31_loop (d : Nat) {s1 s2 s w : Nat} (h : isT s w) {A B : Int → Bool} (hA : ∀ t : Nat, 1093 ≤ t → t < 1152 → A (t : Int) = false) (hB : ∀ t : Nat, 1093 ≤ t → t < 1152 → B (t : Int) = false) (hbc : M.1 2 2 = ((el B 1152).length : Nat)) (hb4 : ∀ i : Nat, i < (el B 1152).length → M.1 4 (i : Int) = ((el B 1152).getD i 0 : Nat)) (hb3 : ∀ i : Nat, i < (el A 1152).length → M.1 3 (i : Int) = ((el A 1152).getD i 0 : Nat)) {Q : ab_Q} (kk : ∀ M', Fa w M M' → JS w M' (fun t => ∃ f, f ∈ el A 1152 ∧ jo B f t) (fun t => ∃ f g, f ≠ g ∧ f ∈ el A 1152 ∧ g ∈ el A 1152 ∧ jo B f t ∧ jo B g t) → Q (.inl (some (zi (M'.1 2 3)))) (hp M' ++ es)) : ∀ m i : Nat, (el A 1152).length - i = m → i ≤ (el A 1152).length → ∀ M', Fa w M M' → JS w M' (fun t => ∃ f, f ∈ (el A 1152).take i ∧ jo B f t) (fun t => ∃ f g, f ≠ g ∧ f ∈ (el A 1152).take i ∧ g ∈ (el A 1152).take i ∧ jo B f t ∧ jo B g t) → ab_W (pg_G L xs) (ab_X (pg_G L xs) (d + 3)) 31 Q 34 [some (.ref 2), some (.ref s1), some (.ref s2), some (.ref s), some (zi ((el A 1152).length : Nat)), some (zi (i : Nat))] [] (hp M' ++ es) := by
  have hle := (el_9 hA).1
  intro m
  induction m using Nat.strongRecOn with
  | _ m ih =>
    intro i hm hi M' hFa hJS
    refine x_ld 5 2 0 36 rfl rfl rfl rfl rfl ?_
    refine x_ld 4 2 0 38 rfl rfl rfl rfl rfl ?_
    refine z_icge 59 41 rfl rfl rfl ⟨by omega, by omega⟩ ⟨by omega, by omega⟩ (fun c38 => ?_) (fun c38 => ?_)
    · refine x_ld 0 1 2 60 rfl rfl rfl rfl rfl ?_
      refine g_2_3 22 63 rfl rfl rfl rfl ?_
      refine x_ret rfl rfl rfl rfl ?_
      have e : i = (el A 1152).length := by omega
      rw [e, List.take_length] at hJS; exact kk M' hFa hJS
    · have hil : i < (el A 1152).length := by omega
      have hb3' : M'.1 3 (i : Int) = (((el A 1152).getD i 0 : Nat) : Int) := by rw [hFa.1 3 (by decide)]; exact hb3 i hil
      have hm9 := el_getD_mem A hil
      have hf9 := (el_9 hA).2 _ hm9
      have hts := take_snoc (el A 1152) hil
      have hnm : (el A 1152).getD i 0 ∉ (el A 1152).take i := by
        intro hc
        have hnd := el_nodup A 1152
        rw [← List.take_append_drop (i + 1) (el A 1152), hts, List.append_assoc] at hnd
        have := (List.nodup_append.mp hnd).2.2 _ hc _ (List.mem_append_left _ (List.mem_singleton.mpr rfl))
        exact this rfl
      have hrg := lst_rg hJS.2 (fun t ⟨f, g, _, hf, _, hj, _⟩ => jo_lt ((el_9 hA).2 f (List.mem_of_mem_take hf)) hj)
      refine x_ld 0 1 2 42 rfl rfl rfl rfl rfl ?_
      refine x_ld 0 1 2 43 rfl rfl rfl rfl rfl ?_
      refine g_2_0 9 46 rfl rfl rfl ?_
      refine x_ld 5 2 0 48 rfl rfl rfl rfl rfl ?_
      refine z_ild (((el A 1152).getD i 0 : Nat) : Int) 49 rfl i_3 rfl ⟨by omega, by omega⟩ hb3' rfl ?_
      refine x_ld 3 1 2 50 rfl rfl rfl rfl rfl ?_
      refine x_cv 34 35 53 [.ref 2, zi (((el A 1152).getD i 0 : Nat) : Int), .ref s] rfl rfl rfl (Nat.le_of_ble_eq_true rfl) rfl rfl (Nat.le_of_ble_eq_true rfl) ⟨_, _, _, rfl, o_2⟩ (Nat.le_of_ble_eq_true rfl) (by have q := c35 (L := L) (xs := xs) (es := es) (M := M') d h (B := B) (el_9 hB).1 (hFa.2.1.trans hbc) (fun q hq => by rw [hFa.1 4 (by decide)]; exact hb4 q hq) hrg (u := tx_let ((el A 1152).getD i 0)) (tx_let_L _) ((tx_let_len _ 6).mpr (by rw [tx_st_7]; exact hf9)); rw [tx_num_let] at q; exact q) rfl ?_
      refine z_inc 5 56 [some (.ref 2), some (.ref s1), some (.ref s2), some (.ref s), some (zi (((el A 1152).length : Nat) : Int)), some (zi (((i : Nat) : Int) + 1))] rfl rfl (Nat.le_of_ble_eq_true rfl) rfl rfl ?_
      refine x_go 34 rfl rfl ?_
      refine ih ((el A 1152).length - (i + 1)) (by omega) (i + 1) rfl (by omega) _ (Fa_trans hFa (aj_Fa ..)) ?_
      have hJ := aj_JS (B := B) hJS hf9
      refine ⟨fun t ht => ?_, lst_congr (fun t => ?_) hJ.2⟩
      · rw [hJ.1 t ht, hts]
        constructor
        · rintro (⟨f, hf, e⟩ | e)
          · exact ⟨f, List.mem_append_left _ hf, e⟩
          · exact ⟨_, List.mem_append_right _ (List.mem_singleton.mpr rfl), e⟩
        · rintro ⟨f, hf, e⟩
          rcases List.mem_append.mp hf with k | k
          · exact .inl ⟨f, k, e⟩
          · rw [List.mem_singleton.mp k] at e; exact .inr e
      · rw [hts]
        constructor
        · rintro (⟨f, g, h1, h2, h3, h4, h5⟩ | ⟨⟨f, hf, e⟩, e2⟩)
          · exact ⟨f, g, h1, List.mem_append_left _ h2, List.mem_append_left _ h3, h4, h5⟩
          · exact ⟨f, (el A 1152).getD i 0, fun e3 => hnm (by rw [← e3]; exact hf), List.mem_append_left _ hf, List.mem_append_right _ (List.mem_singleton.mpr rfl), e, e2⟩
        · rintro ⟨f, g, h1, h2, h3, h4, h5⟩
          rcases List.mem_append.mp h2 with k | k
          · rcases List.mem_append.mp h3 with q | q
            · exact .inl ⟨f, g, h1, k, q, h4, h5⟩
            · rw [List.mem_singleton.mp q] at h5; exact .inr ⟨⟨f, k, h4⟩, h5⟩
          · rcases List.mem_append.mp h3 with q | q
            · rw [List.mem_singleton.mp k] at h4; exact .inr ⟨⟨g, q, h5⟩, h4⟩
            · exact absurd ((List.mem_singleton.mp k).trans (List.mem_singleton.mp q).symm) h1
theorem c31 (d : Nat) {s1 w1 s2 w2 s w : Nat} (h1 : isT s1 w1) (h2 : isT s2 w2) (h : isT s w) (hA : ∀ t : Nat, 1093 ≤ t → t < 1152 → M.2.1 w1 (t : Int) = false) (hB : ∀ t : Nat, 1093 ≤ t → t < 1152 → M.2.1 w2 (t : Int) = false) : ab_Z (pg_G L xs) (d + 4) 31 [.ref 2, .ref s1, .ref s2, .ref s] M es (fun v M' => ∃ x, v = some (zi x) ∧ lst (jn2 (sN (M.2.1 w1)) (sN (M.2.1 w2))) x ∧ (∀ t : Nat, t < 1152 → (M'.2.1 w (t : Int) = true ↔ jn (sN (M.2.1 w1)) (sN (M.2.1 w2)) t)) ∧ Fj w M M') := by
  show ab_W (pg_G L xs) (ab_X (pg_G L xs) (d + 3)) 31 _ 0 [some (.ref 2), some (.ref s1), some (.ref s2), some (.ref s), none, none] [] (hp M ++ es)
  refine x_ld 1 1 2 1 rfl rfl rfl rfl rfl ?_
  refine x_ld 0 1 2 2 rfl rfl rfl rfl rfl ?_
  refine g_2_0 9 5 rfl rfl rfl ?_
  refine x_cv 25 32 8 [.ref s1, .ref 3] rfl rfl rfl (Nat.le_of_ble_eq_true rfl) rfl rfl (Nat.le_of_ble_eq_true rfl) ⟨_, _, _, rfl, oT h1⟩ (Nat.le_of_ble_eq_true rfl) (c32 (d + 2) h1 i_3 hA) rfl ?_
  refine x_st 4 2 0 10 [some (.ref 2), some (.ref s1), some (.ref s2), some (.ref s), some (zi (((el (M.2.1 w1) 1152).length : Nat) : Int)), none] rfl rfl rfl (Nat.le_of_ble_eq_true rfl) rfl rfl ?_
  refine x_ld 0 1 2 11 rfl rfl rfl rfl rfl ?_
  refine x_ld 2 1 2 12 rfl rfl rfl rfl rfl ?_
  refine x_ld 0 1 2 13 rfl rfl rfl rfl rfl ?_
  refine g_2_1 15 16 rfl rfl rfl ?_
  refine x_cv 25 32 19 [.ref s2, .ref 4] rfl rfl rfl (Nat.le_of_ble_eq_true rfl) rfl rfl (Nat.le_of_ble_eq_true rfl) ⟨_, _, _, rfl, oT h2⟩ (Nat.le_of_ble_eq_true rfl) (c32 (M := (rI M 3 (lsR (el (M.2.1 w1) 1152) (M.1 3)))) (d + 2) h2 i_4 hB) rfl ?_
  refine s_2_2 18 22 rfl rfl rfl rfl rfl rfl ?_
  refine x_ld 0 1 2 23 rfl rfl rfl rfl rfl ?_
  refine x_cst (zi (-1)) 1 24 rfl rfl rfl ?_
  refine s_2_3 22 27 rfl rfl rfl rfl rfl rfl ?_
  refine x_ld 3 1 2 28 rfl rfl rfl rfl rfl ?_
  refine x_cv 31 33 31 [.ref s] rfl rfl rfl (Nat.le_of_ble_eq_true rfl) rfl rfl (Nat.le_of_ble_eq_true rfl) ⟨_, _, _, rfl, oT h⟩ (Nat.le_of_ble_eq_true rfl) (c33 (M := (sI (sI (rI (rI M 3 (lsR (el (M.2.1 w1) 1152) (M.1 3))) 4 (lsR (el (M.2.1 w2) 1152) (M.1 4))) 2 2 (((el (M.2.1 w2) 1152).length : Nat) : Int)) 2 3 (-1))) (d + 1) h) rfl ?_
  refine x_cst (zi 0) 1 32 rfl rfl rfl ?_
  refine x_st 5 2 0 34 [some (.ref 2), some (.ref s1), some (.ref s2), some (.ref s), some (zi (((el (M.2.1 w1) 1152).length : Nat) : Int)), some (zi 0)] rfl rfl rfl (Nat.le_of_ble_eq_true rfl) rfl rfl ?_
  have h22 : (rB (sI (sI (rI (rI M 3 (lsR (el (M.2.1 w1) 1152) (M.1 3))) 4 (lsR (el (M.2.1 w2) 1152) (M.1 4))) 2 2 (((el (M.2.1 w2) 1152).length : Nat) : Int)) 2 3 (-1)) w (clN (M.2.1 w) 18)).1 2 2 = (((el (M.2.1 w2) 1152).length : Nat) : Int) := by show (sI (sI (rI (rI M 3 (lsR (el (M.2.1 w1) 1152) (M.1 3))) 4 (lsR (el (M.2.1 w2) 1152) (M.1 4))) 2 2 (((el (M.2.1 w2) 1152).length : Nat) : Int)) 2 3 (-1)).1 2 2 = _; rw [rd_nk (by decide), rd_eq]
  have h23 : (rB (sI (sI (rI (rI M 3 (lsR (el (M.2.1 w1) 1152) (M.1 3))) 4 (lsR (el (M.2.1 w2) 1152) (M.1 4))) 2 2 (((el (M.2.1 w2) 1152).length : Nat) : Int)) 2 3 (-1)) w (clN (M.2.1 w) 18)).1 2 3 = -1 := by show (sI (sI (rI (rI M 3 (lsR (el (M.2.1 w1) 1152) (M.1 3))) 4 (lsR (el (M.2.1 w2) 1152) (M.1 4))) 2 2 (((el (M.2.1 w2) 1152).length : Nat) : Int)) 2 3 (-1)).1 2 3 = _; rw [rd_eq]
  have h4 : (rB (sI (sI (rI (rI M 3 (lsR (el (M.2.1 w1) 1152) (M.1 3))) 4 (lsR (el (M.2.1 w2) 1152) (M.1 4))) 2 2 (((el (M.2.1 w2) 1152).length : Nat) : Int)) 2 3 (-1)) w (clN (M.2.1 w) 18)).1 4 = lsR (el (M.2.1 w2) 1152) (M.1 4) := by show (sI (sI (rI (rI M 3 (lsR (el (M.2.1 w1) 1152) (M.1 3))) 4 (lsR (el (M.2.1 w2) 1152) (M.1 4))) 2 2 (((el (M.2.1 w2) 1152).length : Nat) : Int)) 2 3 (-1)).1 4 = _; rw [sI_ne (by decide), sI_ne (by decide), rI_at]
  have h3 : (rB (sI (sI (rI (rI M 3 (lsR (el (M.2.1 w1) 1152) (M.1 3))) 4 (lsR (el (M.2.1 w2) 1152) (M.1 4))) 2 2 (((el (M.2.1 w2) 1152).length : Nat) : Int)) 2 3 (-1)) w (clN (M.2.1 w) 18)).1 3 = lsR (el (M.2.1 w1) 1152) (M.1 3) := by show (sI (sI (rI (rI M 3 (lsR (el (M.2.1 w1) 1152) (M.1 3))) 4 (lsR (el (M.2.1 w2) 1152) (M.1 4))) 2 2 (((el (M.2.1 w2) 1152).length : Nat) : Int)) 2 3 (-1)).1 3 = _; rw [sI_ne (by decide), sI_ne (by decide), rI_ne (by decide), rI_at]
  refine c31_loop (M := (rB (sI (sI (rI (rI M 3 (lsR (el (M.2.1 w1) 1152) (M.1 3))) 4 (lsR (el (M.2.1 w2) 1152) (M.1 4))) 2 2 (((el (M.2.1 w2) 1152).length : Nat) : Int)) 2 3 (-1)) w (clN (M.2.1 w) 18))) (A := M.2.1 w1) (B := M.2.1 w2) d h hA hB h22 (fun i hi => (congrFun h4 _).trans (lsR_at _ _ hi)) (fun i hi => (congrFun h3 _).trans (lsR_at _ _ hi)) (fun M' hF hJ => ?_) _ 0 rfl (Nat.zero_le _) _ (Fa_refl _ _) ?_
  · refine ⟨_, M', rfl, rfl, _, rfl, lst_congr (fun t => ?_) hJ.2, fun t ht => (hJ.1 t ht).trans ?_, ?_⟩
    · rw [jn2_jo]
      constructor
      · rintro ⟨f, g, e1, e2, e3, e4, e5⟩
        exact ⟨f, g, e1, (el_9 hA).2 f e2, (el_9 hA).2 g e3, (el_mem.mp e2).2, (el_mem.mp e3).2, e4, e5⟩
      · rintro ⟨f, g, e1, e2, e3, e4, e5, e6, e7⟩
        exact ⟨f, g, e1, el_mem.mpr ⟨by omega, e4⟩, el_mem.mpr ⟨by omega, e5⟩, e6, e7⟩
    · rw [jn_jo]
      constructor
      · rintro ⟨f, e1, e2⟩
        exact ⟨f, (el_9 hA).2 f e1, (el_mem.mp e1).2, e2⟩
      · rintro ⟨f, e1, e2, e3⟩
        exact ⟨f, el_mem.mpr ⟨by omega, e2⟩, e3⟩
    · refine ⟨fun a a2 a3 a4 => ?_, fun a ha => ?_, hF.2.2.2⟩
      · rw [hF.1 a a2]
        show (sI (sI (rI (rI M 3 (lsR (el (M.2.1 w1) 1152) (M.1 3))) 4 (lsR (el (M.2.1 w2) 1152) (M.1 4))) 2 2 (((el (M.2.1 w2) 1152).length : Nat) : Int)) 2 3 (-1)).1 a = M.1 a
        rw [sI_ne a2, sI_ne a2, rI_ne a4, rI_ne a3]
      · rw [hF.2.2.1 a ha]
        exact rB_ne ha
  · refine ⟨fun t ht => ?_, .inl ⟨h23, fun t ⟨f, g, _, hf, _⟩ => by rw [List.take_zero] at hf; cases hf⟩⟩
    rw [rB_at]
    unfold clN
    rw [if_pos (by omega)]
    exact ⟨fun e => (by cases e), fun ⟨f, hf, _⟩ => (by rw [List.take_zero] at hf; cases hf)⟩
theorem jo_pos {A : Int → Bool} (h0 : A 0 = false) {p t : Nat} (h : jo A p t) : 0 < t := by
  obtain ⟨b, hb, e⟩ := h
  have hb := (el_mem.mp hb).2
  rcases Nat.eq_zero_or_pos b with k | k
  · subst k; rw [show ((0 : Nat) : Int) = 0 from rfl, h0] at hb; cases hb
  · have h1 : tx_let b ≠ [] := by
      intro e
      have := tx_num_let b
      rw [e, tx_num_nil] at this
      omega
    have h2 := ne_len h1
    have h3 := tx_num_short (u := []) (v := tx_let p ++ tx_let b) (fun d hd => by cases hd) (by rw [List.length_append]; show 0 < _; omega)
    rw [tx_num_nil] at h3
    omega
theorem rq_jo {A : Int → Bool} (h0 : A 0 = false) {t : Nat} (ht : t < 1093) : rq (sN A) t ↔ t = 0 ∨ ∃ p, p < t ∧ p < 364 ∧ rq (sN A) p ∧ jo A p t := by
  have h6 := (tx_let_len t 6).mpr (by rw [tx_st_7]; exact ht)
  constructor
  · rintro ⟨_, h⟩
    by_cases hw : tx_let t = []
    · left
      have := tx_num_let t
      rw [hw, tx_num_nil] at this
      exact this.symm
    · right
      obtain ⟨i, hi, hr, hA⟩ := (rp_R_last hw).mp h
      have hl := tx_L_take (tx_let_L t) i
      have hp := let_take_lt hi
      refine ⟨_, hp, ?_, ⟨by omega, by rw [tx_let_num hl]; exact hr⟩, jo_mk ht (by omega) hA⟩
      exact (tx_len_le hl (n := 5)).mp (by rw [List.length_take]; omega)
  · rintro (e | ⟨p, hp, hp2, hr, hj⟩)
    · subst e; exact ⟨by omega, by rw [tx_let_zero]; exact rp_R_nil⟩
    · refine ⟨ht, ?_⟩
      obtain ⟨h1, h2, h3⟩ := jo_cut (by omega) hj
      have hlt : (tx_let p).length < (tx_let t).length := by
        rcases Nat.eq_or_lt_of_le h1 with e | e
        · rw [e, List.drop_length, tx_num_nil] at h3
          rw [show ((0 : Nat) : Int) = 0 from rfl, h0] at h3; cases h3
        · exact e
      refine (rp_R_last ?_).mpr ⟨(tx_let p).length, hlt, by rw [h2]; exact hr.2, h3⟩
      intro e; rw [e] at hlt; simp at hlt
theorem jo_gt {A : Int → Bool} (h0 : A 0 = false) {p t : Nat} (hp : p < 1093) (h : jo A p t) : p < t := by
  obtain ⟨h1, h2, h3⟩ := jo_cut hp h
  have hlt : (tx_let p).length < (tx_let t).length := by
    rcases Nat.eq_or_lt_of_le h1 with e | e
    · rw [e, List.drop_length, tx_num_nil] at h3
      rw [show ((0 : Nat) : Int) = 0 from rfl, h0] at h3; cases h3
    · exact e
  have := let_take_lt hlt
  rw [h2, tx_num_let] at this
  exact this
theorem ra2_jo {A : Int → Bool} (h0 : A 0 = false) (t : Nat) : ra2 (sN A) t ↔ ∃ p q, p ≠ q ∧ p < 364 ∧ q < 364 ∧ rq (sN A) p ∧ rq (sN A) q ∧ jo A p t ∧ jo A q t := by
  constructor
  · rintro ⟨ht, i, j, hij, hj, h1, h2, h3, h4⟩
    have hl := tx_let_L t
    have h6 := (tx_let_len t 6).mpr (by rw [tx_st_7]; exact ht)
    have li : tx_num ((tx_let t).take i) < 364 := (tx_len_le (tx_L_take hl i) (n := 5)).mp (by rw [List.length_take]; omega)
    have lj : tx_num ((tx_let t).take j) < 364 := (tx_len_le (tx_L_take hl j) (n := 5)).mp (by rw [List.length_take]; omega)
    refine ⟨_, _, ?_, li, lj, ⟨by omega, by rw [tx_let_num (tx_L_take hl i)]; exact h1⟩, ⟨by omega, by rw [tx_let_num (tx_L_take hl j)]; exact h3⟩, jo_mk ht (by omega) h2, jo_mk ht (by omega) h4⟩
    intro e
    have := congrArg List.length (tx_inj (tx_L_take hl i) (tx_L_take hl j) e)
    rw [List.length_take, List.length_take] at this
    omega
  · rintro ⟨p, q, hne, hp, hq, rp, rq', jp, jq⟩
    obtain ⟨a1, a2, a3⟩ := jo_cut (by omega) jp
    obtain ⟨b1, b2, b3⟩ := jo_cut (by omega) jq
    have ht := jo_lt (by omega) jp
    have la : (tx_let p).length < (tx_let t).length := by
      rcases Nat.eq_or_lt_of_le a1 with e | e
      · rw [e, List.drop_length, tx_num_nil] at a3
        rw [show ((0 : Nat) : Int) = 0 from rfl, h0] at a3; cases a3
      · exact e
    have lb : (tx_let q).length < (tx_let t).length := by
      rcases Nat.eq_or_lt_of_le b1 with e | e
      · rw [e, List.drop_length, tx_num_nil] at b3
        rw [show ((0 : Nat) : Int) = 0 from rfl, h0] at b3; cases b3
      · exact e
    have r1 : rp_R (sN A) ((tx_let t).take (tx_let p).length) := by rw [a2]; exact rp.2
    have r2 : rp_R (sN A) ((tx_let t).take (tx_let q).length) := by rw [b2]; exact rq'.2
    rcases Nat.lt_trichotomy (tx_let p).length (tx_let q).length with e | e | e
    · exact ⟨ht, _, _, e, lb, r1, a3, r2, b3⟩
    · refine absurd ?_ hne
      rw [← tx_num_let p, ← tx_num_let q, ← a2, ← b2, e]
    · exact ⟨ht, _, _, e, la, r2, b3, r1, a3⟩
theorem c43_loop (d : Nat) {s1 s w : Nat} (h : isT s w) {A : Int → Bool} (hA : ∀ t : Nat, 1093 ≤ t → t < 1152 → A (t : Int) = false) (h0 : A 0 = false) (hbc : M.1 2 2 = ((el A 1152).length : Nat)) (hb4 : ∀ i : Nat, i < (el A 1152).length → M.1 4 (i : Int) = ((el A 1152).getD i 0 : Nat)) {Q : ab_Q} (kk : ∀ M', Fa w M M' → JS w M' (fun t => t = 0 ∨ ∃ p, p < 364 ∧ rq (sN A) p ∧ jo A p t) (fun t => ∃ p q, p ≠ q ∧ p < 364 ∧ q < 364 ∧ rq (sN A) p ∧ rq (sN A) q ∧ jo A p t ∧ jo A q t) → Q (.inl (some (zi (M'.1 2 3)))) (hp M' ++ es)) : ∀ m k : Nat, 364 - k = m → k ≤ 364 → ∀ M', Fa w M M' → JS w M' (fun t => t = 0 ∨ ∃ p, p < k ∧ rq (sN A) p ∧ jo A p t) (fun t => ∃ p q, p ≠ q ∧ p < k ∧ q < k ∧ rq (sN A) p ∧ rq (sN A) q ∧ jo A p t ∧ jo A q t) → ab_W (pg_G L xs) (ab_X (pg_G L xs) (d + 3)) 43 Q 40 [some (.ref 2), some (.ref s1), some (.ref s), some (zi (k : Nat))] [] (hp M' ++ es) := by
  intro m
  induction m using Nat.strongRecOn with
  | _ m ih =>
    intro k hm hk M' hFa hJS
    have hrg := lst_rg hJS.2 (fun t ⟨f, g, _, hf, _, _, _, hj, _⟩ => jo_lt (by omega) hj)
    have hn0 : ¬ M'.1 2 3 = 0 := by
      intro e
      rcases hJS.2 with ⟨e1, _⟩ | ⟨t, e1, ⟨f, g, _, hf, _, _, _, hj, _⟩, _⟩
      · omega
      · have := jo_pos h0 hj
        omega
    refine x_ld 3 1 0 41 rfl rfl rfl rfl rfl ?_
    refine x_sta 46 1000000 44 rfl rfl rfl ?_
    refine x_cst (zi 6) 2 46 rfl rfl rfl ?_
    refine z_st 6 47 rfl rfl (by omega) rfl ?_
    rw [show ((tx_st 6 : Nat) : Int) = 364 from rfl]
    refine z_icge 77 50 rfl rfl rfl ⟨by omega, by omega⟩ (rg_lit 364 rfl) (fun c47 => ?_) (fun c47 => ?_)
    · refine x_ld 0 1 2 78 rfl rfl rfl rfl rfl ?_
      refine g_2_3 22 81 rfl rfl rfl rfl ?_
      refine x_ret rfl rfl rfl rfl ?_
      have e : k = 364 := by omega
      subst e; exact kk M' hFa hJS
    · refine x_ld 0 1 2 51 rfl rfl rfl rfl rfl ?_
      refine g_2_3 22 54 rfl rfl rfl rfl ?_
      refine z_ifeq 77 57 rfl rfl rfl ⟨by omega, by omega⟩ (fun c => absurd c hn0) (fun _ => ?_)
      refine x_ld 2 1 2 58 rfl rfl rfl rfl rfl ?_
      refine x_ld 3 1 0 59 rfl rfl rfl rfl rfl ?_
      refine x_cv 38 38 62 [.ref s, zi ((k : Nat) : Int)] rfl rfl rfl (Nat.le_of_ble_eq_true rfl) rfl rfl (Nat.le_of_ble_eq_true rfl) ⟨_, _, _, rfl, oT h⟩ (Nat.le_of_ble_eq_true rfl) (c38 (M := M') (d + 2) h (t := ((k : Nat) : Int)) ⟨by omega, by omega⟩) rfl ?_
      rw [hasB_in (B := M'.2.1 w) (t := ((k : Nat) : Int)) (by omega) (by omega)]
      have hRk := (hJS.1 k (by omega)).trans (show _ ↔ rq (sN A) k from ⟨fun e => (rq_jo h0 (by omega)).mpr (e.elim .inl (fun ⟨p, a, b, c⟩ => .inr ⟨p, a, by omega, b, c⟩)), fun e => ((rq_jo h0 (by omega)).mp e).elim .inl (fun ⟨p, a, _, b, c⟩ => .inr ⟨p, a, b, c⟩)⟩)
      rcases Bool.eq_false_or_eq_true (M'.2.1 w ((k : Nat) : Int)) with hb | hb
      · rw [hb]
        refine z_ifeq 71 65 rfl rfl rfl (rg_lit 1 rfl) (fun c => absurd c (by decide)) (fun _ => ?_)
        refine x_ld 0 1 2 66 rfl rfl rfl rfl rfl ?_
        refine x_ld 3 1 0 67 rfl rfl rfl rfl rfl ?_
        refine x_ld 2 1 2 68 rfl rfl rfl rfl rfl ?_
        refine x_cv 34 35 71 [.ref 2, zi ((k : Nat) : Int), .ref s] rfl rfl rfl (Nat.le_of_ble_eq_true rfl) rfl rfl (Nat.le_of_ble_eq_true rfl) ⟨_, _, _, rfl, o_2⟩ (Nat.le_of_ble_eq_true rfl) (by have q := c35 (L := L) (xs := xs) (es := es) (M := M') d h (B := A) (el_9 hA).1 (hFa.2.1.trans hbc) (fun q hq => by rw [hFa.1 4 (by decide)]; exact hb4 q hq) hrg (u := tx_let k) (tx_let_L _) ((tx_let_len _ 6).mpr (by rw [tx_st_7]; omega)); rw [tx_num_let] at q; exact q) rfl ?_
        refine z_inc 3 74 [some (.ref 2), some (.ref s1), some (.ref s), some (zi (((k : Nat) : Int) + 1))] rfl rfl (Nat.le_of_ble_eq_true rfl) rfl rfl ?_
        refine x_go 40 rfl rfl ?_
        have hrk := hRk.mp hb
        refine ih (364 - (k + 1)) (by omega) (k + 1) rfl (by omega) _ (Fa_trans hFa (aj_Fa ..)) ?_
        have hJ := aj_JS (B := A) hJS (f := k) (by omega)
        refine ⟨fun t ht => (hJ.1 t ht).trans ?_, lst_congr (fun t => ?_) hJ.2⟩
        · constructor
          · rintro ((e | ⟨p, e1, e2, e3⟩) | e)
            · exact .inl e
            · exact .inr ⟨p, by omega, e2, e3⟩
            · exact .inr ⟨k, by omega, hrk, e⟩
          · rintro (e | ⟨p, e1, e2, e3⟩)
            · exact .inl (.inl e)
            · rcases Nat.eq_or_lt_of_le (Nat.le_of_lt_succ e1) with q | q
              · subst q; exact .inr e3
              · exact .inl (.inr ⟨p, q, e2, e3⟩)
        · constructor
          · rintro (⟨p, q, e1, e2, e3, e4⟩ | ⟨e | ⟨p, e1, e2, e3⟩, e4⟩)
            · exact ⟨p, q, e1, by omega, by omega, e4⟩
            · have := jo_pos h0 e4; omega
            · exact ⟨p, k, by omega, by omega, by omega, e2, hrk, e3, e4⟩
          · rintro ⟨p, q, e1, e2, e3, e4, e5, e6, e7⟩
            rcases Nat.eq_or_lt_of_le (Nat.le_of_lt_succ e2) with a | a
            · subst a; exact .inr ⟨.inr ⟨q, by omega, e5, e7⟩, e6⟩
            · rcases Nat.eq_or_lt_of_le (Nat.le_of_lt_succ e3) with b | b
              · subst b; exact .inr ⟨.inr ⟨p, a, e4, e6⟩, e7⟩
              · exact .inl ⟨p, q, e1, a, b, e4, e5, e6, e7⟩
      · rw [hb]
        refine z_ifeq 71 65 rfl rfl rfl (rg_lit 0 rfl) (fun _ => ?_) (fun c => absurd c (by decide))
        refine z_inc 3 74 [some (.ref 2), some (.ref s1), some (.ref s), some (zi (((k : Nat) : Int) + 1))] rfl rfl (Nat.le_of_ble_eq_true rfl) rfl rfl ?_
        refine x_go 40 rfl rfl ?_
        have hrk : ¬ rq (sN A) k := fun e => by rw [hRk.mpr e] at hb; cases hb
        refine ih (364 - (k + 1)) (by omega) (k + 1) rfl (by omega) _ hFa ?_
        refine ⟨fun t ht => (hJS.1 t ht).trans ?_, lst_congr (fun t => ?_) hJS.2⟩
        · constructor
          · rintro (e | ⟨p, e1, e2, e3⟩)
            · exact .inl e
            · exact .inr ⟨p, by omega, e2, e3⟩
          · rintro (e | ⟨p, e1, e2, e3⟩)
            · exact .inl e
            · rcases Nat.eq_or_lt_of_le (Nat.le_of_lt_succ e1) with q | q
              · subst q; exact absurd e2 hrk
              · exact .inr ⟨p, q, e2, e3⟩
        · constructor
          · rintro ⟨p, q, e1, e2, e3, e4⟩
            exact ⟨p, q, e1, by omega, by omega, e4⟩
          · rintro ⟨p, q, e1, e2, e3, e4, e5, e6⟩
            rcases Nat.eq_or_lt_of_le (Nat.le_of_lt_succ e2) with a | a
            · subst a; exact absurd e4 hrk
            · rcases Nat.eq_or_lt_of_le (Nat.le_of_lt_succ e3) with b | b
              · subst b; exact absurd e5 hrk
              · exact ⟨p, q, e1, a, b, e4, e5, e6⟩
theorem c43 (d : Nat) {s1 w1 s w : Nat} (h1 : isT s1 w1) (h : isT s w) (hA : ∀ t : Nat, 1093 ≤ t → t < 1152 → M.2.1 w1 (t : Int) = false) : ab_Z (pg_G L xs) (d + 4) 43 [.ref 2, .ref s1, .ref s] M es (fun v M' => ∃ x, v = some (zi x) ∧ (M.2.1 w1 0 = true → x = 0) ∧ (M.2.1 w1 0 = false → lst (am2 (sN (M.2.1 w1))) x ∧ ∀ t : Nat, t < 1152 → (M'.2.1 w (t : Int) = true ↔ rq (sN (M.2.1 w1)) t)) ∧ Fj w M M') := by
  show ab_W (pg_G L xs) (ab_X (pg_G L xs) (d + 3)) 43 _ 0 [some (.ref 2), some (.ref s1), some (.ref s), none] [] (hp M ++ es)
  refine x_ld 0 1 2 1 rfl rfl rfl rfl rfl ?_
  refine x_ld 1 1 2 2 rfl rfl rfl rfl rfl ?_
  refine x_ld 0 1 2 3 rfl rfl rfl rfl rfl ?_
  refine g_2_1 15 6 rfl rfl rfl ?_
  refine x_cv 25 32 9 [.ref s1, .ref 4] rfl rfl rfl (Nat.le_of_ble_eq_true rfl) rfl rfl (Nat.le_of_ble_eq_true rfl) ⟨_, _, _, rfl, oT h1⟩ (Nat.le_of_ble_eq_true rfl) (c32 (d + 2) h1 i_4 hA) rfl ?_
  refine s_2_2 18 12 rfl rfl rfl rfl rfl rfl ?_
  refine x_ld 0 1 2 13 rfl rfl rfl rfl rfl ?_
  refine x_ld 1 1 2 14 rfl rfl rfl rfl rfl ?_
  refine x_cst (zi 0) 1 15 rfl rfl rfl ?_
  refine x_cv 38 38 18 [.ref s1, zi 0] rfl rfl rfl (Nat.le_of_ble_eq_true rfl) rfl rfl (Nat.le_of_ble_eq_true rfl) ⟨_, _, _, rfl, oT h1⟩ (Nat.le_of_ble_eq_true rfl) (c38 (M := (sI (rI M 4 (lsR (el (M.2.1 w1) 1152) (M.1 4))) 2 2 (((el (M.2.1 w1) 1152).length : Nat) : Int))) (d + 2) h1 (t := 0) (rg_lit 0 rfl)) rfl ?_
  rw [hasB_in (B := (sI (rI M 4 (lsR (el (M.2.1 w1) 1152) (M.1 4))) 2 2 (((el (M.2.1 w1) 1152).length : Nat) : Int)).2.1 w1) (t := 0) (by decide) (by decide)]
  rcases Bool.eq_false_or_eq_true (M.2.1 w1 0) with hb | hb
  · rw [show (sI (rI M 4 (lsR (el (M.2.1 w1) 1152) (M.1 4))) 2 2 (((el (M.2.1 w1) 1152).length : Nat) : Int)).2.1 w1 0 = true from hb]
    refine z_ifeq 25 21 rfl rfl rfl (rg_lit 1 rfl) (fun c => absurd c (by decide)) (fun _ => ?_)
    refine x_cst (zi 0) 1 22 rfl rfl rfl ?_
    refine x_go 26 rfl rfl ?_
    refine s_2_3 22 29 rfl rfl rfl rfl rfl rfl ?_
    refine x_ld 2 1 2 30 rfl rfl rfl rfl rfl ?_
    refine x_cv 31 33 33 [.ref s] rfl rfl rfl (Nat.le_of_ble_eq_true rfl) rfl rfl (Nat.le_of_ble_eq_true rfl) ⟨_, _, _, rfl, oT h⟩ (Nat.le_of_ble_eq_true rfl) (c33 (M := (sI (sI (rI M 4 (lsR (el (M.2.1 w1) 1152) (M.1 4))) 2 2 (((el (M.2.1 w1) 1152).length : Nat) : Int)) 2 3 0)) (d + 1) h) rfl ?_
    refine x_ld 2 1 2 34 rfl rfl rfl rfl rfl ?_
    refine x_cst (zi 0) 1 35 rfl rfl rfl ?_
    refine x_cv 42 39 38 [.ref s, zi 0] rfl rfl rfl (Nat.le_of_ble_eq_true rfl) rfl rfl (Nat.le_of_ble_eq_true rfl) ⟨_, _, _, rfl, oT h⟩ (Nat.le_of_ble_eq_true rfl) (c39 (M := (rB (sI (sI (rI M 4 (lsR (el (M.2.1 w1) 1152) (M.1 4))) 2 2 (((el (M.2.1 w1) 1152).length : Nat) : Int)) 2 3 0) w (clN (M.2.1 w) 18))) (d + 2) h (t := 0) (by decide) (by decide)) rfl ?_
    refine x_cst (zi 0) 1 39 rfl rfl rfl ?_
    refine x_st 3 1 0 40 [some (.ref 2), some (.ref s1), some (.ref s), some (zi 0)] rfl rfl rfl (Nat.le_of_ble_eq_true rfl) rfl rfl ?_
    refine x_ld 3 1 0 41 rfl rfl rfl rfl rfl ?_
    refine x_sta 46 1000000 44 rfl rfl rfl ?_
    refine x_cst (zi 6) 2 46 rfl rfl rfl ?_
    refine z_st 6 47 rfl rfl (by omega) rfl ?_
    rw [show ((tx_st 6 : Nat) : Int) = 364 from rfl]
    refine z_icge 77 50 rfl rfl rfl (rg_lit 0 rfl) (rg_lit 364 rfl) (fun c => absurd c (by decide)) (fun _ => ?_)
    refine x_ld 0 1 2 51 rfl rfl rfl rfl rfl ?_
    refine g_2_3 22 54 rfl rfl (v := 0) (rd_eq (M := (sI (rI M 4 (lsR (el (M.2.1 w1) 1152) (M.1 4))) 2 2 (((el (M.2.1 w1) 1152).length : Nat) : Int))) (a := 2) (k := 3) (x := 0)) rfl ?_
    refine z_ifeq 77 57 rfl rfl rfl (rg_lit 0 rfl) (fun _ => ?_) (fun c => absurd rfl c)
    refine x_ld 0 1 2 78 rfl rfl rfl rfl rfl ?_
    refine g_2_3 22 81 rfl rfl (v := 0) (rd_eq (M := (sI (rI M 4 (lsR (el (M.2.1 w1) 1152) (M.1 4))) 2 2 (((el (M.2.1 w1) 1152).length : Nat) : Int))) (a := 2) (k := 3) (x := 0)) rfl ?_
    refine x_ret rfl rfl rfl rfl ?_
    have hF := Fa_refl w (rB (rB (sI (sI (rI M 4 (lsR (el (M.2.1 w1) 1152) (M.1 4))) 2 2 (((el (M.2.1 w1) 1152).length : Nat) : Int)) 2 3 0) w (clN (M.2.1 w) 18)) w (adB ((rB (sI (sI (rI M 4 (lsR (el (M.2.1 w1) 1152) (M.1 4))) 2 2 (((el (M.2.1 w1) 1152).length : Nat) : Int)) 2 3 0) w (clN (M.2.1 w) 18)).2.1 w) 0))
    refine ⟨_, (rB (rB (sI (sI (rI M 4 (lsR (el (M.2.1 w1) 1152) (M.1 4))) 2 2 (((el (M.2.1 w1) 1152).length : Nat) : Int)) 2 3 0) w (clN (M.2.1 w) 18)) w (adB ((rB (sI (sI (rI M 4 (lsR (el (M.2.1 w1) 1152) (M.1 4))) 2 2 (((el (M.2.1 w1) 1152).length : Nat) : Int)) 2 3 0) w (clN (M.2.1 w) 18)).2.1 w) 0)), rfl, rfl, 0, rfl, fun _ => rfl, fun e => (by rw [hb] at e; cases e), ?_⟩
    refine ⟨fun a a2 a3 a4 => ?_, fun a ha => ?_, hF.2.2.2⟩
    · rw [hF.1 a a2]
      show (sI (sI (rI M 4 (lsR (el (M.2.1 w1) 1152) (M.1 4))) 2 2 (((el (M.2.1 w1) 1152).length : Nat) : Int)) 2 3 0).1 a = M.1 a
      rw [sI_ne a2, sI_ne a2, rI_ne a4]
    · rw [hF.2.2.1 a ha, rB_ne ha, rB_ne ha]
      rfl
  · rw [show (sI (rI M 4 (lsR (el (M.2.1 w1) 1152) (M.1 4))) 2 2 (((el (M.2.1 w1) 1152).length : Nat) : Int)).2.1 w1 0 = false from hb]
    refine z_ifeq 25 21 rfl rfl rfl (rg_lit 0 rfl) (fun _ => ?_) (fun c => absurd c (by decide))
    refine x_cst (zi (-1)) 1 26 rfl rfl rfl ?_
    refine s_2_3 22 29 rfl rfl rfl rfl rfl rfl ?_
    refine x_ld 2 1 2 30 rfl rfl rfl rfl rfl ?_
    refine x_cv 31 33 33 [.ref s] rfl rfl rfl (Nat.le_of_ble_eq_true rfl) rfl rfl (Nat.le_of_ble_eq_true rfl) ⟨_, _, _, rfl, oT h⟩ (Nat.le_of_ble_eq_true rfl) (c33 (M := (sI (sI (rI M 4 (lsR (el (M.2.1 w1) 1152) (M.1 4))) 2 2 (((el (M.2.1 w1) 1152).length : Nat) : Int)) 2 3 (-1))) (d + 1) h) rfl ?_
    refine x_ld 2 1 2 34 rfl rfl rfl rfl rfl ?_
    refine x_cst (zi 0) 1 35 rfl rfl rfl ?_
    refine x_cv 42 39 38 [.ref s, zi 0] rfl rfl rfl (Nat.le_of_ble_eq_true rfl) rfl rfl (Nat.le_of_ble_eq_true rfl) ⟨_, _, _, rfl, oT h⟩ (Nat.le_of_ble_eq_true rfl) (c39 (M := (rB (sI (sI (rI M 4 (lsR (el (M.2.1 w1) 1152) (M.1 4))) 2 2 (((el (M.2.1 w1) 1152).length : Nat) : Int)) 2 3 (-1)) w (clN (M.2.1 w) 18))) (d + 2) h (t := 0) (by decide) (by decide)) rfl ?_
    refine x_cst (zi 0) 1 39 rfl rfl rfl ?_
    refine x_st 3 1 0 40 [some (.ref 2), some (.ref s1), some (.ref s), some (zi 0)] rfl rfl rfl (Nat.le_of_ble_eq_true rfl) rfl rfl ?_
    have h22 : (rB (rB (sI (sI (rI M 4 (lsR (el (M.2.1 w1) 1152) (M.1 4))) 2 2 (((el (M.2.1 w1) 1152).length : Nat) : Int)) 2 3 (-1)) w (clN (M.2.1 w) 18)) w (adB ((rB (sI (sI (rI M 4 (lsR (el (M.2.1 w1) 1152) (M.1 4))) 2 2 (((el (M.2.1 w1) 1152).length : Nat) : Int)) 2 3 (-1)) w (clN (M.2.1 w) 18)).2.1 w) 0)).1 2 2 = (((el (M.2.1 w1) 1152).length : Nat) : Int) := by show (sI (sI (rI M 4 (lsR (el (M.2.1 w1) 1152) (M.1 4))) 2 2 (((el (M.2.1 w1) 1152).length : Nat) : Int)) 2 3 (-1)).1 2 2 = _; rw [rd_nk (by decide), rd_eq]
    have h23 : (rB (rB (sI (sI (rI M 4 (lsR (el (M.2.1 w1) 1152) (M.1 4))) 2 2 (((el (M.2.1 w1) 1152).length : Nat) : Int)) 2 3 (-1)) w (clN (M.2.1 w) 18)) w (adB ((rB (sI (sI (rI M 4 (lsR (el (M.2.1 w1) 1152) (M.1 4))) 2 2 (((el (M.2.1 w1) 1152).length : Nat) : Int)) 2 3 (-1)) w (clN (M.2.1 w) 18)).2.1 w) 0)).1 2 3 = -1 := by show (sI (sI (rI M 4 (lsR (el (M.2.1 w1) 1152) (M.1 4))) 2 2 (((el (M.2.1 w1) 1152).length : Nat) : Int)) 2 3 (-1)).1 2 3 = _; rw [rd_eq]
    have h4 : (rB (rB (sI (sI (rI M 4 (lsR (el (M.2.1 w1) 1152) (M.1 4))) 2 2 (((el (M.2.1 w1) 1152).length : Nat) : Int)) 2 3 (-1)) w (clN (M.2.1 w) 18)) w (adB ((rB (sI (sI (rI M 4 (lsR (el (M.2.1 w1) 1152) (M.1 4))) 2 2 (((el (M.2.1 w1) 1152).length : Nat) : Int)) 2 3 (-1)) w (clN (M.2.1 w) 18)).2.1 w) 0)).1 4 = lsR (el (M.2.1 w1) 1152) (M.1 4) := by show (sI (sI (rI M 4 (lsR (el (M.2.1 w1) 1152) (M.1 4))) 2 2 (((el (M.2.1 w1) 1152).length : Nat) : Int)) 2 3 (-1)).1 4 = _; rw [sI_ne (by decide), sI_ne (by decide), rI_at]
    refine c43_loop (M := (rB (rB (sI (sI (rI M 4 (lsR (el (M.2.1 w1) 1152) (M.1 4))) 2 2 (((el (M.2.1 w1) 1152).length : Nat) : Int)) 2 3 (-1)) w (clN (M.2.1 w) 18)) w (adB ((rB (sI (sI (rI M 4 (lsR (el (M.2.1 w1) 1152) (M.1 4))) 2 2 (((el (M.2.1 w1) 1152).length : Nat) : Int)) 2 3 (-1)) w (clN (M.2.1 w) 18)).2.1 w) 0))) (A := M.2.1 w1) d h hA hb h22 (fun i hi => (congrFun h4 _).trans (lsR_at _ _ hi)) (fun M' hF hJ => ?_) _ 0 rfl (Nat.zero_le _) _ (Fa_refl _ _) ?_
    · refine ⟨_, M', rfl, rfl, _, rfl, fun e => (by rw [hb] at e; cases e), fun _ => ⟨lst_ra (lst_congr (fun t => (ra2_jo hb t).symm) hJ.2), fun t ht => (hJ.1 t ht).trans ?_⟩, ?_⟩
      · constructor
        · rintro (e | ⟨p, e1, e2, e3⟩)
          · exact (rq_jo hb (by omega)).mpr (.inl e)
          · exact (rq_jo hb (jo_lt (by omega) e3)).mpr (.inr ⟨p, jo_gt hb (by omega) e3, e1, e2, e3⟩)
        · intro e
          exact ((rq_jo hb e.1).mp e).elim .inl (fun ⟨p, _, a, b, c⟩ => .inr ⟨p, a, b, c⟩)
      · refine ⟨fun a a2 a3 a4 => ?_, fun a ha => ?_, hF.2.2.2⟩
        · rw [hF.1 a a2]
          show (sI (sI (rI M 4 (lsR (el (M.2.1 w1) 1152) (M.1 4))) 2 2 (((el (M.2.1 w1) 1152).length : Nat) : Int)) 2 3 (-1)).1 a = M.1 a
          rw [sI_ne a2, sI_ne a2, rI_ne a4]
        · rw [hF.2.2.1 a ha, rB_ne ha, rB_ne ha]
          rfl
    · refine ⟨fun t ht => ?_, .inl ⟨h23, fun t ⟨f, g, _, hf, _⟩ => by omega⟩⟩
      rw [rB_at, rB_at]
      unfold adB clN
      rw [if_pos (by omega), Bool.false_or, decide_eq_true_eq]
      exact ⟨fun e => .inl (by omega), fun e => e.elim (fun e => by omega) (fun ⟨p, hp, _⟩ => by omega)⟩
end C6
