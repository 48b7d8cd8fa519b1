/-! OURS, printed by wip/tools/gen998.py: every call of the law keeps what holds of both objects; the law. -/
section C46
variable {L : Nat} {xs : Nat → Int32}
theorem rnQ_w (p : Nat) (I : Int → Int) (B : Int → Bool) (R : Nat → Nat) (i : Nat) : ab_w1 (pg_G L xs) (rnQ p I B R i) ≤ 1093 := by
  unfold rnQ; split <;> exact Nat.le_of_ble_eq_true rfl
theorem rnP_w (n : Nat) (I : Int → Int) (B : Int → Bool) (R : Nat → Nat) (i : Nat) : ab_w1 (pg_G L xs) (rnP n I B R i) ≤ 1093 := by
  unfold rnP
  split
  · exact Nat.le_of_ble_eq_true rfl
  · split
    · exact Nat.le_of_ble_eq_true rfl
    · split
      · exact Nat.le_of_ble_eq_true rfl
      · exact rnQ_w _ _ _ _ _
theorem rnM_w (I : Int → Int) (B : Int → Bool) (i : Nat) : ab_w1 (pg_G L xs) (rnM I B i) ≤ 1093 := by
  unfold rnM; split <;> exact Nat.le_of_ble_eq_true rfl
theorem rn_w (I : Int → Int) (B : Int → Bool) (R : Nat → Nat) (a : Nat) : ab_w1 (pg_G L xs) (rn I B R a) ≤ 1093 := by
  unfold rn
  split
  · split <;> exact Nat.le_of_ble_eq_true rfl
  · split
    · exact rnP_w _ _ _ _ _
    · split
      · exact rnP_w _ _ _ _ _
      · split
        · split <;> exact Nat.le_of_ble_eq_true rfl
        · exact rnM_w _ _ _
theorem sum_le9 {n : Nat} : ∀ {l : List Nat}, (∀ x ∈ l, x ≤ n) → l.sum ≤ l.length * n
  | [], _ => Nat.zero_le _
  | x :: l, h => by
    have h1 := h x List.mem_cons_self
    have h2 := sum_le9 (l := l) (fun y hy => h y (List.mem_cons_of_mem _ hy))
    rw [List.sum_cons, List.length_cons, Nat.succ_mul]; omega
theorem hp_wt (M : mm) : ab_wt (pg_G L xs) (hp M) ≤ 676567 := by
  unfold ab_wt
  have h := sum_le9 (n := 1093) (l := (hp M).map (ab_w1 (pg_G L xs))) (by
    intro x hx
    obtain ⟨o, ho, rfl⟩ := List.mem_map.mp hx
    unfold hp at ho
    obtain ⟨a, ha, rfl⟩ := List.mem_map.mp ho
    exact rn_w _ _ _ _)
  rw [List.length_map, hp_len] at h
  exact h
/-- the exceptions so far -/
def Ex (L : Nat) (xs : Nat → Int32) (ex : ab_H) (n : Nat) : Prop := ex.length ≤ n ∧ ab_wt (pg_G L xs) ex ≤ 6 * n
theorem Ex_m {ex : ab_H} {n : Nat} (h : Ex L xs ex n) : Ex L xs ex (n + 1) := ⟨by have := h.1; omega, by have := h.2; omega⟩
theorem Ex_s (ci : Nat) {ex : ab_H} {n : Nat} (h : Ex L xs ex n) (hc : pg_wc ci = 6) : Ex L xs (ex ++ [.inr (ci, [])]) (n + 1) := by
  refine ⟨by rw [List.length_append]; have := h.1; show ex.length + 1 ≤ n + 1; omega, ?_⟩
  rw [ab_wt_app, show ab_wt (pg_G L xs) [.inr (ci, [])] = pg_wc ci from rfl, hc]
  have := h.2; omega
theorem roomN1 {M : mm} {o : Nat → Int64} {ex : ab_H} {n : Nat} (h : Ex L xs ex n) (hn : n ≤ 1024) : (hp M ++ (oO o :: ex)).length + 1 ≤ 600000 := by
  rw [List.length_append, hp_len, List.length_cons]; have := h.1; omega
theorem roomN2 {M : mm} {o : Nat → Int64} {ex : ab_H} {n : Nat} (h : Ex L xs ex n) (hn : n ≤ 1024) : ab_wt (pg_G L xs) (hp M ++ (oO o :: ex)) + 6 ≤ 7000000 := by
  rw [ab_wt_app, ab_wt_cons, w_inl]; have := h.2; have := hp_wt (L := L) (xs := xs) M; omega
theorem argI (t : Int32) : ∃ y : Int, rg y ∧ t = Int32.ofInt y := ⟨t.toInt, ⟨by have := Int32.le_toInt t; omega, by have := Int32.toInt_lt t; omega⟩, (Int32.ofInt_toInt t).symm⟩
theorem txI {y : Int} (h : 0 ≤ y ∧ y < 1093) : ∃ w, tx_L w ∧ w.length ≤ 6 ∧ y = ((tx_num w : Nat) : Int) := by
  refine ⟨tx_let y.toNat, tx_let_L _, (tx_let_len _ _).mpr (by rw [tx_st_7]; omega), ?_⟩
  rw [tx_num_let]; omega
theorem len96 {n l m : Nat} (h : n ≤ max m 1 * l) (hm : m ≤ 6) (hl : l ≤ 16) : n ≤ 250 := by
  have h1 : max m 1 ≤ 6 := by omega
  have := Nat.mul_le_mul h1 hl
  omega
theorem Ov_s {M : mm} {j y : Int} (h : Ov M) (hj : j ≠ 10) : Ov (sI M 0 j y) := by
  obtain ⟨m, h1, h2, h3, h4, h5⟩ := h
  exact ⟨m, h1, h2, (rd_nk hj.symm).trans h3, (rd_na (by decide)).trans h4, fun i i0 i1 => (rd_na (by decide)).trans ((h5 i i0 i1).trans (rd_na (by decide)).symm)⟩
theorem Nv_s {M : mm} {j y : Int} (h : Nv M) (hj : j ≠ 12) : Nv (sI M 0 j y) := by
  rcases h with ⟨h1, h2⟩ | ⟨h1, h2, h3⟩
  · exact .inl ⟨(rd_nk hj.symm).trans h1, (rd_na (by decide)).trans h2⟩
  · exact .inr ⟨(rd_nk hj.symm).trans h1, (rd_na (by decide)).trans h2, h3⟩
variable {d : Nat} {Q : ab_Q} {k : Nat} {M : mm} {ex : ab_H} {o : Nat → Int64} {o5 o6 : Option Value}
theorem st_5 (hL : L ≤ 1024) (hlt : k + 2 ≤ L) (hI : Iv M) (hE : Ex L xs ex k) (kk : ∀ M' o' ex' a b, Iv M' → Ex L xs ex' (k + 1) → LW L xs d Q k a b 796 (hp M' ++ (oO o' :: ex'))) : LW L xs d Q k o5 o6 270 (hp M ++ (oO o :: ex)) := by
  have r1 := roomN1 (M := M) (o := o) hE (by omega)
  have r2 := roomN2 (M := M) (o := o) hE (by omega)
  obtain ⟨x, b1, b2, hB, hP, hO, hN⟩ := id hI
  obtain ⟨y, hy, ey⟩ := argI (xs (k + 1))
  rcases hP with ⟨h05, h25⟩ | ⟨h05, h25, ps, q, hQ, hK⟩
  · have h0 := o_0 (M := M) (es := oO o :: ex)
    rw [h05] at h0
    exact lx_5_7 ey hL hlt (n_58 (d + 197) h0 r1 r2) (c134_n (d + 188) hy h25) (fun a b => kk _ _ _ a b (Iv_q hI (Fzq_s 1 M)) (Ex_s 7 hE rfl))
  · obtain ⟨q1, q2, q3, q4, q5⟩ := id hQ
    have h3 := hB.2.2.1
    by_cases hb : 0 ≤ y ∧ y < 1093
    case neg => exact lx_5_8 ey hL hlt (b_58 (d + 197) h05 hy hb r1 r2) (c134_b (d + 188) hy h25 hb) (fun a b => kk _ _ _ a b (Iv_q hI (Fzq_s 2 M)) (Ex_s 8 hE rfl))
    case pos =>
      obtain ⟨w, hw, hw6, ew⟩ := txI hb
      subst ew
      cases hb2 : (sts ps q).1 (tx_num w) with
      | false => exact lv_5_0 (F := Iv) ey hL hlt (c58_0 (d + 119) q1 h3 q4 h05 hw hw6 hb2) (fun o' => ⟨_, c134_0 (d + 188) q2 q3 h25 hw hw6 hb2, rd_eq, Iv_q hI (Fzq_s 0 M)⟩) (fun M2 o' a b hF => kk M2 o' ex a b hF (Ex_m hE))
      | true => exact lv_5_1 (F := Iv) ey hL hlt (c58_1 (d + 119) q1 h3 q4 h05 hw hw6 hb2) (fun o' => ⟨_, c134_1 (d + 188) q2 q3 h25 hw hw6 hb2, rd_eq, Iv_q hI (Fzq_s 0 M)⟩) (fun M2 o' a b hF => kk M2 o' ex a b hF (Ex_m hE))
theorem st_6 (hL : L ≤ 1024) (hlt : k + 2 ≤ L) (hI : Iv M) (hE : Ex L xs ex k) (kk : ∀ M' o' ex' a b, Iv M' → Ex L xs ex' (k + 1) → LW L xs d Q k a b 796 (hp M' ++ (oO o' :: ex'))) : LW L xs d Q k o5 o6 333 (hp M ++ (oO o :: ex)) := by
  have r1 := roomN1 (M := M) (o := o) hE (by omega)
  have r2 := roomN2 (M := M) (o := o) hE (by omega)
  obtain ⟨x, b1, b2, hB, hP, hO, hN⟩ := id hI
  obtain ⟨y, hy, ey⟩ := argI (xs (k + 1))
  rcases hP with ⟨h05, h25⟩ | ⟨h05, h25, ps, q, hQ, hK⟩
  · have h0 := o_0 (M := M) (es := oO o :: ex)
    rw [h05] at h0
    exact lx_6_7 ey hL hlt (n_61 (d + 197) h0 r1 r2) (c136_n (d + 188) hy h25) (fun a b => kk _ _ _ a b (Iv_q hI (Fzq_s 1 M)) (Ex_s 7 hE rfl))
  · obtain ⟨q1, q2, q3, q4, q5⟩ := id hQ
    have h3 := hB.2.2.1
    by_cases hb : 0 ≤ y ∧ y < 1093
    case neg => exact lx_6_8 ey hL hlt (b_61 (d + 197) h05 hy hb r1 r2) (c136_b (d + 188) hy h25 hb) (fun a b => kk _ _ _ a b (Iv_q hI (Fzq_s 2 M)) (Ex_s 8 hE rfl))
    case pos =>
      obtain ⟨w, hw, hw6, ew⟩ := txI hb
      subst ew
      cases hb2 : (sts ps q).2 (tx_num w) with
      | false => exact lv_6_0 (F := Iv) ey hL hlt (c61_0 (d + 119) q1 h3 q4 h05 hw hw6 hb2) (fun o' => ⟨_, c136_0 (d + 188) q2 q3 h25 hw hw6 hb2, rd_eq, Iv_q hI (Fzq_s 0 M)⟩) (fun M2 o' a b hF => kk M2 o' ex a b hF (Ex_m hE))
      | true => exact lv_6_1 (F := Iv) ey hL hlt (c61_1 (d + 119) q1 h3 q4 h05 hw hw6 hb2) (fun o' => ⟨_, c136_1 (d + 188) q2 q3 h25 hw hw6 hb2, rd_eq, Iv_q hI (Fzq_s 0 M)⟩) (fun M2 o' a b hF => kk M2 o' ex a b hF (Ex_m hE))
theorem st_7 (hL : L ≤ 1024) (hlt : k + 2 ≤ L) (hI : Iv M) (hE : Ex L xs ex k) (kk : ∀ M' o' ex' a b, Iv M' → Ex L xs ex' (k + 1) → LW L xs d Q k a b 796 (hp M' ++ (oO o' :: ex'))) : LW L xs d Q k o5 o6 396 (hp M ++ (oO o :: ex)) := by
  have r1 := roomN1 (M := M) (o := o) hE (by omega)
  have r2 := roomN2 (M := M) (o := o) hE (by omega)
  obtain ⟨x, b1, b2, hB, hP, hO, hN⟩ := id hI
  obtain ⟨y, hy, ey⟩ := argI (xs (k + 1))
  rcases hP with ⟨h05, h25⟩ | ⟨h05, h25, ps, q, hQ, hK⟩
  · have h0 := o_0 (M := M) (es := oO o :: ex)
    rw [h05] at h0
    exact lx_7_7 ey hL hlt (n_63 (d + 197) h0 r1 r2) (c137_n (d + 188) hy h25) (fun a b => kk _ _ _ a b (Iv_q hI (Fzq_s 1 M)) (Ex_s 7 hE rfl))
  · obtain ⟨q1, q2, q3, q4, q5⟩ := id hQ
    have h3 := hB.2.2.1
    by_cases hb : 0 ≤ y ∧ y < 1093
    case neg => exact lx_7_8 ey hL hlt (b_63 (d + 197) h05 hy hb r1 r2) (c137_b (d + 188) hy h25 hb) (fun a b => kk _ _ _ a b (Iv_q hI (Fzq_s 2 M)) (Ex_s 8 hE rfl))
    case pos =>
      obtain ⟨w, hw, hw6, ew⟩ := txI hb
      subst ew
      cases hb2 : (sts ps q).1 (tx_num w) with
      | false => exact lv_7_v (F := Iv) ey hL hlt (c63_f (d + 119) q1 h3 q4 h05 hw hw6 hb2) (fun o' => ⟨_, c137_f (d + 188) q2 q3 h25 hw hw6 hb2, rd_eq, Iv_q hI (Fzq_s 0 M)⟩) (fun M2 o' a b hF => kk M2 o' ex a b hF (Ex_m hE))
      | true =>
        refine lv_7_v (F := Iv) ey hL hlt (c63_t (d + 119) q1 h3 q4 h05 hw hw6 hb2) (fun o' => ?_) (fun M2 o' a b hF => kk M2 o' ex a b hF (Ex_m hE))
        obtain ⟨v, M2, hS, hv, hF⟩ := Z_S (c137_t (L := L) (xs := xs) (es := oO o' :: ex) (d + 188) q2 q3 h25 hw hw6 hb2 (len96 (sh_len (mdl_gds q2) q (by omega) w) hw6 q5))
        subst hv
        exact ⟨M2, hS, hF.1.2.2.2.2, Iv_q hI hF⟩
theorem st_12 (hL : L ≤ 1024) (hlt : k + 2 ≤ L) (hI : Iv M) (hE : Ex L xs ex k) (kk : ∀ M' o' ex' a b, Iv M' → Ex L xs ex' (k + 1) → LW L xs d Q k a b 796 (hp M' ++ (oO o' :: ex'))) : LW L xs d Q k o5 o6 652 (hp M ++ (oO o :: ex)) := by
  have r1 := roomN1 (M := M) (o := o) hE (by omega)
  have r2 := roomN2 (M := M) (o := o) hE (by omega)
  obtain ⟨x, b1, b2, hB, hP, hO, hN⟩ := id hI
  obtain ⟨y, hy, ey⟩ := argI (xs (k + 1))
  rcases hP with ⟨h05, h25⟩ | ⟨h05, h25, ps, q, hQ, hK⟩
  · have h0 := o_0 (M := M) (es := oO o :: ex)
    rw [h05] at h0
    exact lx_12_7 ey hL hlt (n_96 (d + 197) h0 r1 r2) (c164_n (d + 188) hy h25) (fun a b => kk _ _ _ a b (Iv_q hI (Fzq_s 1 M)) (Ex_s 7 hE rfl))
  · obtain ⟨q1, q2, q3, q4, q5⟩ := id hQ
    have h3 := hB.2.2.1
    by_cases hb : 0 ≤ y ∧ y < 1093
    case neg => exact lx_12_8 ey hL hlt (b_96 (d + 197) h05 hy hb r1 r2) (c164_b (d + 188) hy h25 hb) (fun a b => kk _ _ _ a b (Iv_q hI (Fzq_s 2 M)) (Ex_s 8 hE rfl))
    case pos =>
      obtain ⟨w, hw, hw6, ew⟩ := txI hb
      subst ew
      cases hb2 : (sts ps q).2 (tx_num w) with
      | false => exact lv_12_v (F := Iv) ey hL hlt (c96_f (d + 119) q1 h3 q4 h05 hw hw6 hb2) (fun o' => ⟨_, c164_f (d + 188) q2 q3 h25 hw hw6 hb2, rd_eq, Iv_q hI (Fzq_s 0 M)⟩) (fun M2 o' a b hF => kk M2 o' ex a b hF (Ex_m hE))
      | true =>
        have hc := c96_t (L := L) (xs := xs) (es := oO o :: ex) (d + 119) q1 h3 q4 h05 hw hw6 hb2
        rw [nz_le (Nat.le_trans (ky_len (mdl_gds q2) q (by omega) w) hw6)] at hc
        refine lv_12_v (F := Iv) ey hL hlt hc (fun o' => ?_) (fun M2 o' a b hF => kk M2 o' ex a b hF (Ex_m hE))
        obtain ⟨v, M2, hS, hv, hF⟩ := Z_S (c164_t (L := L) (xs := xs) (es := oO o' :: ex) (d + 188) q2 q3 h25 hw hw6 hb2)
        subst hv
        exact ⟨M2, hS, hF.1.2.2.2.2, Iv_q hI hF⟩
theorem st_4 (hL : L ≤ 1024) (hlt : k + 2 ≤ L) (hI : Iv M) (hE : Ex L xs ex k) (kk : ∀ M' o' ex' a b, Iv M' → Ex L xs ex' (k + 1) → LW L xs d Q k a b 796 (hp M' ++ (oO o' :: ex'))) : LW L xs d Q k o5 o6 214 (hp M ++ (oO o :: ex)) := by
  have r1 := roomN1 (M := M) (o := o) hE (by omega)
  have r2 := roomN2 (M := M) (o := o) hE (by omega)
  obtain ⟨x, b1, b2, hB, hP, hO, hN⟩ := id hI
  obtain ⟨y, hy, ey⟩ := argI (xs (k + 1))
  rcases hP with ⟨h05, h25⟩ | ⟨h05, h25, ps, q, hQ, hK⟩
  · have h0 := o_0 (M := M) (es := oO o :: ex)
    rw [h05] at h0
    exact lx_4_7 ey hL hlt (n_54 (d + 197) h0 r1 r2) (c131_n (d + 188) hy h25) (fun a b => kk _ _ _ a b (Iv_q hI (Fzq_s 1 M)) (Ex_s 7 hE rfl))
  · obtain ⟨q1, q2, q3, q4, q5⟩ := id hQ
    have h3 := hB.2.2.1
    by_cases h0 : y = 0
    · subst h0
      exact lv_4_v (F := Iv) ey hL hlt (c54_0 (d + 119) q1 h3 q4 h05) (fun o' => ⟨_, c131_0 (d + 188) q2 q3 h25, rd_eq, Iv_q hI (Fzq_s 0 M)⟩) (fun M2 o' a b hF => kk M2 o' ex a b hF (Ex_m hE))
    · by_cases h1 : y = 1
      · subst h1
        exact lv_4_v (F := Iv) ey hL hlt (c54_1 (d + 119) q1 h3 q4 h05) (fun o' => ⟨_, c131_1 (d + 188) q2 q3 h25, rd_eq, Iv_q hI (Fzq_s 0 M)⟩) (fun M2 o' a b hF => kk M2 o' ex a b hF (Ex_m hE))
      · exact lx_4_6 ey hL hlt (b_54 (d + 197) h05 hy h0 h1 r1 r2) (c131_b (d + 188) hy h25 h0 h1) (fun a b => kk _ _ _ a b (Iv_q hI (Fzq_s 2 M)) (Ex_s 6 hE rfl))
theorem st_8 (hL : L ≤ 1024) (hlt : k + 2 ≤ L) (hI : Iv M) (hE : Ex L xs ex k) (kk : ∀ M' o' ex' a b, Iv M' → Ex L xs ex' (k + 1) → LW L xs d Q k a b 796 (hp M' ++ (oO o' :: ex'))) : LW L xs d Q k o5 o6 452 (hp M ++ (oO o :: ex)) := by
  have r1 := roomN1 (M := M) (o := o) hE (by omega)
  have r2 := roomN2 (M := M) (o := o) hE (by omega)
  obtain ⟨x, b1, b2, hB, hP, hO, hN⟩ := id hI
  obtain ⟨y, hy, ey⟩ := argI (xs (k + 1))
  rcases hP with ⟨h05, h25⟩ | ⟨h05, h25, ps, q, hQ, hK⟩
  · have h0 := o_0 (M := M) (es := oO o :: ex)
    rw [h05] at h0
    exact lx_8_7 ey hL hlt (n_73 (d + 197) h0 r1 r2) (c148_n (d + 188) hy h25) (fun a b => kk _ _ _ a b (Iv_q hI (Fzq_s 1 M)) (Ex_s 7 hE rfl))
  · obtain ⟨q1, q2, q3, q4, q5⟩ := id hQ
    have h3 := hB.2.2.1
    by_cases hb : 0 ≤ y ∧ y < 1093
    case neg => exact lx_8_8 ey hL hlt (b_73 (d + 197) h05 hy hb r1 r2) (c148_b (d + 188) hy h25 hb) (fun a b => kk _ _ _ a b (Iv_q hI (Fzq_s 2 M)) (Ex_s 8 hE rfl))
    case pos =>
      obtain ⟨w, hw, hw6, ew⟩ := txI hb
      subst ew
      cases hb2 : (sts ps q).1 (tx_num w) with
      | false =>
        refine lv_8_0 (F := Iv) ey hL hlt (c73_f (d + 119) q1 h3 q4 h05 hw hw6 hb2) (fun o' => ?_) (fun M2 o' a b hF => kk M2 o' ex a b hF (Ex_m hE))
        obtain ⟨v, M2, hS, hv, hF, e34, e35, e595, e594, e32⟩ := Z_S (c148_f (L := L) (xs := xs) (es := oO o' :: ex) (d + 188) q2 q3 h25 hw hw6 hb2)
        subst hv
        exact ⟨M2, hS, hF.2.2.2.2, Iv_q hI ⟨hF, e32, e34, e35, e595, e594⟩⟩
      | true =>
        by_cases hl : (sem_sh (pgo ps) q w).length ≤ 6
        · refine lv_8_1 (F := Iv) ey hL hlt (c73_y (d + 119) q1 h3 q4 h05 hw hw6 hb2 hl) (fun o' => ?_) (fun M2 o' a b hF => kk M2 o' ex a b hF (Ex_m hE))
          have hFc : Fcs b1 M (sI M 0 8 ((tx_num w : Nat) : Int)) := Fcs_s (.inl rfl)
          have hQ1 := Qv_c hQ hFc (cls_f q1)
          obtain ⟨v, M2, hS, hv, hF, e34, e35, e595, e594, e32⟩ := Z_S (c148_y (L := L) (xs := xs) (es := oO o' :: ex) (d + 188) hQ1.2.1 hQ1.2.2.1 ((rd_na (by decide)).trans h25) hw hw6 hb2 (len96 (sh_len (mdl_gds q2) q (by omega) w) hw6 q5) hl)
          subst hv
          refine ⟨M2, hS, hF.2.2.2.2, x, b1, b2, Bv_z (Bv_c q1.1 hB hFc) hF, .inr ⟨?_, (Fzt_f hF 5 (by omega)).trans ((rd_na (by decide)).trans h25), ps, q, Qv_z hQ1 hF, .inr ⟨w, hw, hw6, ?_, e32, hb2, hl⟩⟩, Ov_z (Ov_s hO (by decide)) hF e35 e595, Nv_z (Nv_s hN (by decide)) hF e34 e594⟩
          · rw [hF.1 0 (by decide) (by decide)]; exact (rd_nk (by decide)).trans h05
          · rw [hF.1 0 (by decide) (by decide)]; exact rd_eq
        · refine lv_8_0 (F := Iv) ey hL hlt (c73_l (d + 119) q1 h3 q4 h05 hw hw6 hb2 hl) (fun o' => ?_) (fun M2 o' a b hF => kk M2 o' ex a b hF (Ex_m hE))
          obtain ⟨v, M2, hS, hv, hF, e34, e35, e595, e594, e32⟩ := Z_S (c148_l (L := L) (xs := xs) (es := oO o' :: ex) (d + 188) q2 q3 h25 hw hw6 hb2 (len96 (sh_len (mdl_gds q2) q (by omega) w) hw6 q5) hl)
          subst hv
          exact ⟨M2, hS, hF.2.2.2.2, Iv_q hI ⟨hF, e32, e34, e35, e595, e594⟩⟩
/-- the places are forgotten -/
theorem Iv_10 {M2 : mm} {x : lne} {b1 b2 : Nat} {ps : Nat → prt} {q : Nat} (hB : Bv M x b1 b2) (h05 : M.1 0 5 = 1) (h25 : M.1 572 5 = 1) (hQ : Qv M b1 ps q) (hK : Kv M ps q) (hN : Nv M) (hF : Fzt 0 (sI M 0 10 0) M2) (e32 : M2.1 572 32 = (sI M 0 10 0).1 572 32) (e34 : M2.1 572 34 = (sI M 0 10 0).1 572 34) (e594 : M2.2.1 594 = (sI M 0 10 0).2.1 594) (e35 : M2.1 572 35 = 0) : Iv M2 := by
  have hFc : Fcs b1 M (sI M 0 10 0) := Fcs_s (.inr (.inl rfl))
  have hQ1 := Qv_c hQ hFc (cls_f hQ.1)
  have hK1 : Kv (sI M 0 10 0) ps q := by
    unfold Kv; rw [rd_nk (by decide), rd_na (by decide)]; exact hK
  refine ⟨x, b1, b2, Bv_z (Bv_c hQ.1.1 hB hFc) hF, .inr ⟨?_, (Fzt_f hF 5 (by omega)).trans ((rd_na (by decide)).trans h25), ps, q, Qv_z hQ1 hF, Kv_z hK1 hF e32⟩, ⟨0, by decide, by decide, ?_, e35, fun i i0 i1 => by omega⟩, Nv_z (Nv_s hN (by decide)) hF e34 e594⟩
  · rw [hF.1 0 (by decide) (by decide)]; exact (rd_nk (by decide)).trans h05
  · rw [hF.1 0 (by decide) (by decide)]; exact rd_eq
theorem st_10 (hL : L ≤ 1024) (hlt : k + 2 ≤ L) (hI : Iv M) (hE : Ex L xs ex k) (kk : ∀ M' o' ex' a b, Iv M' → Ex L xs ex' (k + 1) → LW L xs d Q k a b 796 (hp M' ++ (oO o' :: ex'))) : LW L xs d Q k o5 o6 571 (hp M ++ (oO o :: ex)) := by
  have r1 := roomN1 (M := M) (o := o) hE (by omega)
  have r2 := roomN2 (M := M) (o := o) hE (by omega)
  obtain ⟨x, b1, b2, hB, hP, hO, hN⟩ := id hI
  obtain ⟨y, hy, ey⟩ := argI (xs (k + 1))
  rcases hP with ⟨h05, h25⟩ | ⟨h05, h25, ps, q, hQ, hK⟩
  · have h0 := o_0 (M := M) (es := oO o :: ex)
    rw [h05] at h0
    exact lx_10_7 ey hL hlt (n_94 (d + 197) h0 r1 r2) (c162_n (d + 188) hy h25) (fun a b => kk _ _ _ a b (Iv_q hI (Fzq_s 1 M)) (Ex_s 7 hE rfl))
  · obtain ⟨q1, q2, q3, q4, q5⟩ := id hQ
    have h3 := hB.2.2.1
    have hQ1 := Qv_c hQ (Fcs_s (j := 10) (y := 0) (.inr (.inl rfl))) (cls_f q1)
    by_cases hb : 0 ≤ y ∧ y < 1093
    case neg => exact lx_10_8 ey hL hlt (b_94 (d + 197) h05 hy hb r1 r2) (c162_b (d + 188) hy h25 hb) (fun a b => kk _ _ _ a b (Iv_q hI (Fzq_s 2 M)) (Ex_s 8 hE rfl))
    case pos =>
      obtain ⟨w, hw, hw6, ew⟩ := txI hb
      subst ew
      cases hb2 : (sts ps q).2 (tx_num w) with
      | false =>
        refine lv_10_v (F := Iv) ey hL hlt (c94_f (d + 119) q1 h3 q4 h05 hw hw6 hb2) (fun o' => ?_) (fun M2 o' a b hF => kk M2 o' ex a b hF (Ex_m hE))
        obtain ⟨v, M2, hS, hv, hF, e32, e34, e594, e35⟩ := Z_S (c162_f (L := L) (xs := xs) (es := oO o' :: ex) (d + 188) hQ1.2.1 hQ1.2.2.1 ((rd_na (by decide)).trans h25) hw hw6 hb2)
        subst hv
        exact ⟨M2, hS, hF.2.2.2.2, Iv_10 hB h05 h25 hQ hK hN hF e32 e34 e594 e35⟩
      | true =>
        refine lv_10_v (F := Iv) ey hL hlt (c94_t (d + 119) q1 h3 q4 h05 hw hw6 hb2) (fun o' => ?_) (fun M2 o' a b hF => kk M2 o' ex a b hF (Ex_m hE))
        obtain ⟨v, M2, hS, hv, hF, e32, e34, e594, e35⟩ := Z_S (c162_t (L := L) (xs := xs) (es := oO o' :: ex) (d + 188) hQ1.2.1 hQ1.2.2.1 ((rd_na (by decide)).trans h25) hw hw6 hb2 (len96 (cr_len (mdl_gds q2) q (by omega) w) hw6 q5))
        subst hv
        exact ⟨M2, hS, hF.2.2.2.2, Iv_10 hB h05 h25 hQ hK hN hF e32 e34 e594 e35⟩
theorem st_9 (hL : L ≤ 1024) (hlt : k + 2 ≤ L) (hI : Iv M) (hE : Ex L xs ex k) (kk : ∀ M' o' ex' a b, Iv M' → Ex L xs ex' (k + 1) → LW L xs d Q k a b 796 (hp M' ++ (oO o' :: ex'))) : LW L xs d Q k o5 o6 515 (hp M ++ (oO o :: ex)) := by
  have r1 := roomN1 (M := M) (o := o) hE (by omega)
  have r2 := roomN2 (M := M) (o := o) hE (by omega)
  obtain ⟨x, b1, b2, hB, hP, hO, hN⟩ := id hI
  obtain ⟨y, hy, ey⟩ := argI (xs (k + 1))
  rcases hP with ⟨h05, h25⟩ | ⟨h05, h25, ps, q, hQ, hK⟩
  · have h0 := o_0 (M := M) (es := oO o :: ex)
    rw [h05] at h0
    exact lx_9_7 ey hL hlt (n_75 (d + 197) h0 r1 r2) (c149_n (d + 188) hy h25) (fun a b => kk _ _ _ a b (Iv_q hI (Fzq_s 1 M)) (Ex_s 7 hE rfl))
  · obtain ⟨q1, q2, q3, q4, q5⟩ := id hQ
    have h3 := hB.2.2.1
    have hQ1 := Qv_c hQ (Fcs_s (j := 10) (y := 0) (.inr (.inl rfl))) (cls_f q1)
    rcases id hK with ⟨k8, k32⟩ | ⟨s, hs, hs6, k8, k32, hsS, hsv⟩
    · exact lx_9_7 ey hL hlt (k_75 (d + 197) h05 k8 hy r1 r2) (c149_k (d + 188) hy h25 k32) (fun a b => kk _ _ _ a b (Iv_q hI (Fzq_s 1 M)) (Ex_s 7 hE rfl))
    have hts := (tx_six hs).mp hs6
    by_cases hb : 0 ≤ y ∧ y < 1093
    case neg => exact lx_9_8 ey hL hlt (b_75 (d + 197) h05 hts k8 hy hb r1 r2) (c149_b (d + 188) hy h25 hts k32 hb) (fun a b => kk _ _ _ a b (Iv_q hI (Fzq_s 2 M)) (Ex_s 8 hE rfl))
    case pos =>
      obtain ⟨w, hw, hw6, ew⟩ := txI hb
      subst ew
      cases hb2 : (sts ps q).2 (tx_num w) with
      | false =>
        refine lv_9_v (F := Iv) ey hL hlt (c75_f (d + 119) q1 h3 q4 h05 hts k8 hw hw6 hb2) (fun o' => ?_) (fun M2 o' a b hF => kk M2 o' ex a b hF (Ex_m hE))
        obtain ⟨v, M2, hS, hv, hF, e32, e34, e594, e35⟩ := Z_S (c149_f (L := L) (xs := xs) (es := oO o' :: ex) (d + 188) hQ1.2.1 hQ1.2.2.1 ((rd_na (by decide)).trans h25) hts ((rd_na (by decide)).trans k32) hw hw6 hb2)
        subst hv
        exact ⟨M2, hS, hF.2.2.2.2, Iv_10 hB h05 h25 hQ hK hN hF e32 e34 e594 e35⟩
      | true =>
        have hpl := len96 (pu_len (mdl_gds q2) q (by omega) s w hs hw hsS hb2) hw6 q5
        have hcz : ab_Z (pg_G L xs) (d + 199) 75 [.ref 0, zi ((tx_num w : Nat) : Int)] M (oO o :: ex) (fun v M' => v = some (zi (nz (sem_pu (pgo ps) q s w))) ∧ Fpt b1 M M' ∧ cls b1 M' ps (q + 1) ∧ ogQ ps q s w (M'.1 0 10) (M'.1 569)) := by
          by_cases hl : (sem_pu (pgo ps) q s w).length ≤ 6
          · by_cases hK7 : 7 ≤ (ps q).1
            · exact c75_y7 (d + 119) q1 h3 q4 h05 hs hs6 k8 hsS hsv hw hw6 hb2 hl hK7
            · exact c75_y6 (d + 119) q1 h3 q4 h05 hs hs6 k8 hsS hsv hw hw6 hb2 hl hK7
          · exact c75_l (d + 119) q1 h3 q4 h05 hs hs6 k8 hsS hsv hw hw6 hb2 hl
        obtain ⟨v, M1, hS1, hv, hFp, hc1, hog1⟩ := Z_S hcz
        subst hv
        have hFc := Fcs_pt hFp
        have hQp := Qv_c hQ hFc hc1
        have hgl := isG_lt q1.1
        have e572 : M1.1 572 = M.1 572 := hFp.1 572 (by decide) (by decide) (by omega)
        refine lv_9_v (F := Iv) ey hL hlt hS1 (fun o' => ?_) (fun M2 o' a b hF => kk M2 o' ex a b hF (Ex_m hE))
        have hmz : ab_Z (pg_G L xs) (d + 200) 149 [.ref 572, zi ((tx_num w : Nat) : Int)] M1 (oO o' :: ex) (fun v M' => v = some (zi (nz (sem_pu (pgo ps) q s w))) ∧ Fzt 0 M1 M' ∧ M'.1 572 32 = M1.1 572 32 ∧ M'.1 572 34 = M1.1 572 34 ∧ M'.2.1 594 = M1.2.1 594 ∧ ogQ ps q s w (M'.1 572 35) (M'.1 595)) := by
          by_cases hl : (sem_pu (pgo ps) q s w).length ≤ 6
          · exact c149_y (d + 188) hQp.2.1 hQp.2.2.1 (by rw [e572]; exact h25) hs hs6 (by rw [e572]; exact k32) hsS hsv hw hw6 hb2 hpl hl
          · exact c149_l (d + 188) hQp.2.1 hQp.2.2.1 (by rw [e572]; exact h25) hs hs6 (by rw [e572]; exact k32) hsS hsv hw hw6 hb2 hpl hl
        obtain ⟨v, M2, hS, hv, hF, e32, e34, e594, hog2⟩ := Z_S hmz
        subst hv
        have hob := ogQ_both hw6 hog1 hog2
        have hK1 : Kv M1 ps q := by
          unfold Kv; rw [hFp.2.1 8 (by decide), e572]; exact hK
        have hN1 : Nv M1 := by
          unfold Nv; rw [hFp.2.1 12 (by decide), e572, hFp.2.2]; exact hN
        refine ⟨M2, hS, hF.2.2.2.2, x, b1, b2, Bv_z (Bv_c q1.1 hB hFc) hF, .inr ⟨?_, (Fzt_f hF 5 (by omega)).trans (by rw [e572]; exact h25), ps, q, Qv_z hQp hF, Kv_z hK1 hF e32⟩, ⟨M1.1 0 10, hob.1, hob.2.1, by rw [hF.1 0 (by decide) (by decide)], hob.2.2.1, fun i i0 i1 => ?_⟩, Nv_z hN1 hF e34 e594⟩
        · rw [hF.1 0 (by decide) (by decide)]; exact (hFp.2.1 5 (by decide)).trans h05
        · rw [hF.1 569 (by decide) (by decide)]; exact hob.2.2.2 i i0 i1
theorem st_13 (hL : L ≤ 1024) (hlt : k + 2 ≤ L) (hI : Iv M) (hE : Ex L xs ex k) (kk : ∀ M' o' ex' a b, Iv M' → Ex L xs ex' (k + 1) → LW L xs d Q k a b 796 (hp M' ++ (oO o' :: ex'))) : LW L xs d Q k o5 o6 708 (hp M ++ (oO o :: ex)) := by
  have r1 := roomN1 (M := M) (o := o) hE (by omega)
  have r2 := roomN2 (M := M) (o := o) hE (by omega)
  obtain ⟨x, b1, b2, hB, hP, hO, hN⟩ := id hI
  rcases hP with ⟨h05, h25⟩ | ⟨h05, h25, ps, q, hQ, hK⟩
  · have h0 := o_0 (M := M) (es := oO o :: ex)
    rw [h05] at h0
    exact lx_13_7 hL hlt (n_98 (d + 197) h0 r1 r2) (c165_n (d + 188) h25) (fun a b => kk _ _ _ a b (Iv_q hI (Fzq_s 1 M)) (Ex_s 7 hE rfl))
  · obtain ⟨q1, q2, q3, q4, q5⟩ := id hQ
    have h3 := hB.2.2.1
    obtain ⟨v, M1, hS1, hv, hM1, ha1⟩ := Z_S (c98 (L := L) (xs := xs) (es := oO o :: ex) (d + 119) q1 h3 q4 h05)
    subst hv
    have hFc : Fcs b1 M M1 := by rw [hM1]; exact Fcs_nt
    have hgl := isG_lt q1.1
    have hc1 : cls b1 M1 ps (q + 1) := by
      rw [hM1]; unfold ntM
      refine cls_of q1 (fun a u1 u2 => ⟨?_, ?_, rfl⟩)
      · rw [sI_ne (by omega)]; rfl
      · exact rB_ne (by omega)
    have hQ1 := Qv_c hQ hFc hc1
    have e572 : M1.1 572 = M.1 572 := hFc.1 572 (by decide) (by decide) (by omega)
    have h12 : M1.1 0 12 = 1 := by rw [hM1]; exact rd_eq
    have h0j : ∀ j, j ≠ 12 → M1.1 0 j = M.1 0 j := fun j hj => by rw [hM1]; exact rd_nk hj
    refine lv_13_v (F := Iv) hL hlt hS1 (fun o' => ?_) (fun M2 o' a b hF => kk M2 o' ex a b hF (Ex_m hE))
    obtain ⟨v, M2, hS, hv, hF, e32, e35, e595, e34, ha2⟩ := Z_S (c165_v (L := L) (xs := xs) (es := oO o' :: ex) (d + 188) hQ1.2.1 hQ1.2.2.1 (by rw [e572]; exact h25))
    subst hv
    have hK1 : Kv M1 ps q := by
      unfold Kv; rw [h0j 8 (by decide), e572]; exact hK
    have hO1 : Ov M1 := by
      unfold Ov; rw [h0j 10 (by decide), e572, show M1.1 569 = M.1 569 by rw [hM1]; unfold ntM; rw [sI_ne (by decide)]; rfl, hFc.1 595 (by decide) (by decide) (by omega)]; exact hO
    refine ⟨M2, hS, hF.2.2.2.2, x, b1, b2, Bv_z (Bv_c q1.1 hB hFc) hF, .inr ⟨?_, (Fzt_f hF 5 (by omega)).trans (by rw [e572]; exact h25), ps, q, Qv_z hQ1 hF, Kv_z hK1 hF e32⟩, Ov_z hO1 hF e35 e595, .inr ⟨?_, e34, (sts ps q).2, fun t ht => (sts_z1 (ps := ps) q (fun j hj => q1.2.2.2.2 j (by omega)) t ht).2, ?_, ha2⟩⟩
    · rw [hF.1 0 (by decide) (by decide)]; exact (h0j 5 (by decide)).trans h05
    · rw [hF.1 0 (by decide) (by decide)]; exact h12
    · rw [hF.2.2.1 571 (by decide)]; exact ha1
theorem st_14 (hL : L ≤ 1024) (hlt : k + 2 ≤ L) (hI : Iv M) (hE : Ex L xs ex k) (kk : ∀ M' o' ex' a b, Iv M' → Ex L xs ex' (k + 1) → LW L xs d Q k a b 796 (hp M' ++ (oO o' :: ex'))) : LW L xs d Q k o5 o6 752 (hp M ++ (oO o :: ex)) := by
  have r1 := roomN1 (M := M) (o := o) hE (by omega)
  have r2 := roomN2 (M := M) (o := o) hE (by omega)
  obtain ⟨x, b1, b2, hB, hP, hO, hN⟩ := id hI
  rcases hP with ⟨h05, h25⟩ | ⟨h05, h25, ps, q, hQ, hK⟩
  · have h0 := o_0 (M := M) (es := oO o :: ex)
    rw [h05] at h0
    exact lx_14_7 hL hlt (n_100 (d + 197) h0 r1 r2) (c166_n (d + 188) h25) (fun a b => kk _ _ _ a b (Iv_q hI (Fzq_s 1 M)) (Ex_s 7 hE rfl))
  · obtain ⟨q1, q2, q3, q4, q5⟩ := id hQ
    have h3 := hB.2.2.1
    rcases hN with ⟨h12, h34⟩ | ⟨h12, h34, N, hNz, hN1, hN2⟩
    · exact lx_14_7 hL hlt (m_100 (d + 197) h05 h12 r1 r2) (c166_m (d + 188) h25 h34) (fun a b => kk _ _ _ a b (Iv_q hI (Fzq_s 1 M)) (Ex_s 7 hE rfl))
    · obtain ⟨v, M1, hS1, hM1, y, hv, hy⟩ := Z_S (c100_v (L := L) (xs := xs) (es := oO o :: ex) (d + 119) q1 h3 q4 h05 h12 hN1 hNz)
      subst hv
      rw [hM1] at hS1
      refine lv_14_v (F := Iv) hL hlt hS1 (fun o' => ?_) (fun M2 o' a b hF => kk M2 o' ex a b hF (Ex_m hE))
      obtain ⟨v, M2, hS, z, hv, hz, hM2⟩ := Z_S (c166_v (L := L) (xs := xs) (es := oO o' :: ex) (d + 188) q2 q3 h25 h34 hN2)
      subst hv
      rw [hM2] at hS
      have e := lst_uniq hy hz
      subst e
      exact ⟨_, hS, rd_eq, Iv_q hI (Fzq_s 0 _)⟩
theorem st_11 (hL : L ≤ 1024) (hlt : k + 2 ≤ L) (hI : Iv M) (hE : Ex L xs ex k) (kk : ∀ M' o' ex' a b, Iv M' → Ex L xs ex' (k + 1) → LW L xs d Q k a b 796 (hp M' ++ (oO o' :: ex'))) : LW L xs d Q k o5 o6 627 (hp M ++ (oO o :: ex)) := by
  obtain ⟨x, b1, b2, hB, hP, hO, hN⟩ := id hI
  obtain ⟨y, hy, ey⟩ := argI (xs (k + 1))
  obtain ⟨m, m0, m6, h10, h35, hag⟩ := hO
  have kq := kk (sI M 572 2 0) o ex o5 o6 (Iv_q hI (Fzq_s 0 M)) (Ex_m hE)
  by_cases hb : 0 ≤ y ∧ y < m
  · have e1 := c49_y (L := L) (xs := xs) (es := oO o :: ex) (d + 199) hb.1 hb.2 m6 h10
    have e2 := c163_y (L := L) (xs := xs) (es := oO o :: ex) (d + 188) hb.1 hb.2 m6 h35
    rw [← hag y hb.1 hb.2] at e2
    exact lw_11 hL hlt o_0 (by rw [ey]; exact e1) o_572 (by rw [ey]; exact e2) kq
  · have e1 := c49_n (L := L) (xs := xs) (es := oO o :: ex) (d + 199) hy hb m0 m6 h10
    have e2 := c163_n (L := L) (xs := xs) (es := oO o :: ex) (d + 188) hy hb m0 m6 h35
    exact lw_11 hL hlt o_0 (by rw [ey]; exact e1) o_572 (by rw [ey]; exact e2) kq
theorem st_2 (hL : L ≤ 1024) (hlt : k + 2 ≤ L) (hI : Iv M) (hE : Ex L xs ex k) (kk : ∀ M' o' ex' a b, Iv M' → Ex L xs ex' (k + 1) → LW L xs d Q k a b 796 (hp M' ++ (oO o' :: ex'))) : LW L xs d Q k o5 o6 188 (hp M ++ (oO o :: ex)) := by
  obtain ⟨x, b1, b2, hB, hP, hO, hN⟩ := id hI
  have kq := kk (sI M 572 2 0) o ex o5 o6 (Iv_q hI (Fzq_s 0 M)) (Ex_m hE)
  have e1 := c47 (L := L) (xs := xs) (M := M) (es := oO o :: ex) (d + 199)
  have e2 := c129 (L := L) (xs := xs) (M := M) (es := oO o :: ex) (d + 199)
  rw [← hB.2.2.2.2.2.2.2.1] at e2
  exact lw_2 hL hlt o_0 e1 o_572 e2 kq
theorem st_3 (hL : L ≤ 1024) (hlt : k + 2 ≤ L) (hI : Iv M) (hE : Ex L xs ex k) (kk : ∀ M' o' ex' a b, Iv M' → Ex L xs ex' (k + 1) → LW L xs d Q k a b 796 (hp M' ++ (oO o' :: ex'))) : LW L xs d Q k o5 o6 201 (hp M ++ (oO o :: ex)) := by
  obtain ⟨x, b1, b2, hB, hP, hO, hN⟩ := id hI
  have kq := kk (sI M 572 2 0) o ex o5 o6 (Iv_q hI (Fzq_s 0 M)) (Ex_m hE)
  have e1 := c48 (L := L) (xs := xs) (M := M) (es := oO o :: ex) (d + 199)
  have e2 := c130 (L := L) (xs := xs) (M := M) (es := oO o :: ex) (d + 199)
  rw [← hB.2.2.2.2.2.2.2.2] at e2
  exact lw_3 hL hlt o_0 e1 o_572 e2 kq
theorem st_1 (hL : L ≤ 1024) (hlt : k + 2 ≤ L) (hI : Iv M) (hE : Ex L xs ex k) (kk : ∀ M' o' ex' a b, Iv M' → Ex L xs ex' (k + 1) → LW L xs d Q k a b 796 (hp M' ++ (oO o' :: ex'))) : LW L xs d Q k o5 o6 175 (hp M ++ (oO o :: ex)) := by
  obtain ⟨x, b1, b2, hB, hP, hO, hN⟩ := hI
  obtain ⟨h1, h2, h3, h4, h5, h6, h7, h8, h9⟩ := id hB
  obtain ⟨v, M1, hS1, r, hv, hr, f1, c1, a1⟩ := Z_S (cC7 (L := L) (xs := xs) (es := oO o :: ex) (D := d + 200) (by omega) h6 h3 h4 h1.1 h2.1 (fun i hi => ⟨h2.2 i hi, (h1.2.2 i hi).2⟩))
  subst hv
  have g2 := isG_lt h6
  have o1 : ∀ a, 569 ≤ a → M1.1 a = M.1 a := fun a q => (f1.1 a (by omega) (by omega) (by omega) (by omega) (by omega)).1
  have hl1 : rLn M1 x := ⟨h1.1, by rw [o1 572 (by decide)]; exact h1.2.1, fun i hi => by rw [o1 575 (by decide)]; exact h1.2.2 i hi⟩
  obtain ⟨v, M2, hS2, r', hv, hr', f2, z2, z4, c2, a2⟩ := Z_S (c105 (L := L) (xs := xs) (es := oO o :: ex) (d + 194) hl1)
  subst hv
  obtain ⟨er, hI2⟩ := Iv_cm hB hP hO hN f1 c1 a1 f2 z4 c2 a2
  subst er
  exact lw_1 hL hlt o_0 hS1 o_572 hS2 (kk M2 o ex o5 o6 hI2 (Ex_m hE))
theorem Iv_tp {x : lne} {b1 b2 : Nat} (hB : Bv M x b1 b2) (hP : Pv M b1) (hO : Ov M) (hN : Nv M) {t : Int32} {c : Nat} (H : okc t c) (hf : x.1 + c ≤ 16) {M1 M2 : mm} (e1 : M1 = sI (rI M 1 (tpI (M.1 1) x.1 t c)) 0 1 ((x.1 + c : Nat) : Int)) (e2 : M2 = sI (sI (rI M1 575 (tpI (M1.1 575) x.1 t c)) 572 2 0) 572 4 ((x.1 + c : Nat) : Int)) : Iv M2 := by
  obtain ⟨h1, h2, h3, h4, h5, h6, h7, h8, h9⟩ := hB
  have g1 := isG_lt h5
  have n1 : ∀ a, a ≠ 0 → a ≠ 1 → M1.1 a = M.1 a := fun a q1 q2 => by rw [e1, sI_ne q1, rI_ne q2]
  have n0 : ∀ j, j ≠ 1 → M1.1 0 j = M.1 0 j := fun j hj => by rw [e1]; exact (rd_nk hj).trans (rd_ra (by decide))
  have m1 : ∀ a, a ≠ 572 → a ≠ 575 → M2.1 a = M1.1 a := fun a q1 q2 => by rw [e2, sI_ne q1, sI_ne q1, rI_ne q2]
  have m0 : ∀ j, j ≠ 2 → j ≠ 4 → M2.1 572 j = M.1 572 j := fun j q1 q2 => by
    rw [e2]; refine (rd_nk q2).trans ((rd_nk q1).trans ((rd_ra (by decide)).trans ?_)); rw [n1 572 (by decide) (by decide)]
  have s2 : M2.2 = M.2 := by rw [e2, e1]; rfl
  have z0 : ∀ j, j ≠ 1 → M2.1 0 j = M.1 0 j := fun j hj => by rw [m1 0 (by decide) (by decide)]; exact n0 j hj
  have za : ∀ a, a ≠ 0 → a ≠ 1 → a ≠ 572 → a ≠ 575 → M2.1 a = M.1 a := fun a q1 q2 q3 q4 => (m1 a q3 q4).trans (n1 a q1 q2)
  refine ⟨nln x t c, b1, b2, ⟨⟨hf, ?_, ?_⟩, ⟨?_, ?_⟩, by rw [s2]; exact h3, by rw [s2]; exact h4, h5, h6, h7, ?_, ?_⟩, ?_, ?_, ?_⟩
  · rw [e2]; exact rd_eq
  · intro i hi
    have q := tpI_ln h1.2.2 H i hi
    refine ⟨?_, q.2⟩
    rw [e2, sI_ne (by decide), sI_ne (by decide), rI_at, n1 575 (by decide) (by decide)]; exact q.1
  · rw [m1 0 (by decide) (by decide), e1]; exact rd_eq
  · intro i hi
    have q := tpI_ln (fun i hi => ⟨h2.2 i hi, (h1.2.2 i hi).2⟩) H i hi
    rw [m1 1 (by decide) (by decide), e1, sI_ne (by decide), rI_at]; exact q.1
  · rw [z0 6 (by decide), m0 30 (by decide) (by decide)]; exact h8
  · rw [z0 7 (by decide), m0 31 (by decide) (by decide)]; exact h9
  · rcases hP with hp | ⟨p1, p2, ps, q, ⟨q1, q2, q3, q4, q5⟩, hk⟩
    · exact .inl ⟨(z0 5 (by decide)).trans hp.1, (m0 5 (by decide) (by decide)).trans hp.2⟩
    · refine .inr ⟨(z0 5 (by decide)).trans p1, (m0 5 (by decide) (by decide)).trans p2, ps, q, ⟨cls_of q1 (fun a u1 u2 => ⟨za a (by omega) (by omega) (by omega) (by omega), by rw [s2], by rw [s2]⟩), ⟨q2.1, fun j hj => ?_⟩, (m0 6 (by decide) (by decide)).trans q3, by rw [s2]; exact q4, q5⟩, ?_⟩
      · have v := q2.2 j hj
        rw [za 576 (by decide) (by decide) (by decide) (by decide), za 577 (by decide) (by decide) (by decide) (by decide), za 578 (by decide) (by decide) (by decide) (by decide), za 579 (by decide) (by decide) (by decide) (by decide), s2]; exact v
      · unfold Kv; rw [z0 8 (by decide), m0 32 (by decide) (by decide)]; exact hk
  · unfold Ov; rw [z0 10 (by decide), m0 35 (by decide) (by decide), za 569 (by decide) (by decide) (by decide) (by decide), za 595 (by decide) (by decide) (by decide) (by decide)]; exact hO
  · unfold Nv; rw [z0 12 (by decide), m0 34 (by decide) (by decide), s2]; exact hN
theorem st_0 (hL : L ≤ 1024) (hlt : k + 2 ≤ L) (hI : Iv M) (hE : Ex L xs ex k) (kk : ∀ M' o' ex' a b, Iv M' → Ex L xs ex' (k + 1) → LW L xs d Q k a b 796 (hp M' ++ (oO o' :: ex'))) : LW L xs d Q k o5 o6 112 (hp M ++ (oO o :: ex)) := by
  have r1 := roomN1 (M := M) (o := o) hE (by omega)
  have r2 := roomN2 (M := M) (o := o) hE (by omega)
  obtain ⟨x, b1, b2, hB, hP, hO, hN⟩ := id hI
  have h16 := hB.1.1
  rcases ok_or_bad (xs (k + 1)) with ⟨c, hc, H⟩ | ⟨c, hc, H⟩
  · by_cases hf : x.1 + c ≤ 16
    · have q := w_50_1 (L := L) (xs := xs) (d + 199) o_0 (T51 (L := L) (xs := xs) (M := M) (es := oO o :: ex) (d + 197) hc H hB.2.1.1 hf) HP619
      rw [HPset] at q
      have e := T104 (L := L) (xs := xs) (M := sI (rI M 1 (tpI (M.1 1) x.1 (xs (k + 1)) c)) 0 1 ((x.1 + c : Nat) : Int)) (es := oO (vp_updL o 0 1) :: ex) (d + 199) (n := x.1) hc H (by rw [sI_ne (by decide), rI_ne (by decide)]; exact hB.1.2.1) hf
      have z := c103 (L := L) (xs := xs) (M := sI (sI (rI (sI (rI M 1 (tpI (M.1 1) x.1 (xs (k + 1)) c)) 0 1 ((x.1 + c : Nat) : Int)) 575 (tpI ((sI (rI M 1 (tpI (M.1 1) x.1 (xs (k + 1)) c)) 0 1 ((x.1 + c : Nat) : Int)).1 575) x.1 (xs (k + 1)) c)) 572 2 0) 572 4 ((x.1 + c : Nat) : Int)) (es := oO (vp_updL o 0 1) :: ex) (d + 199)
      rw [rd_nk (by decide), rd_eq] at z
      exact lw_0_1 hL hlt q o_572 e o_572 z HP619 upd00 (kk _ _ _ _ _ (Iv_tp hB hP hO hN H hf rfl rfl) (Ex_m hE))
    · have q := w_50_0 (L := L) (xs := xs) (d + 199) o_0 (F51 (L := L) (xs := xs) (M := M) (es := oO o :: ex) (d + 197) hc H hB.2.1.1 h16 hf) HP619
      rw [HPset] at q
      have e := F104 (L := L) (xs := xs) (M := M) (es := oO (vp_updL o 0 0) :: ex) (d + 199) hc H hB.1.2.1 h16 hf
      have z := c103 (L := L) (xs := xs) (M := sI M 572 2 0) (es := oO (vp_updL o 0 0) :: ex) (d + 199)
      rw [rd_eq] at z
      exact lw_0_0 hL hlt q o_572 e o_572 z HP619 upd00 (kk _ _ _ _ _ (Iv_q hI (Fzq_s 0 M)) (Ex_m hE))
  · have q := y_50_6 (L := L) (xs := xs) (b := 619) (d + 199) o_0 (B51 (L := L) (xs := xs) (M := M) (es := oO o :: ex) (d + 197) hc H hB.2.1.1 h16 r1 r2)
    rw [HPapp] at q
    have e := B104 (L := L) (xs := xs) (M := M) (es := oO o :: (ex ++ [.inr (6, [])])) (d + 199) hc H hB.1.2.1 h16
    have z := c103 (L := L) (xs := xs) (M := sI M 572 2 1) (es := oO o :: (ex ++ [.inr (6, [])])) (d + 199)
    rw [rd_eq] at z
    exact lw_0_x (w := 1) (v := 0) hL hlt q o_572 e o_572 z (by decide) (kk _ _ _ _ _ (Iv_q hI (Fzq_s 1 M)) (Ex_s 6 hE rfl))
theorem law_step (hL : L ≤ 1024) (hlt : k + 2 ≤ L) (hI : Iv M) (hE : Ex L xs ex k) (kk : ∀ M' o' ex' a b, Iv M' → Ex L xs ex' (k + 1) → LW L xs d Q k a b 796 (hp M' ++ (oO o' :: ex'))) : LW L xs d Q k o5 o6 23 (hp M ++ (oO o :: ex)) := by
  obtain ⟨c, hc16, hc⟩ := and15 (xs k)
  match c, hc16 with
  | 0, _ => exact lw_sw0 hL (by omega) hlt hc (st_0 hL hlt hI hE kk)
  | 1, _ => exact lw_sw1 hL (by omega) hlt hc (st_1 hL hlt hI hE kk)
  | 2, _ => exact lw_sw2 hL (by omega) hlt hc (st_2 hL hlt hI hE kk)
  | 3, _ => exact lw_sw3 hL (by omega) hlt hc (st_3 hL hlt hI hE kk)
  | 4, _ => exact lw_sw4 hL (by omega) hlt hc (st_4 hL hlt hI hE kk)
  | 5, _ => exact lw_sw5 hL (by omega) hlt hc (st_5 hL hlt hI hE kk)
  | 6, _ => exact lw_sw6 hL (by omega) hlt hc (st_6 hL hlt hI hE kk)
  | 7, _ => exact lw_sw7 hL (by omega) hlt hc (st_7 hL hlt hI hE kk)
  | 8, _ => exact lw_sw8 hL (by omega) hlt hc (st_8 hL hlt hI hE kk)
  | 9, _ => exact lw_sw9 hL (by omega) hlt hc (st_9 hL hlt hI hE kk)
  | 10, _ => exact lw_sw10 hL (by omega) hlt hc (st_10 hL hlt hI hE kk)
  | 11, _ => exact lw_sw11 hL (by omega) hlt hc (st_11 hL hlt hI hE kk)
  | 12, _ => exact lw_sw12 hL (by omega) hlt hc (st_12 hL hlt hI hE kk)
  | 13, _ => exact lw_sw13 hL (by omega) hlt hc (st_13 hL hlt hI hE kk)
  | 14, _ => exact lw_sw14 hL (by omega) hlt hc (st_14 hL hlt hI hE kk)
  | 15, _ => exact lw_sw15 hL (by omega) hlt hc (kk M o ex o5 o6 hI (Ex_m hE))
  | n + 16, h => exact absurd h (by omega)
theorem law_loop (hL : L ≤ 1024) (hQ : ∀ h, Q (.inl (some (.int 1))) h) : ∀ n k : Nat, L - k = n → k ≤ L + 1 → ∀ (M : mm) (ex : ab_H) (o : Nat → Int64) (o5 o6 : Option Value), Iv M → Ex L xs ex k → LW L xs d Q k o5 o6 23 (hp M ++ (oO o :: ex)) := by
  intro n
  induction n using Nat.strongRecOn with
  | _ n ih =>
    intro k hn hk M ex o o5 o6 hI hE
    by_cases hlt : k + 2 ≤ L
    · refine law_step hL hlt hI hE (fun M' o' ex' a b hI' hE' => ?_)
      exact lw_next (by omega) (ih (L - (k + 2)) (by omega) (k + 2) rfl (by omega) M' ex' o' a b hI' (Ex_m hE'))
    · exact lw_end hL (by omega) (by omega) (hQ _)
end C46
