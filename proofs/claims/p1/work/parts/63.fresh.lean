/-! OURS, printed by wip/tools/gen63.py: the heap of new objects; the first call on it. -/
section Fr
variable {L : Nat} {xs : Nat → Int32}
def o_out : ab_O := .inl (1, 1, .inr (.inl (fun _ => 0)))
def H0 : ab_H := b_cls 0 ++ (b_mod 572 ++ [o_out])
theorem b_cls_len (n : Nat) : (b_cls n).length = 572 := by
  unfold b_cls
  simp only [List.length_append, List.length_cons, List.length_nil, b_prog_len, b_join_len, b_set_len]
theorem b_cls_wt (n : Nat) : ab_wt (pg_G L xs) (b_cls n) = 7062 := by
  unfold b_cls
  simp only [ab_wt_app, ab_wt_cons, ab_wt_nil, w_inl, w_inr, w_0, b_prog_wt, b_join_wt, b_set_wt]
theorem b_mod_wt (n : Nat) : ab_wt (pg_G L xs) (b_mod n) = 7824 := by
  unfold b_mod
  simp only [ab_wt_app, ab_wt_cons, ab_wt_nil, w_inl, w_inr, w_5]
theorem H0_len : H0.length = 620 := by
  unfold H0
  rw [List.length_append, b_cls_len]
  rfl
theorem H0_wt : ab_wt (pg_G L xs) H0 = 14887 := by
  unfold H0
  rw [ab_wt_app, ab_wt_app, b_cls_wt, b_mod_wt]
  rfl
theorem H0_m (i : Nat) : H0[572 + i]? = (b_mod 572 ++ [o_out])[i]? := by
  unfold H0
  rw [List.getElem?_append_right (by rw [b_cls_len]; omega), b_cls_len, show 572 + i - 572 = i by omega]
theorem H0_0 : H0[0]? = some (.inr (0, [.ref 1, .int 0, .ref 2, .ref 5, .ref 287, .int 0, .int 0, .int (-1), .int (-1), .ref 569, .int 0, .ref 570, .int 0])) := rfl
theorem H0_1 : H0[1]? = some (.inl (2, 16, .inl (fun _ => 0))) := rfl
def U0 : ab_H := .inr (0, [.ref 1, .int 0, .ref 2, .ref 5, .ref 287, .int 0, .int 0, .int (-1), .int (-1), .ref 569, .int 0, .ref 570, .int 0]) :: ([] ++ [.inl (2, 16, .inl (fun _ => 0))] ++ b_join 2 ++ b_prog 5)
theorem U0_len : U0.length = 287 := by
  unfold U0
  simp only [List.length_append, List.length_cons, List.length_nil, b_prog_len, b_join_len]
theorem H0_U : H0 = U0 ++ (b_prog 287 ++ ([.inl (0, 6, .inl (fun _ => 0))] ++ b_set 570 ++ (b_mod 572 ++ [o_out]))) := by
  unfold H0 U0 b_cls
  simp only [List.append_assoc, List.cons_append, List.nil_append]
theorem H0_287 : H0[287]? = some (.inr (3, [.ref 288, .int 0, .int 0, .ref 289, .int 0, .ref 290])) := by
  rw [H0_U, List.getElem?_append_right (by rw [U0_len]; omega), U0_len]
  rfl
theorem H0_288 : H0[288]? = some (.inl (2, 16, .inl (fun _ => 0))) := by
  rw [H0_U, List.getElem?_append_right (by rw [U0_len]; omega), U0_len]
  rfl
theorem H0_569 : H0[569]? = some (.inl (0, 6, .inl (fun _ => 0))) := by
  rw [H0_U, List.getElem?_append_right (by rw [U0_len]; omega), U0_len, List.getElem?_append_right (by rw [b_prog_len]; omega), b_prog_len]
  rfl
theorem H0_M : ∃ fs, H0[572]? = some (.inr (5, fs)) ∧ fs.length = 68 ∧ fs[2]? = some (.int 0) ∧ fs[3]? = some (.ref 575) ∧ fs[4]? = some (.int 0) ∧ fs[5]? = some (.int 0) ∧ fs[30]? = some (.int 0) ∧ fs[31]? = some (.int (-1)) ∧ fs[35]? = some (.int 0) ∧ fs[36]? = some (.ref 595) := by
  refine ⟨_, (H0_m 0).trans rfl, rfl, rfl, rfl, rfl, rfl, rfl, rfl, rfl, rfl⟩
theorem H0_575 : H0[575]? = some (.inl (0, 16, .inl (fun _ => 0))) := (H0_m 3).trans rfl
theorem H0_fr : H0[595]? = some (.inl (0, 6, .inl (fun _ => 0))) := (H0_m 23).trans rfl
theorem H0_619 : H0[619]? = some o_out := (H0_m 47).trans rfl
theorem lw_init (d : Nat) {Q : ab_Q} (kk : ab_W (pg_G L xs) (ab_X (pg_G L xs) (d + 4)) 0 Q 23 [some (.ref 1000002), some (.ref 0), some (.ref 572), some (.ref 619), some (.int (Int32.ofNat 0)), none, none] [] H0) : ab_W (pg_G L xs) (ab_X (pg_G L xs) (d + 4)) 0 Q 0 [some (.ref 1000002), none, none, none, none, none, none] [] [] := by
  refine x_new 8 0 3 rfl rfl rfl (show 0 + 1 ≤ 600000 by decide) (show 0 + 13 ≤ 7000000 by decide) rfl ?_
  refine x_dup 4 rfl rfl rfl ?_
  refine x_cv 51 1 7 [.ref 0] rfl rfl rfl (Nat.le_of_ble_eq_true rfl) rfl rfl (Nat.le_of_ble_eq_true rfl) ⟨_, _, _, rfl, rfl⟩ (Nat.le_of_ble_eq_true rfl) (k_1 (L := L) (xs := xs) d (u := []) (by decide) (by show 0 + 7062 ≤ 7000000; decide)) rfl ?_
  refine x_st 1 1 2 8 [some (.ref 1000002), some (.ref 0), none, none, none, none, none] rfl rfl rfl (Nat.le_of_ble_eq_true rfl) rfl rfl ?_
  show ab_W _ _ _ _ _ _ _ (b_cls 0)
  refine x_new 52 5 11 rfl rfl rfl (by rw [b_cls_len]; show 573 ≤ 600000; decide) (by rw [b_cls_wt]; show 7062 + 68 ≤ 7000000; decide) rfl ?_
  rw [b_cls_len]
  refine x_dup 12 rfl rfl rfl ?_
  have hk := k_102 (L := L) (xs := xs) (d + 3) (u := b_cls 0) (by rw [b_cls_len]; decide) (by rw [b_cls_wt]; decide)
  rw [b_cls_len] at hk
  have h572 : (b_cls 0 ++ [.inr (5, pg_df5)])[572]? = some (.inr (5, pg_df5)) := by
    have := ap_at (b_cls 0) (.inr (5, pg_df5)) []
    rw [b_cls_len] at this
    exact this
  refine x_cv 54 102 15 [.ref 572] rfl rfl rfl (Nat.le_of_ble_eq_true rfl) rfl rfl (Nat.le_of_ble_eq_true rfl) ⟨_, _, _, rfl, h572⟩ (Nat.le_of_ble_eq_true rfl) hk rfl ?_
  refine x_st 2 1 2 16 [some (.ref 1000002), some (.ref 0), some (.ref 572), none, none, none, none] rfl rfl rfl (Nat.le_of_ble_eq_true rfl) rfl rfl ?_
  refine x_cst (.int 1) 1 17 rfl rfl rfl ?_
  have hl : (b_cls 0 ++ b_mod 572).length = 619 := by
    rw [List.length_append, b_cls_len]
    rfl
  refine x_na 1 1 19 rfl rfl rfl rfl (by decide) rfl (by decide) (by rw [hl]; show 620 ≤ 600000; decide) (by rw [ab_wt_app, b_cls_wt, b_mod_wt]; show 7062 + 7824 + 1 ≤ 7000000; decide) rfl ?_
  rw [hl]
  refine x_st 3 1 2 20 [some (.ref 1000002), some (.ref 0), some (.ref 572), some (.ref 619), none, none, none] rfl rfl rfl (Nat.le_of_ble_eq_true rfl) rfl rfl ?_
  refine x_cst (.int 0) 1 21 rfl rfl rfl ?_
  refine x_st 4 2 0 23 [some (.ref 1000002), some (.ref 0), some (.ref 572), some (.ref 619), some (.int (Int32.ofNat 0)), none, none] rfl rfl rfl (Nat.le_of_ble_eq_true rfl) rfl rfl ?_
  rw [List.append_assoc]
  exact kk
end Fr
