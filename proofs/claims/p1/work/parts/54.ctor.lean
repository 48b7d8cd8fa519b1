/-! OURS, printed by wip/tools/gen54.py: the small constructors. -/
def b_set (n : Nat) : ab_H := [.inr (4, [.ref (n + 1)]), .inl (1, 18, .inr (.inl (fun _ => 0)))]
def b_join (n : Nat) : ab_H := [.inr (1, [.ref (n + 1), .ref (n + 2), .int 0, .int (-1)]), .inl (0, 1093, .inl (fun _ => 0)), .inl (0, 1093, .inl (fun _ => 0))]
def b_part0 (n : Nat) : ab_H := .inr (2, [.int 0, .int 0, .int 0, .null, .null, .ref (n + 1), .ref (n + 3), .int 0, .int (-1), .ref (n + 5), .ref (n + 6), .ref (n + 7), .ref (n + 8), .int 0]) :: (b_set (n + 1) ++ b_set (n + 3) ++ [.inl (0, 6, .inl (fun _ => 0)), .inl (0, 6, .inl (fun _ => 0)), .inl (0, 6, .inl (fun _ => 0)), .inl (0, 6, .inl (fun _ => 0))])
section Ct
variable {L : Nat} {xs : Nat → Int32}
theorem k_5 (d : Nat) {u : ab_H} (h1 : u.length + 2 ≤ 600000) (h2 : ab_wt (pg_G L xs) u + 19 ≤ 7000000) : ab_S (pg_G L xs) (d + 1) 5 [.ref u.length] (u ++ [.inr (4, pg_df4)]) none (u ++ b_set u.length) := by
  show ab_W (pg_G L xs) (ab_X (pg_G L xs) (d + 0)) 5 _ 0 _ [] (u ++ .inr (4, pg_df4) :: [])
  refine x_ld 0 1 2 1 rfl rfl rfl rfl rfl ?_
  refine x_obj 3 4 rfl rfl (Nat.le_of_ble_eq_true rfl) rfl ?_
  refine x_ld 0 1 2 5 rfl rfl rfl rfl rfl ?_
  refine x_cst (.int 18) 2 7 rfl rfl rfl ?_
  refine u_na 1 18 (u.length + 1) 1 9 rfl rfl rfl rfl (by decide) rfl (Nat.le_of_ble_eq_true rfl) rfl rfl (by show _ ≤ 600000; omega) (by show _ ≤ 7000000; omega) rfl ?_
  refine u_put 11 0 12 [.ref (u.length + 1)] rfl rfl (Nat.le_of_ble_eq_true rfl) rfl rfl rfl rfl rfl ?_
  exact x_rtv rfl rfl ⟨rfl, rfl⟩
theorem k_2 (d : Nat) {u : ab_H} (h1 : u.length + 3 ≤ 600000) (h2 : ab_wt (pg_G L xs) u + 2190 ≤ 7000000) : ab_S (pg_G L xs) (d + 1) 2 [.ref u.length] (u ++ [.inr (1, pg_df1)]) none (u ++ b_join u.length) := by
  show ab_W (pg_G L xs) (ab_X (pg_G L xs) (d + 0)) 2 _ 0 _ [] (u ++ .inr (1, pg_df1) :: [])
  refine x_ld 0 1 2 1 rfl rfl rfl rfl rfl ?_
  refine x_obj 3 4 rfl rfl (Nat.le_of_ble_eq_true rfl) rfl ?_
  refine x_ld 0 1 2 5 rfl rfl rfl rfl rfl ?_
  refine x_cst (.int 1093) 3 8 rfl rfl rfl ?_
  refine u_na 0 1093 (u.length + 1) 4 10 rfl rfl rfl rfl (by decide) rfl (Nat.le_of_ble_eq_true rfl) rfl rfl (by show _ ≤ 600000; omega) (by show _ ≤ 7000000; omega) rfl ?_
  refine u_put 9 0 13 [.ref (u.length + 1), .null, .int 0, .int 0] rfl rfl (Nat.le_of_ble_eq_true rfl) rfl rfl rfl rfl rfl ?_
  refine x_ld 0 1 2 14 rfl rfl rfl rfl rfl ?_
  refine x_cst (.int 1093) 3 17 rfl rfl rfl ?_
  refine u_na 0 1093 (u.length + 2) 1097 19 rfl rfl rfl rfl (by decide) rfl (Nat.le_of_ble_eq_true rfl) rfl rfl (by show _ ≤ 600000; omega) (by show _ ≤ 7000000; omega) rfl ?_
  refine u_put 15 1 22 [.ref (u.length + 1), .ref (u.length + 2), .int 0, .int 0] rfl rfl (Nat.le_of_ble_eq_true rfl) rfl rfl rfl rfl rfl ?_
  refine x_ld 0 1 2 23 rfl rfl rfl rfl rfl ?_
  refine x_cst (.int 0) 1 24 rfl rfl rfl ?_
  refine u_put 18 2 27 [.ref (u.length + 1), .ref (u.length + 2), .int 0, .int 0] rfl rfl (Nat.le_of_ble_eq_true rfl) rfl rfl rfl rfl rfl ?_
  refine x_ld 0 1 2 28 rfl rfl rfl rfl rfl ?_
  refine x_cst (.int (-1)) 1 29 rfl rfl rfl ?_
  refine u_put 22 3 32 [.ref (u.length + 1), .ref (u.length + 2), .int 0, .int (-1)] rfl rfl (Nat.le_of_ble_eq_true rfl) rfl rfl rfl rfl rfl ?_
  exact x_rtv rfl rfl ⟨rfl, rfl⟩
theorem k_4 (d : Nat) {u : ab_H} (h1 : u.length + 9 ≤ 600000) (h2 : ab_wt (pg_G L xs) u + 76 ≤ 7000000) : ab_S (pg_G L xs) (d + 2) 4 [.ref u.length] (u ++ [.inr (2, pg_df2)]) none (u ++ b_part0 u.length) := by
  show ab_W (pg_G L xs) (ab_X (pg_G L xs) (d + 1)) 4 _ 0 _ [] (u ++ .inr (2, pg_df2) :: [])
  refine x_ld 0 1 2 1 rfl rfl rfl rfl rfl ?_
  refine x_obj 3 4 rfl rfl (Nat.le_of_ble_eq_true rfl) rfl ?_
  refine x_ld 0 1 2 5 rfl rfl rfl rfl rfl ?_
  refine x_cst (.int 0) 1 6 rfl rfl rfl ?_
  refine u_put 9 0 9 [.int 0, .int 0, .int 0, .null, .null, .null, .null, .int 0, .int 0, .null, .null, .null, .null, .int 0] rfl rfl (Nat.le_of_ble_eq_true rfl) rfl rfl rfl rfl rfl ?_
  refine x_ld 0 1 2 10 rfl rfl rfl rfl rfl ?_
  refine x_cst (.int 0) 1 11 rfl rfl rfl ?_
  refine u_put 15 1 14 [.int 0, .int 0, .int 0, .null, .null, .null, .null, .int 0, .int 0, .null, .null, .null, .null, .int 0] rfl rfl (Nat.le_of_ble_eq_true rfl) rfl rfl rfl rfl rfl ?_
  refine x_ld 0 1 2 15 rfl rfl rfl rfl rfl ?_
  refine x_cst (.int 0) 1 16 rfl rfl rfl ?_
  refine u_put 18 2 19 [.int 0, .int 0, .int 0, .null, .null, .null, .null, .int 0, .int 0, .null, .null, .null, .null, .int 0] rfl rfl (Nat.le_of_ble_eq_true rfl) rfl rfl rfl rfl rfl ?_
  refine x_ld 0 1 2 20 rfl rfl rfl rfl rfl ?_
  refine u_new 21 4 (u.length + 1) 14 23 rfl rfl rfl rfl rfl (by show _ ≤ 600000; omega) (by show _ ≤ 7000000; show _ + (14 + 1) ≤ _; omega) rfl ?_
  refine x_dup 24 rfl rfl rfl ?_
  refine u_ctor b_set 23 5 (u.length + 1) 27 rfl rfl (Nat.le_of_ble_eq_true rfl) rfl (Nat.le_of_ble_eq_true rfl) rfl (Nat.le_of_ble_eq_true rfl) rfl (k_5 (L := L) (xs := xs) (d + 0) (by rw [ap_len]; show u.length + 1 + 2 ≤ 600000; omega) (by rw [ab_wt_app, ab_wt_cons]; show ab_wt (pg_G L xs) u + 14 + 19 ≤ 7000000; omega)) rfl ?_
  refine u_put 24 5 30 [.int 0, .int 0, .int 0, .null, .null, .ref (u.length + 1), .null, .int 0, .int 0, .null, .null, .null, .null, .int 0] rfl rfl (Nat.le_of_ble_eq_true rfl) rfl rfl rfl rfl rfl ?_
  refine x_ld 0 1 2 31 rfl rfl rfl rfl rfl ?_
  refine u_new 21 4 (u.length + 3) 33 34 rfl rfl rfl rfl rfl (by show _ ≤ 600000; omega) (by show _ ≤ 7000000; show _ + (33 + 1) ≤ _; omega) rfl ?_
  refine x_dup 35 rfl rfl rfl ?_
  refine u_ctor b_set 23 5 (u.length + 3) 38 rfl rfl (Nat.le_of_ble_eq_true rfl) rfl (Nat.le_of_ble_eq_true rfl) rfl (Nat.le_of_ble_eq_true rfl) rfl (k_5 (L := L) (xs := xs) (d + 0) (by rw [ap_len]; show u.length + 3 + 2 ≤ 600000; omega) (by rw [ab_wt_app, ab_wt_cons]; show ab_wt (pg_G L xs) u + 33 + 19 ≤ 7000000; omega)) rfl ?_
  refine u_put 28 6 41 [.int 0, .int 0, .int 0, .null, .null, .ref (u.length + 1), .ref (u.length + 3), .int 0, .int 0, .null, .null, .null, .null, .int 0] rfl rfl (Nat.le_of_ble_eq_true rfl) rfl rfl rfl rfl rfl ?_
  refine x_ld 0 1 2 42 rfl rfl rfl rfl rfl ?_
  refine x_cst (.int 0) 1 43 rfl rfl rfl ?_
  refine u_put 31 7 46 [.int 0, .int 0, .int 0, .null, .null, .ref (u.length + 1), .ref (u.length + 3), .int 0, .int 0, .null, .null, .null, .null, .int 0] rfl rfl (Nat.le_of_ble_eq_true rfl) rfl rfl rfl rfl rfl ?_
  refine x_ld 0 1 2 47 rfl rfl rfl rfl rfl ?_
  refine x_cst (.int (-1)) 1 48 rfl rfl rfl ?_
  refine u_put 34 8 51 [.int 0, .int 0, .int 0, .null, .null, .ref (u.length + 1), .ref (u.length + 3), .int 0, .int (-1), .null, .null, .null, .null, .int 0] rfl rfl (Nat.le_of_ble_eq_true rfl) rfl rfl rfl rfl rfl ?_
  refine x_ld 0 1 2 52 rfl rfl rfl rfl rfl ?_
  refine x_cst (.int 6) 2 54 rfl rfl rfl ?_
  refine u_na 0 6 (u.length + 5) 52 56 rfl rfl rfl rfl (by decide) rfl (Nat.le_of_ble_eq_true rfl) rfl rfl (by show _ ≤ 600000; omega) (by show _ ≤ 7000000; omega) rfl ?_
  refine u_put 37 9 59 [.int 0, .int 0, .int 0, .null, .null, .ref (u.length + 1), .ref (u.length + 3), .int 0, .int (-1), .ref (u.length + 5), .null, .null, .null, .int 0] rfl rfl (Nat.le_of_ble_eq_true rfl) rfl rfl rfl rfl rfl ?_
  refine x_ld 0 1 2 60 rfl rfl rfl rfl rfl ?_
  refine x_cst (.int 6) 2 62 rfl rfl rfl ?_
  refine u_na 0 6 (u.length + 6) 58 64 rfl rfl rfl rfl (by decide) rfl (Nat.le_of_ble_eq_true rfl) rfl rfl (by show _ ≤ 600000; omega) (by show _ ≤ 7000000; omega) rfl ?_
  refine u_put 41 10 67 [.int 0, .int 0, .int 0, .null, .null, .ref (u.length + 1), .ref (u.length + 3), .int 0, .int (-1), .ref (u.length + 5), .ref (u.length + 6), .null, .null, .int 0] rfl rfl (Nat.le_of_ble_eq_true rfl) rfl rfl rfl rfl rfl ?_
  refine x_ld 0 1 2 68 rfl rfl rfl rfl rfl ?_
  refine x_cst (.int 6) 2 70 rfl rfl rfl ?_
  refine u_na 0 6 (u.length + 7) 64 72 rfl rfl rfl rfl (by decide) rfl (Nat.le_of_ble_eq_true rfl) rfl rfl (by show _ ≤ 600000; omega) (by show _ ≤ 7000000; omega) rfl ?_
  refine u_put 44 11 75 [.int 0, .int 0, .int 0, .null, .null, .ref (u.length + 1), .ref (u.length + 3), .int 0, .int (-1), .ref (u.length + 5), .ref (u.length + 6), .ref (u.length + 7), .null, .int 0] rfl rfl (Nat.le_of_ble_eq_true rfl) rfl rfl rfl rfl rfl ?_
  refine x_ld 0 1 2 76 rfl rfl rfl rfl rfl ?_
  refine x_cst (.int 6) 2 78 rfl rfl rfl ?_
  refine u_na 0 6 (u.length + 8) 70 80 rfl rfl rfl rfl (by decide) rfl (Nat.le_of_ble_eq_true rfl) rfl rfl (by show _ ≤ 600000; omega) (by show _ ≤ 7000000; omega) rfl ?_
  refine u_put 47 12 83 [.int 0, .int 0, .int 0, .null, .null, .ref (u.length + 1), .ref (u.length + 3), .int 0, .int (-1), .ref (u.length + 5), .ref (u.length + 6), .ref (u.length + 7), .ref (u.length + 8), .int 0] rfl rfl (Nat.le_of_ble_eq_true rfl) rfl rfl rfl rfl rfl ?_
  refine x_ld 0 1 2 84 rfl rfl rfl rfl rfl ?_
  refine x_cst (.int 0) 1 85 rfl rfl rfl ?_
  refine u_put 50 13 88 [.int 0, .int 0, .int 0, .null, .null, .ref (u.length + 1), .ref (u.length + 3), .int 0, .int (-1), .ref (u.length + 5), .ref (u.length + 6), .ref (u.length + 7), .ref (u.length + 8), .int 0] rfl rfl (Nat.le_of_ble_eq_true rfl) rfl rfl rfl rfl rfl ?_
  exact x_rtv rfl rfl ⟨rfl, rfl⟩
end Ct
