/-! OURS. The constructor of Program: its loop. -/
section Ct
variable {L : Nat} {xs : Nat → Int32}
def q_obj (n : Nat) (w : Value) : ab_O := .inr (3, [.ref (n + 1), .int 0, .int 0, .ref (n + 2), .int 0, w])
def q_lin : ab_O := .inl (2, 16, .inl (fun _ => 0))
def q_arr (n i : Nat) : ab_O := .inl (3, 31, .inr (.inr (.inr (.inr (a_parts n i)))))
theorem ap2_at (u : ab_H) (a b c : ab_O) (P : ab_H) : (u ++ a :: b :: c :: P)[u.length + 2]? = some c := by
  rw [List.getElem?_append_right (by omega), show u.length + 2 - u.length = 2 by omega]
  rfl
theorem ap2_set (u : ab_H) (a b c c' : ab_O) (P : ab_H) : (u ++ a :: b :: c :: P).set (u.length + 2) c' = u ++ a :: b :: c' :: P := by
  rw [List.set_append_right _ _ (by omega), show u.length + 2 - u.length = 2 by omega]
  rfl
theorem k3_loop (d : Nat) {u : ab_H} {Q : ab_Q} (h1 : u.length + 282 ≤ 600000) (h2 : ab_wt (pg_G L xs) u + 2409 ≤ 7000000)
    (k : ab_W (pg_G L xs) (ab_X (pg_G L xs) (d + 2)) 3 Q 74 [some (.ref u.length), some (.int (Int32.ofNat 31))] [] (u ++ q_obj u.length .null :: q_lin :: q_arr (u.length + 3) 31 :: b_parts (u.length + 3) 31)) :
    ∀ m i, i + m = 31 → ab_W (pg_G L xs) (ab_X (pg_G L xs) (d + 2)) 3 Q 38 [some (.ref u.length), some (.int (Int32.ofNat i))] [] (u ++ q_obj u.length .null :: q_lin :: q_arr (u.length + 3) i :: b_parts (u.length + 3) i) := by
  intro m
  induction m with
  | zero =>
    intro i hi
    have : i = 31 := by omega
    subst this
    refine x_ld 1 1 0 39 rfl rfl rfl rfl rfl ?_
    refine x_cst (.int 31) 2 41 rfl rfl rfl ?_
    refine x_icge 74 44 rfl rfl rfl (fun _ => k) (fun c => absurd (show (31 : Int32) ≤ Int32.ofNat 31 by decide) c)
  | succ m ih =>
    intro i hi
    have hlt : i < 31 := by omega
    refine x_ld 1 1 0 39 rfl rfl rfl rfl rfl ?_
    refine x_cst (.int 31) 2 41 rfl rfl rfl ?_
    refine x_icge 74 44 rfl rfl rfl (fun c => absurd ((i32_le i 31 (by omega) (by decide)).mp c) (by omega)) (fun _ => ?_)
    have hH : (u ++ q_obj u.length .null :: q_lin :: q_arr (u.length + 3) i :: b_parts (u.length + 3) i).length = u.length + 3 + 9 * i := by
      rw [List.length_append]
      show u.length + ((b_parts (u.length + 3) i).length + 3) = _
      rw [b_parts_len]
      omega
    have hw : ab_wt (pg_G L xs) (u ++ q_obj u.length .null :: q_lin :: q_arr (u.length + 3) i :: b_parts (u.length + 3) i) = ab_wt (pg_G L xs) u + (53 + 76 * i) := by
      rw [ab_wt_app, ab_wt_cons, ab_wt_cons, ab_wt_cons, b_parts_wt]
      show _ + (6 + (16 + (31 + _))) = _
      omega
    refine x_ld 0 1 2 45 rfl rfl rfl rfl rfl ?_
    refine x_get 24 3 3 48 rfl rfl (ap_at _ _ _) rfl rfl ?_
    refine x_ld 1 1 0 49 rfl rfl rfl rfl rfl ?_
    refine x_new 22 2 52 rfl rfl rfl (by rw [hH]; show _ ≤ 600000; omega) (by rw [hw]; show _ + _ + 14 ≤ 7000000; omega) rfl ?_
    refine x_dup 53 rfl rfl rfl ?_
    refine x_cv 31 4 56 [.ref (u ++ q_obj u.length .null :: q_lin :: q_arr (u.length + 3) i :: b_parts (u.length + 3) i).length] rfl rfl rfl (Nat.le_of_ble_eq_true rfl) rfl rfl (Nat.le_of_ble_eq_true rfl) ⟨_, _, _, rfl, ap_at _ _ []⟩ (Nat.le_of_ble_eq_true rfl) (k_4 (L := L) (xs := xs) d (by rw [hH]; omega) (by rw [hw]; omega)) rfl ?_
    rw [hH]
    have eA : (u ++ q_obj u.length .null :: q_lin :: q_arr (u.length + 3) i :: b_parts (u.length + 3) i) ++ b_part0 (u.length + 3 + 9 * i) = u ++ q_obj u.length .null :: q_lin :: q_arr (u.length + 3) i :: (b_parts (u.length + 3) i ++ b_part0 (u.length + 3 + 9 * i)) := by
      rw [ap_app]
      rfl
    have eL : ∀ (c : ab_O) (o : ab_O) (T : ab_H), (u ++ q_obj u.length .null :: q_lin :: c :: (b_parts (u.length + 3) i ++ o :: T))[u.length + 3 + 9 * i]? = some o := by
      intro c o T
      have e1 : u ++ q_obj u.length .null :: q_lin :: c :: (b_parts (u.length + 3) i ++ o :: T) = (u ++ q_obj u.length .null :: q_lin :: c :: b_parts (u.length + 3) i) ++ o :: T := by
        rw [ap_app]
        rfl
      have e2 : (u ++ q_obj u.length .null :: q_lin :: c :: b_parts (u.length + 3) i).length = u.length + 3 + 9 * i := by
        rw [List.length_append]
        show u.length + ((b_parts (u.length + 3) i).length + 3) = _
        rw [b_parts_len]
        omega
      rw [e1, ← e2]
      exact ap_at _ _ _
    have eS : ∀ (c : ab_O) (o o' : ab_O) (T : ab_H), (u ++ q_obj u.length .null :: q_lin :: c :: (b_parts (u.length + 3) i ++ o :: T)).set (u.length + 3 + 9 * i) o' = u ++ q_obj u.length .null :: q_lin :: c :: (b_parts (u.length + 3) i ++ o' :: T) := by
      intro c o o' T
      have e1 : ∀ o, u ++ q_obj u.length .null :: q_lin :: c :: (b_parts (u.length + 3) i ++ o :: T) = (u ++ q_obj u.length .null :: q_lin :: c :: b_parts (u.length + 3) i) ++ o :: T := by
        intro o
        rw [ap_app]
        rfl
      have e2 : (u ++ q_obj u.length .null :: q_lin :: c :: b_parts (u.length + 3) i).length = u.length + 3 + 9 * i := by
        rw [List.length_append]
        show u.length + ((b_parts (u.length + 3) i).length + 3) = _
        rw [b_parts_len]
        omega
      rw [e1, e1, ← e2]
      exact ap_set _ _ _ _
    rw [eA]
    refine x_ast 57 rfl (ap2_at _ _ _ _ _) (eL _ _ _) rfl rfl (i32_in i 31 hlt (by decide)) _ (ap2_set _ _ _ _ _ _) rfl ?_
    rw [i32_nat i (by omega), a_parts_succ]
    refine x_ld 0 1 2 58 rfl rfl rfl rfl rfl ?_
    refine x_get 24 3 3 61 rfl rfl (ap_at _ _ _) rfl rfl ?_
    refine x_ld 1 1 0 62 rfl rfl rfl rfl rfl ?_
    refine x_ald (some (u.length + 3 + 9 * i)) 63 rfl (ap2_at _ _ _ _ _) rfl (i32_in i 31 hlt (by decide)) (by rw [i32_nat i (by omega)]; unfold a_parts; rw [if_pos (by omega)]) rfl ?_
    refine x_cst (.int 0) 1 64 rfl rfl rfl ?_
    refine x_cst (.int 0) 1 65 rfl rfl rfl ?_
    refine x_cv 32 6 68 [.ref (u.length + 3 + 9 * i), .int 0, .int 0] rfl rfl rfl (Nat.le_of_ble_eq_true rfl) rfl rfl (Nat.le_of_ble_eq_true rfl) ⟨_, _, _, rfl, eL _ _ _⟩ (Nat.le_of_ble_eq_true rfl) (k_6 (L := L) (xs := xs) (d + 1) (eL _ _ _)) rfl ?_
    unfold b_part0
    rw [eS]
    refine x_inc 1 1 1 71 [some (.ref u.length), some (.int (Int32.ofNat (i + 1)))] rfl rfl (Nat.le_of_ble_eq_true rfl) rfl (by rw [← i32_add]; rfl) rfl ?_
    refine x_go 38 rfl rfl ?_
    have := ih (i + 1) (by omega)
    rw [b_parts_succ] at this
    exact this
theorem k_3 (d : Nat) {u : ab_H} (h1 : u.length + 282 ≤ 600000) (h2 : ab_wt (pg_G L xs) u + 2409 ≤ 7000000) : ab_S (pg_G L xs) (d + 3) 3 [.ref u.length] (u ++ [.inr (3, pg_df3)]) none (u ++ b_prog u.length) := by
  show ab_W (pg_G L xs) (ab_X (pg_G L xs) (d + 2)) 3 _ 0 _ [] (u ++ .inr (3, pg_df3) :: [])
  refine x_ld 0 1 2 1 rfl rfl rfl rfl rfl ?_
  refine x_obj 3 4 rfl rfl (Nat.le_of_ble_eq_true rfl) rfl ?_
  refine x_ld 0 1 2 5 rfl rfl rfl rfl rfl ?_
  refine x_cst (.int 16) 2 7 rfl rfl rfl ?_
  refine u_na 2 16 (u.length + 1) 6 9 rfl rfl rfl rfl (by decide) rfl (Nat.le_of_ble_eq_true rfl) rfl rfl (by show _ ≤ 600000; omega) (by show _ ≤ 7000000; omega) rfl ?_
  refine u_put 9 0 12 [.ref (u.length + 1), .int 0, .int 0, .null, .int 0, .null] rfl rfl (Nat.le_of_ble_eq_true rfl) rfl rfl rfl rfl rfl ?_
  refine x_ld 0 1 2 13 rfl rfl rfl rfl rfl ?_
  refine x_cst (.int 0) 1 14 rfl rfl rfl ?_
  refine u_put 15 1 17 [.ref (u.length + 1), .int 0, .int 0, .null, .int 0, .null] rfl rfl (Nat.le_of_ble_eq_true rfl) rfl rfl rfl rfl rfl ?_
  refine x_ld 0 1 2 18 rfl rfl rfl rfl rfl ?_
  refine x_cst (.int 0) 1 19 rfl rfl rfl ?_
  refine u_put 19 2 22 [.ref (u.length + 1), .int 0, .int 0, .null, .int 0, .null] rfl rfl (Nat.le_of_ble_eq_true rfl) rfl rfl rfl rfl rfl ?_
  refine x_ld 0 1 2 23 rfl rfl rfl rfl rfl ?_
  refine x_cst (.int 31) 2 25 rfl rfl rfl ?_
  refine u_nq 22 2 3 31 (u.length + 2) 22 28 rfl rfl rfl rfl (by decide) rfl (Nat.le_of_ble_eq_true rfl) rfl rfl (by show _ ≤ 600000; omega) (by show _ ≤ 7000000; omega) rfl ?_
  refine u_put 24 3 31 [.ref (u.length + 1), .int 0, .int 0, .ref (u.length + 2), .int 0, .null] rfl rfl (Nat.le_of_ble_eq_true rfl) rfl rfl rfl rfl rfl ?_
  refine x_ld 0 1 2 32 rfl rfl rfl rfl rfl ?_
  refine x_cst (.int 0) 1 33 rfl rfl rfl ?_
  refine u_put 28 4 36 [.ref (u.length + 1), .int 0, .int 0, .ref (u.length + 2), .int 0, .null] rfl rfl (Nat.le_of_ble_eq_true rfl) rfl rfl rfl rfl rfl ?_
  refine x_cst (.int 0) 1 37 rfl rfl rfl ?_
  refine x_st 1 1 0 38 [some (.ref u.length), some (.int (Int32.ofNat 0))] rfl rfl rfl (Nat.le_of_ble_eq_true rfl) rfl rfl ?_
  refine k3_loop d h1 h2 ?_ 31 0 rfl
  refine x_ld 0 1 2 75 rfl rfl rfl rfl rfl ?_
  refine x_ld 0 1 2 76 rfl rfl rfl rfl rfl ?_
  refine x_get 24 3 3 79 rfl rfl (ap_at _ _ _) rfl rfl ?_
  refine x_cst (.int 0) 1 80 rfl rfl rfl ?_
  refine x_ald (some (u.length + 3)) 81 rfl (ap2_at _ _ _ _ _) rfl (i32_in 0 31 (by decide) (by decide)) rfl rfl ?_
  refine u_put 36 5 84 [.ref (u.length + 1), .int 0, .int 0, .ref (u.length + 2), .int 0, .ref (u.length + 3)] rfl rfl (Nat.le_of_ble_eq_true rfl) rfl rfl rfl rfl rfl ?_
  exact x_rtv rfl rfl ⟨rfl, rfl⟩
end Ct
