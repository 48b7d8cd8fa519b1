/-! OURS, printed by wip/tools/gen58.py: what the calls do while there is no program. -/
theorem fs_at {fs : List Value} {k : Nat} {v : Value} (h : k < fs.length) : (fs.set k v)[k]? = some v := by
  rw [List.getElem?_set, if_pos rfl, if_pos h]
theorem fs_ne {fs : List Value} {a b : Nat} {v : Value} (h : a ≠ b) : (fs.set a v)[b]? = fs[b]? := by
  rw [List.getElem?_set, if_neg h]
section Nc
variable {L : Nat} {xs : Nat → Int32}
theorem n_55 (d : Nat) {h : ab_H} {a : Nat} {f0 f1 f2 f3 f4 f6 f7 f8 f9 f10 f11 f12 : Value} (ha : h[a]? = some (.inr (0, [f0, f1, f2, f3, f4, .int 0, f6, f7, f8, f9, f10, f11, f12]))) (h1 : h.length + 1 ≤ 600000) (h2 : ab_wt (pg_G L xs) h + 6 ≤ 7000000) : ab_X (pg_G L xs) (d + 1) 55 [.ref a] h (fun r h' => r = .inr h.length ∧ h' = h ++ [.inr (7, [])]) := by
  show ab_W (pg_G L xs) (ab_X (pg_G L xs) d) 55 _ 0 [some (.ref a)] [] h
  refine x_ld 0 1 2 1 rfl rfl rfl rfl rfl ?_
  refine x_get 34 0 5 4 rfl rfl ha rfl rfl ?_
  refine x_ifne 17 7 rfl rfl rfl (fun c => absurd (by decide) c) (fun _ => ?_)
  refine x_thr 127 7 160 131 rfl rfl rfl rfl rfl rfl rfl rfl h1 h2 (Nat.le_of_ble_eq_true rfl) ?_
  exact ⟨rfl, rfl⟩
theorem p_55 (d : Nat) {h : ab_H} {a : Nat} {c : Int32} {f0 f1 f2 f3 f4 f6 f7 f8 f9 f10 f11 f12 : Value} (ha : h[a]? = some (.inr (0, [f0, f1, f2, f3, f4, .int c, f6, f7, f8, f9, f10, f11, f12]))) (hc : ¬ c = 0) : ab_S (pg_G L xs) (d + 1) 55 [.ref a] h none h := by
  show ab_W (pg_G L xs) (ab_X (pg_G L xs) d) 55 _ 0 [some (.ref a)] [] h
  refine x_ld 0 1 2 1 rfl rfl rfl rfl rfl ?_
  refine x_get 34 0 5 4 rfl rfl ha rfl rfl ?_
  refine x_ifne 17 7 rfl rfl rfl (fun _ => ?_) (fun c => absurd c hc)
  refine x_rtv rfl rfl ?_
  exact ⟨rfl, rfl⟩
theorem n_54 (d : Nat) {h : ab_H} {a : Nat} {t : Int32} {f0 f1 f2 f3 f4 f6 f7 f8 f9 f10 f11 f12 : Value} (ha : h[a]? = some (.inr (0, [f0, f1, f2, f3, f4, .int 0, f6, f7, f8, f9, f10, f11, f12]))) (h1 : h.length + 1 ≤ 600000) (h2 : ab_wt (pg_G L xs) h + 6 ≤ 7000000) : ab_X (pg_G L xs) (d + 2) 54 [.ref a, .int t] h (fun r h' => r = .inr h.length ∧ h' = h ++ [.inr (7, [])]) := by
  show ab_W (pg_G L xs) (ab_X (pg_G L xs) (d + 1)) 54 _ 0 [some (.ref a), some (.int t)] [] h
  refine x_ld 0 1 2 1 rfl rfl rfl rfl rfl ?_
  refine x_cl 96 55 4 [.ref a] _ rfl rfl rfl (Nat.le_of_ble_eq_true rfl) rfl rfl (Nat.le_of_ble_eq_true rfl) ⟨_, _, _, rfl, ha⟩ (Nat.le_of_ble_eq_true rfl) (n_55 d ha h1 h2) rfl ?_
  rintro r h' ⟨rfl, rfl⟩
  exact ⟨7, [], ap_at _ _ [], rfl, rfl⟩
theorem n_58 (d : Nat) {h : ab_H} {a : Nat} {t : Int32} {f0 f1 f2 f3 f4 f6 f7 f8 f9 f10 f11 f12 : Value} (ha : h[a]? = some (.inr (0, [f0, f1, f2, f3, f4, .int 0, f6, f7, f8, f9, f10, f11, f12]))) (h1 : h.length + 1 ≤ 600000) (h2 : ab_wt (pg_G L xs) h + 6 ≤ 7000000) : ab_X (pg_G L xs) (d + 2) 58 [.ref a, .int t] h (fun r h' => r = .inr h.length ∧ h' = h ++ [.inr (7, [])]) := by
  show ab_W (pg_G L xs) (ab_X (pg_G L xs) (d + 1)) 58 _ 0 [some (.ref a), some (.int t)] [] h
  refine x_ld 0 1 2 1 rfl rfl rfl rfl rfl ?_
  refine x_cl 96 55 4 [.ref a] _ rfl rfl rfl (Nat.le_of_ble_eq_true rfl) rfl rfl (Nat.le_of_ble_eq_true rfl) ⟨_, _, _, rfl, ha⟩ (Nat.le_of_ble_eq_true rfl) (n_55 d ha h1 h2) rfl ?_
  rintro r h' ⟨rfl, rfl⟩
  exact ⟨7, [], ap_at _ _ [], rfl, rfl⟩
theorem n_61 (d : Nat) {h : ab_H} {a : Nat} {t : Int32} {f0 f1 f2 f3 f4 f6 f7 f8 f9 f10 f11 f12 : Value} (ha : h[a]? = some (.inr (0, [f0, f1, f2, f3, f4, .int 0, f6, f7, f8, f9, f10, f11, f12]))) (h1 : h.length + 1 ≤ 600000) (h2 : ab_wt (pg_G L xs) h + 6 ≤ 7000000) : ab_X (pg_G L xs) (d + 2) 61 [.ref a, .int t] h (fun r h' => r = .inr h.length ∧ h' = h ++ [.inr (7, [])]) := by
  show ab_W (pg_G L xs) (ab_X (pg_G L xs) (d + 1)) 61 _ 0 [some (.ref a), some (.int t)] [] h
  refine x_ld 0 1 2 1 rfl rfl rfl rfl rfl ?_
  refine x_cl 96 55 4 [.ref a] _ rfl rfl rfl (Nat.le_of_ble_eq_true rfl) rfl rfl (Nat.le_of_ble_eq_true rfl) ⟨_, _, _, rfl, ha⟩ (Nat.le_of_ble_eq_true rfl) (n_55 d ha h1 h2) rfl ?_
  rintro r h' ⟨rfl, rfl⟩
  exact ⟨7, [], ap_at _ _ [], rfl, rfl⟩
theorem n_63 (d : Nat) {h : ab_H} {a : Nat} {t : Int32} {f0 f1 f2 f3 f4 f6 f7 f8 f9 f10 f11 f12 : Value} (ha : h[a]? = some (.inr (0, [f0, f1, f2, f3, f4, .int 0, f6, f7, f8, f9, f10, f11, f12]))) (h1 : h.length + 1 ≤ 600000) (h2 : ab_wt (pg_G L xs) h + 6 ≤ 7000000) : ab_X (pg_G L xs) (d + 2) 63 [.ref a, .int t] h (fun r h' => r = .inr h.length ∧ h' = h ++ [.inr (7, [])]) := by
  show ab_W (pg_G L xs) (ab_X (pg_G L xs) (d + 1)) 63 _ 0 [some (.ref a), some (.int t)] [] h
  refine x_ld 0 1 2 1 rfl rfl rfl rfl rfl ?_
  refine x_cl 96 55 4 [.ref a] _ rfl rfl rfl (Nat.le_of_ble_eq_true rfl) rfl rfl (Nat.le_of_ble_eq_true rfl) ⟨_, _, _, rfl, ha⟩ (Nat.le_of_ble_eq_true rfl) (n_55 d ha h1 h2) rfl ?_
  rintro r h' ⟨rfl, rfl⟩
  exact ⟨7, [], ap_at _ _ [], rfl, rfl⟩
theorem n_73 (d : Nat) {h : ab_H} {a : Nat} {t : Int32} {f0 f1 f2 f3 f4 f6 f7 f8 f9 f10 f11 f12 : Value} (ha : h[a]? = some (.inr (0, [f0, f1, f2, f3, f4, .int 0, f6, f7, f8, f9, f10, f11, f12]))) (h1 : h.length + 1 ≤ 600000) (h2 : ab_wt (pg_G L xs) h + 6 ≤ 7000000) : ab_X (pg_G L xs) (d + 2) 73 [.ref a, .int t] h (fun r h' => r = .inr h.length ∧ h' = h ++ [.inr (7, [])]) := by
  show ab_W (pg_G L xs) (ab_X (pg_G L xs) (d + 1)) 73 _ 0 [some (.ref a), some (.int t)] [] h
  refine x_ld 0 1 2 1 rfl rfl rfl rfl rfl ?_
  refine x_cl 96 55 4 [.ref a] _ rfl rfl rfl (Nat.le_of_ble_eq_true rfl) rfl rfl (Nat.le_of_ble_eq_true rfl) ⟨_, _, _, rfl, ha⟩ (Nat.le_of_ble_eq_true rfl) (n_55 d ha h1 h2) rfl ?_
  rintro r h' ⟨rfl, rfl⟩
  exact ⟨7, [], ap_at _ _ [], rfl, rfl⟩
theorem n_75 (d : Nat) {h : ab_H} {a : Nat} {t : Int32} {f0 f1 f2 f3 f4 f6 f7 f8 f9 f10 f11 f12 : Value} (ha : h[a]? = some (.inr (0, [f0, f1, f2, f3, f4, .int 0, f6, f7, f8, f9, f10, f11, f12]))) (h1 : h.length + 1 ≤ 600000) (h2 : ab_wt (pg_G L xs) h + 6 ≤ 7000000) : ab_X (pg_G L xs) (d + 2) 75 [.ref a, .int t] h (fun r h' => r = .inr h.length ∧ h' = h ++ [.inr (7, [])]) := by
  show ab_W (pg_G L xs) (ab_X (pg_G L xs) (d + 1)) 75 _ 0 [some (.ref a), some (.int t), none, none] [] h
  refine x_ld 0 1 2 1 rfl rfl rfl rfl rfl ?_
  refine x_cl 96 55 4 [.ref a] _ rfl rfl rfl (Nat.le_of_ble_eq_true rfl) rfl rfl (Nat.le_of_ble_eq_true rfl) ⟨_, _, _, rfl, ha⟩ (Nat.le_of_ble_eq_true rfl) (n_55 d ha h1 h2) rfl ?_
  rintro r h' ⟨rfl, rfl⟩
  exact ⟨7, [], ap_at _ _ [], rfl, rfl⟩
theorem n_94 (d : Nat) {h : ab_H} {a : Nat} {t : Int32} {f0 f1 f2 f3 f4 f6 f7 f8 f9 f10 f11 f12 : Value} (ha : h[a]? = some (.inr (0, [f0, f1, f2, f3, f4, .int 0, f6, f7, f8, f9, f10, f11, f12]))) (h1 : h.length + 1 ≤ 600000) (h2 : ab_wt (pg_G L xs) h + 6 ≤ 7000000) : ab_X (pg_G L xs) (d + 2) 94 [.ref a, .int t] h (fun r h' => r = .inr h.length ∧ h' = h ++ [.inr (7, [])]) := by
  show ab_W (pg_G L xs) (ab_X (pg_G L xs) (d + 1)) 94 _ 0 [some (.ref a), some (.int t), none] [] h
  refine x_ld 0 1 2 1 rfl rfl rfl rfl rfl ?_
  refine x_cl 96 55 4 [.ref a] _ rfl rfl rfl (Nat.le_of_ble_eq_true rfl) rfl rfl (Nat.le_of_ble_eq_true rfl) ⟨_, _, _, rfl, ha⟩ (Nat.le_of_ble_eq_true rfl) (n_55 d ha h1 h2) rfl ?_
  rintro r h' ⟨rfl, rfl⟩
  exact ⟨7, [], ap_at _ _ [], rfl, rfl⟩
theorem n_96 (d : Nat) {h : ab_H} {a : Nat} {t : Int32} {f0 f1 f2 f3 f4 f6 f7 f8 f9 f10 f11 f12 : Value} (ha : h[a]? = some (.inr (0, [f0, f1, f2, f3, f4, .int 0, f6, f7, f8, f9, f10, f11, f12]))) (h1 : h.length + 1 ≤ 600000) (h2 : ab_wt (pg_G L xs) h + 6 ≤ 7000000) : ab_X (pg_G L xs) (d + 2) 96 [.ref a, .int t] h (fun r h' => r = .inr h.length ∧ h' = h ++ [.inr (7, [])]) := by
  show ab_W (pg_G L xs) (ab_X (pg_G L xs) (d + 1)) 96 _ 0 [some (.ref a), some (.int t), none] [] h
  refine x_ld 0 1 2 1 rfl rfl rfl rfl rfl ?_
  refine x_cl 96 55 4 [.ref a] _ rfl rfl rfl (Nat.le_of_ble_eq_true rfl) rfl rfl (Nat.le_of_ble_eq_true rfl) ⟨_, _, _, rfl, ha⟩ (Nat.le_of_ble_eq_true rfl) (n_55 d ha h1 h2) rfl ?_
  rintro r h' ⟨rfl, rfl⟩
  exact ⟨7, [], ap_at _ _ [], rfl, rfl⟩
theorem n_98 (d : Nat) {h : ab_H} {a : Nat} {f0 f1 f2 f3 f4 f6 f7 f8 f9 f10 f11 f12 : Value} (ha : h[a]? = some (.inr (0, [f0, f1, f2, f3, f4, .int 0, f6, f7, f8, f9, f10, f11, f12]))) (h1 : h.length + 1 ≤ 600000) (h2 : ab_wt (pg_G L xs) h + 6 ≤ 7000000) : ab_X (pg_G L xs) (d + 2) 98 [.ref a] h (fun r h' => r = .inr h.length ∧ h' = h ++ [.inr (7, [])]) := by
  show ab_W (pg_G L xs) (ab_X (pg_G L xs) (d + 1)) 98 _ 0 [some (.ref a)] [] h
  refine x_ld 0 1 2 1 rfl rfl rfl rfl rfl ?_
  refine x_cl 96 55 4 [.ref a] _ rfl rfl rfl (Nat.le_of_ble_eq_true rfl) rfl rfl (Nat.le_of_ble_eq_true rfl) ⟨_, _, _, rfl, ha⟩ (Nat.le_of_ble_eq_true rfl) (n_55 d ha h1 h2) rfl ?_
  rintro r h' ⟨rfl, rfl⟩
  exact ⟨7, [], ap_at _ _ [], rfl, rfl⟩
theorem n_100 (d : Nat) {h : ab_H} {a : Nat} {f0 f1 f2 f3 f4 f6 f7 f8 f9 f10 f11 f12 : Value} (ha : h[a]? = some (.inr (0, [f0, f1, f2, f3, f4, .int 0, f6, f7, f8, f9, f10, f11, f12]))) (h1 : h.length + 1 ≤ 600000) (h2 : ab_wt (pg_G L xs) h + 6 ≤ 7000000) : ab_X (pg_G L xs) (d + 2) 100 [.ref a] h (fun r h' => r = .inr h.length ∧ h' = h ++ [.inr (7, [])]) := by
  show ab_W (pg_G L xs) (ab_X (pg_G L xs) (d + 1)) 100 _ 0 [some (.ref a)] [] h
  refine x_ld 0 1 2 1 rfl rfl rfl rfl rfl ?_
  refine x_cl 96 55 4 [.ref a] _ rfl rfl rfl (Nat.le_of_ble_eq_true rfl) rfl rfl (Nat.le_of_ble_eq_true rfl) ⟨_, _, _, rfl, ha⟩ (Nat.le_of_ble_eq_true rfl) (n_55 d ha h1 h2) rfl ?_
  rintro r h' ⟨rfl, rfl⟩
  exact ⟨7, [], ap_at _ _ [], rfl, rfl⟩
theorem n_53 (d : Nat) {h : ab_H} {a b : Nat} {t : Int32} {f0 f1 f2 f3 f4 f6 f7 f8 f9 f10 f11 f12 : Value} (ha : h[a]? = some (.inr (0, [f0, f1, f2, f3, f4, .int 0, f6, f7, f8, f9, f10, f11, f12]))) (h1 : h.length + 1 ≤ 600000) (h2 : ab_wt (pg_G L xs) h + 6 ≤ 7000000) : ab_S (pg_G L xs) (d + 3) 53 [.ref a, .int t, .ref b] h (some (.int 1)) (h ++ [.inr (7, [])]) := by
  show ab_W (pg_G L xs) (ab_X (pg_G L xs) (d + 2)) 53 _ 0 [some (.ref a), some (.int t), some (.ref b), none] [] h
  refine x_ld 2 1 2 1 rfl rfl rfl rfl rfl ?_
  refine x_cst (.int 0) 1 2 rfl rfl rfl ?_
  refine x_ld 0 1 2 3 rfl rfl rfl rfl rfl ?_
  refine x_ld 1 1 0 4 rfl rfl rfl rfl rfl ?_
  refine x_cl 15 54 7 [.ref a, .int t] _ rfl rfl rfl (Nat.le_of_ble_eq_true rfl) rfl rfl (Nat.le_of_ble_eq_true rfl) ⟨_, _, _, rfl, ha⟩ (Nat.le_of_ble_eq_true rfl) (n_54 d ha h1 h2) rfl ?_
  rintro r h' ⟨rfl, rfl⟩
  refine ⟨7, [], ap_at _ _ [], ?_⟩
  show ab_W _ _ _ _ 12 _ _ _
  refine x_st 3 1 2 13 [some (.ref a), some (.int t), some (.ref b), some (.ref h.length)] rfl rfl rfl (Nat.le_of_ble_eq_true rfl) rfl rfl ?_
  refine x_cst (.int 1) 1 14 rfl rfl rfl ?_
  exact x_ret rfl rfl rfl rfl ⟨rfl, rfl⟩
theorem n_57 (d : Nat) {h : ab_H} {a b : Nat} {t : Int32} {f0 f1 f2 f3 f4 f6 f7 f8 f9 f10 f11 f12 : Value} (ha : h[a]? = some (.inr (0, [f0, f1, f2, f3, f4, .int 0, f6, f7, f8, f9, f10, f11, f12]))) (h1 : h.length + 1 ≤ 600000) (h2 : ab_wt (pg_G L xs) h + 6 ≤ 7000000) : ab_S (pg_G L xs) (d + 3) 57 [.ref a, .int t, .ref b] h (some (.int 1)) (h ++ [.inr (7, [])]) := by
  show ab_W (pg_G L xs) (ab_X (pg_G L xs) (d + 2)) 57 _ 0 [some (.ref a), some (.int t), some (.ref b), none] [] h
  refine x_ld 2 1 2 1 rfl rfl rfl rfl rfl ?_
  refine x_cst (.int 0) 1 2 rfl rfl rfl ?_
  refine x_ld 0 1 2 3 rfl rfl rfl rfl rfl ?_
  refine x_ld 1 1 0 4 rfl rfl rfl rfl rfl ?_
  refine x_cl 21 58 7 [.ref a, .int t] _ rfl rfl rfl (Nat.le_of_ble_eq_true rfl) rfl rfl (Nat.le_of_ble_eq_true rfl) ⟨_, _, _, rfl, ha⟩ (Nat.le_of_ble_eq_true rfl) (n_58 d ha h1 h2) rfl ?_
  rintro r h' ⟨rfl, rfl⟩
  refine ⟨7, [], ap_at _ _ [], ?_⟩
  show ab_W _ _ _ _ 19 _ _ _
  refine x_st 3 1 2 20 [some (.ref a), some (.int t), some (.ref b), some (.ref h.length)] rfl rfl rfl (Nat.le_of_ble_eq_true rfl) rfl rfl ?_
  refine x_cst (.int 1) 1 21 rfl rfl rfl ?_
  exact x_ret rfl rfl rfl rfl ⟨rfl, rfl⟩
theorem n_60 (d : Nat) {h : ab_H} {a b : Nat} {t : Int32} {f0 f1 f2 f3 f4 f6 f7 f8 f9 f10 f11 f12 : Value} (ha : h[a]? = some (.inr (0, [f0, f1, f2, f3, f4, .int 0, f6, f7, f8, f9, f10, f11, f12]))) (h1 : h.length + 1 ≤ 600000) (h2 : ab_wt (pg_G L xs) h + 6 ≤ 7000000) : ab_S (pg_G L xs) (d + 3) 60 [.ref a, .int t, .ref b] h (some (.int 1)) (h ++ [.inr (7, [])]) := by
  show ab_W (pg_G L xs) (ab_X (pg_G L xs) (d + 2)) 60 _ 0 [some (.ref a), some (.int t), some (.ref b), none] [] h
  refine x_ld 2 1 2 1 rfl rfl rfl rfl rfl ?_
  refine x_cst (.int 0) 1 2 rfl rfl rfl ?_
  refine x_ld 0 1 2 3 rfl rfl rfl rfl rfl ?_
  refine x_ld 1 1 0 4 rfl rfl rfl rfl rfl ?_
  refine x_cl 26 61 7 [.ref a, .int t] _ rfl rfl rfl (Nat.le_of_ble_eq_true rfl) rfl rfl (Nat.le_of_ble_eq_true rfl) ⟨_, _, _, rfl, ha⟩ (Nat.le_of_ble_eq_true rfl) (n_61 d ha h1 h2) rfl ?_
  rintro r h' ⟨rfl, rfl⟩
  refine ⟨7, [], ap_at _ _ [], ?_⟩
  show ab_W _ _ _ _ 19 _ _ _
  refine x_st 3 1 2 20 [some (.ref a), some (.int t), some (.ref b), some (.ref h.length)] rfl rfl rfl (Nat.le_of_ble_eq_true rfl) rfl rfl ?_
  refine x_cst (.int 1) 1 21 rfl rfl rfl ?_
  exact x_ret rfl rfl rfl rfl ⟨rfl, rfl⟩
theorem n_62 (d : Nat) {h : ab_H} {a b : Nat} {t : Int32} {f0 f1 f2 f3 f4 f6 f7 f8 f9 f10 f11 f12 : Value} (ha : h[a]? = some (.inr (0, [f0, f1, f2, f3, f4, .int 0, f6, f7, f8, f9, f10, f11, f12]))) (h1 : h.length + 1 ≤ 600000) (h2 : ab_wt (pg_G L xs) h + 6 ≤ 7000000) : ab_S (pg_G L xs) (d + 3) 62 [.ref a, .int t, .ref b] h (some (.int 1)) (h ++ [.inr (7, [])]) := by
  show ab_W (pg_G L xs) (ab_X (pg_G L xs) (d + 2)) 62 _ 0 [some (.ref a), some (.int t), some (.ref b), none] [] h
  refine x_ld 2 1 2 1 rfl rfl rfl rfl rfl ?_
  refine x_cst (.int 0) 1 2 rfl rfl rfl ?_
  refine x_ld 0 1 2 3 rfl rfl rfl rfl rfl ?_
  refine x_ld 1 1 0 4 rfl rfl rfl rfl rfl ?_
  refine x_cl 29 63 7 [.ref a, .int t] _ rfl rfl rfl (Nat.le_of_ble_eq_true rfl) rfl rfl (Nat.le_of_ble_eq_true rfl) ⟨_, _, _, rfl, ha⟩ (Nat.le_of_ble_eq_true rfl) (n_63 d ha h1 h2) rfl ?_
  rintro r h' ⟨rfl, rfl⟩
  refine ⟨7, [], ap_at _ _ [], ?_⟩
  show ab_W _ _ _ _ 12 _ _ _
  refine x_st 3 1 2 13 [some (.ref a), some (.int t), some (.ref b), some (.ref h.length)] rfl rfl rfl (Nat.le_of_ble_eq_true rfl) rfl rfl ?_
  refine x_cst (.int 1) 1 14 rfl rfl rfl ?_
  exact x_ret rfl rfl rfl rfl ⟨rfl, rfl⟩
theorem n_72 (d : Nat) {h : ab_H} {a b : Nat} {t : Int32} {f0 f1 f2 f3 f4 f6 f7 f8 f9 f10 f11 f12 : Value} (ha : h[a]? = some (.inr (0, [f0, f1, f2, f3, f4, .int 0, f6, f7, f8, f9, f10, f11, f12]))) (h1 : h.length + 1 ≤ 600000) (h2 : ab_wt (pg_G L xs) h + 6 ≤ 7000000) : ab_S (pg_G L xs) (d + 3) 72 [.ref a, .int t, .ref b] h (some (.int 1)) (h ++ [.inr (7, [])]) := by
  show ab_W (pg_G L xs) (ab_X (pg_G L xs) (d + 2)) 72 _ 0 [some (.ref a), some (.int t), some (.ref b), none] [] h
  refine x_ld 2 1 2 1 rfl rfl rfl rfl rfl ?_
  refine x_cst (.int 0) 1 2 rfl rfl rfl ?_
  refine x_ld 0 1 2 3 rfl rfl rfl rfl rfl ?_
  refine x_ld 1 1 0 4 rfl rfl rfl rfl rfl ?_
  refine x_cl 32 73 7 [.ref a, .int t] _ rfl rfl rfl (Nat.le_of_ble_eq_true rfl) rfl rfl (Nat.le_of_ble_eq_true rfl) ⟨_, _, _, rfl, ha⟩ (Nat.le_of_ble_eq_true rfl) (n_73 d ha h1 h2) rfl ?_
  rintro r h' ⟨rfl, rfl⟩
  refine ⟨7, [], ap_at _ _ [], ?_⟩
  show ab_W _ _ _ _ 19 _ _ _
  refine x_st 3 1 2 20 [some (.ref a), some (.int t), some (.ref b), some (.ref h.length)] rfl rfl rfl (Nat.le_of_ble_eq_true rfl) rfl rfl ?_
  refine x_cst (.int 1) 1 21 rfl rfl rfl ?_
  exact x_ret rfl rfl rfl rfl ⟨rfl, rfl⟩
theorem n_74 (d : Nat) {h : ab_H} {a b : Nat} {t : Int32} {f0 f1 f2 f3 f4 f6 f7 f8 f9 f10 f11 f12 : Value} (ha : h[a]? = some (.inr (0, [f0, f1, f2, f3, f4, .int 0, f6, f7, f8, f9, f10, f11, f12]))) (h1 : h.length + 1 ≤ 600000) (h2 : ab_wt (pg_G L xs) h + 6 ≤ 7000000) : ab_S (pg_G L xs) (d + 3) 74 [.ref a, .int t, .ref b] h (some (.int 1)) (h ++ [.inr (7, [])]) := by
  show ab_W (pg_G L xs) (ab_X (pg_G L xs) (d + 2)) 74 _ 0 [some (.ref a), some (.int t), some (.ref b), none] [] h
  refine x_ld 2 1 2 1 rfl rfl rfl rfl rfl ?_
  refine x_cst (.int 0) 1 2 rfl rfl rfl ?_
  refine x_ld 0 1 2 3 rfl rfl rfl rfl rfl ?_
  refine x_ld 1 1 0 4 rfl rfl rfl rfl rfl ?_
  refine x_cl 35 75 7 [.ref a, .int t] _ rfl rfl rfl (Nat.le_of_ble_eq_true rfl) rfl rfl (Nat.le_of_ble_eq_true rfl) ⟨_, _, _, rfl, ha⟩ (Nat.le_of_ble_eq_true rfl) (n_75 d ha h1 h2) rfl ?_
  rintro r h' ⟨rfl, rfl⟩
  refine ⟨7, [], ap_at _ _ [], ?_⟩
  show ab_W _ _ _ _ 12 _ _ _
  refine x_st 3 1 2 13 [some (.ref a), some (.int t), some (.ref b), some (.ref h.length)] rfl rfl rfl (Nat.le_of_ble_eq_true rfl) rfl rfl ?_
  refine x_cst (.int 1) 1 14 rfl rfl rfl ?_
  exact x_ret rfl rfl rfl rfl ⟨rfl, rfl⟩
theorem n_93 (d : Nat) {h : ab_H} {a b : Nat} {t : Int32} {f0 f1 f2 f3 f4 f6 f7 f8 f9 f10 f11 f12 : Value} (ha : h[a]? = some (.inr (0, [f0, f1, f2, f3, f4, .int 0, f6, f7, f8, f9, f10, f11, f12]))) (h1 : h.length + 1 ≤ 600000) (h2 : ab_wt (pg_G L xs) h + 6 ≤ 7000000) : ab_S (pg_G L xs) (d + 3) 93 [.ref a, .int t, .ref b] h (some (.int 1)) (h ++ [.inr (7, [])]) := by
  show ab_W (pg_G L xs) (ab_X (pg_G L xs) (d + 2)) 93 _ 0 [some (.ref a), some (.int t), some (.ref b), none] [] h
  refine x_ld 2 1 2 1 rfl rfl rfl rfl rfl ?_
  refine x_cst (.int 0) 1 2 rfl rfl rfl ?_
  refine x_ld 0 1 2 3 rfl rfl rfl rfl rfl ?_
  refine x_ld 1 1 0 4 rfl rfl rfl rfl rfl ?_
  refine x_cl 38 94 7 [.ref a, .int t] _ rfl rfl rfl (Nat.le_of_ble_eq_true rfl) rfl rfl (Nat.le_of_ble_eq_true rfl) ⟨_, _, _, rfl, ha⟩ (Nat.le_of_ble_eq_true rfl) (n_94 d ha h1 h2) rfl ?_
  rintro r h' ⟨rfl, rfl⟩
  refine ⟨7, [], ap_at _ _ [], ?_⟩
  show ab_W _ _ _ _ 12 _ _ _
  refine x_st 3 1 2 13 [some (.ref a), some (.int t), some (.ref b), some (.ref h.length)] rfl rfl rfl (Nat.le_of_ble_eq_true rfl) rfl rfl ?_
  refine x_cst (.int 1) 1 14 rfl rfl rfl ?_
  exact x_ret rfl rfl rfl rfl ⟨rfl, rfl⟩
theorem n_95 (d : Nat) {h : ab_H} {a b : Nat} {t : Int32} {f0 f1 f2 f3 f4 f6 f7 f8 f9 f10 f11 f12 : Value} (ha : h[a]? = some (.inr (0, [f0, f1, f2, f3, f4, .int 0, f6, f7, f8, f9, f10, f11, f12]))) (h1 : h.length + 1 ≤ 600000) (h2 : ab_wt (pg_G L xs) h + 6 ≤ 7000000) : ab_S (pg_G L xs) (d + 3) 95 [.ref a, .int t, .ref b] h (some (.int 1)) (h ++ [.inr (7, [])]) := by
  show ab_W (pg_G L xs) (ab_X (pg_G L xs) (d + 2)) 95 _ 0 [some (.ref a), some (.int t), some (.ref b), none] [] h
  refine x_ld 2 1 2 1 rfl rfl rfl rfl rfl ?_
  refine x_cst (.int 0) 1 2 rfl rfl rfl ?_
  refine x_ld 0 1 2 3 rfl rfl rfl rfl rfl ?_
  refine x_ld 1 1 0 4 rfl rfl rfl rfl rfl ?_
  refine x_cl 41 96 7 [.ref a, .int t] _ rfl rfl rfl (Nat.le_of_ble_eq_true rfl) rfl rfl (Nat.le_of_ble_eq_true rfl) ⟨_, _, _, rfl, ha⟩ (Nat.le_of_ble_eq_true rfl) (n_96 d ha h1 h2) rfl ?_
  rintro r h' ⟨rfl, rfl⟩
  refine ⟨7, [], ap_at _ _ [], ?_⟩
  show ab_W _ _ _ _ 12 _ _ _
  refine x_st 3 1 2 13 [some (.ref a), some (.int t), some (.ref b), some (.ref h.length)] rfl rfl rfl (Nat.le_of_ble_eq_true rfl) rfl rfl ?_
  refine x_cst (.int 1) 1 14 rfl rfl rfl ?_
  exact x_ret rfl rfl rfl rfl ⟨rfl, rfl⟩
theorem n_97 (d : Nat) {h : ab_H} {a b : Nat} {f0 f1 f2 f3 f4 f6 f7 f8 f9 f10 f11 f12 : Value} (ha : h[a]? = some (.inr (0, [f0, f1, f2, f3, f4, .int 0, f6, f7, f8, f9, f10, f11, f12]))) (h1 : h.length + 1 ≤ 600000) (h2 : ab_wt (pg_G L xs) h + 6 ≤ 7000000) : ab_S (pg_G L xs) (d + 3) 97 [.ref a, .ref b] h (some (.int 1)) (h ++ [.inr (7, [])]) := by
  show ab_W (pg_G L xs) (ab_X (pg_G L xs) (d + 2)) 97 _ 0 [some (.ref a), some (.ref b), none] [] h
  refine x_ld 1 1 2 1 rfl rfl rfl rfl rfl ?_
  refine x_cst (.int 0) 1 2 rfl rfl rfl ?_
  refine x_ld 0 1 2 3 rfl rfl rfl rfl rfl ?_
  refine x_cl 44 98 6 [.ref a] _ rfl rfl rfl (Nat.le_of_ble_eq_true rfl) rfl rfl (Nat.le_of_ble_eq_true rfl) ⟨_, _, _, rfl, ha⟩ (Nat.le_of_ble_eq_true rfl) (n_98 d ha h1 h2) rfl ?_
  rintro r h' ⟨rfl, rfl⟩
  refine ⟨7, [], ap_at _ _ [], ?_⟩
  show ab_W _ _ _ _ 11 _ _ _
  refine x_st 2 1 2 12 [some (.ref a), some (.ref b), some (.ref h.length)] rfl rfl rfl (Nat.le_of_ble_eq_true rfl) rfl rfl ?_
  refine x_cst (.int 1) 1 13 rfl rfl rfl ?_
  exact x_ret rfl rfl rfl rfl ⟨rfl, rfl⟩
theorem n_99 (d : Nat) {h : ab_H} {a b : Nat} {f0 f1 f2 f3 f4 f6 f7 f8 f9 f10 f11 f12 : Value} (ha : h[a]? = some (.inr (0, [f0, f1, f2, f3, f4, .int 0, f6, f7, f8, f9, f10, f11, f12]))) (h1 : h.length + 1 ≤ 600000) (h2 : ab_wt (pg_G L xs) h + 6 ≤ 7000000) : ab_S (pg_G L xs) (d + 3) 99 [.ref a, .ref b] h (some (.int 1)) (h ++ [.inr (7, [])]) := by
  show ab_W (pg_G L xs) (ab_X (pg_G L xs) (d + 2)) 99 _ 0 [some (.ref a), some (.ref b), none] [] h
  refine x_ld 1 1 2 1 rfl rfl rfl rfl rfl ?_
  refine x_cst (.int 0) 1 2 rfl rfl rfl ?_
  refine x_ld 0 1 2 3 rfl rfl rfl rfl rfl ?_
  refine x_cl 48 100 6 [.ref a] _ rfl rfl rfl (Nat.le_of_ble_eq_true rfl) rfl rfl (Nat.le_of_ble_eq_true rfl) ⟨_, _, _, rfl, ha⟩ (Nat.le_of_ble_eq_true rfl) (n_100 d ha h1 h2) rfl ?_
  rintro r h' ⟨rfl, rfl⟩
  refine ⟨7, [], ap_at _ _ [], ?_⟩
  show ab_W _ _ _ _ 11 _ _ _
  refine x_st 2 1 2 12 [some (.ref a), some (.ref b), some (.ref h.length)] rfl rfl rfl (Nat.le_of_ble_eq_true rfl) rfl rfl ?_
  refine x_cst (.int 1) 1 13 rfl rfl rfl ?_
  exact x_ret rfl rfl rfl rfl ⟨rfl, rfl⟩
theorem c_103 (d : Nat) {h : ab_H} {m : Nat} {fs : List Value} (hm : h[m]? = some (.inr (5, fs))) (hfs : fs.length = 68) {z : Int32} (hz : fs[2]? = some (.int z)) : ab_S (pg_G L xs) (d + 1) 103 [.ref m] h (some (.int z)) h := by
  show ab_W (pg_G L xs) (ab_X (pg_G L xs) d) 103 _ 0 [some (.ref m)] [] h
  refine x_ld 0 1 2 1 rfl rfl rfl rfl rfl ?_
  refine x_get 159 5 2 4 rfl rfl hm hz rfl ?_
  refine x_ret rfl rfl rfl rfl ?_
  exact ⟨rfl, rfl⟩
theorem n_132 (d : Nat) {h : ab_H} {m : Nat} {fs : List Value} (hm : h[m]? = some (.inr (5, fs))) (hfs : fs.length = 68) {b : Int32} : ab_S (pg_G L xs) (d + 1) 132 [.ref m, .int 0, .int b] h (some (.int 1)) (h.set m (.inr (5, fs.set 2 (.int 1)))) := by
  show ab_W (pg_G L xs) (ab_X (pg_G L xs) d) 132 _ 0 [some (.ref m), some (.int 0), some (.int b)] [] h
  refine x_ld 0 1 2 1 rfl rfl rfl rfl rfl ?_
  refine x_ld 1 1 0 2 rfl rfl rfl rfl rfl ?_
  refine x_ifne 9 5 rfl rfl rfl (fun c => absurd (by decide) c) (fun _ => ?_)
  refine x_cst (.int 1) 1 6 rfl rfl rfl ?_
  refine x_go 18 rfl rfl ?_
  refine x_put 159 5 2 21 rfl rfl hm (by simp only [List.length_set, hfs]; omega) rfl rfl rfl _ rfl rfl ?_
  refine x_ld 0 1 2 22 rfl rfl rfl rfl rfl ?_
  refine x_get 159 5 2 25 rfl rfl (set_at hm) (fs_at (by simp only [List.length_set, hfs]; omega)) rfl ?_
  refine x_ifle 32 28 rfl rfl rfl (fun c => absurd c (by decide)) (fun _ => ?_)
  refine x_cst (.int 1) 1 29 rfl rfl rfl ?_
  refine x_go 33 rfl rfl ?_
  refine x_ret rfl rfl rfl rfl ?_
  exact ⟨rfl, rfl⟩
theorem c_135 (d : Nat) {h : ab_H} {t : Int32} : ab_S (pg_G L xs) (d + 1) 135 [.int t] h (some (.int (if 0 ≤ t ∧ t < 1093 then 1 else 0))) h := by
  show ab_W (pg_G L xs) (ab_X (pg_G L xs) d) 135 _ 0 [some (.int t)] [] h
  have g1 : ∀ c : t < 0, ¬ (0 ≤ t ∧ t < 1093) := fun c z => absurd c (Int32.not_lt.mpr z.1)
  have g2 : ∀ c : (1093 : Int32) ≤ t, ¬ (0 ≤ t ∧ t < 1093) := fun c z => absurd z.2 (Int32.not_lt.mpr c)
  have g3 : ∀ (c : ¬ t < 0) (c' : ¬ (1093 : Int32) ≤ t), 0 ≤ t ∧ t < 1093 := fun c c' => ⟨Int32.not_lt.mp c, Int32.not_le.mp c'⟩
  refine x_ld 0 1 0 1 rfl rfl rfl rfl rfl ?_
  refine x_iflt 15 4 rfl rfl rfl (fun c1 => ?_) (fun c1 => ?_)
  · refine x_cst (.int 0) 1 16 rfl rfl rfl ?_
    refine x_ret rfl rfl rfl rfl ?_
    first | exact ⟨by rw [if_neg (g1 c1)], rfl⟩ | exact ⟨by rw [if_neg (g2 c2)], rfl⟩
  · refine x_ld 0 1 0 5 rfl rfl rfl rfl rfl ?_
    refine x_cst (.int 1093) 3 8 rfl rfl rfl ?_
    refine x_icge 15 11 rfl rfl rfl (fun c2 => ?_) (fun c2 => ?_)
    · refine x_cst (.int 0) 1 16 rfl rfl rfl ?_
      refine x_ret rfl rfl rfl rfl ?_
      first | exact ⟨by rw [if_neg (g1 c1)], rfl⟩ | exact ⟨by rw [if_neg (g2 c2)], rfl⟩
    · refine x_cst (.int 1) 1 12 rfl rfl rfl ?_
      refine x_go 16 rfl rfl ?_
      refine x_ret rfl rfl rfl rfl ?_
      exact ⟨by rw [if_pos (g3 c1 c2)], rfl⟩
theorem m_134 (d : Nat) {h : ab_H} {m : Nat} {fs : List Value} (hm : h[m]? = some (.inr (5, fs))) (hfs : fs.length = 68) {t : Int32} (h5 : fs[5]? = some (.int 0)) : ab_S (pg_G L xs) (d + 2) 134 [.ref m, .int t] h (some (.int 0)) (h.set m (.inr (5, fs.set 2 (.int 1)))) := by
  show ab_W (pg_G L xs) (ab_X (pg_G L xs) (d + 1)) 134 _ 0 [some (.ref m), some (.int t)] [] h
  refine x_ld 0 1 2 1 rfl rfl rfl rfl rfl ?_
  refine x_ld 0 1 2 2 rfl rfl rfl rfl rfl ?_
  refine x_get 267 5 5 5 rfl rfl hm h5 rfl ?_
  refine x_ld 1 1 0 6 rfl rfl rfl rfl rfl ?_
  refine x_cv 369 135 9 [.int t] rfl rfl rfl (Nat.le_of_ble_eq_true rfl) rfl rfl (Nat.le_of_ble_eq_true rfl) trivial (Nat.le_of_ble_eq_true rfl) (c_135 (L := L) (xs := xs) d) rfl ?_
  refine x_cv 361 132 12 [.ref m, .int 0, .int (if 0 ≤ t ∧ t < 1093 then 1 else 0)] rfl rfl rfl (Nat.le_of_ble_eq_true rfl) rfl rfl (Nat.le_of_ble_eq_true rfl) ⟨_, _, _, rfl, hm⟩ (Nat.le_of_ble_eq_true rfl) (n_132 d hm hfs) rfl ?_
  refine x_ifne 36 15 rfl rfl rfl (fun _ => ?_) (fun c => absurd c (by decide))
  refine x_cst (.int 0) 1 37 rfl rfl rfl ?_
  refine x_ret rfl rfl rfl rfl ?_
  exact ⟨rfl, rfl⟩
theorem m_136 (d : Nat) {h : ab_H} {m : Nat} {fs : List Value} (hm : h[m]? = some (.inr (5, fs))) (hfs : fs.length = 68) {t : Int32} (h5 : fs[5]? = some (.int 0)) : ab_S (pg_G L xs) (d + 2) 136 [.ref m, .int t] h (some (.int 0)) (h.set m (.inr (5, fs.set 2 (.int 1)))) := by
  show ab_W (pg_G L xs) (ab_X (pg_G L xs) (d + 1)) 136 _ 0 [some (.ref m), some (.int t)] [] h
  refine x_ld 0 1 2 1 rfl rfl rfl rfl rfl ?_
  refine x_ld 0 1 2 2 rfl rfl rfl rfl rfl ?_
  refine x_get 267 5 5 5 rfl rfl hm h5 rfl ?_
  refine x_ld 1 1 0 6 rfl rfl rfl rfl rfl ?_
  refine x_cv 369 135 9 [.int t] rfl rfl rfl (Nat.le_of_ble_eq_true rfl) rfl rfl (Nat.le_of_ble_eq_true rfl) trivial (Nat.le_of_ble_eq_true rfl) (c_135 (L := L) (xs := xs) d) rfl ?_
  refine x_cv 361 132 12 [.ref m, .int 0, .int (if 0 ≤ t ∧ t < 1093 then 1 else 0)] rfl rfl rfl (Nat.le_of_ble_eq_true rfl) rfl rfl (Nat.le_of_ble_eq_true rfl) ⟨_, _, _, rfl, hm⟩ (Nat.le_of_ble_eq_true rfl) (n_132 d hm hfs) rfl ?_
  refine x_ifne 36 15 rfl rfl rfl (fun _ => ?_) (fun c => absurd c (by decide))
  refine x_cst (.int 0) 1 37 rfl rfl rfl ?_
  refine x_ret rfl rfl rfl rfl ?_
  exact ⟨rfl, rfl⟩
theorem m_137 (d : Nat) {h : ab_H} {m : Nat} {fs : List Value} (hm : h[m]? = some (.inr (5, fs))) (hfs : fs.length = 68) {t : Int32} (h5 : fs[5]? = some (.int 0)) : ab_S (pg_G L xs) (d + 2) 137 [.ref m, .int t] h (some (.int 0)) (h.set m (.inr (5, fs.set 2 (.int 1)))) := by
  show ab_W (pg_G L xs) (ab_X (pg_G L xs) (d + 1)) 137 _ 0 [some (.ref m), some (.int t)] [] h
  refine x_ld 0 1 2 1 rfl rfl rfl rfl rfl ?_
  refine x_ld 0 1 2 2 rfl rfl rfl rfl rfl ?_
  refine x_get 267 5 5 5 rfl rfl hm h5 rfl ?_
  refine x_ld 1 1 0 6 rfl rfl rfl rfl rfl ?_
  refine x_cv 369 135 9 [.int t] rfl rfl rfl (Nat.le_of_ble_eq_true rfl) rfl rfl (Nat.le_of_ble_eq_true rfl) trivial (Nat.le_of_ble_eq_true rfl) (c_135 (L := L) (xs := xs) d) rfl ?_
  refine x_cv 361 132 12 [.ref m, .int 0, .int (if 0 ≤ t ∧ t < 1093 then 1 else 0)] rfl rfl rfl (Nat.le_of_ble_eq_true rfl) rfl rfl (Nat.le_of_ble_eq_true rfl) ⟨_, _, _, rfl, hm⟩ (Nat.le_of_ble_eq_true rfl) (n_132 d hm hfs) rfl ?_
  refine x_ifeq 17 15 rfl rfl rfl (fun c => absurd c (by decide)) (fun _ => ?_)
  refine x_cst (.int 0) 1 16 rfl rfl rfl ?_
  refine x_ret rfl rfl rfl rfl ?_
  exact ⟨rfl, rfl⟩
theorem m_148 (d : Nat) {h : ab_H} {m : Nat} {fs : List Value} (hm : h[m]? = some (.inr (5, fs))) (hfs : fs.length = 68) {t : Int32} (h5 : fs[5]? = some (.int 0)) : ab_S (pg_G L xs) (d + 2) 148 [.ref m, .int t] h (some (.int 0)) (h.set m (.inr (5, fs.set 2 (.int 1)))) := by
  show ab_W (pg_G L xs) (ab_X (pg_G L xs) (d + 1)) 148 _ 0 [some (.ref m), some (.int t), none] [] h
  refine x_ld 0 1 2 1 rfl rfl rfl rfl rfl ?_
  refine x_ld 0 1 2 2 rfl rfl rfl rfl rfl ?_
  refine x_get 267 5 5 5 rfl rfl hm h5 rfl ?_
  refine x_ld 1 1 0 6 rfl rfl rfl rfl rfl ?_
  refine x_cv 369 135 9 [.int t] rfl rfl rfl (Nat.le_of_ble_eq_true rfl) rfl rfl (Nat.le_of_ble_eq_true rfl) trivial (Nat.le_of_ble_eq_true rfl) (c_135 (L := L) (xs := xs) d) rfl ?_
  refine x_cv 361 132 12 [.ref m, .int 0, .int (if 0 ≤ t ∧ t < 1093 then 1 else 0)] rfl rfl rfl (Nat.le_of_ble_eq_true rfl) rfl rfl (Nat.le_of_ble_eq_true rfl) ⟨_, _, _, rfl, hm⟩ (Nat.le_of_ble_eq_true rfl) (n_132 d hm hfs) rfl ?_
  refine x_ifeq 17 15 rfl rfl rfl (fun c => absurd c (by decide)) (fun _ => ?_)
  refine x_cst (.int 0) 1 16 rfl rfl rfl ?_
  refine x_ret rfl rfl rfl rfl ?_
  exact ⟨rfl, rfl⟩
theorem m_162 (d : Nat) {h : ab_H} {m : Nat} {fs : List Value} (hm : h[m]? = some (.inr (5, fs))) (hfs : fs.length = 68) {t : Int32} (h5 : fs[5]? = some (.int 0)) : ab_S (pg_G L xs) (d + 2) 162 [.ref m, .int t] h (some (.int 0)) (h.set m (.inr (5, fs.set 2 (.int 1)))) := by
  show ab_W (pg_G L xs) (ab_X (pg_G L xs) (d + 1)) 162 _ 0 [some (.ref m), some (.int t)] [] h
  refine x_ld 0 1 2 1 rfl rfl rfl rfl rfl ?_
  refine x_ld 0 1 2 2 rfl rfl rfl rfl rfl ?_
  refine x_get 267 5 5 5 rfl rfl hm h5 rfl ?_
  refine x_ld 1 1 0 6 rfl rfl rfl rfl rfl ?_
  refine x_cv 369 135 9 [.int t] rfl rfl rfl (Nat.le_of_ble_eq_true rfl) rfl rfl (Nat.le_of_ble_eq_true rfl) trivial (Nat.le_of_ble_eq_true rfl) (c_135 (L := L) (xs := xs) d) rfl ?_
  refine x_cv 361 132 12 [.ref m, .int 0, .int (if 0 ≤ t ∧ t < 1093 then 1 else 0)] rfl rfl rfl (Nat.le_of_ble_eq_true rfl) rfl rfl (Nat.le_of_ble_eq_true rfl) ⟨_, _, _, rfl, hm⟩ (Nat.le_of_ble_eq_true rfl) (n_132 d hm hfs) rfl ?_
  refine x_ifeq 17 15 rfl rfl rfl (fun c => absurd c (by decide)) (fun _ => ?_)
  refine x_cst (.int 0) 1 16 rfl rfl rfl ?_
  refine x_ret rfl rfl rfl rfl ?_
  exact ⟨rfl, rfl⟩
theorem m_164 (d : Nat) {h : ab_H} {m : Nat} {fs : List Value} (hm : h[m]? = some (.inr (5, fs))) (hfs : fs.length = 68) {t : Int32} (h5 : fs[5]? = some (.int 0)) : ab_S (pg_G L xs) (d + 2) 164 [.ref m, .int t] h (some (.int 0)) (h.set m (.inr (5, fs.set 2 (.int 1)))) := by
  show ab_W (pg_G L xs) (ab_X (pg_G L xs) (d + 1)) 164 _ 0 [some (.ref m), some (.int t)] [] h
  refine x_ld 0 1 2 1 rfl rfl rfl rfl rfl ?_
  refine x_ld 0 1 2 2 rfl rfl rfl rfl rfl ?_
  refine x_get 267 5 5 5 rfl rfl hm h5 rfl ?_
  refine x_ld 1 1 0 6 rfl rfl rfl rfl rfl ?_
  refine x_cv 369 135 9 [.int t] rfl rfl rfl (Nat.le_of_ble_eq_true rfl) rfl rfl (Nat.le_of_ble_eq_true rfl) trivial (Nat.le_of_ble_eq_true rfl) (c_135 (L := L) (xs := xs) d) rfl ?_
  refine x_cv 361 132 12 [.ref m, .int 0, .int (if 0 ≤ t ∧ t < 1093 then 1 else 0)] rfl rfl rfl (Nat.le_of_ble_eq_true rfl) rfl rfl (Nat.le_of_ble_eq_true rfl) ⟨_, _, _, rfl, hm⟩ (Nat.le_of_ble_eq_true rfl) (n_132 d hm hfs) rfl ?_
  refine x_ifeq 17 15 rfl rfl rfl (fun c => absurd c (by decide)) (fun _ => ?_)
  refine x_cst (.int 0) 1 16 rfl rfl rfl ?_
  refine x_ret rfl rfl rfl rfl ?_
  exact ⟨rfl, rfl⟩
theorem m_131 (d : Nat) {h : ab_H} {m : Nat} {fs : List Value} (hm : h[m]? = some (.inr (5, fs))) (hfs : fs.length = 68) {t : Int32} (h5 : fs[5]? = some (.int 0)) : ab_S (pg_G L xs) (d + 2) 131 [.ref m, .int t] h (some (.int 0)) (h.set m (.inr (5, fs.set 2 (.int 1)))) := by
  show ab_W (pg_G L xs) (ab_X (pg_G L xs) (d + 1)) 131 _ 0 [some (.ref m), some (.int t)] [] h
  refine x_ld 0 1 2 1 rfl rfl rfl rfl rfl ?_
  refine x_ld 0 1 2 2 rfl rfl rfl rfl rfl ?_
  refine x_get 267 5 5 5 rfl rfl hm h5 rfl ?_
  refine x_ld 1 1 0 6 rfl rfl rfl rfl rfl ?_
  refine x_ifeq 14 9 rfl rfl rfl (fun c1 => ?_) (fun c1 => ?_)
  · refine x_cst (.int 1) 1 15 rfl rfl rfl ?_
    refine x_go 19 rfl rfl ?_
    refine x_cv 361 132 22 [.ref m, .int 0, .int 1] rfl rfl rfl (Nat.le_of_ble_eq_true rfl) rfl rfl (Nat.le_of_ble_eq_true rfl) ⟨_, _, _, rfl, hm⟩ (Nat.le_of_ble_eq_true rfl) (n_132 d hm hfs) rfl ?_
    refine x_ifeq 27 25 rfl rfl rfl (fun c => absurd c (by decide)) (fun _ => ?_)
    refine x_cst (.int 0) 1 26 rfl rfl rfl ?_
    refine x_ret rfl rfl rfl rfl ?_
    exact ⟨rfl, rfl⟩
  · refine x_ld 1 1 0 10 rfl rfl rfl rfl rfl ?_
    refine x_cst (.int 1) 1 11 rfl rfl rfl ?_
    refine x_icne 18 14 rfl rfl rfl (fun c2 => ?_) (fun c2 => ?_)
    · refine x_cst (.int 0) 1 19 rfl rfl rfl ?_
      refine x_cv 361 132 22 [.ref m, .int 0, .int 0] rfl rfl rfl (Nat.le_of_ble_eq_true rfl) rfl rfl (Nat.le_of_ble_eq_true rfl) ⟨_, _, _, rfl, hm⟩ (Nat.le_of_ble_eq_true rfl) (n_132 d hm hfs) rfl ?_
      refine x_ifeq 27 25 rfl rfl rfl (fun c => absurd c (by decide)) (fun _ => ?_)
      refine x_cst (.int 0) 1 26 rfl rfl rfl ?_
      refine x_ret rfl rfl rfl rfl ?_
      exact ⟨rfl, rfl⟩
    · refine x_cst (.int 1) 1 15 rfl rfl rfl ?_
      refine x_go 19 rfl rfl ?_
      refine x_cv 361 132 22 [.ref m, .int 0, .int 1] rfl rfl rfl (Nat.le_of_ble_eq_true rfl) rfl rfl (Nat.le_of_ble_eq_true rfl) ⟨_, _, _, rfl, hm⟩ (Nat.le_of_ble_eq_true rfl) (n_132 d hm hfs) rfl ?_
      refine x_ifeq 27 25 rfl rfl rfl (fun c => absurd c (by decide)) (fun _ => ?_)
      refine x_cst (.int 0) 1 26 rfl rfl rfl ?_
      refine x_ret rfl rfl rfl rfl ?_
      exact ⟨rfl, rfl⟩
theorem m_149 (d : Nat) {h : ab_H} {m : Nat} {fs : List Value} (hm : h[m]? = some (.inr (5, fs))) (hfs : fs.length = 68) {t : Int32} (h5 : fs[5]? = some (.int 0)) : ab_S (pg_G L xs) (d + 2) 149 [.ref m, .int t] h (some (.int 0)) (h.set m (.inr (5, fs.set 2 (.int 1)))) := by
  show ab_W (pg_G L xs) (ab_X (pg_G L xs) (d + 1)) 149 _ 0 [some (.ref m), some (.int t), none] [] h
  refine x_ld 0 1 2 1 rfl rfl rfl rfl rfl ?_
  refine x_ld 0 1 2 2 rfl rfl rfl rfl rfl ?_
  refine x_get 267 5 5 5 rfl rfl hm h5 rfl ?_
  refine x_ifeq 19 8 rfl rfl rfl (fun _ => ?_) (fun c => absurd (by decide) c)
  refine x_cst (.int 0) 1 20 rfl rfl rfl ?_
  refine x_ld 1 1 0 21 rfl rfl rfl rfl rfl ?_
  refine x_cv 369 135 24 [.int t] rfl rfl rfl (Nat.le_of_ble_eq_true rfl) rfl rfl (Nat.le_of_ble_eq_true rfl) trivial (Nat.le_of_ble_eq_true rfl) (c_135 (L := L) (xs := xs) d) rfl ?_
  refine x_cv 361 132 27 [.ref m, .int 0, .int (if 0 ≤ t ∧ t < 1093 then 1 else 0)] rfl rfl rfl (Nat.le_of_ble_eq_true rfl) rfl rfl (Nat.le_of_ble_eq_true rfl) ⟨_, _, _, rfl, hm⟩ (Nat.le_of_ble_eq_true rfl) (n_132 d hm hfs) rfl ?_
  refine x_ifeq 32 30 rfl rfl rfl (fun c => absurd c (by decide)) (fun _ => ?_)
  refine x_cst (.int 0) 1 31 rfl rfl rfl ?_
  refine x_ret rfl rfl rfl rfl ?_
  exact ⟨rfl, rfl⟩
theorem m_165 (d : Nat) {h : ab_H} {m : Nat} {fs : List Value} (hm : h[m]? = some (.inr (5, fs))) (hfs : fs.length = 68) (h5 : fs[5]? = some (.int 0)) : ab_S (pg_G L xs) (d + 2) 165 [.ref m] h (some (.int 0)) (h.set m (.inr (5, fs.set 2 (.int 1)))) := by
  show ab_W (pg_G L xs) (ab_X (pg_G L xs) (d + 1)) 165 _ 0 [some (.ref m), none] [] h
  refine x_ld 0 1 2 1 rfl rfl rfl rfl rfl ?_
  refine x_ld 0 1 2 2 rfl rfl rfl rfl rfl ?_
  refine x_get 267 5 5 5 rfl rfl hm h5 rfl ?_
  refine x_cst (.int 1) 1 6 rfl rfl rfl ?_
  refine x_cv 361 132 9 [.ref m, .int 0, .int 1] rfl rfl rfl (Nat.le_of_ble_eq_true rfl) rfl rfl (Nat.le_of_ble_eq_true rfl) ⟨_, _, _, rfl, hm⟩ (Nat.le_of_ble_eq_true rfl) (n_132 d hm hfs) rfl ?_
  refine x_ifeq 14 12 rfl rfl rfl (fun c => absurd c (by decide)) (fun _ => ?_)
  refine x_cst (.int 0) 1 13 rfl rfl rfl ?_
  refine x_ret rfl rfl rfl rfl ?_
  exact ⟨rfl, rfl⟩
theorem m_166 (d : Nat) {h : ab_H} {m : Nat} {fs : List Value} (hm : h[m]? = some (.inr (5, fs))) (hfs : fs.length = 68) (h5 : fs[5]? = some (.int 0)) : ab_S (pg_G L xs) (d + 2) 166 [.ref m] h (some (.int 0)) (h.set m (.inr (5, fs.set 2 (.int 1)))) := by
  show ab_W (pg_G L xs) (ab_X (pg_G L xs) (d + 1)) 166 _ 0 [some (.ref m), none] [] h
  refine x_ld 0 1 2 1 rfl rfl rfl rfl rfl ?_
  refine x_ld 0 1 2 2 rfl rfl rfl rfl rfl ?_
  refine x_get 267 5 5 5 rfl rfl hm h5 rfl ?_
  refine x_ifeq 19 8 rfl rfl rfl (fun _ => ?_) (fun c => absurd (by decide) c)
  refine x_cst (.int 0) 1 20 rfl rfl rfl ?_
  refine x_cst (.int 1) 1 21 rfl rfl rfl ?_
  refine x_cv 361 132 24 [.ref m, .int 0, .int 1] rfl rfl rfl (Nat.le_of_ble_eq_true rfl) rfl rfl (Nat.le_of_ble_eq_true rfl) ⟨_, _, _, rfl, hm⟩ (Nat.le_of_ble_eq_true rfl) (n_132 d hm hfs) rfl ?_
  refine x_ifeq 29 27 rfl rfl rfl (fun c => absurd c (by decide)) (fun _ => ?_)
  refine x_cst (.int 0) 1 28 rfl rfl rfl ?_
  refine x_ret rfl rfl rfl rfl ?_
  exact ⟨rfl, rfl⟩
theorem c_129 (d : Nat) {h : ab_H} {m : Nat} {fs : List Value} (hm : h[m]? = some (.inr (5, fs))) (hfs : fs.length = 68) {z : Int32} (hz : fs[30]? = some (.int z)) : ab_S (pg_G L xs) (d + 1) 129 [.ref m] h (some (.int z)) (h.set m (.inr (5, fs.set 2 (.int 0)))) := by
  show ab_W (pg_G L xs) (ab_X (pg_G L xs) d) 129 _ 0 [some (.ref m)] [] h
  refine x_ld 0 1 2 1 rfl rfl rfl rfl rfl ?_
  refine x_cst (.int 0) 1 2 rfl rfl rfl ?_
  refine x_put 159 5 2 5 rfl rfl hm (by simp only [List.length_set, hfs]; omega) rfl rfl rfl _ rfl rfl ?_
  refine x_ld 0 1 2 6 rfl rfl rfl rfl rfl ?_
  refine x_get 258 5 30 9 rfl rfl (set_at hm) ((fs_ne (by decide)).trans hz) rfl ?_
  refine x_ret rfl rfl rfl rfl ?_
  exact ⟨rfl, rfl⟩
theorem c_130 (d : Nat) {h : ab_H} {m : Nat} {fs : List Value} (hm : h[m]? = some (.inr (5, fs))) (hfs : fs.length = 68) {z : Int32} (hz : fs[31]? = some (.int z)) : ab_S (pg_G L xs) (d + 1) 130 [.ref m] h (some (.int z)) (h.set m (.inr (5, fs.set 2 (.int 0)))) := by
  show ab_W (pg_G L xs) (ab_X (pg_G L xs) d) 130 _ 0 [some (.ref m)] [] h
  refine x_ld 0 1 2 1 rfl rfl rfl rfl rfl ?_
  refine x_cst (.int 0) 1 2 rfl rfl rfl ?_
  refine x_put 159 5 2 5 rfl rfl hm (by simp only [List.length_set, hfs]; omega) rfl rfl rfl _ rfl rfl ?_
  refine x_ld 0 1 2 6 rfl rfl rfl rfl rfl ?_
  refine x_get 74 5 31 9 rfl rfl (set_at hm) ((fs_ne (by decide)).trans hz) rfl ?_
  refine x_ret rfl rfl rfl rfl ?_
  exact ⟨rfl, rfl⟩
theorem c_47 (d : Nat) {h : ab_H} {a : Nat} {z : Int32} {f0 f1 f2 f3 f4 f5 f7 f8 f9 f10 f11 f12 : Value} (ha : h[a]? = some (.inr (0, [f0, f1, f2, f3, f4, f5, .int z, f7, f8, f9, f10, f11, f12]))) : ab_S (pg_G L xs) (d + 1) 47 [.ref a] h (some (.int z)) h := by
  show ab_W (pg_G L xs) (ab_X (pg_G L xs) d) 47 _ 0 [some (.ref a)] [] h
  refine x_ld 0 1 2 1 rfl rfl rfl rfl rfl ?_
  refine x_get 38 0 6 4 rfl rfl ha rfl rfl ?_
  refine x_ret rfl rfl rfl rfl ?_
  exact ⟨rfl, rfl⟩
theorem c_48 (d : Nat) {h : ab_H} {a : Nat} {z : Int32} {f0 f1 f2 f3 f4 f5 f6 f8 f9 f10 f11 f12 : Value} (ha : h[a]? = some (.inr (0, [f0, f1, f2, f3, f4, f5, f6, .int z, f8, f9, f10, f11, f12]))) : ab_S (pg_G L xs) (d + 1) 48 [.ref a] h (some (.int z)) h := by
  show ab_W (pg_G L xs) (ab_X (pg_G L xs) d) 48 _ 0 [some (.ref a)] [] h
  refine x_ld 0 1 2 1 rfl rfl rfl rfl rfl ?_
  refine x_get 41 0 7 4 rfl rfl ha rfl rfl ?_
  refine x_ret rfl rfl rfl rfl ?_
  exact ⟨rfl, rfl⟩
end Nc
