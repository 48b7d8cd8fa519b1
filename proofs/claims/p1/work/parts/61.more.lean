/-! OURS, printed by wip/tools/gen61.py: the law's helpers over whatever the class's calls do; from; compile of an empty line. -/
section X2
variable {G : ab_G} {E : ab_E} {j : Nat} {Q : ab_Q} {pc : Nat} {ls : ab_L} {st : List Value} {h : ab_H}
theorem x_minv {x y : Int32} (z : Int32) (idx pc' : Nat) (hf : ab_f G j pc = some (.invokestatic idx)) (hl : ab_lm G j idx = some 1000003) (hs : (st.map (fun v => v.category)).sum ≤ 16) (hz : (if y < x then y else x) = z) (hp : pc + 3 = pc') (k : ab_W G E j Q pc' ls (.int z :: st) h) : ab_W G E j Q pc ls (.int y :: .int x :: st) h := x_min idx pc' hf hl hs hp (hz ▸ k)
theorem x_maxv {x y : Int32} (z : Int32) (idx pc' : Nat) (hf : ab_f G j pc = some (.invokestatic idx)) (hl : ab_lm G j idx = some 1000002) (hs : (st.map (fun v => v.category)).sum ≤ 16) (hz : (if x < y then y else x) = z) (hp : pc + 3 = pc') (k : ab_W G E j Q pc' ls (.int z :: st) h) : ab_W G E j Q pc ls (.int y :: .int x :: st) h := x_max idx pc' hf hl hs hp (hz ▸ k)
theorem x_cp0 {a b n0 n1 : Nat} {xs ys : Nat → Int32} (idx pc' : Nat) (hf : ab_f G j pc = some (.invokestatic idx)) (hl : ab_lm G j idx = some 1000001) (ha : h[a]? = some (.inl (2, n0, .inl xs))) (hb : h[b]? = some (.inl (2, n1, .inl ys))) (ht : ab_at G 2 = some .char) (hs : (st.map (fun v => v.category)).sum ≤ 16) (hp : pc + 3 = pc') (k : ab_W G E j Q pc' ls st h) : ab_W G E j Q pc ls (.int 0 :: .int 0 :: .ref b :: .int 0 :: .ref a :: st) h := by
  refine x_cpi idx pc' hf hl ha hb ht rfl (by decide) (by decide) (by decide) (Nat.zero_le _) (Nat.zero_le _) (fun i hi => absurd hi (Nat.not_lt_zero i)) hs hp ?_
  rw [cp0_same hb]
  exact k
end X2
section W1
variable {L : Nat} {xs : Nat → Int32}
theorem w_50_0 (d : Nat) {h h1 : ab_H} {a b : Nat} {t : Int32} {o : Nat → Int64} {fs : List Value} (ha : h[a]? = some (.inr (0, fs))) (hc : ab_S (pg_G L xs) d 51 [.ref a, .int t] h (some (.int 0)) h1) (hb : h1[b]? = some (.inl (1, 1, .inr (.inl o)))) : ab_S (pg_G L xs) (d + 1) 50 [.ref a, .int t, .ref b] h (some (.int 0)) (h1.set b (.inl (1, 1, .inr (.inl (vp_updL o 0 0))))) := by
  show ab_W (pg_G L xs) (ab_X (pg_G L xs) d) 50 _ 0 [some (.ref a), some (.int t), some (.ref b), none] [] h
  refine x_ld 2 1 2 1 rfl rfl rfl rfl rfl ?_
  refine x_cst (.int 0) 1 2 rfl rfl rfl ?_
  refine x_ld 0 1 2 3 rfl rfl rfl rfl rfl ?_
  refine x_ld 1 1 0 4 rfl rfl rfl rfl rfl ?_
  refine x_cv 7 51 7 [.ref a, .int t] rfl rfl rfl (Nat.le_of_ble_eq_true rfl) rfl rfl (Nat.le_of_ble_eq_true rfl) ⟨_, _, _, rfl, ha⟩ (Nat.le_of_ble_eq_true rfl) hc rfl ?_
  refine x_ifeq 14 10 rfl rfl rfl (fun _ => ?_) (fun c => absurd rfl c)
  refine x_cst (.long 0) 1 15 rfl rfl rfl ?_
  refine x_lst 16 rfl hb rfl (i32_in 0 1 (by decide) (by decide)) _ rfl rfl ?_
  refine x_go 22 rfl rfl ?_
  refine x_cst (.int 0) 1 23 rfl rfl rfl ?_
  exact x_ret rfl rfl rfl rfl ⟨rfl, rfl⟩
theorem w_50_1 (d : Nat) {h h1 : ab_H} {a b : Nat} {t : Int32} {o : Nat → Int64} {fs : List Value} (ha : h[a]? = some (.inr (0, fs))) (hc : ab_S (pg_G L xs) d 51 [.ref a, .int t] h (some (.int 1)) h1) (hb : h1[b]? = some (.inl (1, 1, .inr (.inl o)))) : ab_S (pg_G L xs) (d + 1) 50 [.ref a, .int t, .ref b] h (some (.int 0)) (h1.set b (.inl (1, 1, .inr (.inl (vp_updL o 0 1))))) := by
  show ab_W (pg_G L xs) (ab_X (pg_G L xs) d) 50 _ 0 [some (.ref a), some (.int t), some (.ref b), none] [] h
  refine x_ld 2 1 2 1 rfl rfl rfl rfl rfl ?_
  refine x_cst (.int 0) 1 2 rfl rfl rfl ?_
  refine x_ld 0 1 2 3 rfl rfl rfl rfl rfl ?_
  refine x_ld 1 1 0 4 rfl rfl rfl rfl rfl ?_
  refine x_cv 7 51 7 [.ref a, .int t] rfl rfl rfl (Nat.le_of_ble_eq_true rfl) rfl rfl (Nat.le_of_ble_eq_true rfl) ⟨_, _, _, rfl, ha⟩ (Nat.le_of_ble_eq_true rfl) hc rfl ?_
  refine x_ifeq 14 10 rfl rfl rfl (fun c => absurd c (by decide)) (fun _ => ?_)
  refine x_cst (.long 1) 1 11 rfl rfl rfl ?_
  refine x_go 15 rfl rfl ?_
  refine x_lst 16 rfl hb rfl (i32_in 0 1 (by decide) (by decide)) _ rfl rfl ?_
  refine x_go 22 rfl rfl ?_
  refine x_cst (.int 0) 1 23 rfl rfl rfl ?_
  exact x_ret rfl rfl rfl rfl ⟨rfl, rfl⟩
theorem y_50_6 (d : Nat) {h h1 : ab_H} {a b : Nat} {t : Int32} {fs : List Value} (ha : h[a]? = some (.inr (0, fs))) (hc : ab_X (pg_G L xs) d 51 [.ref a, .int t] h (fun r h' => r = .inr h1.length ∧ h' = h1 ++ [.inr (6, [])])) : ab_S (pg_G L xs) (d + 1) 50 [.ref a, .int t, .ref b] h (some (.int 1)) (h1 ++ [.inr (6, [])]) := by
  show ab_W (pg_G L xs) (ab_X (pg_G L xs) d) 50 _ 0 [some (.ref a), some (.int t), some (.ref b), none] [] h
  refine x_ld 2 1 2 1 rfl rfl rfl rfl rfl ?_
  refine x_cst (.int 0) 1 2 rfl rfl rfl ?_
  refine x_ld 0 1 2 3 rfl rfl rfl rfl rfl ?_
  refine x_ld 1 1 0 4 rfl rfl rfl rfl rfl ?_
  refine x_cl 7 51 7 [.ref a, .int t] _ rfl rfl rfl (Nat.le_of_ble_eq_true rfl) rfl rfl (Nat.le_of_ble_eq_true rfl) ⟨_, _, _, rfl, ha⟩ (Nat.le_of_ble_eq_true rfl) hc rfl ?_
  rintro r h' ⟨rfl, rfl⟩
  refine ⟨6, [], ap_at _ _ [], ?_⟩
  show ab_W _ _ _ _ 19 _ _ _
  refine x_st 3 1 2 20 [some (.ref a), some (.int t), some (.ref b), some (.ref h1.length)] rfl rfl rfl (Nat.le_of_ble_eq_true rfl) rfl rfl ?_
  refine x_cst (.int 1) 1 21 rfl rfl rfl ?_
  exact x_ret rfl rfl rfl rfl ⟨rfl, rfl⟩
theorem w_53 (d : Nat) {h h1 : ab_H} {a b : Nat} {t : Int32} {v : Int32} {o : Nat → Int64} {fs : List Value} (ha : h[a]? = some (.inr (0, fs))) (hc : ab_S (pg_G L xs) d 54 [.ref a, .int t] h (some (.int v)) h1) (hb : h1[b]? = some (.inl (1, 1, .inr (.inl o)))) : ab_S (pg_G L xs) (d + 1) 53 [.ref a, .int t, .ref b] h (some (.int 0)) (h1.set b (.inl (1, 1, .inr (.inl (vp_updL o 0 v.toInt64))))) := by
  show ab_W (pg_G L xs) (ab_X (pg_G L xs) d) 53 _ 0 [some (.ref a), some (.int t), some (.ref b), none] [] h
  refine x_ld 2 1 2 1 rfl rfl rfl rfl rfl ?_
  refine x_cst (.int 0) 1 2 rfl rfl rfl ?_
  refine x_ld 0 1 2 3 rfl rfl rfl rfl rfl ?_
  refine x_ld 1 1 0 4 rfl rfl rfl rfl rfl ?_
  refine x_cv 15 54 7 [.ref a, .int t] rfl rfl rfl (Nat.le_of_ble_eq_true rfl) rfl rfl (Nat.le_of_ble_eq_true rfl) ⟨_, _, _, rfl, ha⟩ (Nat.le_of_ble_eq_true rfl) hc rfl ?_
  refine x_un (.long v.toInt64) 8 rfl rfl rfl ?_
  refine x_lst 9 rfl hb rfl (i32_in 0 1 (by decide) (by decide)) _ rfl rfl ?_
  refine x_go 18 rfl rfl ?_
  refine x_cst (.int 0) 1 19 rfl rfl rfl ?_
  exact x_ret rfl rfl rfl rfl ⟨rfl, rfl⟩
theorem y_53_7 (d : Nat) {h h1 : ab_H} {a b : Nat} {t : Int32} {fs : List Value} (ha : h[a]? = some (.inr (0, fs))) (hc : ab_X (pg_G L xs) d 54 [.ref a, .int t] h (fun r h' => r = .inr h1.length ∧ h' = h1 ++ [.inr (7, [])])) : ab_S (pg_G L xs) (d + 1) 53 [.ref a, .int t, .ref b] h (some (.int 1)) (h1 ++ [.inr (7, [])]) := by
  show ab_W (pg_G L xs) (ab_X (pg_G L xs) d) 53 _ 0 [some (.ref a), some (.int t), some (.ref b), none] [] h
  refine x_ld 2 1 2 1 rfl rfl rfl rfl rfl ?_
  refine x_cst (.int 0) 1 2 rfl rfl rfl ?_
  refine x_ld 0 1 2 3 rfl rfl rfl rfl rfl ?_
  refine x_ld 1 1 0 4 rfl rfl rfl rfl rfl ?_
  refine x_cl 15 54 7 [.ref a, .int t] _ rfl rfl rfl (Nat.le_of_ble_eq_true rfl) rfl rfl (Nat.le_of_ble_eq_true rfl) ⟨_, _, _, rfl, ha⟩ (Nat.le_of_ble_eq_true rfl) hc rfl ?_
  rintro r h' ⟨rfl, rfl⟩
  refine ⟨7, [], ap_at _ _ [], ?_⟩
  show ab_W _ _ _ _ 12 _ _ _
  refine x_st 3 1 2 13 [some (.ref a), some (.int t), some (.ref b), some (.ref h1.length)] rfl rfl rfl (Nat.le_of_ble_eq_true rfl) rfl rfl ?_
  refine x_cst (.int 1) 1 14 rfl rfl rfl ?_
  exact x_ret rfl rfl rfl rfl ⟨rfl, rfl⟩
theorem y_53_6 (d : Nat) {h h1 : ab_H} {a b : Nat} {t : Int32} {fs : List Value} (ha : h[a]? = some (.inr (0, fs))) (hc : ab_X (pg_G L xs) d 54 [.ref a, .int t] h (fun r h' => r = .inr h1.length ∧ h' = h1 ++ [.inr (6, [])])) : ab_S (pg_G L xs) (d + 1) 53 [.ref a, .int t, .ref b] h (some (.int 2)) (h1 ++ [.inr (6, [])]) := by
  show ab_W (pg_G L xs) (ab_X (pg_G L xs) d) 53 _ 0 [some (.ref a), some (.int t), some (.ref b), none] [] h
  refine x_ld 2 1 2 1 rfl rfl rfl rfl rfl ?_
  refine x_cst (.int 0) 1 2 rfl rfl rfl ?_
  refine x_ld 0 1 2 3 rfl rfl rfl rfl rfl ?_
  refine x_ld 1 1 0 4 rfl rfl rfl rfl rfl ?_
  refine x_cl 15 54 7 [.ref a, .int t] _ rfl rfl rfl (Nat.le_of_ble_eq_true rfl) rfl rfl (Nat.le_of_ble_eq_true rfl) ⟨_, _, _, rfl, ha⟩ (Nat.le_of_ble_eq_true rfl) hc rfl ?_
  rintro r h' ⟨rfl, rfl⟩
  refine ⟨6, [], ap_at _ _ [], ?_⟩
  show ab_W _ _ _ _ 15 _ _ _
  refine x_st 3 1 2 16 [some (.ref a), some (.int t), some (.ref b), some (.ref h1.length)] rfl rfl rfl (Nat.le_of_ble_eq_true rfl) rfl rfl ?_
  refine x_cst (.int 2) 1 17 rfl rfl rfl ?_
  exact x_ret rfl rfl rfl rfl ⟨rfl, rfl⟩
theorem w_57_0 (d : Nat) {h h1 : ab_H} {a b : Nat} {t : Int32} {o : Nat → Int64} {fs : List Value} (ha : h[a]? = some (.inr (0, fs))) (hc : ab_S (pg_G L xs) d 58 [.ref a, .int t] h (some (.int 0)) h1) (hb : h1[b]? = some (.inl (1, 1, .inr (.inl o)))) : ab_S (pg_G L xs) (d + 1) 57 [.ref a, .int t, .ref b] h (some (.int 0)) (h1.set b (.inl (1, 1, .inr (.inl (vp_updL o 0 0))))) := by
  show ab_W (pg_G L xs) (ab_X (pg_G L xs) d) 57 _ 0 [some (.ref a), some (.int t), some (.ref b), none] [] h
  refine x_ld 2 1 2 1 rfl rfl rfl rfl rfl ?_
  refine x_cst (.int 0) 1 2 rfl rfl rfl ?_
  refine x_ld 0 1 2 3 rfl rfl rfl rfl rfl ?_
  refine x_ld 1 1 0 4 rfl rfl rfl rfl rfl ?_
  refine x_cv 21 58 7 [.ref a, .int t] rfl rfl rfl (Nat.le_of_ble_eq_true rfl) rfl rfl (Nat.le_of_ble_eq_true rfl) ⟨_, _, _, rfl, ha⟩ (Nat.le_of_ble_eq_true rfl) hc rfl ?_
  refine x_ifeq 14 10 rfl rfl rfl (fun _ => ?_) (fun c => absurd rfl c)
  refine x_cst (.long 0) 1 15 rfl rfl rfl ?_
  refine x_lst 16 rfl hb rfl (i32_in 0 1 (by decide) (by decide)) _ rfl rfl ?_
  refine x_go 25 rfl rfl ?_
  refine x_cst (.int 0) 1 26 rfl rfl rfl ?_
  exact x_ret rfl rfl rfl rfl ⟨rfl, rfl⟩
theorem w_57_1 (d : Nat) {h h1 : ab_H} {a b : Nat} {t : Int32} {o : Nat → Int64} {fs : List Value} (ha : h[a]? = some (.inr (0, fs))) (hc : ab_S (pg_G L xs) d 58 [.ref a, .int t] h (some (.int 1)) h1) (hb : h1[b]? = some (.inl (1, 1, .inr (.inl o)))) : ab_S (pg_G L xs) (d + 1) 57 [.ref a, .int t, .ref b] h (some (.int 0)) (h1.set b (.inl (1, 1, .inr (.inl (vp_updL o 0 1))))) := by
  show ab_W (pg_G L xs) (ab_X (pg_G L xs) d) 57 _ 0 [some (.ref a), some (.int t), some (.ref b), none] [] h
  refine x_ld 2 1 2 1 rfl rfl rfl rfl rfl ?_
  refine x_cst (.int 0) 1 2 rfl rfl rfl ?_
  refine x_ld 0 1 2 3 rfl rfl rfl rfl rfl ?_
  refine x_ld 1 1 0 4 rfl rfl rfl rfl rfl ?_
  refine x_cv 21 58 7 [.ref a, .int t] rfl rfl rfl (Nat.le_of_ble_eq_true rfl) rfl rfl (Nat.le_of_ble_eq_true rfl) ⟨_, _, _, rfl, ha⟩ (Nat.le_of_ble_eq_true rfl) hc rfl ?_
  refine x_ifeq 14 10 rfl rfl rfl (fun c => absurd c (by decide)) (fun _ => ?_)
  refine x_cst (.long 1) 1 11 rfl rfl rfl ?_
  refine x_go 15 rfl rfl ?_
  refine x_lst 16 rfl hb rfl (i32_in 0 1 (by decide) (by decide)) _ rfl rfl ?_
  refine x_go 25 rfl rfl ?_
  refine x_cst (.int 0) 1 26 rfl rfl rfl ?_
  exact x_ret rfl rfl rfl rfl ⟨rfl, rfl⟩
theorem y_57_7 (d : Nat) {h h1 : ab_H} {a b : Nat} {t : Int32} {fs : List Value} (ha : h[a]? = some (.inr (0, fs))) (hc : ab_X (pg_G L xs) d 58 [.ref a, .int t] h (fun r h' => r = .inr h1.length ∧ h' = h1 ++ [.inr (7, [])])) : ab_S (pg_G L xs) (d + 1) 57 [.ref a, .int t, .ref b] h (some (.int 1)) (h1 ++ [.inr (7, [])]) := by
  show ab_W (pg_G L xs) (ab_X (pg_G L xs) d) 57 _ 0 [some (.ref a), some (.int t), some (.ref b), none] [] h
  refine x_ld 2 1 2 1 rfl rfl rfl rfl rfl ?_
  refine x_cst (.int 0) 1 2 rfl rfl rfl ?_
  refine x_ld 0 1 2 3 rfl rfl rfl rfl rfl ?_
  refine x_ld 1 1 0 4 rfl rfl rfl rfl rfl ?_
  refine x_cl 21 58 7 [.ref a, .int t] _ rfl rfl rfl (Nat.le_of_ble_eq_true rfl) rfl rfl (Nat.le_of_ble_eq_true rfl) ⟨_, _, _, rfl, ha⟩ (Nat.le_of_ble_eq_true rfl) hc rfl ?_
  rintro r h' ⟨rfl, rfl⟩
  refine ⟨7, [], ap_at _ _ [], ?_⟩
  show ab_W _ _ _ _ 19 _ _ _
  refine x_st 3 1 2 20 [some (.ref a), some (.int t), some (.ref b), some (.ref h1.length)] rfl rfl rfl (Nat.le_of_ble_eq_true rfl) rfl rfl ?_
  refine x_cst (.int 1) 1 21 rfl rfl rfl ?_
  exact x_ret rfl rfl rfl rfl ⟨rfl, rfl⟩
theorem y_57_8 (d : Nat) {h h1 : ab_H} {a b : Nat} {t : Int32} {fs : List Value} (ha : h[a]? = some (.inr (0, fs))) (hc : ab_X (pg_G L xs) d 58 [.ref a, .int t] h (fun r h' => r = .inr h1.length ∧ h' = h1 ++ [.inr (8, [])])) : ab_S (pg_G L xs) (d + 1) 57 [.ref a, .int t, .ref b] h (some (.int 2)) (h1 ++ [.inr (8, [])]) := by
  show ab_W (pg_G L xs) (ab_X (pg_G L xs) d) 57 _ 0 [some (.ref a), some (.int t), some (.ref b), none] [] h
  refine x_ld 2 1 2 1 rfl rfl rfl rfl rfl ?_
  refine x_cst (.int 0) 1 2 rfl rfl rfl ?_
  refine x_ld 0 1 2 3 rfl rfl rfl rfl rfl ?_
  refine x_ld 1 1 0 4 rfl rfl rfl rfl rfl ?_
  refine x_cl 21 58 7 [.ref a, .int t] _ rfl rfl rfl (Nat.le_of_ble_eq_true rfl) rfl rfl (Nat.le_of_ble_eq_true rfl) ⟨_, _, _, rfl, ha⟩ (Nat.le_of_ble_eq_true rfl) hc rfl ?_
  rintro r h' ⟨rfl, rfl⟩
  refine ⟨8, [], ap_at _ _ [], ?_⟩
  show ab_W _ _ _ _ 22 _ _ _
  refine x_st 3 1 2 23 [some (.ref a), some (.int t), some (.ref b), some (.ref h1.length)] rfl rfl rfl (Nat.le_of_ble_eq_true rfl) rfl rfl ?_
  refine x_cst (.int 2) 1 24 rfl rfl rfl ?_
  exact x_ret rfl rfl rfl rfl ⟨rfl, rfl⟩
theorem w_60_0 (d : Nat) {h h1 : ab_H} {a b : Nat} {t : Int32} {o : Nat → Int64} {fs : List Value} (ha : h[a]? = some (.inr (0, fs))) (hc : ab_S (pg_G L xs) d 61 [.ref a, .int t] h (some (.int 0)) h1) (hb : h1[b]? = some (.inl (1, 1, .inr (.inl o)))) : ab_S (pg_G L xs) (d + 1) 60 [.ref a, .int t, .ref b] h (some (.int 0)) (h1.set b (.inl (1, 1, .inr (.inl (vp_updL o 0 0))))) := by
  show ab_W (pg_G L xs) (ab_X (pg_G L xs) d) 60 _ 0 [some (.ref a), some (.int t), some (.ref b), none] [] h
  refine x_ld 2 1 2 1 rfl rfl rfl rfl rfl ?_
  refine x_cst (.int 0) 1 2 rfl rfl rfl ?_
  refine x_ld 0 1 2 3 rfl rfl rfl rfl rfl ?_
  refine x_ld 1 1 0 4 rfl rfl rfl rfl rfl ?_
  refine x_cv 26 61 7 [.ref a, .int t] rfl rfl rfl (Nat.le_of_ble_eq_true rfl) rfl rfl (Nat.le_of_ble_eq_true rfl) ⟨_, _, _, rfl, ha⟩ (Nat.le_of_ble_eq_true rfl) hc rfl ?_
  refine x_ifeq 14 10 rfl rfl rfl (fun _ => ?_) (fun c => absurd rfl c)
  refine x_cst (.long 0) 1 15 rfl rfl rfl ?_
  refine x_lst 16 rfl hb rfl (i32_in 0 1 (by decide) (by decide)) _ rfl rfl ?_
  refine x_go 25 rfl rfl ?_
  refine x_cst (.int 0) 1 26 rfl rfl rfl ?_
  exact x_ret rfl rfl rfl rfl ⟨rfl, rfl⟩
theorem w_60_1 (d : Nat) {h h1 : ab_H} {a b : Nat} {t : Int32} {o : Nat → Int64} {fs : List Value} (ha : h[a]? = some (.inr (0, fs))) (hc : ab_S (pg_G L xs) d 61 [.ref a, .int t] h (some (.int 1)) h1) (hb : h1[b]? = some (.inl (1, 1, .inr (.inl o)))) : ab_S (pg_G L xs) (d + 1) 60 [.ref a, .int t, .ref b] h (some (.int 0)) (h1.set b (.inl (1, 1, .inr (.inl (vp_updL o 0 1))))) := by
  show ab_W (pg_G L xs) (ab_X (pg_G L xs) d) 60 _ 0 [some (.ref a), some (.int t), some (.ref b), none] [] h
  refine x_ld 2 1 2 1 rfl rfl rfl rfl rfl ?_
  refine x_cst (.int 0) 1 2 rfl rfl rfl ?_
  refine x_ld 0 1 2 3 rfl rfl rfl rfl rfl ?_
  refine x_ld 1 1 0 4 rfl rfl rfl rfl rfl ?_
  refine x_cv 26 61 7 [.ref a, .int t] rfl rfl rfl (Nat.le_of_ble_eq_true rfl) rfl rfl (Nat.le_of_ble_eq_true rfl) ⟨_, _, _, rfl, ha⟩ (Nat.le_of_ble_eq_true rfl) hc rfl ?_
  refine x_ifeq 14 10 rfl rfl rfl (fun c => absurd c (by decide)) (fun _ => ?_)
  refine x_cst (.long 1) 1 11 rfl rfl rfl ?_
  refine x_go 15 rfl rfl ?_
  refine x_lst 16 rfl hb rfl (i32_in 0 1 (by decide) (by decide)) _ rfl rfl ?_
  refine x_go 25 rfl rfl ?_
  refine x_cst (.int 0) 1 26 rfl rfl rfl ?_
  exact x_ret rfl rfl rfl rfl ⟨rfl, rfl⟩
theorem y_60_7 (d : Nat) {h h1 : ab_H} {a b : Nat} {t : Int32} {fs : List Value} (ha : h[a]? = some (.inr (0, fs))) (hc : ab_X (pg_G L xs) d 61 [.ref a, .int t] h (fun r h' => r = .inr h1.length ∧ h' = h1 ++ [.inr (7, [])])) : ab_S (pg_G L xs) (d + 1) 60 [.ref a, .int t, .ref b] h (some (.int 1)) (h1 ++ [.inr (7, [])]) := by
  show ab_W (pg_G L xs) (ab_X (pg_G L xs) d) 60 _ 0 [some (.ref a), some (.int t), some (.ref b), none] [] h
  refine x_ld 2 1 2 1 rfl rfl rfl rfl rfl ?_
  refine x_cst (.int 0) 1 2 rfl rfl rfl ?_
  refine x_ld 0 1 2 3 rfl rfl rfl rfl rfl ?_
  refine x_ld 1 1 0 4 rfl rfl rfl rfl rfl ?_
  refine x_cl 26 61 7 [.ref a, .int t] _ rfl rfl rfl (Nat.le_of_ble_eq_true rfl) rfl rfl (Nat.le_of_ble_eq_true rfl) ⟨_, _, _, rfl, ha⟩ (Nat.le_of_ble_eq_true rfl) hc rfl ?_
  rintro r h' ⟨rfl, rfl⟩
  refine ⟨7, [], ap_at _ _ [], ?_⟩
  show ab_W _ _ _ _ 19 _ _ _
  refine x_st 3 1 2 20 [some (.ref a), some (.int t), some (.ref b), some (.ref h1.length)] rfl rfl rfl (Nat.le_of_ble_eq_true rfl) rfl rfl ?_
  refine x_cst (.int 1) 1 21 rfl rfl rfl ?_
  exact x_ret rfl rfl rfl rfl ⟨rfl, rfl⟩
theorem y_60_8 (d : Nat) {h h1 : ab_H} {a b : Nat} {t : Int32} {fs : List Value} (ha : h[a]? = some (.inr (0, fs))) (hc : ab_X (pg_G L xs) d 61 [.ref a, .int t] h (fun r h' => r = .inr h1.length ∧ h' = h1 ++ [.inr (8, [])])) : ab_S (pg_G L xs) (d + 1) 60 [.ref a, .int t, .ref b] h (some (.int 2)) (h1 ++ [.inr (8, [])]) := by
  show ab_W (pg_G L xs) (ab_X (pg_G L xs) d) 60 _ 0 [some (.ref a), some (.int t), some (.ref b), none] [] h
  refine x_ld 2 1 2 1 rfl rfl rfl rfl rfl ?_
  refine x_cst (.int 0) 1 2 rfl rfl rfl ?_
  refine x_ld 0 1 2 3 rfl rfl rfl rfl rfl ?_
  refine x_ld 1 1 0 4 rfl rfl rfl rfl rfl ?_
  refine x_cl 26 61 7 [.ref a, .int t] _ rfl rfl rfl (Nat.le_of_ble_eq_true rfl) rfl rfl (Nat.le_of_ble_eq_true rfl) ⟨_, _, _, rfl, ha⟩ (Nat.le_of_ble_eq_true rfl) hc rfl ?_
  rintro r h' ⟨rfl, rfl⟩
  refine ⟨8, [], ap_at _ _ [], ?_⟩
  show ab_W _ _ _ _ 22 _ _ _
  refine x_st 3 1 2 23 [some (.ref a), some (.int t), some (.ref b), some (.ref h1.length)] rfl rfl rfl (Nat.le_of_ble_eq_true rfl) rfl rfl ?_
  refine x_cst (.int 2) 1 24 rfl rfl rfl ?_
  exact x_ret rfl rfl rfl rfl ⟨rfl, rfl⟩
theorem w_62 (d : Nat) {h h1 : ab_H} {a b : Nat} {t : Int32} {v : Int32} {o : Nat → Int64} {fs : List Value} (ha : h[a]? = some (.inr (0, fs))) (hc : ab_S (pg_G L xs) d 63 [.ref a, .int t] h (some (.int v)) h1) (hb : h1[b]? = some (.inl (1, 1, .inr (.inl o)))) : ab_S (pg_G L xs) (d + 1) 62 [.ref a, .int t, .ref b] h (some (.int 0)) (h1.set b (.inl (1, 1, .inr (.inl (vp_updL o 0 v.toInt64))))) := by
  show ab_W (pg_G L xs) (ab_X (pg_G L xs) d) 62 _ 0 [some (.ref a), some (.int t), some (.ref b), none] [] h
  refine x_ld 2 1 2 1 rfl rfl rfl rfl rfl ?_
  refine x_cst (.int 0) 1 2 rfl rfl rfl ?_
  refine x_ld 0 1 2 3 rfl rfl rfl rfl rfl ?_
  refine x_ld 1 1 0 4 rfl rfl rfl rfl rfl ?_
  refine x_cv 29 63 7 [.ref a, .int t] rfl rfl rfl (Nat.le_of_ble_eq_true rfl) rfl rfl (Nat.le_of_ble_eq_true rfl) ⟨_, _, _, rfl, ha⟩ (Nat.le_of_ble_eq_true rfl) hc rfl ?_
  refine x_un (.long v.toInt64) 8 rfl rfl rfl ?_
  refine x_lst 9 rfl hb rfl (i32_in 0 1 (by decide) (by decide)) _ rfl rfl ?_
  refine x_go 18 rfl rfl ?_
  refine x_cst (.int 0) 1 19 rfl rfl rfl ?_
  exact x_ret rfl rfl rfl rfl ⟨rfl, rfl⟩
theorem y_62_7 (d : Nat) {h h1 : ab_H} {a b : Nat} {t : Int32} {fs : List Value} (ha : h[a]? = some (.inr (0, fs))) (hc : ab_X (pg_G L xs) d 63 [.ref a, .int t] h (fun r h' => r = .inr h1.length ∧ h' = h1 ++ [.inr (7, [])])) : ab_S (pg_G L xs) (d + 1) 62 [.ref a, .int t, .ref b] h (some (.int 1)) (h1 ++ [.inr (7, [])]) := by
  show ab_W (pg_G L xs) (ab_X (pg_G L xs) d) 62 _ 0 [some (.ref a), some (.int t), some (.ref b), none] [] h
  refine x_ld 2 1 2 1 rfl rfl rfl rfl rfl ?_
  refine x_cst (.int 0) 1 2 rfl rfl rfl ?_
  refine x_ld 0 1 2 3 rfl rfl rfl rfl rfl ?_
  refine x_ld 1 1 0 4 rfl rfl rfl rfl rfl ?_
  refine x_cl 29 63 7 [.ref a, .int t] _ rfl rfl rfl (Nat.le_of_ble_eq_true rfl) rfl rfl (Nat.le_of_ble_eq_true rfl) ⟨_, _, _, rfl, ha⟩ (Nat.le_of_ble_eq_true rfl) hc rfl ?_
  rintro r h' ⟨rfl, rfl⟩
  refine ⟨7, [], ap_at _ _ [], ?_⟩
  show ab_W _ _ _ _ 12 _ _ _
  refine x_st 3 1 2 13 [some (.ref a), some (.int t), some (.ref b), some (.ref h1.length)] rfl rfl rfl (Nat.le_of_ble_eq_true rfl) rfl rfl ?_
  refine x_cst (.int 1) 1 14 rfl rfl rfl ?_
  exact x_ret rfl rfl rfl rfl ⟨rfl, rfl⟩
theorem y_62_8 (d : Nat) {h h1 : ab_H} {a b : Nat} {t : Int32} {fs : List Value} (ha : h[a]? = some (.inr (0, fs))) (hc : ab_X (pg_G L xs) d 63 [.ref a, .int t] h (fun r h' => r = .inr h1.length ∧ h' = h1 ++ [.inr (8, [])])) : ab_S (pg_G L xs) (d + 1) 62 [.ref a, .int t, .ref b] h (some (.int 2)) (h1 ++ [.inr (8, [])]) := by
  show ab_W (pg_G L xs) (ab_X (pg_G L xs) d) 62 _ 0 [some (.ref a), some (.int t), some (.ref b), none] [] h
  refine x_ld 2 1 2 1 rfl rfl rfl rfl rfl ?_
  refine x_cst (.int 0) 1 2 rfl rfl rfl ?_
  refine x_ld 0 1 2 3 rfl rfl rfl rfl rfl ?_
  refine x_ld 1 1 0 4 rfl rfl rfl rfl rfl ?_
  refine x_cl 29 63 7 [.ref a, .int t] _ rfl rfl rfl (Nat.le_of_ble_eq_true rfl) rfl rfl (Nat.le_of_ble_eq_true rfl) ⟨_, _, _, rfl, ha⟩ (Nat.le_of_ble_eq_true rfl) hc rfl ?_
  rintro r h' ⟨rfl, rfl⟩
  refine ⟨8, [], ap_at _ _ [], ?_⟩
  show ab_W _ _ _ _ 15 _ _ _
  refine x_st 3 1 2 16 [some (.ref a), some (.int t), some (.ref b), some (.ref h1.length)] rfl rfl rfl (Nat.le_of_ble_eq_true rfl) rfl rfl ?_
  refine x_cst (.int 2) 1 17 rfl rfl rfl ?_
  exact x_ret rfl rfl rfl rfl ⟨rfl, rfl⟩
theorem w_72_0 (d : Nat) {h h1 : ab_H} {a b : Nat} {t : Int32} {o : Nat → Int64} {fs : List Value} (ha : h[a]? = some (.inr (0, fs))) (hc : ab_S (pg_G L xs) d 73 [.ref a, .int t] h (some (.int 0)) h1) (hb : h1[b]? = some (.inl (1, 1, .inr (.inl o)))) : ab_S (pg_G L xs) (d + 1) 72 [.ref a, .int t, .ref b] h (some (.int 0)) (h1.set b (.inl (1, 1, .inr (.inl (vp_updL o 0 0))))) := by
  show ab_W (pg_G L xs) (ab_X (pg_G L xs) d) 72 _ 0 [some (.ref a), some (.int t), some (.ref b), none] [] h
  refine x_ld 2 1 2 1 rfl rfl rfl rfl rfl ?_
  refine x_cst (.int 0) 1 2 rfl rfl rfl ?_
  refine x_ld 0 1 2 3 rfl rfl rfl rfl rfl ?_
  refine x_ld 1 1 0 4 rfl rfl rfl rfl rfl ?_
  refine x_cv 32 73 7 [.ref a, .int t] rfl rfl rfl (Nat.le_of_ble_eq_true rfl) rfl rfl (Nat.le_of_ble_eq_true rfl) ⟨_, _, _, rfl, ha⟩ (Nat.le_of_ble_eq_true rfl) hc rfl ?_
  refine x_ifeq 14 10 rfl rfl rfl (fun _ => ?_) (fun c => absurd rfl c)
  refine x_cst (.long 0) 1 15 rfl rfl rfl ?_
  refine x_lst 16 rfl hb rfl (i32_in 0 1 (by decide) (by decide)) _ rfl rfl ?_
  refine x_go 25 rfl rfl ?_
  refine x_cst (.int 0) 1 26 rfl rfl rfl ?_
  exact x_ret rfl rfl rfl rfl ⟨rfl, rfl⟩
theorem w_72_1 (d : Nat) {h h1 : ab_H} {a b : Nat} {t : Int32} {o : Nat → Int64} {fs : List Value} (ha : h[a]? = some (.inr (0, fs))) (hc : ab_S (pg_G L xs) d 73 [.ref a, .int t] h (some (.int 1)) h1) (hb : h1[b]? = some (.inl (1, 1, .inr (.inl o)))) : ab_S (pg_G L xs) (d + 1) 72 [.ref a, .int t, .ref b] h (some (.int 0)) (h1.set b (.inl (1, 1, .inr (.inl (vp_updL o 0 1))))) := by
  show ab_W (pg_G L xs) (ab_X (pg_G L xs) d) 72 _ 0 [some (.ref a), some (.int t), some (.ref b), none] [] h
  refine x_ld 2 1 2 1 rfl rfl rfl rfl rfl ?_
  refine x_cst (.int 0) 1 2 rfl rfl rfl ?_
  refine x_ld 0 1 2 3 rfl rfl rfl rfl rfl ?_
  refine x_ld 1 1 0 4 rfl rfl rfl rfl rfl ?_
  refine x_cv 32 73 7 [.ref a, .int t] rfl rfl rfl (Nat.le_of_ble_eq_true rfl) rfl rfl (Nat.le_of_ble_eq_true rfl) ⟨_, _, _, rfl, ha⟩ (Nat.le_of_ble_eq_true rfl) hc rfl ?_
  refine x_ifeq 14 10 rfl rfl rfl (fun c => absurd c (by decide)) (fun _ => ?_)
  refine x_cst (.long 1) 1 11 rfl rfl rfl ?_
  refine x_go 15 rfl rfl ?_
  refine x_lst 16 rfl hb rfl (i32_in 0 1 (by decide) (by decide)) _ rfl rfl ?_
  refine x_go 25 rfl rfl ?_
  refine x_cst (.int 0) 1 26 rfl rfl rfl ?_
  exact x_ret rfl rfl rfl rfl ⟨rfl, rfl⟩
theorem y_72_7 (d : Nat) {h h1 : ab_H} {a b : Nat} {t : Int32} {fs : List Value} (ha : h[a]? = some (.inr (0, fs))) (hc : ab_X (pg_G L xs) d 73 [.ref a, .int t] h (fun r h' => r = .inr h1.length ∧ h' = h1 ++ [.inr (7, [])])) : ab_S (pg_G L xs) (d + 1) 72 [.ref a, .int t, .ref b] h (some (.int 1)) (h1 ++ [.inr (7, [])]) := by
  show ab_W (pg_G L xs) (ab_X (pg_G L xs) d) 72 _ 0 [some (.ref a), some (.int t), some (.ref b), none] [] h
  refine x_ld 2 1 2 1 rfl rfl rfl rfl rfl ?_
  refine x_cst (.int 0) 1 2 rfl rfl rfl ?_
  refine x_ld 0 1 2 3 rfl rfl rfl rfl rfl ?_
  refine x_ld 1 1 0 4 rfl rfl rfl rfl rfl ?_
  refine x_cl 32 73 7 [.ref a, .int t] _ rfl rfl rfl (Nat.le_of_ble_eq_true rfl) rfl rfl (Nat.le_of_ble_eq_true rfl) ⟨_, _, _, rfl, ha⟩ (Nat.le_of_ble_eq_true rfl) hc rfl ?_
  rintro r h' ⟨rfl, rfl⟩
  refine ⟨7, [], ap_at _ _ [], ?_⟩
  show ab_W _ _ _ _ 19 _ _ _
  refine x_st 3 1 2 20 [some (.ref a), some (.int t), some (.ref b), some (.ref h1.length)] rfl rfl rfl (Nat.le_of_ble_eq_true rfl) rfl rfl ?_
  refine x_cst (.int 1) 1 21 rfl rfl rfl ?_
  exact x_ret rfl rfl rfl rfl ⟨rfl, rfl⟩
theorem y_72_8 (d : Nat) {h h1 : ab_H} {a b : Nat} {t : Int32} {fs : List Value} (ha : h[a]? = some (.inr (0, fs))) (hc : ab_X (pg_G L xs) d 73 [.ref a, .int t] h (fun r h' => r = .inr h1.length ∧ h' = h1 ++ [.inr (8, [])])) : ab_S (pg_G L xs) (d + 1) 72 [.ref a, .int t, .ref b] h (some (.int 2)) (h1 ++ [.inr (8, [])]) := by
  show ab_W (pg_G L xs) (ab_X (pg_G L xs) d) 72 _ 0 [some (.ref a), some (.int t), some (.ref b), none] [] h
  refine x_ld 2 1 2 1 rfl rfl rfl rfl rfl ?_
  refine x_cst (.int 0) 1 2 rfl rfl rfl ?_
  refine x_ld 0 1 2 3 rfl rfl rfl rfl rfl ?_
  refine x_ld 1 1 0 4 rfl rfl rfl rfl rfl ?_
  refine x_cl 32 73 7 [.ref a, .int t] _ rfl rfl rfl (Nat.le_of_ble_eq_true rfl) rfl rfl (Nat.le_of_ble_eq_true rfl) ⟨_, _, _, rfl, ha⟩ (Nat.le_of_ble_eq_true rfl) hc rfl ?_
  rintro r h' ⟨rfl, rfl⟩
  refine ⟨8, [], ap_at _ _ [], ?_⟩
  show ab_W _ _ _ _ 22 _ _ _
  refine x_st 3 1 2 23 [some (.ref a), some (.int t), some (.ref b), some (.ref h1.length)] rfl rfl rfl (Nat.le_of_ble_eq_true rfl) rfl rfl ?_
  refine x_cst (.int 2) 1 24 rfl rfl rfl ?_
  exact x_ret rfl rfl rfl rfl ⟨rfl, rfl⟩
theorem w_74 (d : Nat) {h h1 : ab_H} {a b : Nat} {t : Int32} {v : Int32} {o : Nat → Int64} {fs : List Value} (ha : h[a]? = some (.inr (0, fs))) (hc : ab_S (pg_G L xs) d 75 [.ref a, .int t] h (some (.int v)) h1) (hb : h1[b]? = some (.inl (1, 1, .inr (.inl o)))) : ab_S (pg_G L xs) (d + 1) 74 [.ref a, .int t, .ref b] h (some (.int 0)) (h1.set b (.inl (1, 1, .inr (.inl (vp_updL o 0 v.toInt64))))) := by
  show ab_W (pg_G L xs) (ab_X (pg_G L xs) d) 74 _ 0 [some (.ref a), some (.int t), some (.ref b), none] [] h
  refine x_ld 2 1 2 1 rfl rfl rfl rfl rfl ?_
  refine x_cst (.int 0) 1 2 rfl rfl rfl ?_
  refine x_ld 0 1 2 3 rfl rfl rfl rfl rfl ?_
  refine x_ld 1 1 0 4 rfl rfl rfl rfl rfl ?_
  refine x_cv 35 75 7 [.ref a, .int t] rfl rfl rfl (Nat.le_of_ble_eq_true rfl) rfl rfl (Nat.le_of_ble_eq_true rfl) ⟨_, _, _, rfl, ha⟩ (Nat.le_of_ble_eq_true rfl) hc rfl ?_
  refine x_un (.long v.toInt64) 8 rfl rfl rfl ?_
  refine x_lst 9 rfl hb rfl (i32_in 0 1 (by decide) (by decide)) _ rfl rfl ?_
  refine x_go 18 rfl rfl ?_
  refine x_cst (.int 0) 1 19 rfl rfl rfl ?_
  exact x_ret rfl rfl rfl rfl ⟨rfl, rfl⟩
theorem y_74_7 (d : Nat) {h h1 : ab_H} {a b : Nat} {t : Int32} {fs : List Value} (ha : h[a]? = some (.inr (0, fs))) (hc : ab_X (pg_G L xs) d 75 [.ref a, .int t] h (fun r h' => r = .inr h1.length ∧ h' = h1 ++ [.inr (7, [])])) : ab_S (pg_G L xs) (d + 1) 74 [.ref a, .int t, .ref b] h (some (.int 1)) (h1 ++ [.inr (7, [])]) := by
  show ab_W (pg_G L xs) (ab_X (pg_G L xs) d) 74 _ 0 [some (.ref a), some (.int t), some (.ref b), none] [] h
  refine x_ld 2 1 2 1 rfl rfl rfl rfl rfl ?_
  refine x_cst (.int 0) 1 2 rfl rfl rfl ?_
  refine x_ld 0 1 2 3 rfl rfl rfl rfl rfl ?_
  refine x_ld 1 1 0 4 rfl rfl rfl rfl rfl ?_
  refine x_cl 35 75 7 [.ref a, .int t] _ rfl rfl rfl (Nat.le_of_ble_eq_true rfl) rfl rfl (Nat.le_of_ble_eq_true rfl) ⟨_, _, _, rfl, ha⟩ (Nat.le_of_ble_eq_true rfl) hc rfl ?_
  rintro r h' ⟨rfl, rfl⟩
  refine ⟨7, [], ap_at _ _ [], ?_⟩
  show ab_W _ _ _ _ 12 _ _ _
  refine x_st 3 1 2 13 [some (.ref a), some (.int t), some (.ref b), some (.ref h1.length)] rfl rfl rfl (Nat.le_of_ble_eq_true rfl) rfl rfl ?_
  refine x_cst (.int 1) 1 14 rfl rfl rfl ?_
  exact x_ret rfl rfl rfl rfl ⟨rfl, rfl⟩
theorem y_74_8 (d : Nat) {h h1 : ab_H} {a b : Nat} {t : Int32} {fs : List Value} (ha : h[a]? = some (.inr (0, fs))) (hc : ab_X (pg_G L xs) d 75 [.ref a, .int t] h (fun r h' => r = .inr h1.length ∧ h' = h1 ++ [.inr (8, [])])) : ab_S (pg_G L xs) (d + 1) 74 [.ref a, .int t, .ref b] h (some (.int 2)) (h1 ++ [.inr (8, [])]) := by
  show ab_W (pg_G L xs) (ab_X (pg_G L xs) d) 74 _ 0 [some (.ref a), some (.int t), some (.ref b), none] [] h
  refine x_ld 2 1 2 1 rfl rfl rfl rfl rfl ?_
  refine x_cst (.int 0) 1 2 rfl rfl rfl ?_
  refine x_ld 0 1 2 3 rfl rfl rfl rfl rfl ?_
  refine x_ld 1 1 0 4 rfl rfl rfl rfl rfl ?_
  refine x_cl 35 75 7 [.ref a, .int t] _ rfl rfl rfl (Nat.le_of_ble_eq_true rfl) rfl rfl (Nat.le_of_ble_eq_true rfl) ⟨_, _, _, rfl, ha⟩ (Nat.le_of_ble_eq_true rfl) hc rfl ?_
  rintro r h' ⟨rfl, rfl⟩
  refine ⟨8, [], ap_at _ _ [], ?_⟩
  show ab_W _ _ _ _ 15 _ _ _
  refine x_st 3 1 2 16 [some (.ref a), some (.int t), some (.ref b), some (.ref h1.length)] rfl rfl rfl (Nat.le_of_ble_eq_true rfl) rfl rfl ?_
  refine x_cst (.int 2) 1 17 rfl rfl rfl ?_
  exact x_ret rfl rfl rfl rfl ⟨rfl, rfl⟩
theorem w_93 (d : Nat) {h h1 : ab_H} {a b : Nat} {t : Int32} {v : Int32} {o : Nat → Int64} {fs : List Value} (ha : h[a]? = some (.inr (0, fs))) (hc : ab_S (pg_G L xs) d 94 [.ref a, .int t] h (some (.int v)) h1) (hb : h1[b]? = some (.inl (1, 1, .inr (.inl o)))) : ab_S (pg_G L xs) (d + 1) 93 [.ref a, .int t, .ref b] h (some (.int 0)) (h1.set b (.inl (1, 1, .inr (.inl (vp_updL o 0 v.toInt64))))) := by
  show ab_W (pg_G L xs) (ab_X (pg_G L xs) d) 93 _ 0 [some (.ref a), some (.int t), some (.ref b), none] [] h
  refine x_ld 2 1 2 1 rfl rfl rfl rfl rfl ?_
  refine x_cst (.int 0) 1 2 rfl rfl rfl ?_
  refine x_ld 0 1 2 3 rfl rfl rfl rfl rfl ?_
  refine x_ld 1 1 0 4 rfl rfl rfl rfl rfl ?_
  refine x_cv 38 94 7 [.ref a, .int t] rfl rfl rfl (Nat.le_of_ble_eq_true rfl) rfl rfl (Nat.le_of_ble_eq_true rfl) ⟨_, _, _, rfl, ha⟩ (Nat.le_of_ble_eq_true rfl) hc rfl ?_
  refine x_un (.long v.toInt64) 8 rfl rfl rfl ?_
  refine x_lst 9 rfl hb rfl (i32_in 0 1 (by decide) (by decide)) _ rfl rfl ?_
  refine x_go 18 rfl rfl ?_
  refine x_cst (.int 0) 1 19 rfl rfl rfl ?_
  exact x_ret rfl rfl rfl rfl ⟨rfl, rfl⟩
theorem y_93_7 (d : Nat) {h h1 : ab_H} {a b : Nat} {t : Int32} {fs : List Value} (ha : h[a]? = some (.inr (0, fs))) (hc : ab_X (pg_G L xs) d 94 [.ref a, .int t] h (fun r h' => r = .inr h1.length ∧ h' = h1 ++ [.inr (7, [])])) : ab_S (pg_G L xs) (d + 1) 93 [.ref a, .int t, .ref b] h (some (.int 1)) (h1 ++ [.inr (7, [])]) := by
  show ab_W (pg_G L xs) (ab_X (pg_G L xs) d) 93 _ 0 [some (.ref a), some (.int t), some (.ref b), none] [] h
  refine x_ld 2 1 2 1 rfl rfl rfl rfl rfl ?_
  refine x_cst (.int 0) 1 2 rfl rfl rfl ?_
  refine x_ld 0 1 2 3 rfl rfl rfl rfl rfl ?_
  refine x_ld 1 1 0 4 rfl rfl rfl rfl rfl ?_
  refine x_cl 38 94 7 [.ref a, .int t] _ rfl rfl rfl (Nat.le_of_ble_eq_true rfl) rfl rfl (Nat.le_of_ble_eq_true rfl) ⟨_, _, _, rfl, ha⟩ (Nat.le_of_ble_eq_true rfl) hc rfl ?_
  rintro r h' ⟨rfl, rfl⟩
  refine ⟨7, [], ap_at _ _ [], ?_⟩
  show ab_W _ _ _ _ 12 _ _ _
  refine x_st 3 1 2 13 [some (.ref a), some (.int t), some (.ref b), some (.ref h1.length)] rfl rfl rfl (Nat.le_of_ble_eq_true rfl) rfl rfl ?_
  refine x_cst (.int 1) 1 14 rfl rfl rfl ?_
  exact x_ret rfl rfl rfl rfl ⟨rfl, rfl⟩
theorem y_93_8 (d : Nat) {h h1 : ab_H} {a b : Nat} {t : Int32} {fs : List Value} (ha : h[a]? = some (.inr (0, fs))) (hc : ab_X (pg_G L xs) d 94 [.ref a, .int t] h (fun r h' => r = .inr h1.length ∧ h' = h1 ++ [.inr (8, [])])) : ab_S (pg_G L xs) (d + 1) 93 [.ref a, .int t, .ref b] h (some (.int 2)) (h1 ++ [.inr (8, [])]) := by
  show ab_W (pg_G L xs) (ab_X (pg_G L xs) d) 93 _ 0 [some (.ref a), some (.int t), some (.ref b), none] [] h
  refine x_ld 2 1 2 1 rfl rfl rfl rfl rfl ?_
  refine x_cst (.int 0) 1 2 rfl rfl rfl ?_
  refine x_ld 0 1 2 3 rfl rfl rfl rfl rfl ?_
  refine x_ld 1 1 0 4 rfl rfl rfl rfl rfl ?_
  refine x_cl 38 94 7 [.ref a, .int t] _ rfl rfl rfl (Nat.le_of_ble_eq_true rfl) rfl rfl (Nat.le_of_ble_eq_true rfl) ⟨_, _, _, rfl, ha⟩ (Nat.le_of_ble_eq_true rfl) hc rfl ?_
  rintro r h' ⟨rfl, rfl⟩
  refine ⟨8, [], ap_at _ _ [], ?_⟩
  show ab_W _ _ _ _ 15 _ _ _
  refine x_st 3 1 2 16 [some (.ref a), some (.int t), some (.ref b), some (.ref h1.length)] rfl rfl rfl (Nat.le_of_ble_eq_true rfl) rfl rfl ?_
  refine x_cst (.int 2) 1 17 rfl rfl rfl ?_
  exact x_ret rfl rfl rfl rfl ⟨rfl, rfl⟩
theorem w_95 (d : Nat) {h h1 : ab_H} {a b : Nat} {t : Int32} {v : Int32} {o : Nat → Int64} {fs : List Value} (ha : h[a]? = some (.inr (0, fs))) (hc : ab_S (pg_G L xs) d 96 [.ref a, .int t] h (some (.int v)) h1) (hb : h1[b]? = some (.inl (1, 1, .inr (.inl o)))) : ab_S (pg_G L xs) (d + 1) 95 [.ref a, .int t, .ref b] h (some (.int 0)) (h1.set b (.inl (1, 1, .inr (.inl (vp_updL o 0 v.toInt64))))) := by
  show ab_W (pg_G L xs) (ab_X (pg_G L xs) d) 95 _ 0 [some (.ref a), some (.int t), some (.ref b), none] [] h
  refine x_ld 2 1 2 1 rfl rfl rfl rfl rfl ?_
  refine x_cst (.int 0) 1 2 rfl rfl rfl ?_
  refine x_ld 0 1 2 3 rfl rfl rfl rfl rfl ?_
  refine x_ld 1 1 0 4 rfl rfl rfl rfl rfl ?_
  refine x_cv 41 96 7 [.ref a, .int t] rfl rfl rfl (Nat.le_of_ble_eq_true rfl) rfl rfl (Nat.le_of_ble_eq_true rfl) ⟨_, _, _, rfl, ha⟩ (Nat.le_of_ble_eq_true rfl) hc rfl ?_
  refine x_un (.long v.toInt64) 8 rfl rfl rfl ?_
  refine x_lst 9 rfl hb rfl (i32_in 0 1 (by decide) (by decide)) _ rfl rfl ?_
  refine x_go 18 rfl rfl ?_
  refine x_cst (.int 0) 1 19 rfl rfl rfl ?_
  exact x_ret rfl rfl rfl rfl ⟨rfl, rfl⟩
theorem y_95_7 (d : Nat) {h h1 : ab_H} {a b : Nat} {t : Int32} {fs : List Value} (ha : h[a]? = some (.inr (0, fs))) (hc : ab_X (pg_G L xs) d 96 [.ref a, .int t] h (fun r h' => r = .inr h1.length ∧ h' = h1 ++ [.inr (7, [])])) : ab_S (pg_G L xs) (d + 1) 95 [.ref a, .int t, .ref b] h (some (.int 1)) (h1 ++ [.inr (7, [])]) := by
  show ab_W (pg_G L xs) (ab_X (pg_G L xs) d) 95 _ 0 [some (.ref a), some (.int t), some (.ref b), none] [] h
  refine x_ld 2 1 2 1 rfl rfl rfl rfl rfl ?_
  refine x_cst (.int 0) 1 2 rfl rfl rfl ?_
  refine x_ld 0 1 2 3 rfl rfl rfl rfl rfl ?_
  refine x_ld 1 1 0 4 rfl rfl rfl rfl rfl ?_
  refine x_cl 41 96 7 [.ref a, .int t] _ rfl rfl rfl (Nat.le_of_ble_eq_true rfl) rfl rfl (Nat.le_of_ble_eq_true rfl) ⟨_, _, _, rfl, ha⟩ (Nat.le_of_ble_eq_true rfl) hc rfl ?_
  rintro r h' ⟨rfl, rfl⟩
  refine ⟨7, [], ap_at _ _ [], ?_⟩
  show ab_W _ _ _ _ 12 _ _ _
  refine x_st 3 1 2 13 [some (.ref a), some (.int t), some (.ref b), some (.ref h1.length)] rfl rfl rfl (Nat.le_of_ble_eq_true rfl) rfl rfl ?_
  refine x_cst (.int 1) 1 14 rfl rfl rfl ?_
  exact x_ret rfl rfl rfl rfl ⟨rfl, rfl⟩
theorem y_95_8 (d : Nat) {h h1 : ab_H} {a b : Nat} {t : Int32} {fs : List Value} (ha : h[a]? = some (.inr (0, fs))) (hc : ab_X (pg_G L xs) d 96 [.ref a, .int t] h (fun r h' => r = .inr h1.length ∧ h' = h1 ++ [.inr (8, [])])) : ab_S (pg_G L xs) (d + 1) 95 [.ref a, .int t, .ref b] h (some (.int 2)) (h1 ++ [.inr (8, [])]) := by
  show ab_W (pg_G L xs) (ab_X (pg_G L xs) d) 95 _ 0 [some (.ref a), some (.int t), some (.ref b), none] [] h
  refine x_ld 2 1 2 1 rfl rfl rfl rfl rfl ?_
  refine x_cst (.int 0) 1 2 rfl rfl rfl ?_
  refine x_ld 0 1 2 3 rfl rfl rfl rfl rfl ?_
  refine x_ld 1 1 0 4 rfl rfl rfl rfl rfl ?_
  refine x_cl 41 96 7 [.ref a, .int t] _ rfl rfl rfl (Nat.le_of_ble_eq_true rfl) rfl rfl (Nat.le_of_ble_eq_true rfl) ⟨_, _, _, rfl, ha⟩ (Nat.le_of_ble_eq_true rfl) hc rfl ?_
  rintro r h' ⟨rfl, rfl⟩
  refine ⟨8, [], ap_at _ _ [], ?_⟩
  show ab_W _ _ _ _ 15 _ _ _
  refine x_st 3 1 2 16 [some (.ref a), some (.int t), some (.ref b), some (.ref h1.length)] rfl rfl rfl (Nat.le_of_ble_eq_true rfl) rfl rfl ?_
  refine x_cst (.int 2) 1 17 rfl rfl rfl ?_
  exact x_ret rfl rfl rfl rfl ⟨rfl, rfl⟩
theorem w_97 (d : Nat) {h h1 : ab_H} {a b : Nat} {v : Int32} {o : Nat → Int64} {fs : List Value} (ha : h[a]? = some (.inr (0, fs))) (hc : ab_S (pg_G L xs) d 98 [.ref a] h (some (.int v)) h1) (hb : h1[b]? = some (.inl (1, 1, .inr (.inl o)))) : ab_S (pg_G L xs) (d + 1) 97 [.ref a, .ref b] h (some (.int 0)) (h1.set b (.inl (1, 1, .inr (.inl (vp_updL o 0 v.toInt64))))) := by
  show ab_W (pg_G L xs) (ab_X (pg_G L xs) d) 97 _ 0 [some (.ref a), some (.ref b), none] [] h
  refine x_ld 1 1 2 1 rfl rfl rfl rfl rfl ?_
  refine x_cst (.int 0) 1 2 rfl rfl rfl ?_
  refine x_ld 0 1 2 3 rfl rfl rfl rfl rfl ?_
  refine x_cv 44 98 6 [.ref a] rfl rfl rfl (Nat.le_of_ble_eq_true rfl) rfl rfl (Nat.le_of_ble_eq_true rfl) ⟨_, _, _, rfl, ha⟩ (Nat.le_of_ble_eq_true rfl) hc rfl ?_
  refine x_un (.long v.toInt64) 7 rfl rfl rfl ?_
  refine x_lst 8 rfl hb rfl (i32_in 0 1 (by decide) (by decide)) _ rfl rfl ?_
  refine x_go 14 rfl rfl ?_
  refine x_cst (.int 0) 1 15 rfl rfl rfl ?_
  exact x_ret rfl rfl rfl rfl ⟨rfl, rfl⟩
theorem y_97_7 (d : Nat) {h h1 : ab_H} {a b : Nat} {fs : List Value} (ha : h[a]? = some (.inr (0, fs))) (hc : ab_X (pg_G L xs) d 98 [.ref a] h (fun r h' => r = .inr h1.length ∧ h' = h1 ++ [.inr (7, [])])) : ab_S (pg_G L xs) (d + 1) 97 [.ref a, .ref b] h (some (.int 1)) (h1 ++ [.inr (7, [])]) := by
  show ab_W (pg_G L xs) (ab_X (pg_G L xs) d) 97 _ 0 [some (.ref a), some (.ref b), none] [] h
  refine x_ld 1 1 2 1 rfl rfl rfl rfl rfl ?_
  refine x_cst (.int 0) 1 2 rfl rfl rfl ?_
  refine x_ld 0 1 2 3 rfl rfl rfl rfl rfl ?_
  refine x_cl 44 98 6 [.ref a] _ rfl rfl rfl (Nat.le_of_ble_eq_true rfl) rfl rfl (Nat.le_of_ble_eq_true rfl) ⟨_, _, _, rfl, ha⟩ (Nat.le_of_ble_eq_true rfl) hc rfl ?_
  rintro r h' ⟨rfl, rfl⟩
  refine ⟨7, [], ap_at _ _ [], ?_⟩
  show ab_W _ _ _ _ 11 _ _ _
  refine x_st 2 1 2 12 [some (.ref a), some (.ref b), some (.ref h1.length)] rfl rfl rfl (Nat.le_of_ble_eq_true rfl) rfl rfl ?_
  refine x_cst (.int 1) 1 13 rfl rfl rfl ?_
  exact x_ret rfl rfl rfl rfl ⟨rfl, rfl⟩
theorem w_99 (d : Nat) {h h1 : ab_H} {a b : Nat} {v : Int32} {o : Nat → Int64} {fs : List Value} (ha : h[a]? = some (.inr (0, fs))) (hc : ab_S (pg_G L xs) d 100 [.ref a] h (some (.int v)) h1) (hb : h1[b]? = some (.inl (1, 1, .inr (.inl o)))) : ab_S (pg_G L xs) (d + 1) 99 [.ref a, .ref b] h (some (.int 0)) (h1.set b (.inl (1, 1, .inr (.inl (vp_updL o 0 v.toInt64))))) := by
  show ab_W (pg_G L xs) (ab_X (pg_G L xs) d) 99 _ 0 [some (.ref a), some (.ref b), none] [] h
  refine x_ld 1 1 2 1 rfl rfl rfl rfl rfl ?_
  refine x_cst (.int 0) 1 2 rfl rfl rfl ?_
  refine x_ld 0 1 2 3 rfl rfl rfl rfl rfl ?_
  refine x_cv 48 100 6 [.ref a] rfl rfl rfl (Nat.le_of_ble_eq_true rfl) rfl rfl (Nat.le_of_ble_eq_true rfl) ⟨_, _, _, rfl, ha⟩ (Nat.le_of_ble_eq_true rfl) hc rfl ?_
  refine x_un (.long v.toInt64) 7 rfl rfl rfl ?_
  refine x_lst 8 rfl hb rfl (i32_in 0 1 (by decide) (by decide)) _ rfl rfl ?_
  refine x_go 14 rfl rfl ?_
  refine x_cst (.int 0) 1 15 rfl rfl rfl ?_
  exact x_ret rfl rfl rfl rfl ⟨rfl, rfl⟩
theorem y_99_7 (d : Nat) {h h1 : ab_H} {a b : Nat} {fs : List Value} (ha : h[a]? = some (.inr (0, fs))) (hc : ab_X (pg_G L xs) d 100 [.ref a] h (fun r h' => r = .inr h1.length ∧ h' = h1 ++ [.inr (7, [])])) : ab_S (pg_G L xs) (d + 1) 99 [.ref a, .ref b] h (some (.int 1)) (h1 ++ [.inr (7, [])]) := by
  show ab_W (pg_G L xs) (ab_X (pg_G L xs) d) 99 _ 0 [some (.ref a), some (.ref b), none] [] h
  refine x_ld 1 1 2 1 rfl rfl rfl rfl rfl ?_
  refine x_cst (.int 0) 1 2 rfl rfl rfl ?_
  refine x_ld 0 1 2 3 rfl rfl rfl rfl rfl ?_
  refine x_cl 48 100 6 [.ref a] _ rfl rfl rfl (Nat.le_of_ble_eq_true rfl) rfl rfl (Nat.le_of_ble_eq_true rfl) ⟨_, _, _, rfl, ha⟩ (Nat.le_of_ble_eq_true rfl) hc rfl ?_
  rintro r h' ⟨rfl, rfl⟩
  refine ⟨7, [], ap_at _ _ [], ?_⟩
  show ab_W _ _ _ _ 11 _ _ _
  refine x_st 2 1 2 12 [some (.ref a), some (.ref b), some (.ref h1.length)] rfl rfl rfl (Nat.le_of_ble_eq_true rfl) rfl rfl ?_
  refine x_cst (.int 1) 1 13 rfl rfl rfl ?_
  exact x_ret rfl rfl rfl rfl ⟨rfl, rfl⟩
theorem in6 {k n : Int32} (h1 : 0 ≤ k) (h2 : k < n) (h3 : n ≤ 6) : vp_in k 6 := by
  rw [Int32.le_iff_toInt_le] at h1 h3
  rw [Int32.lt_iff_toInt_lt] at h2
  have a1 : (0 : Int32).toInt = 0 := rfl
  have a2 : (6 : Int32).toInt = 6 := rfl
  intro e
  rcases e with e | e
  · rw [Int32.lt_iff_toInt_lt] at e
    omega
  · rw [Int32.toNatClampNeg] at e
    omega
theorem c_49 (d : Nat) {h : ab_H} {a o : Nat} {k n : Int32} {g : Nat → Int32} {f0 f1 f2 f3 f4 f5 f6 f7 f8 f11 f12 : Value} (ha : h[a]? = some (.inr (0, [f0, f1, f2, f3, f4, f5, f6, f7, f8, .ref o, .int n, f11, f12]))) (ho : h[o]? = some (.inl (0, 6, .inl g))) (hn : n ≤ 6) : ab_S (pg_G L xs) (d + 1) 49 [.ref a, .int k] h (some (.int (if 0 ≤ k ∧ k < n then g k.toNatClampNeg else -1))) h := by
  show ab_W (pg_G L xs) (ab_X (pg_G L xs) d) 49 _ 0 [some (.ref a), some (.int k)] [] h
  have g1 : ∀ c : k < 0, ¬ (0 ≤ k ∧ k < n) := fun c z => absurd c (Int32.not_lt.mpr z.1)
  have g2 : ∀ c : n ≤ k, ¬ (0 ≤ k ∧ k < n) := fun c z => absurd z.2 (Int32.not_lt.mpr c)
  have g3 : ∀ (c : ¬ k < 0) (c' : ¬ n ≤ k), 0 ≤ k ∧ k < n := fun c c' => ⟨Int32.not_lt.mp c, Int32.not_le.mp c'⟩
  have g4 : ∀ (c : ¬ k < 0) (c' : ¬ n ≤ k), vp_in k 6 := fun c c' => in6 (Int32.not_lt.mp c) (Int32.not_le.mp c') hn
  refine x_ld 1 1 0 1 rfl rfl rfl rfl rfl ?_
  refine x_iflt 21 4 rfl rfl rfl (fun c1 => ?_) (fun c1 => ?_)
  · refine x_cst (.int (-1)) 1 22 rfl rfl rfl ?_
    refine x_ret rfl rfl rfl rfl ?_
    exact ⟨by first | rw [if_neg (g1 c1)] | rw [if_neg (g2 c2)], rfl⟩
  · refine x_ld 1 1 0 5 rfl rfl rfl rfl rfl ?_
    refine x_ld 0 1 2 6 rfl rfl rfl rfl rfl ?_
    refine x_get 51 0 10 9 rfl rfl ha rfl rfl ?_
    refine x_icge 21 12 rfl rfl rfl (fun c2 => ?_) (fun c2 => ?_)
    · refine x_cst (.int (-1)) 1 22 rfl rfl rfl ?_
      refine x_ret rfl rfl rfl rfl ?_
      exact ⟨by first | rw [if_neg (g1 c1)] | rw [if_neg (g2 c2)], rfl⟩
    · refine x_ld 0 1 2 13 rfl rfl rfl rfl rfl ?_
      refine x_get 47 0 9 16 rfl rfl ha rfl rfl ?_
      refine x_ld 1 1 0 17 rfl rfl rfl rfl rfl ?_
      refine x_ild (g k.toNatClampNeg) 18 rfl ho rfl (g4 c1 c2) rfl rfl ?_
      refine x_go 22 rfl rfl ?_
      refine x_ret rfl rfl rfl rfl ?_
      exact ⟨by rw [if_pos (g3 c1 c2)], rfl⟩
theorem c_163 (d : Nat) {h : ab_H} {m o : Nat} {k n : Int32} {g : Nat → Int32} {fs : List Value} (hm : h[m]? = some (.inr (5, fs))) (hfs : fs.length = 68) (h35 : fs[35]? = some (.int n)) (h36 : fs[36]? = some (.ref o)) (ho : h[o]? = some (.inl (0, 6, .inl g))) (hne : m ≠ o) (hn : n ≤ 6) : ab_S (pg_G L xs) (d + 1) 163 [.ref m, .int k] h (some (.int (if 0 ≤ k ∧ k < n then g k.toNatClampNeg else -1))) (h.set m (.inr (5, fs.set 2 (.int 0)))) := by
  show ab_W (pg_G L xs) (ab_X (pg_G L xs) d) 163 _ 0 [some (.ref m), some (.int k)] [] h
  have g1 : ∀ c : k < 0, ¬ (0 ≤ k ∧ k < n) := fun c z => absurd c (Int32.not_lt.mpr z.1)
  have g2 : ∀ c : n ≤ k, ¬ (0 ≤ k ∧ k < n) := fun c z => absurd z.2 (Int32.not_lt.mpr c)
  have g3 : ∀ (c : ¬ k < 0) (c' : ¬ n ≤ k), 0 ≤ k ∧ k < n := fun c c' => ⟨Int32.not_lt.mp c, Int32.not_le.mp c'⟩
  have g4 : ∀ (c : ¬ k < 0) (c' : ¬ n ≤ k), vp_in k 6 := fun c c' => in6 (Int32.not_lt.mp c) (Int32.not_le.mp c') hn
  refine x_ld 0 1 2 1 rfl rfl rfl rfl rfl ?_
  refine x_cst (.int 0) 1 2 rfl rfl rfl ?_
  refine x_put 159 5 2 5 rfl rfl hm (by simp only [List.length_set, hfs]; omega) rfl rfl rfl _ rfl rfl ?_
  refine x_ld 1 1 0 6 rfl rfl rfl rfl rfl ?_
  refine x_iflt 26 9 rfl rfl rfl (fun c1 => ?_) (fun c1 => ?_)
  · refine x_cst (.int (-1)) 1 27 rfl rfl rfl ?_
    refine x_ret rfl rfl rfl rfl ?_
    exact ⟨by first | rw [if_neg (g1 c1)] | rw [if_neg (g2 c2)], rfl⟩
  · refine x_ld 1 1 0 10 rfl rfl rfl rfl rfl ?_
    refine x_ld 0 1 2 11 rfl rfl rfl rfl rfl ?_
    refine x_get 156 5 35 14 rfl rfl (set_at hm) ((fs_ne (by decide)).trans h35) rfl ?_
    refine x_icge 26 17 rfl rfl rfl (fun c2 => ?_) (fun c2 => ?_)
    · refine x_cst (.int (-1)) 1 27 rfl rfl rfl ?_
      refine x_ret rfl rfl rfl rfl ?_
      exact ⟨by first | rw [if_neg (g1 c1)] | rw [if_neg (g2 c2)], rfl⟩
    · refine x_ld 0 1 2 18 rfl rfl rfl rfl rfl ?_
      refine x_get 84 5 36 21 rfl rfl (set_at hm) ((fs_ne (by decide)).trans h36) rfl ?_
      refine x_ld 1 1 0 22 rfl rfl rfl rfl rfl ?_
      refine x_ild (g k.toNatClampNeg) 23 rfl ((set_ne hne).trans ho) rfl (g4 c1 c2) rfl rfl ?_
      refine x_go 27 rfl rfl ?_
      refine x_ret rfl rfl rfl rfl ?_
      exact ⟨by rw [if_pos (g3 c1 c2)], rfl⟩
theorem e_13 (d : Nat) {h : ab_H} {p : Nat} {f0 f3 f4 f5 : Value} (hp : h[p]? = some (.inr (3, [f0, .int 0, .int 0, f3, f4, f5]))) : ab_S (pg_G L xs) (d + 1) 13 [.ref p] h (some (.int 0)) h := by
  show ab_W (pg_G L xs) (ab_X (pg_G L xs) d) 13 _ 0 [some (.ref p)] [] h
  refine x_ld 0 1 2 1 rfl rfl rfl rfl rfl ?_
  refine x_get 19 3 2 4 rfl rfl hp rfl rfl ?_
  refine x_ld 0 1 2 5 rfl rfl rfl rfl rfl ?_
  refine x_get 15 3 1 8 rfl rfl hp rfl rfl ?_
  refine x_icge 23 11 rfl rfl rfl (fun _ => ?_) (fun c => absurd (by decide) c)
  refine x_cst (.int 0) 1 24 rfl rfl rfl ?_
  refine x_ret rfl rfl rfl rfl ?_
  exact ⟨rfl, rfl⟩
theorem e_18 (d : Nat) {h : ab_H} : ab_S (pg_G L xs) (d + 1) 18 [.int 0] h (some (.int 0)) h := by
  show ab_W (pg_G L xs) (ab_X (pg_G L xs) d) 18 _ 0 [some (.int 0)] [] h
  refine x_ld 0 1 0 1 rfl rfl rfl rfl rfl ?_
  refine x_cst (.int 97) 2 3 rfl rfl rfl ?_
  refine x_iclt 16 6 rfl rfl rfl (fun _ => ?_) (fun c => absurd (by decide) c)
  refine x_cst (.int 0) 1 17 rfl rfl rfl ?_
  refine x_ret rfl rfl rfl rfl ?_
  exact ⟨rfl, rfl⟩
theorem e_12 (d : Nat) {h : ab_H} {p : Nat} {f0 f3 f4 f5 : Value} (hp : h[p]? = some (.inr (3, [f0, .int 0, .int 0, f3, f4, f5]))) {o : Int32} : ab_S (pg_G L xs) (d + 2) 12 [.ref p, .int o] h (some .null) h := by
  show ab_W (pg_G L xs) (ab_X (pg_G L xs) (d + 1)) 12 _ 0 [some (.ref p), some (.int o), none, none, none] [] h
  refine x_ld 0 1 2 1 rfl rfl rfl rfl rfl ?_
  refine x_cv 63 13 4 [.ref p] rfl rfl rfl (Nat.le_of_ble_eq_true rfl) rfl rfl (Nat.le_of_ble_eq_true rfl) ⟨_, _, _, rfl, hp⟩ (Nat.le_of_ble_eq_true rfl) (e_13 (L := L) (xs := xs) _ hp) rfl ?_
  refine x_lku (off := 201) 205 rfl (by decide) rfl rfl ?_
  refine x_ld 0 1 2 206 rfl rfl rfl rfl rfl ?_
  refine x_cv 63 13 209 [.ref p] rfl rfl rfl (Nat.le_of_ble_eq_true rfl) rfl rfl (Nat.le_of_ble_eq_true rfl) ⟨_, _, _, rfl, hp⟩ (Nat.le_of_ble_eq_true rfl) (e_13 (L := L) (xs := xs) _ hp) rfl ?_
  refine x_cv 84 18 212 [.int 0] rfl rfl rfl (Nat.le_of_ble_eq_true rfl) rfl rfl (Nat.le_of_ble_eq_true rfl) trivial (Nat.le_of_ble_eq_true rfl) (e_18 (L := L) (xs := xs) _) rfl ?_
  refine x_ifne 224 215 rfl rfl rfl (fun c => absurd (by decide) c) (fun _ => ?_)
  refine x_ld 0 1 2 216 rfl rfl rfl rfl rfl ?_
  refine x_cv 63 13 219 [.ref p] rfl rfl rfl (Nat.le_of_ble_eq_true rfl) rfl rfl (Nat.le_of_ble_eq_true rfl) ⟨_, _, _, rfl, hp⟩ (Nat.le_of_ble_eq_true rfl) (e_13 (L := L) (xs := xs) _ hp) rfl ?_
  refine x_cst (.int 46) 2 221 rfl rfl rfl ?_
  refine x_icne 232 224 rfl rfl rfl (fun _ => ?_) (fun c => absurd c (by decide))
  refine x_cst .null 1 233 rfl rfl rfl ?_
  refine x_ret rfl rfl rfl rfl ?_
  exact ⟨rfl, rfl⟩
theorem e_11 (d : Nat) {h : ab_H} {p : Nat} {f0 f3 f4 f5 : Value} (hp : h[p]? = some (.inr (3, [f0, .int 0, .int 0, f3, f4, f5]))) {o : Int32} : ab_S (pg_G L xs) (d + 3) 11 [.ref p, .int o] h (some .null) h := by
  show ab_W (pg_G L xs) (ab_X (pg_G L xs) (d + 2)) 11 _ 0 [some (.ref p), some (.int o), none, none] [] h
  refine x_ld 0 1 2 1 rfl rfl rfl rfl rfl ?_
  refine x_ld 1 1 0 2 rfl rfl rfl rfl rfl ?_
  refine x_cv 78 12 5 [.ref p, .int o] rfl rfl rfl (Nat.le_of_ble_eq_true rfl) rfl rfl (Nat.le_of_ble_eq_true rfl) ⟨_, _, _, rfl, hp⟩ (Nat.le_of_ble_eq_true rfl) (e_12 (L := L) (xs := xs) _ hp) rfl ?_
  refine x_st 2 1 2 6 [some (.ref p), some (.int o), some (.null), none] rfl rfl rfl (Nat.le_of_ble_eq_true rfl) rfl rfl ?_
  refine x_ld 0 1 2 7 rfl rfl rfl rfl rfl ?_
  refine x_cv 63 13 10 [.ref p] rfl rfl rfl (Nat.le_of_ble_eq_true rfl) rfl rfl (Nat.le_of_ble_eq_true rfl) ⟨_, _, _, rfl, hp⟩ (Nat.le_of_ble_eq_true rfl) (e_13 (L := L) (xs := xs) _ hp) rfl ?_
  refine x_st 3 1 0 11 [some (.ref p), some (.int o), some (.null), some (.int 0)] rfl rfl rfl (Nat.le_of_ble_eq_true rfl) rfl rfl ?_
  refine x_ld 2 1 2 12 rfl rfl rfl rfl rfl ?_
  refine x_nuT 27 rfl rfl ?_
  refine x_ld 2 1 2 28 rfl rfl rfl rfl rfl ?_
  refine x_ret rfl rfl rfl rfl ?_
  exact ⟨rfl, rfl⟩
theorem e_10 (d : Nat) {h : ab_H} {p : Nat} {f0 f3 f4 f5 : Value} (hp : h[p]? = some (.inr (3, [f0, .int 0, .int 0, f3, f4, f5]))) {o : Int32} : ab_S (pg_G L xs) (d + 4) 10 [.ref p, .int o] h (some .null) h := by
  show ab_W (pg_G L xs) (ab_X (pg_G L xs) (d + 3)) 10 _ 0 [some (.ref p), some (.int o), none, none, none] [] h
  refine x_ld 0 1 2 1 rfl rfl rfl rfl rfl ?_
  refine x_ld 1 1 0 2 rfl rfl rfl rfl rfl ?_
  refine x_cv 71 11 5 [.ref p, .int o] rfl rfl rfl (Nat.le_of_ble_eq_true rfl) rfl rfl (Nat.le_of_ble_eq_true rfl) ⟨_, _, _, rfl, hp⟩ (Nat.le_of_ble_eq_true rfl) (e_11 (L := L) (xs := xs) _ hp) rfl ?_
  refine x_st 2 1 2 6 [some (.ref p), some (.int o), some (.null), none, none] rfl rfl rfl (Nat.le_of_ble_eq_true rfl) rfl rfl ?_
  refine x_cst (.int 0) 1 7 rfl rfl rfl ?_
  refine x_st 3 1 0 8 [some (.ref p), some (.int o), some (.null), some (.int 0), none] rfl rfl rfl (Nat.le_of_ble_eq_true rfl) rfl rfl ?_
  refine x_ld 3 1 0 9 rfl rfl rfl rfl rfl ?_
  refine x_cst (.int 16) 2 11 rfl rfl rfl ?_
  refine x_icge 54 14 rfl rfl rfl (fun c => absurd c (by decide)) (fun _ => ?_)
  refine x_ld 2 1 2 15 rfl rfl rfl rfl rfl ?_
  refine x_nuT 54 rfl rfl ?_
  refine x_ld 2 1 2 55 rfl rfl rfl rfl rfl ?_
  refine x_ret rfl rfl rfl rfl ?_
  exact ⟨rfl, rfl⟩
theorem e_9 (d : Nat) {h : ab_H} {p : Nat} {f0 f3 f4 f5 : Value} (hp : h[p]? = some (.inr (3, [f0, .int 0, .int 0, f3, f4, f5]))) {o : Int32} : ab_S (pg_G L xs) (d + 5) 9 [.ref p, .int o] h (some .null) h := by
  show ab_W (pg_G L xs) (ab_X (pg_G L xs) (d + 4)) 9 _ 0 [some (.ref p), some (.int o), none, none, none] [] h
  refine x_ld 0 1 2 1 rfl rfl rfl rfl rfl ?_
  refine x_ld 1 1 0 2 rfl rfl rfl rfl rfl ?_
  refine x_cv 60 10 5 [.ref p, .int o] rfl rfl rfl (Nat.le_of_ble_eq_true rfl) rfl rfl (Nat.le_of_ble_eq_true rfl) ⟨_, _, _, rfl, hp⟩ (Nat.le_of_ble_eq_true rfl) (e_10 (L := L) (xs := xs) _ hp) rfl ?_
  refine x_st 2 1 2 6 [some (.ref p), some (.int o), some (.null), none, none] rfl rfl rfl (Nat.le_of_ble_eq_true rfl) rfl rfl ?_
  refine x_cst (.int 0) 1 7 rfl rfl rfl ?_
  refine x_st 3 1 0 8 [some (.ref p), some (.int o), some (.null), some (.int 0), none] rfl rfl rfl (Nat.le_of_ble_eq_true rfl) rfl rfl ?_
  refine x_ld 3 1 0 9 rfl rfl rfl rfl rfl ?_
  refine x_cst (.int 16) 2 11 rfl rfl rfl ?_
  refine x_icge 63 14 rfl rfl rfl (fun c => absurd c (by decide)) (fun _ => ?_)
  refine x_ld 2 1 2 15 rfl rfl rfl rfl rfl ?_
  refine x_nuT 63 rfl rfl ?_
  refine x_ld 2 1 2 64 rfl rfl rfl rfl rfl ?_
  refine x_ret rfl rfl rfl rfl ?_
  exact ⟨rfl, rfl⟩
theorem e_8 (d : Nat) {h : ab_H} {p pl ln : Nat} {g0 g1 : Nat → Int32} {f1 f2 f3 f4 f5 : Value} (hp : h[p]? = some (.inr (3, [.ref pl, f1, f2, f3, f4, f5]))) (hpl : h[pl]? = some (.inl (2, 16, .inl g1))) (hl : h[ln]? = some (.inl (2, 16, .inl g0))) (n1 : p ≠ pl) (n2 : p ≠ ln) : ab_S (pg_G L xs) (d + 6) 8 [.ref p, .ref ln, .int 0] h (some (.int 0)) (h.set p (.inr (3, [.ref pl, .int 0, .int 0, f3, .int 0, f5]))) := by
  show ab_W (pg_G L xs) (ab_X (pg_G L xs) (d + 5)) 8 _ 0 [some (.ref p), some (.ref ln), some (.int 0), none] [] h
  refine x_ld 0 1 2 1 rfl rfl rfl rfl rfl ?_
  refine x_ld 2 1 0 2 rfl rfl rfl rfl rfl ?_
  refine x_cst (.int 16) 2 4 rfl rfl rfl ?_
  refine x_minv 0 40 7 rfl rfl (Nat.le_of_ble_eq_true rfl) rfl rfl ?_
  refine x_put 15 3 1 10 rfl rfl hp (Nat.le_of_ble_eq_true rfl) rfl rfl rfl _ rfl rfl ?_
  refine x_ld 1 1 2 11 rfl rfl rfl rfl rfl ?_
  refine x_cst (.int 0) 1 12 rfl rfl rfl ?_
  refine x_ld 0 1 2 13 rfl rfl rfl rfl rfl ?_
  refine x_get 9 3 0 16 rfl rfl (set_at hp) rfl rfl ?_
  refine x_cst (.int 0) 1 17 rfl rfl rfl ?_
  refine x_ld 0 1 2 18 rfl rfl rfl rfl rfl ?_
  refine x_get 15 3 1 21 rfl rfl (set_at hp) rfl rfl ?_
  refine x_cp0 46 24 rfl rfl ((set_ne n2).trans hl) ((set_ne n1).trans hpl) rfl (Nat.le_of_ble_eq_true rfl) rfl ?_
  refine x_ld 0 1 2 25 rfl rfl rfl rfl rfl ?_
  refine x_cst (.int 0) 1 26 rfl rfl rfl ?_
  refine x_put 19 3 2 29 rfl rfl (set_at hp) (Nat.le_of_ble_eq_true rfl) rfl rfl rfl _ rfl rfl ?_
  refine x_ld 0 1 2 30 rfl rfl rfl rfl rfl ?_
  refine x_cst (.int 0) 1 31 rfl rfl rfl ?_
  refine x_put 28 3 4 34 rfl rfl (set_at (set_at hp)) (Nat.le_of_ble_eq_true rfl) rfl rfl rfl _ rfl rfl ?_
  refine x_ld 0 1 2 35 rfl rfl rfl rfl rfl ?_
  refine x_cst (.int 0) 1 36 rfl rfl rfl ?_
  refine x_cv 52 9 39 [.ref p, .int 0] rfl rfl rfl (Nat.le_of_ble_eq_true rfl) rfl rfl (Nat.le_of_ble_eq_true rfl) ⟨_, _, _, rfl, (set_at (set_at (set_at hp)))⟩ (Nat.le_of_ble_eq_true rfl) (e_9 (L := L) (xs := xs) d (set_at (set_at (set_at hp)))) rfl ?_
  refine x_st 3 1 2 40 [some (.ref p), some (.ref ln), some (.int 0), some (.null)] rfl rfl rfl (Nat.le_of_ble_eq_true rfl) rfl rfl ?_
  refine x_ld 3 1 2 41 rfl rfl rfl rfl rfl ?_
  refine x_nuT 55 rfl rfl ?_
  refine x_cst (.int 0) 1 56 rfl rfl rfl ?_
  refine x_ret rfl rfl rfl rfl ?_
  exact ⟨rfl, by simp only [List.set_set] <;> rfl⟩
theorem e_7 (d : Nat) {h : ab_H} {a p pl ln : Nat} {g0 g1 : Nat → Int32} {q1 q2 q3 q4 q5 f2 f3 f5 f6 f7 f8 f9 f10 f11 f12 : Value} (ha : h[a]? = some (.inr (0, [.ref ln, .int 0, f2, f3, .ref p, f5, f6, f7, f8, f9, f10, f11, f12]))) (hp : h[p]? = some (.inr (3, [.ref pl, q1, q2, q3, q4, q5]))) (hpl : h[pl]? = some (.inl (2, 16, .inl g1))) (hl : h[ln]? = some (.inl (2, 16, .inl g0))) (n1 : p ≠ pl) (n2 : p ≠ ln) (n3 : a ≠ ln) (n4 : a ≠ pl) (n5 : a ≠ p) : ab_S (pg_G L xs) (d + 7) 7 [.ref a] h (some (.int 1)) ((h.set p (.inr (3, [.ref pl, .int 0, .int 0, q3, .int 0, q5]))).set a (.inr (0, [.ref ln, .int 0, f2, f3, .ref p, f5, .int 1, .int (-1), f8, f9, f10, f11, f12]))) := by
  show ab_W (pg_G L xs) (ab_X (pg_G L xs) (d + 6)) 7 _ 0 [some (.ref a), none, none] [] h
  refine x_ld 0 1 2 1 rfl rfl rfl rfl rfl ?_
  refine x_get 13 0 1 4 rfl rfl ha rfl rfl ?_
  refine x_st 1 1 0 5 [some (.ref a), some (.int 0), none] rfl rfl rfl (Nat.le_of_ble_eq_true rfl) rfl rfl ?_
  refine x_ld 0 1 2 6 rfl rfl rfl rfl rfl ?_
  refine x_cst (.int 0) 1 7 rfl rfl rfl ?_
  refine x_put 13 0 1 10 rfl rfl ha (Nat.le_of_ble_eq_true rfl) rfl rfl rfl _ rfl rfl ?_
  refine x_ld 0 1 2 11 rfl rfl rfl rfl rfl ?_
  refine x_cst (.int 0) 1 12 rfl rfl rfl ?_
  refine x_put 38 0 6 15 rfl rfl (set_at ha) (Nat.le_of_ble_eq_true rfl) rfl rfl rfl _ rfl rfl ?_
  refine x_ld 0 1 2 16 rfl rfl rfl rfl rfl ?_
  refine x_cst (.int (-1)) 1 17 rfl rfl rfl ?_
  refine x_put 41 0 7 20 rfl rfl (set_at (set_at ha)) (Nat.le_of_ble_eq_true rfl) rfl rfl rfl _ rfl rfl ?_
  refine x_ld 0 1 2 21 rfl rfl rfl rfl rfl ?_
  refine x_get 31 0 4 24 rfl rfl (set_at (set_at (set_at ha))) rfl rfl ?_
  refine x_ld 0 1 2 25 rfl rfl rfl rfl rfl ?_
  refine x_get 9 0 0 28 rfl rfl (set_at (set_at (set_at ha))) rfl rfl ?_
  refine x_ld 1 1 0 29 rfl rfl rfl rfl rfl ?_
  refine x_cv 75 8 32 [.ref p, .ref ln, .int 0] rfl rfl rfl (Nat.le_of_ble_eq_true rfl) rfl rfl (Nat.le_of_ble_eq_true rfl) ⟨_, _, _, rfl, ((set_ne n5).trans ((set_ne n5).trans ((set_ne n5).trans hp)))⟩ (Nat.le_of_ble_eq_true rfl) (e_8 (L := L) (xs := xs) d ((set_ne n5).trans ((set_ne n5).trans ((set_ne n5).trans hp))) ((set_ne n4).trans ((set_ne n4).trans ((set_ne n4).trans hpl))) ((set_ne n3).trans ((set_ne n3).trans ((set_ne n3).trans hl))) n1 n2) rfl ?_
  refine x_ifne 50 35 rfl rfl rfl (fun c => absurd (by decide) c) (fun _ => ?_)
  refine x_ld 0 1 2 36 rfl rfl rfl rfl rfl ?_
  refine x_cst (.int 1) 1 37 rfl rfl rfl ?_
  refine x_put 38 0 6 40 rfl rfl ((set_ne n5.symm).trans (set_at (set_at (set_at ha)))) (Nat.le_of_ble_eq_true rfl) rfl rfl rfl _ rfl rfl ?_
  refine x_ld 0 1 2 41 rfl rfl rfl rfl rfl ?_
  refine x_get 31 0 4 44 rfl rfl (set_at ((set_ne n5.symm).trans (set_at (set_at (set_at ha))))) rfl rfl ?_
  refine x_get 79 3 2 47 rfl rfl ((set_ne n5).trans (set_at ((set_ne n5).trans ((set_ne n5).trans ((set_ne n5).trans hp))))) rfl rfl ?_
  refine x_cst (.int 1) 1 48 rfl rfl rfl ?_
  refine x_bin (1) 49 rfl rfl rfl rfl ?_
  refine x_ret rfl rfl rfl rfl ?_
  exact ⟨rfl, by simp only [List.set_set, List.set_comm _ _ n5] <;> rfl⟩
theorem e_106 (d : Nat) {h : ab_H} {m : Nat} {fs : List Value} (hm : h[m]? = some (.inr (5, fs))) (hfs : fs.length = 68) (h4 : fs[4]? = some (.int 0)) : ab_S (pg_G L xs) (d + 1) 106 [.ref m] h (some (.int 0)) (h.set m (.inr (5, ((((fs.set 13 (.int 0)).set 23 (.int 0)).set 27 (.int 0)).set 28 (.int 0)).set 29 (.int 0)))) := by
  show ab_W (pg_G L xs) (ab_X (pg_G L xs) d) 106 _ 0 [some (.ref m), none, none, none, none] [] h
  refine x_ld 0 1 2 1 rfl rfl rfl rfl rfl ?_
  refine x_cst (.int 0) 1 2 rfl rfl rfl ?_
  refine x_put 168 5 13 5 rfl rfl hm (by simp only [List.length_set, hfs]; omega) rfl rfl rfl _ rfl rfl ?_
  refine x_ld 0 1 2 6 rfl rfl rfl rfl rfl ?_
  refine x_cst (.int 0) 1 7 rfl rfl rfl ?_
  refine x_put 171 5 23 10 rfl rfl (set_at hm) (by simp only [List.length_set, hfs]; omega) rfl rfl rfl _ rfl rfl ?_
  refine x_ld 0 1 2 11 rfl rfl rfl rfl rfl ?_
  refine x_cst (.int 0) 1 12 rfl rfl rfl ?_
  refine x_put 174 5 27 15 rfl rfl (set_at (set_at hm)) (by simp only [List.length_set, hfs]; omega) rfl rfl rfl _ rfl rfl ?_
  refine x_ld 0 1 2 16 rfl rfl rfl rfl rfl ?_
  refine x_cst (.int 0) 1 17 rfl rfl rfl ?_
  refine x_put 204 5 28 20 rfl rfl (set_at (set_at (set_at hm))) (by simp only [List.length_set, hfs]; omega) rfl rfl rfl _ rfl rfl ?_
  refine x_ld 0 1 2 21 rfl rfl rfl rfl rfl ?_
  refine x_cst (.int 0) 1 22 rfl rfl rfl ?_
  refine x_put 165 5 29 25 rfl rfl (set_at (set_at (set_at (set_at hm)))) (by simp only [List.length_set, hfs]; omega) rfl rfl rfl _ rfl rfl ?_
  refine x_cst (.int 1) 1 26 rfl rfl rfl ?_
  refine x_st 1 1 0 27 [some (.ref m), some (.int 1), none, none, none] rfl rfl rfl (Nat.le_of_ble_eq_true rfl) rfl rfl ?_
  refine x_cst (.int 0) 1 28 rfl rfl rfl ?_
  refine x_st 2 1 0 29 [some (.ref m), some (.int 1), some (.int 0), none, none] rfl rfl rfl (Nat.le_of_ble_eq_true rfl) rfl rfl ?_
  refine x_cst (.int 1) 1 30 rfl rfl rfl ?_
  refine x_st 3 1 0 31 [some (.ref m), some (.int 1), some (.int 0), some (.int 1), none] rfl rfl rfl (Nat.le_of_ble_eq_true rfl) rfl rfl ?_
  refine x_ld 3 1 0 32 rfl rfl rfl rfl rfl ?_
  refine x_ifeq 139 35 rfl rfl rfl (fun c => absurd c (by decide)) (fun _ => ?_)
  refine x_ld 0 1 2 36 rfl rfl rfl rfl rfl ?_
  refine x_get 165 5 29 39 rfl rfl (set_at (set_at (set_at (set_at (set_at hm))))) (fs_at (by simp only [List.length_set, hfs]; omega)) rfl ?_
  refine x_ld 0 1 2 40 rfl rfl rfl rfl rfl ?_
  refine x_get 162 5 4 43 rfl rfl (set_at (set_at (set_at (set_at (set_at hm))))) ((fs_ne (by decide)).trans ((fs_ne (by decide)).trans ((fs_ne (by decide)).trans ((fs_ne (by decide)).trans ((fs_ne (by decide)).trans h4))))) rfl ?_
  refine x_icge 139 46 rfl rfl rfl (fun _ => ?_) (fun c => absurd (by decide) c)
  refine x_ld 3 1 0 140 rfl rfl rfl rfl rfl ?_
  refine x_ifeq 158 143 rfl rfl rfl (fun c => absurd c (by decide)) (fun _ => ?_)
  refine x_ld 1 1 0 144 rfl rfl rfl rfl rfl ?_
  refine x_ifne 158 147 rfl rfl rfl (fun _ => ?_) (fun c => absurd c (by decide))
  refine x_ld 3 1 0 159 rfl rfl rfl rfl rfl ?_
  refine x_ifeq 177 162 rfl rfl rfl (fun c => absurd c (by decide)) (fun _ => ?_)
  refine x_ld 1 1 0 163 rfl rfl rfl rfl rfl ?_
  refine x_ifne 177 166 rfl rfl rfl (fun _ => ?_) (fun c => absurd c (by decide))
  refine x_cst (.int 0) 1 178 rfl rfl rfl ?_
  refine x_ret rfl rfl rfl rfl ?_
  exact ⟨rfl, by simp only [List.set_set]⟩
theorem e_105 (d : Nat) {h : ab_H} {m : Nat} {fs : List Value} (hm : h[m]? = some (.inr (5, fs))) (hfs : fs.length = 68) (h4 : fs[4]? = some (.int 0)) : ab_S (pg_G L xs) (d + 2) 105 [.ref m] h (some (.int 1)) (h.set m (.inr (5, (((((((((fs.set 2 (.int 0)).set 13 (.int 0)).set 23 (.int 0)).set 27 (.int 0)).set 28 (.int 0)).set 29 (.int 0)).set 4 (.int 0)).set 30 (.int 1)).set 31 (.int (-1)))))) := by
  show ab_W (pg_G L xs) (ab_X (pg_G L xs) (d + 1)) 105 _ 0 [some (.ref m), none, none] [] h
  refine x_ld 0 1 2 1 rfl rfl rfl rfl rfl ?_
  refine x_cst (.int 0) 1 2 rfl rfl rfl ?_
  refine x_put 159 5 2 5 rfl rfl hm (by simp only [List.length_set, hfs]; omega) rfl rfl rfl _ rfl rfl ?_
  refine x_ld 0 1 2 6 rfl rfl rfl rfl rfl ?_
  refine x_cv 261 106 9 [.ref m] rfl rfl rfl (Nat.le_of_ble_eq_true rfl) rfl rfl (Nat.le_of_ble_eq_true rfl) ⟨_, _, _, rfl, (set_at hm)⟩ (Nat.le_of_ble_eq_true rfl) (e_106 (L := L) (xs := xs) d (set_at hm) (by simp only [List.length_set, hfs]) ((fs_ne (by decide)).trans h4)) rfl ?_
  refine x_st 1 1 0 10 [some (.ref m), some (.int 0), none] rfl rfl rfl (Nat.le_of_ble_eq_true rfl) rfl rfl ?_
  refine x_ld 0 1 2 11 rfl rfl rfl rfl rfl ?_
  refine x_cst (.int 0) 1 12 rfl rfl rfl ?_
  refine x_put 162 5 4 15 rfl rfl (set_at (set_at hm)) (by simp only [List.length_set, hfs]; omega) rfl rfl rfl _ rfl rfl ?_
  refine x_ld 0 1 2 16 rfl rfl rfl rfl rfl ?_
  refine x_ld 1 1 0 17 rfl rfl rfl rfl rfl ?_
  refine x_ifeq 24 20 rfl rfl rfl (fun _ => ?_) (fun c => absurd (by decide) c)
  refine x_cst (.int 1) 1 25 rfl rfl rfl ?_
  refine x_put 258 5 30 28 rfl rfl (set_at (set_at (set_at hm))) (by simp only [List.length_set, hfs]; omega) rfl rfl rfl _ rfl rfl ?_
  refine x_ld 0 1 2 29 rfl rfl rfl rfl rfl ?_
  refine x_cst (.int (-1)) 1 30 rfl rfl rfl ?_
  refine x_put 74 5 31 33 rfl rfl (set_at (set_at (set_at (set_at hm)))) (by simp only [List.length_set, hfs]; omega) rfl rfl rfl _ rfl rfl ?_
  refine x_ld 1 1 0 34 rfl rfl rfl rfl rfl ?_
  refine x_ifne 44 37 rfl rfl rfl (fun c => absurd (by decide) c) (fun _ => ?_)
  refine x_ld 0 1 2 38 rfl rfl rfl rfl rfl ?_
  refine x_get 165 5 29 41 rfl rfl (set_at (set_at (set_at (set_at (set_at hm))))) ((fs_ne (by decide)).trans ((fs_ne (by decide)).trans ((fs_ne (by decide)).trans (fs_at (by simp only [List.length_set, hfs]; omega))))) rfl ?_
  refine x_cst (.int 1) 1 42 rfl rfl rfl ?_
  refine x_bin (1) 43 rfl rfl rfl rfl ?_
  refine x_ret rfl rfl rfl rfl ?_
  exact ⟨rfl, by simp only [List.set_set]⟩
end W1
