/-! OURS, printed by wip/tools/gen995.py: the class's calls on any memory. -/
theorem cnt_z {f : Nat → Bool} {m : Nat} (h : ∀ t, m ≤ t → f t = false) : ∀ N, m ≤ N → cnt f N = cnt f m
  | 0, hN => by
    have e : m = 0 := by omega
    rw [e]
  | N + 1, hN => by
    rcases Nat.eq_or_lt_of_le hN with e | e
    · rw [e]
    · show cnt f N + (f N).toNat = _
      rw [h N (by omega), cnt_z h N (by omega)]; rfl
section C44
variable {L : Nat} {xs : Nat → Int32} {M : mm} {es : ab_H}
theorem c55 (d : Nat) (h05 : M.1 0 5 = 1) : ab_S (pg_G L xs) (d + 1) 55 [.ref 0] (hp M ++ es) none (hp M ++ es) := by
  show ab_W (pg_G L xs) (ab_X (pg_G L xs) d) 55 _ 0 [some (.ref 0)] [] (hp M ++ es)
  refine x_ld 0 1 2 1 rfl rfl rfl rfl rfl ?_
  refine g_0_5 34 4 rfl rfl h05 rfl ?_
  refine z_ifne 17 7 rfl rfl rfl (rg_lit 1 rfl) (fun _ => ?_) (fun c => absurd c (by decide))
  refine x_rtv rfl rfl ?_
  exact ⟨rfl, rfl⟩
theorem c59_t (d : Nat) {x : Int} (h0 : 0 ≤ x) (h1 : x < 1093) : ab_S (pg_G L xs) (d + 1) 59 [zi x] (hp M ++ es) none (hp M ++ es) := by
  show ab_W (pg_G L xs) (ab_X (pg_G L xs) d) 59 _ 0 [some (zi x)] [] (hp M ++ es)
  refine x_ld 0 1 0 1 rfl rfl rfl rfl rfl ?_
  refine z_iflt 11 4 rfl rfl rfl ⟨by omega, by omega⟩ (fun c => absurd c (by omega)) (fun _ => ?_)
  refine x_ld 0 1 0 5 rfl rfl rfl rfl rfl ?_
  refine x_cst (zi 1093) 3 8 rfl rfl rfl ?_
  refine z_iclt 21 11 rfl rfl rfl ⟨by omega, by omega⟩ (rg_lit 1093 rfl) (fun _ => ?_) (fun c => absurd c (by omega))
  refine x_rtv rfl rfl ?_
  exact ⟨rfl, rfl⟩
theorem c59_b (d : Nat) {x : Int} (hx : rg x) (hb : ¬ (0 ≤ x ∧ x < 1093)) (r1 : (hp M ++ es).length + 1 ≤ 600000) (r2 : ab_wt (pg_G L xs) (hp M ++ es) + 6 ≤ 7000000) : ab_X (pg_G L xs) (d + 1) 59 [zi x] (hp M ++ es) (fun r h' => r = .inr (hp M ++ es).length ∧ h' = hp M ++ es ++ [.inr (8, [])]) := by
  show ab_W (pg_G L xs) (ab_X (pg_G L xs) d) 59 _ 0 [some (zi x)] [] (hp M ++ es)
  refine x_ld 0 1 0 1 rfl rfl rfl rfl rfl ?_
  refine z_iflt 11 4 rfl rfl rfl hx (fun c1 => ?_) (fun c1 => ?_)
  · refine x_thr 162 8 164 166 rfl rfl rfl rfl rfl rfl rfl rfl r1 r2 (Nat.le_of_ble_eq_true rfl) ?_
    exact ⟨rfl, rfl⟩
  · refine x_ld 0 1 0 5 rfl rfl rfl rfl rfl ?_
    refine x_cst (zi 1093) 3 8 rfl rfl rfl ?_
    refine z_iclt 21 11 rfl rfl rfl hx (rg_lit 1093 rfl) (fun c => absurd c (by omega)) (fun _ => ?_)
    refine x_thr 162 8 164 166 rfl rfl rfl rfl rfl rfl rfl rfl r1 r2 (Nat.le_of_ble_eq_true rfl) ?_
    exact ⟨rfl, rfl⟩
theorem b_58 (d : Nat) (h05 : M.1 0 5 = 1) {x : Int} (hx : rg x) (hb : ¬ (0 ≤ x ∧ x < 1093)) (r1 : (hp M ++ es).length + 1 ≤ 600000) (r2 : ab_wt (pg_G L xs) (hp M ++ es) + 6 ≤ 7000000) : ab_X (pg_G L xs) (d + 2) 58 [.ref 0, zi x] (hp M ++ es) (fun r h' => r = .inr (hp M ++ es).length ∧ h' = hp M ++ es ++ [.inr (8, [])]) := by
  show ab_W (pg_G L xs) (ab_X (pg_G L xs) (d + 1)) 58 _ 0 [some (.ref 0), some (zi x)] [] (hp M ++ es)
  refine x_ld 0 1 2 1 rfl rfl rfl rfl rfl ?_
  refine x_cv 96 55 4 [.ref 0] rfl rfl rfl (Nat.le_of_ble_eq_true rfl) rfl rfl (Nat.le_of_ble_eq_true rfl) ⟨_, _, _, rfl, o_0⟩ (Nat.le_of_ble_eq_true rfl) (c55 d h05) rfl ?_
  refine x_ld 1 1 0 5 rfl rfl rfl rfl rfl ?_
  refine x_cl 115 59 8 [zi x] _ rfl rfl rfl (Nat.le_of_ble_eq_true rfl) rfl rfl (Nat.le_of_ble_eq_true rfl) trivial (Nat.le_of_ble_eq_true rfl) (c59_b d hx hb r1 r2) rfl ?_
  rintro r h' ⟨rfl, rfl⟩
  exact ⟨8, [], ap_at _ _ [], rfl, rfl⟩
theorem b_61 (d : Nat) (h05 : M.1 0 5 = 1) {x : Int} (hx : rg x) (hb : ¬ (0 ≤ x ∧ x < 1093)) (r1 : (hp M ++ es).length + 1 ≤ 600000) (r2 : ab_wt (pg_G L xs) (hp M ++ es) + 6 ≤ 7000000) : ab_X (pg_G L xs) (d + 2) 61 [.ref 0, zi x] (hp M ++ es) (fun r h' => r = .inr (hp M ++ es).length ∧ h' = hp M ++ es ++ [.inr (8, [])]) := by
  show ab_W (pg_G L xs) (ab_X (pg_G L xs) (d + 1)) 61 _ 0 [some (.ref 0), some (zi x)] [] (hp M ++ es)
  refine x_ld 0 1 2 1 rfl rfl rfl rfl rfl ?_
  refine x_cv 96 55 4 [.ref 0] rfl rfl rfl (Nat.le_of_ble_eq_true rfl) rfl rfl (Nat.le_of_ble_eq_true rfl) ⟨_, _, _, rfl, o_0⟩ (Nat.le_of_ble_eq_true rfl) (c55 d h05) rfl ?_
  refine x_ld 1 1 0 5 rfl rfl rfl rfl rfl ?_
  refine x_cl 115 59 8 [zi x] _ rfl rfl rfl (Nat.le_of_ble_eq_true rfl) rfl rfl (Nat.le_of_ble_eq_true rfl) trivial (Nat.le_of_ble_eq_true rfl) (c59_b d hx hb r1 r2) rfl ?_
  rintro r h' ⟨rfl, rfl⟩
  exact ⟨8, [], ap_at _ _ [], rfl, rfl⟩
theorem b_63 (d : Nat) (h05 : M.1 0 5 = 1) {x : Int} (hx : rg x) (hb : ¬ (0 ≤ x ∧ x < 1093)) (r1 : (hp M ++ es).length + 1 ≤ 600000) (r2 : ab_wt (pg_G L xs) (hp M ++ es) + 6 ≤ 7000000) : ab_X (pg_G L xs) (d + 2) 63 [.ref 0, zi x] (hp M ++ es) (fun r h' => r = .inr (hp M ++ es).length ∧ h' = hp M ++ es ++ [.inr (8, [])]) := by
  show ab_W (pg_G L xs) (ab_X (pg_G L xs) (d + 1)) 63 _ 0 [some (.ref 0), some (zi x)] [] (hp M ++ es)
  refine x_ld 0 1 2 1 rfl rfl rfl rfl rfl ?_
  refine x_cv 96 55 4 [.ref 0] rfl rfl rfl (Nat.le_of_ble_eq_true rfl) rfl rfl (Nat.le_of_ble_eq_true rfl) ⟨_, _, _, rfl, o_0⟩ (Nat.le_of_ble_eq_true rfl) (c55 d h05) rfl ?_
  refine x_ld 1 1 0 5 rfl rfl rfl rfl rfl ?_
  refine x_cl 115 59 8 [zi x] _ rfl rfl rfl (Nat.le_of_ble_eq_true rfl) rfl rfl (Nat.le_of_ble_eq_true rfl) trivial (Nat.le_of_ble_eq_true rfl) (c59_b d hx hb r1 r2) rfl ?_
  rintro r h' ⟨rfl, rfl⟩
  exact ⟨8, [], ap_at _ _ [], rfl, rfl⟩
theorem b_73 (d : Nat) (h05 : M.1 0 5 = 1) {x : Int} (hx : rg x) (hb : ¬ (0 ≤ x ∧ x < 1093)) (r1 : (hp M ++ es).length + 1 ≤ 600000) (r2 : ab_wt (pg_G L xs) (hp M ++ es) + 6 ≤ 7000000) : ab_X (pg_G L xs) (d + 2) 73 [.ref 0, zi x] (hp M ++ es) (fun r h' => r = .inr (hp M ++ es).length ∧ h' = hp M ++ es ++ [.inr (8, [])]) := by
  show ab_W (pg_G L xs) (ab_X (pg_G L xs) (d + 1)) 73 _ 0 [some (.ref 0), some (zi x)] [] (hp M ++ es)
  refine x_ld 0 1 2 1 rfl rfl rfl rfl rfl ?_
  refine x_cv 96 55 4 [.ref 0] rfl rfl rfl (Nat.le_of_ble_eq_true rfl) rfl rfl (Nat.le_of_ble_eq_true rfl) ⟨_, _, _, rfl, o_0⟩ (Nat.le_of_ble_eq_true rfl) (c55 d h05) rfl ?_
  refine x_ld 1 1 0 5 rfl rfl rfl rfl rfl ?_
  refine x_cl 115 59 8 [zi x] _ rfl rfl rfl (Nat.le_of_ble_eq_true rfl) rfl rfl (Nat.le_of_ble_eq_true rfl) trivial (Nat.le_of_ble_eq_true rfl) (c59_b d hx hb r1 r2) rfl ?_
  rintro r h' ⟨rfl, rfl⟩
  exact ⟨8, [], ap_at _ _ [], rfl, rfl⟩
theorem b_94 (d : Nat) (h05 : M.1 0 5 = 1) {x : Int} (hx : rg x) (hb : ¬ (0 ≤ x ∧ x < 1093)) (r1 : (hp M ++ es).length + 1 ≤ 600000) (r2 : ab_wt (pg_G L xs) (hp M ++ es) + 6 ≤ 7000000) : ab_X (pg_G L xs) (d + 2) 94 [.ref 0, zi x] (hp M ++ es) (fun r h' => r = .inr (hp M ++ es).length ∧ h' = hp M ++ es ++ [.inr (8, [])]) := by
  show ab_W (pg_G L xs) (ab_X (pg_G L xs) (d + 1)) 94 _ 0 [some (.ref 0), some (zi x), none] [] (hp M ++ es)
  refine x_ld 0 1 2 1 rfl rfl rfl rfl rfl ?_
  refine x_cv 96 55 4 [.ref 0] rfl rfl rfl (Nat.le_of_ble_eq_true rfl) rfl rfl (Nat.le_of_ble_eq_true rfl) ⟨_, _, _, rfl, o_0⟩ (Nat.le_of_ble_eq_true rfl) (c55 d h05) rfl ?_
  refine x_ld 1 1 0 5 rfl rfl rfl rfl rfl ?_
  refine x_cl 115 59 8 [zi x] _ rfl rfl rfl (Nat.le_of_ble_eq_true rfl) rfl rfl (Nat.le_of_ble_eq_true rfl) trivial (Nat.le_of_ble_eq_true rfl) (c59_b d hx hb r1 r2) rfl ?_
  rintro r h' ⟨rfl, rfl⟩
  exact ⟨8, [], ap_at _ _ [], rfl, rfl⟩
theorem b_96 (d : Nat) (h05 : M.1 0 5 = 1) {x : Int} (hx : rg x) (hb : ¬ (0 ≤ x ∧ x < 1093)) (r1 : (hp M ++ es).length + 1 ≤ 600000) (r2 : ab_wt (pg_G L xs) (hp M ++ es) + 6 ≤ 7000000) : ab_X (pg_G L xs) (d + 2) 96 [.ref 0, zi x] (hp M ++ es) (fun r h' => r = .inr (hp M ++ es).length ∧ h' = hp M ++ es ++ [.inr (8, [])]) := by
  show ab_W (pg_G L xs) (ab_X (pg_G L xs) (d + 1)) 96 _ 0 [some (.ref 0), some (zi x), none] [] (hp M ++ es)
  refine x_ld 0 1 2 1 rfl rfl rfl rfl rfl ?_
  refine x_cv 96 55 4 [.ref 0] rfl rfl rfl (Nat.le_of_ble_eq_true rfl) rfl rfl (Nat.le_of_ble_eq_true rfl) ⟨_, _, _, rfl, o_0⟩ (Nat.le_of_ble_eq_true rfl) (c55 d h05) rfl ?_
  refine x_ld 1 1 0 5 rfl rfl rfl rfl rfl ?_
  refine x_cl 115 59 8 [zi x] _ rfl rfl rfl (Nat.le_of_ble_eq_true rfl) rfl rfl (Nat.le_of_ble_eq_true rfl) trivial (Nat.le_of_ble_eq_true rfl) (c59_b d hx hb r1 r2) rfl ?_
  rintro r h' ⟨rfl, rfl⟩
  exact ⟨8, [], ap_at _ _ [], rfl, rfl⟩
theorem b_54 (d : Nat) (h05 : M.1 0 5 = 1) {x : Int} (hx : rg x) (hx0 : x ≠ 0) (hx1 : x ≠ 1) (r1 : (hp M ++ es).length + 1 ≤ 600000) (r2 : ab_wt (pg_G L xs) (hp M ++ es) + 6 ≤ 7000000) : ab_X (pg_G L xs) (d + 2) 54 [.ref 0, zi x] (hp M ++ es) (fun r h' => r = .inr (hp M ++ es).length ∧ h' = hp M ++ es ++ [.inr (6, [])]) := by
  show ab_W (pg_G L xs) (ab_X (pg_G L xs) (d + 1)) 54 _ 0 [some (.ref 0), some (zi x)] [] (hp M ++ es)
  refine x_ld 0 1 2 1 rfl rfl rfl rfl rfl ?_
  refine x_cv 96 55 4 [.ref 0] rfl rfl rfl (Nat.le_of_ble_eq_true rfl) rfl rfl (Nat.le_of_ble_eq_true rfl) ⟨_, _, _, rfl, o_0⟩ (Nat.le_of_ble_eq_true rfl) (c55 (M := M) (d) h05) rfl ?_
  refine x_ld 1 1 0 5 rfl rfl rfl rfl rfl ?_
  refine z_ifeq 23 8 rfl rfl rfl hx (fun c => absurd c hx0) (fun _ => ?_)
  refine x_ld 1 1 0 9 rfl rfl rfl rfl rfl ?_
  refine x_cst (zi 1) 1 10 rfl rfl rfl ?_
  refine z_iceq 23 13 rfl rfl rfl hx (rg_lit 1 rfl) (fun c => absurd c hx1) (fun _ => ?_)
  refine x_thr 68 6 99 72 rfl rfl rfl rfl rfl rfl rfl rfl r1 r2 (Nat.le_of_ble_eq_true rfl) ?_
  exact ⟨rfl, rfl⟩
theorem k_75 (d : Nat) (h05 : M.1 0 5 = 1) (h08 : M.1 0 8 = -1) {x : Int} (hx : rg x) (r1 : (hp M ++ es).length + 1 ≤ 600000) (r2 : ab_wt (pg_G L xs) (hp M ++ es) + 6 ≤ 7000000) : ab_X (pg_G L xs) (d + 2) 75 [.ref 0, zi x] (hp M ++ es) (fun r h' => r = .inr (hp M ++ es).length ∧ h' = hp M ++ es ++ [.inr (7, [])]) := by
  show ab_W (pg_G L xs) (ab_X (pg_G L xs) (d + 1)) 75 _ 0 [some (.ref 0), some (zi x), none, none] [] (hp M ++ es)
  refine x_ld 0 1 2 1 rfl rfl rfl rfl rfl ?_
  refine x_cv 96 55 4 [.ref 0] rfl rfl rfl (Nat.le_of_ble_eq_true rfl) rfl rfl (Nat.le_of_ble_eq_true rfl) ⟨_, _, _, rfl, o_0⟩ (Nat.le_of_ble_eq_true rfl) (c55 (M := M) (d) h05) rfl ?_
  refine x_ld 0 1 2 5 rfl rfl rfl rfl rfl ?_
  refine g_0_8 44 8 rfl rfl h08 rfl ?_
  refine x_cst (zi (-1)) 1 9 rfl rfl rfl ?_
  refine z_icne 22 12 rfl rfl rfl (rg_lit (-1) rfl) (rg_lit (-1) rfl) (fun c => absurd c (by decide)) (fun _ => ?_)
  refine x_thr 127 7 129 131 rfl rfl rfl rfl rfl rfl rfl rfl r1 r2 (Nat.le_of_ble_eq_true rfl) ?_
  exact ⟨rfl, rfl⟩
theorem b_75 (d : Nat) (h05 : M.1 0 5 = 1) {s : Nat} (hs : s < 1093) (h08 : M.1 0 8 = (s : Int)) {x : Int} (hx : rg x) (hb : ¬ (0 ≤ x ∧ x < 1093)) (r1 : (hp M ++ es).length + 1 ≤ 600000) (r2 : ab_wt (pg_G L xs) (hp M ++ es) + 6 ≤ 7000000) : ab_X (pg_G L xs) (d + 2) 75 [.ref 0, zi x] (hp M ++ es) (fun r h' => r = .inr (hp M ++ es).length ∧ h' = hp M ++ es ++ [.inr (8, [])]) := by
  show ab_W (pg_G L xs) (ab_X (pg_G L xs) (d + 1)) 75 _ 0 [some (.ref 0), some (zi x), none, none] [] (hp M ++ es)
  refine x_ld 0 1 2 1 rfl rfl rfl rfl rfl ?_
  refine x_cv 96 55 4 [.ref 0] rfl rfl rfl (Nat.le_of_ble_eq_true rfl) rfl rfl (Nat.le_of_ble_eq_true rfl) ⟨_, _, _, rfl, o_0⟩ (Nat.le_of_ble_eq_true rfl) (c55 (M := M) (d) h05) rfl ?_
  refine x_ld 0 1 2 5 rfl rfl rfl rfl rfl ?_
  refine g_0_8 44 8 rfl rfl h08 rfl ?_
  refine x_cst (zi (-1)) 1 9 rfl rfl rfl ?_
  refine z_icne 22 12 rfl rfl rfl ⟨by omega, by omega⟩ (rg_lit (-1) rfl) (fun _ => ?_) (fun c => absurd c (by omega))
  refine x_ld 1 1 0 23 rfl rfl rfl rfl rfl ?_
  refine x_cl 115 59 26 [zi x] _ rfl rfl rfl (Nat.le_of_ble_eq_true rfl) rfl rfl (Nat.le_of_ble_eq_true rfl) trivial (Nat.le_of_ble_eq_true rfl) (c59_b d hx hb r1 r2) rfl ?_
  rintro r h' ⟨rfl, rfl⟩
  exact ⟨8, [], ap_at _ _ [], rfl, rfl⟩
theorem m_100 (d : Nat) (h05 : M.1 0 5 = 1) (h12 : M.1 0 12 = 0) (r1 : (hp M ++ es).length + 1 ≤ 600000) (r2 : ab_wt (pg_G L xs) (hp M ++ es) + 6 ≤ 7000000) : ab_X (pg_G L xs) (d + 2) 100 [.ref 0] (hp M ++ es) (fun r h' => r = .inr (hp M ++ es).length ∧ h' = hp M ++ es ++ [.inr (7, [])]) := by
  show ab_W (pg_G L xs) (ab_X (pg_G L xs) (d + 1)) 100 _ 0 [some (.ref 0)] [] (hp M ++ es)
  refine x_ld 0 1 2 1 rfl rfl rfl rfl rfl ?_
  refine x_cv 96 55 4 [.ref 0] rfl rfl rfl (Nat.le_of_ble_eq_true rfl) rfl rfl (Nat.le_of_ble_eq_true rfl) ⟨_, _, _, rfl, o_0⟩ (Nat.le_of_ble_eq_true rfl) (c55 (M := M) (d) h05) rfl ?_
  refine x_ld 0 1 2 5 rfl rfl rfl rfl rfl ?_
  refine g_0_12 61 8 rfl rfl h12 rfl ?_
  refine z_ifne 21 11 rfl rfl rfl (rg_lit 0 rfl) (fun c => absurd c (by decide)) (fun _ => ?_)
  refine x_thr 127 7 154 131 rfl rfl rfl rfl rfl rfl rfl rfl r1 r2 (Nat.le_of_ble_eq_true rfl) ?_
  exact ⟨rfl, rfl⟩
theorem c47 (d : Nat) : ab_S (pg_G L xs) (d + 1) 47 [.ref 0] (hp M ++ es) (some (zi (M.1 0 6))) (hp M ++ es) := by
  show ab_W (pg_G L xs) (ab_X (pg_G L xs) d) 47 _ 0 [some (.ref 0)] [] (hp M ++ es)
  refine x_ld 0 1 2 1 rfl rfl rfl rfl rfl ?_
  refine g_0_6 38 4 rfl rfl rfl rfl ?_
  refine x_ret rfl rfl rfl rfl ?_
  exact ⟨rfl, rfl⟩
theorem c48 (d : Nat) : ab_S (pg_G L xs) (d + 1) 48 [.ref 0] (hp M ++ es) (some (zi (M.1 0 7))) (hp M ++ es) := by
  show ab_W (pg_G L xs) (ab_X (pg_G L xs) d) 48 _ 0 [some (.ref 0)] [] (hp M ++ es)
  refine x_ld 0 1 2 1 rfl rfl rfl rfl rfl ?_
  refine g_0_7 41 4 rfl rfl rfl rfl ?_
  refine x_ret rfl rfl rfl rfl ?_
  exact ⟨rfl, rfl⟩
theorem c54_0 (d : Nat) {b : Nat} {ps : Nat → prt} {k : Nat} (hc : cls b M ps (k + 1)) (h3 : M.2.2 0 3 = b) (hb5 : M.2.2 b 5 = b + 3 + 9 * k) (h05 : M.1 0 5 = 1) : ab_S (pg_G L xs) (d + 80) 54 [.ref 0, zi 0] (hp M ++ es) (some (zi ((cnt (sts ps k).1 1093 : Nat) : Int))) (hp M ++ es) := by
  obtain ⟨p, ep⟩ : ∃ p, p = b + 3 + 9 * k := ⟨_, rfl⟩
  rw [← ep] at hb5
  have hg := hc.1
  have hc31 := hc.2.1
  have hP : isP p := by rw [ep]; exact isP_A hc.1 (by omega)
  have hge := isP_ge hP
  have hgl := isG_lt hg
  have aS : ag (sN (M.2.1 (p + 2))) (sts ps k).1 := by rw [ep]; exact (hc.2.2.2.1 k (by omega)).2.1
  have aV : ag (sN (M.2.1 (p + 4))) (sts ps k).2 := by rw [ep]; exact (hc.2.2.2.1 k (by omega)).2.2
  have hz := sts_z1 (ps := ps) k (fun j hj => hc.2.2.2.2 j (by omega))
  have cS : cnt (sN (M.2.1 (p + 2))) 1152 = cnt (sts ps k).1 1093 := (cnt_ag (n := 1152) (fun t ht => aS t ht)).trans (cnt_z (m := 1093) (fun t ht => (hz t ht).1) 1152 (by decide))
  have cV : cnt (sN (M.2.1 (p + 4))) 1152 = cnt (sts ps k).2 1093 := (cnt_ag (n := 1152) (fun t ht => aV t ht)).trans (cnt_z (m := 1093) (fun t ht => (hz t ht).2) 1152 (by decide))
  show ab_W (pg_G L xs) (ab_X (pg_G L xs) (d + 79)) 54 _ 0 [some (.ref 0), some (zi 0)] [] (hp M ++ es)
  refine x_ld 0 1 2 1 rfl rfl rfl rfl rfl ?_
  refine x_cv 96 55 4 [.ref 0] rfl rfl rfl (Nat.le_of_ble_eq_true rfl) rfl rfl (Nat.le_of_ble_eq_true rfl) ⟨_, _, _, rfl, o_0⟩ (Nat.le_of_ble_eq_true rfl) (c55 (M := M) (d + 78) h05) rfl ?_
  refine x_ld 1 1 0 5 rfl rfl rfl rfl rfl ?_
  refine z_ifeq 23 8 rfl rfl rfl (rg_lit 0 rfl) (fun _ => ?_) (fun c => absurd c (by decide))
  refine x_ld 1 1 0 24 rfl rfl rfl rfl rfl ?_
  refine z_ifne 43 27 rfl rfl rfl (rg_lit 0 rfl) (fun c => absurd c (by decide)) (fun _ => ?_)
  refine x_ld 0 1 2 28 rfl rfl rfl rfl rfl ?_
  refine g_0_3 27 31 rfl rfl h3 rfl ?_
  refine g_G_5 hg 101 34 rfl rfl hb5 rfl ?_
  refine g_P_5 hP 105 37 rfl rfl rfl ?_
  refine x_cv 108 56 40 [.ref (p + 1)] rfl rfl rfl (Nat.le_of_ble_eq_true rfl) rfl rfl (Nat.le_of_ble_eq_true rfl) ⟨_, _, _, rfl, oT (iT_P1 hP)⟩ (Nat.le_of_ble_eq_true rfl) (by have q := c56 (L := L) (xs := xs) (es := es) (M := M) (d + 77) (iT_P1 hP); rw [cS] at q; exact q) rfl ?_
  refine x_go 56 rfl rfl ?_
  refine x_ret rfl rfl rfl rfl ?_
  exact ⟨rfl, rfl⟩
theorem c54_1 (d : Nat) {b : Nat} {ps : Nat → prt} {k : Nat} (hc : cls b M ps (k + 1)) (h3 : M.2.2 0 3 = b) (hb5 : M.2.2 b 5 = b + 3 + 9 * k) (h05 : M.1 0 5 = 1) : ab_S (pg_G L xs) (d + 80) 54 [.ref 0, zi 1] (hp M ++ es) (some (zi ((cnt (sts ps k).2 1093 : Nat) : Int))) (hp M ++ es) := by
  obtain ⟨p, ep⟩ : ∃ p, p = b + 3 + 9 * k := ⟨_, rfl⟩
  rw [← ep] at hb5
  have hg := hc.1
  have hc31 := hc.2.1
  have hP : isP p := by rw [ep]; exact isP_A hc.1 (by omega)
  have hge := isP_ge hP
  have hgl := isG_lt hg
  have aS : ag (sN (M.2.1 (p + 2))) (sts ps k).1 := by rw [ep]; exact (hc.2.2.2.1 k (by omega)).2.1
  have aV : ag (sN (M.2.1 (p + 4))) (sts ps k).2 := by rw [ep]; exact (hc.2.2.2.1 k (by omega)).2.2
  have hz := sts_z1 (ps := ps) k (fun j hj => hc.2.2.2.2 j (by omega))
  have cS : cnt (sN (M.2.1 (p + 2))) 1152 = cnt (sts ps k).1 1093 := (cnt_ag (n := 1152) (fun t ht => aS t ht)).trans (cnt_z (m := 1093) (fun t ht => (hz t ht).1) 1152 (by decide))
  have cV : cnt (sN (M.2.1 (p + 4))) 1152 = cnt (sts ps k).2 1093 := (cnt_ag (n := 1152) (fun t ht => aV t ht)).trans (cnt_z (m := 1093) (fun t ht => (hz t ht).2) 1152 (by decide))
  show ab_W (pg_G L xs) (ab_X (pg_G L xs) (d + 79)) 54 _ 0 [some (.ref 0), some (zi 1)] [] (hp M ++ es)
  refine x_ld 0 1 2 1 rfl rfl rfl rfl rfl ?_
  refine x_cv 96 55 4 [.ref 0] rfl rfl rfl (Nat.le_of_ble_eq_true rfl) rfl rfl (Nat.le_of_ble_eq_true rfl) ⟨_, _, _, rfl, o_0⟩ (Nat.le_of_ble_eq_true rfl) (c55 (M := M) (d + 78) h05) rfl ?_
  refine x_ld 1 1 0 5 rfl rfl rfl rfl rfl ?_
  refine z_ifeq 23 8 rfl rfl rfl (rg_lit 1 rfl) (fun c => absurd c (by decide)) (fun _ => ?_)
  refine x_ld 1 1 0 9 rfl rfl rfl rfl rfl ?_
  refine x_cst (zi 1) 1 10 rfl rfl rfl ?_
  refine z_iceq 23 13 rfl rfl rfl (rg_lit 1 rfl) (rg_lit 1 rfl) (fun _ => ?_) (fun c => absurd c (by decide))
  refine x_ld 1 1 0 24 rfl rfl rfl rfl rfl ?_
  refine z_ifne 43 27 rfl rfl rfl (rg_lit 1 rfl) (fun _ => ?_) (fun c => absurd c (by decide))
  refine x_ld 0 1 2 44 rfl rfl rfl rfl rfl ?_
  refine g_0_3 27 47 rfl rfl h3 rfl ?_
  refine g_G_5 hg 101 50 rfl rfl hb5 rfl ?_
  refine g_P_6 hP 112 53 rfl rfl rfl ?_
  refine x_cv 108 56 56 [.ref (p + 3)] rfl rfl rfl (Nat.le_of_ble_eq_true rfl) rfl rfl (Nat.le_of_ble_eq_true rfl) ⟨_, _, _, rfl, oT (iT_P3 hP)⟩ (Nat.le_of_ble_eq_true rfl) (by have q := c56 (L := L) (xs := xs) (es := es) (M := M) (d + 77) (iT_P3 hP); rw [cV] at q; exact q) rfl ?_
  refine x_ret rfl rfl rfl rfl ?_
  exact ⟨rfl, rfl⟩
theorem c58_0 (d : Nat) {b : Nat} {ps : Nat → prt} {k : Nat} (hc : cls b M ps (k + 1)) (h3 : M.2.2 0 3 = b) (hb5 : M.2.2 b 5 = b + 3 + 9 * k) (h05 : M.1 0 5 = 1) {w : List Nat} (hw : tx_L w) (hw6 : w.length ≤ 6) (hb : (sts ps k).1 (tx_num w) = false) : ab_S (pg_G L xs) (d + 80) 58 [.ref 0, zi (tx_num w : Nat)] (hp M ++ es) (some (zi 0)) (hp M ++ es) := by
  obtain ⟨p, ep⟩ : ∃ p, p = b + 3 + 9 * k := ⟨_, rfl⟩
  rw [← ep] at hb5
  have hg := hc.1
  have hc31 := hc.2.1
  have hP : isP p := by rw [ep]; exact isP_A hc.1 (by omega)
  have hge := isP_ge hP
  have hgl := isG_lt hg
  have aS : ag (sN (M.2.1 (p + 2))) (sts ps k).1 := by rw [ep]; exact (hc.2.2.2.1 k (by omega)).2.1
  have aV : ag (sN (M.2.1 (p + 4))) (sts ps k).2 := by rw [ep]; exact (hc.2.2.2.1 k (by omega)).2.2
  have hz := sts_z1 (ps := ps) k (fun j hj => hc.2.2.2.2 j (by omega))
  have ht := (tx_six hw).mp hw6
  show ab_W (pg_G L xs) (ab_X (pg_G L xs) (d + 79)) 58 _ 0 [some (.ref 0), some (zi ((tx_num w : Nat) : Int))] [] (hp M ++ es)
  refine x_ld 0 1 2 1 rfl rfl rfl rfl rfl ?_
  refine x_cv 96 55 4 [.ref 0] rfl rfl rfl (Nat.le_of_ble_eq_true rfl) rfl rfl (Nat.le_of_ble_eq_true rfl) ⟨_, _, _, rfl, o_0⟩ (Nat.le_of_ble_eq_true rfl) (c55 (M := M) (d + 78) h05) rfl ?_
  refine x_ld 1 1 0 5 rfl rfl rfl rfl rfl ?_
  refine x_cv 115 59 8 [zi ((tx_num w : Nat) : Int)] rfl rfl rfl (Nat.le_of_ble_eq_true rfl) rfl rfl (Nat.le_of_ble_eq_true rfl) trivial (Nat.le_of_ble_eq_true rfl) (c59_t (M := M) (d + 78) (by omega) (by omega)) rfl ?_
  refine x_ld 0 1 2 9 rfl rfl rfl rfl rfl ?_
  refine g_0_3 27 12 rfl rfl h3 rfl ?_
  refine g_G_5 hg 101 15 rfl rfl hb5 rfl ?_
  refine g_P_5 hP 105 18 rfl rfl rfl ?_
  refine x_ld 1 1 0 19 rfl rfl rfl rfl rfl ?_
  refine x_cv 119 38 22 [.ref (p + 1), zi ((tx_num w : Nat) : Int)] rfl rfl rfl (Nat.le_of_ble_eq_true rfl) rfl rfl (Nat.le_of_ble_eq_true rfl) ⟨_, _, _, rfl, oT (iT_P1 hP)⟩ (Nat.le_of_ble_eq_true rfl) (by have q := c38 (L := L) (xs := xs) (es := es) (M := M) (d + 78) (iT_P1 hP) (t := ((tx_num w : Nat) : Int)) ⟨by omega, by omega⟩; rw [hasB_in (B := M.2.1 (p + 2)) (t := ((tx_num w : Nat) : Int)) (by omega) (by omega), show M.2.1 (p + 2) ((tx_num w : Nat) : Int) = false from (aS (tx_num w) (by omega)).trans hb] at q; exact q) rfl ?_
  refine x_ret rfl rfl rfl rfl ?_
  exact ⟨rfl, rfl⟩
theorem c58_1 (d : Nat) {b : Nat} {ps : Nat → prt} {k : Nat} (hc : cls b M ps (k + 1)) (h3 : M.2.2 0 3 = b) (hb5 : M.2.2 b 5 = b + 3 + 9 * k) (h05 : M.1 0 5 = 1) {w : List Nat} (hw : tx_L w) (hw6 : w.length ≤ 6) (hb : (sts ps k).1 (tx_num w) = true) : ab_S (pg_G L xs) (d + 80) 58 [.ref 0, zi (tx_num w : Nat)] (hp M ++ es) (some (zi 1)) (hp M ++ es) := by
  obtain ⟨p, ep⟩ : ∃ p, p = b + 3 + 9 * k := ⟨_, rfl⟩
  rw [← ep] at hb5
  have hg := hc.1
  have hc31 := hc.2.1
  have hP : isP p := by rw [ep]; exact isP_A hc.1 (by omega)
  have hge := isP_ge hP
  have hgl := isG_lt hg
  have aS : ag (sN (M.2.1 (p + 2))) (sts ps k).1 := by rw [ep]; exact (hc.2.2.2.1 k (by omega)).2.1
  have aV : ag (sN (M.2.1 (p + 4))) (sts ps k).2 := by rw [ep]; exact (hc.2.2.2.1 k (by omega)).2.2
  have hz := sts_z1 (ps := ps) k (fun j hj => hc.2.2.2.2 j (by omega))
  have ht := (tx_six hw).mp hw6
  show ab_W (pg_G L xs) (ab_X (pg_G L xs) (d + 79)) 58 _ 0 [some (.ref 0), some (zi ((tx_num w : Nat) : Int))] [] (hp M ++ es)
  refine x_ld 0 1 2 1 rfl rfl rfl rfl rfl ?_
  refine x_cv 96 55 4 [.ref 0] rfl rfl rfl (Nat.le_of_ble_eq_true rfl) rfl rfl (Nat.le_of_ble_eq_true rfl) ⟨_, _, _, rfl, o_0⟩ (Nat.le_of_ble_eq_true rfl) (c55 (M := M) (d + 78) h05) rfl ?_
  refine x_ld 1 1 0 5 rfl rfl rfl rfl rfl ?_
  refine x_cv 115 59 8 [zi ((tx_num w : Nat) : Int)] rfl rfl rfl (Nat.le_of_ble_eq_true rfl) rfl rfl (Nat.le_of_ble_eq_true rfl) trivial (Nat.le_of_ble_eq_true rfl) (c59_t (M := M) (d + 78) (by omega) (by omega)) rfl ?_
  refine x_ld 0 1 2 9 rfl rfl rfl rfl rfl ?_
  refine g_0_3 27 12 rfl rfl h3 rfl ?_
  refine g_G_5 hg 101 15 rfl rfl hb5 rfl ?_
  refine g_P_5 hP 105 18 rfl rfl rfl ?_
  refine x_ld 1 1 0 19 rfl rfl rfl rfl rfl ?_
  refine x_cv 119 38 22 [.ref (p + 1), zi ((tx_num w : Nat) : Int)] rfl rfl rfl (Nat.le_of_ble_eq_true rfl) rfl rfl (Nat.le_of_ble_eq_true rfl) ⟨_, _, _, rfl, oT (iT_P1 hP)⟩ (Nat.le_of_ble_eq_true rfl) (by have q := c38 (L := L) (xs := xs) (es := es) (M := M) (d + 78) (iT_P1 hP) (t := ((tx_num w : Nat) : Int)) ⟨by omega, by omega⟩; rw [hasB_in (B := M.2.1 (p + 2)) (t := ((tx_num w : Nat) : Int)) (by omega) (by omega), show M.2.1 (p + 2) ((tx_num w : Nat) : Int) = true from (aS (tx_num w) (by omega)).trans hb] at q; exact q) rfl ?_
  refine x_ret rfl rfl rfl rfl ?_
  exact ⟨rfl, rfl⟩
theorem c61_0 (d : Nat) {b : Nat} {ps : Nat → prt} {k : Nat} (hc : cls b M ps (k + 1)) (h3 : M.2.2 0 3 = b) (hb5 : M.2.2 b 5 = b + 3 + 9 * k) (h05 : M.1 0 5 = 1) {w : List Nat} (hw : tx_L w) (hw6 : w.length ≤ 6) (hb : (sts ps k).2 (tx_num w) = false) : ab_S (pg_G L xs) (d + 80) 61 [.ref 0, zi (tx_num w : Nat)] (hp M ++ es) (some (zi 0)) (hp M ++ es) := by
  obtain ⟨p, ep⟩ : ∃ p, p = b + 3 + 9 * k := ⟨_, rfl⟩
  rw [← ep] at hb5
  have hg := hc.1
  have hc31 := hc.2.1
  have hP : isP p := by rw [ep]; exact isP_A hc.1 (by omega)
  have hge := isP_ge hP
  have hgl := isG_lt hg
  have aS : ag (sN (M.2.1 (p + 2))) (sts ps k).1 := by rw [ep]; exact (hc.2.2.2.1 k (by omega)).2.1
  have aV : ag (sN (M.2.1 (p + 4))) (sts ps k).2 := by rw [ep]; exact (hc.2.2.2.1 k (by omega)).2.2
  have hz := sts_z1 (ps := ps) k (fun j hj => hc.2.2.2.2 j (by omega))
  have ht := (tx_six hw).mp hw6
  show ab_W (pg_G L xs) (ab_X (pg_G L xs) (d + 79)) 61 _ 0 [some (.ref 0), some (zi ((tx_num w : Nat) : Int))] [] (hp M ++ es)
  refine x_ld 0 1 2 1 rfl rfl rfl rfl rfl ?_
  refine x_cv 96 55 4 [.ref 0] rfl rfl rfl (Nat.le_of_ble_eq_true rfl) rfl rfl (Nat.le_of_ble_eq_true rfl) ⟨_, _, _, rfl, o_0⟩ (Nat.le_of_ble_eq_true rfl) (c55 (M := M) (d + 78) h05) rfl ?_
  refine x_ld 1 1 0 5 rfl rfl rfl rfl rfl ?_
  refine x_cv 115 59 8 [zi ((tx_num w : Nat) : Int)] rfl rfl rfl (Nat.le_of_ble_eq_true rfl) rfl rfl (Nat.le_of_ble_eq_true rfl) trivial (Nat.le_of_ble_eq_true rfl) (c59_t (M := M) (d + 78) (by omega) (by omega)) rfl ?_
  refine x_ld 0 1 2 9 rfl rfl rfl rfl rfl ?_
  refine g_0_3 27 12 rfl rfl h3 rfl ?_
  refine g_G_5 hg 101 15 rfl rfl hb5 rfl ?_
  refine g_P_6 hP 112 18 rfl rfl rfl ?_
  refine x_ld 1 1 0 19 rfl rfl rfl rfl rfl ?_
  refine x_cv 119 38 22 [.ref (p + 3), zi ((tx_num w : Nat) : Int)] rfl rfl rfl (Nat.le_of_ble_eq_true rfl) rfl rfl (Nat.le_of_ble_eq_true rfl) ⟨_, _, _, rfl, oT (iT_P3 hP)⟩ (Nat.le_of_ble_eq_true rfl) (by have q := c38 (L := L) (xs := xs) (es := es) (M := M) (d + 78) (iT_P3 hP) (t := ((tx_num w : Nat) : Int)) ⟨by omega, by omega⟩; rw [hasB_in (B := M.2.1 (p + 4)) (t := ((tx_num w : Nat) : Int)) (by omega) (by omega), show M.2.1 (p + 4) ((tx_num w : Nat) : Int) = false from (aV (tx_num w) (by omega)).trans hb] at q; exact q) rfl ?_
  refine x_ret rfl rfl rfl rfl ?_
  exact ⟨rfl, rfl⟩
theorem c61_1 (d : Nat) {b : Nat} {ps : Nat → prt} {k : Nat} (hc : cls b M ps (k + 1)) (h3 : M.2.2 0 3 = b) (hb5 : M.2.2 b 5 = b + 3 + 9 * k) (h05 : M.1 0 5 = 1) {w : List Nat} (hw : tx_L w) (hw6 : w.length ≤ 6) (hb : (sts ps k).2 (tx_num w) = true) : ab_S (pg_G L xs) (d + 80) 61 [.ref 0, zi (tx_num w : Nat)] (hp M ++ es) (some (zi 1)) (hp M ++ es) := by
  obtain ⟨p, ep⟩ : ∃ p, p = b + 3 + 9 * k := ⟨_, rfl⟩
  rw [← ep] at hb5
  have hg := hc.1
  have hc31 := hc.2.1
  have hP : isP p := by rw [ep]; exact isP_A hc.1 (by omega)
  have hge := isP_ge hP
  have hgl := isG_lt hg
  have aS : ag (sN (M.2.1 (p + 2))) (sts ps k).1 := by rw [ep]; exact (hc.2.2.2.1 k (by omega)).2.1
  have aV : ag (sN (M.2.1 (p + 4))) (sts ps k).2 := by rw [ep]; exact (hc.2.2.2.1 k (by omega)).2.2
  have hz := sts_z1 (ps := ps) k (fun j hj => hc.2.2.2.2 j (by omega))
  have ht := (tx_six hw).mp hw6
  show ab_W (pg_G L xs) (ab_X (pg_G L xs) (d + 79)) 61 _ 0 [some (.ref 0), some (zi ((tx_num w : Nat) : Int))] [] (hp M ++ es)
  refine x_ld 0 1 2 1 rfl rfl rfl rfl rfl ?_
  refine x_cv 96 55 4 [.ref 0] rfl rfl rfl (Nat.le_of_ble_eq_true rfl) rfl rfl (Nat.le_of_ble_eq_true rfl) ⟨_, _, _, rfl, o_0⟩ (Nat.le_of_ble_eq_true rfl) (c55 (M := M) (d + 78) h05) rfl ?_
  refine x_ld 1 1 0 5 rfl rfl rfl rfl rfl ?_
  refine x_cv 115 59 8 [zi ((tx_num w : Nat) : Int)] rfl rfl rfl (Nat.le_of_ble_eq_true rfl) rfl rfl (Nat.le_of_ble_eq_true rfl) trivial (Nat.le_of_ble_eq_true rfl) (c59_t (M := M) (d + 78) (by omega) (by omega)) rfl ?_
  refine x_ld 0 1 2 9 rfl rfl rfl rfl rfl ?_
  refine g_0_3 27 12 rfl rfl h3 rfl ?_
  refine g_G_5 hg 101 15 rfl rfl hb5 rfl ?_
  refine g_P_6 hP 112 18 rfl rfl rfl ?_
  refine x_ld 1 1 0 19 rfl rfl rfl rfl rfl ?_
  refine x_cv 119 38 22 [.ref (p + 3), zi ((tx_num w : Nat) : Int)] rfl rfl rfl (Nat.le_of_ble_eq_true rfl) rfl rfl (Nat.le_of_ble_eq_true rfl) ⟨_, _, _, rfl, oT (iT_P3 hP)⟩ (Nat.le_of_ble_eq_true rfl) (by have q := c38 (L := L) (xs := xs) (es := es) (M := M) (d + 78) (iT_P3 hP) (t := ((tx_num w : Nat) : Int)) ⟨by omega, by omega⟩; rw [hasB_in (B := M.2.1 (p + 4)) (t := ((tx_num w : Nat) : Int)) (by omega) (by omega), show M.2.1 (p + 4) ((tx_num w : Nat) : Int) = true from (aV (tx_num w) (by omega)).trans hb] at q; exact q) rfl ?_
  refine x_ret rfl rfl rfl rfl ?_
  exact ⟨rfl, rfl⟩
theorem cls_f {b : Nat} {ps : Nat → prt} {c : Nat} {j y : Int} (h : cls b M ps c) : cls b (sI M 0 j y) ps c := by
  have hg := isG_lt h.1
  refine ⟨h.1, h.2.1, fun k hk => ?_, h.2.2.2.1, h.2.2.2.2⟩
  have t := h.2.2.1 k hk
  rw [sI_ne (show b + 3 + 9 * k ≠ 0 by omega)]; exact t
theorem c64_f (d : Nat) {b : Nat} {ps : Nat → prt} {k : Nat} (hc : cls b M ps (k + 1)) (h3 : M.2.2 0 3 = b) (hb5 : M.2.2 b 5 = b + 3 + 9 * k) (h05 : M.1 0 5 = 1) {w : List Nat} (hw : tx_L w) (hw6 : w.length ≤ 6) (hb : (sts ps k).1 (tx_num w) = false) : ab_S (pg_G L xs) (d + 79) 64 [.ref 0, zi (tx_num w : Nat)] (hp M ++ es) (some (zi (-1))) (hp M ++ es) := by
  obtain ⟨p, ep⟩ : ∃ p, p = b + 3 + 9 * k := ⟨_, rfl⟩
  rw [← ep] at hb5
  have hg := hc.1
  have hc31 := hc.2.1
  have hP : isP p := by rw [ep]; exact isP_A hc.1 (by omega)
  have hge := isP_ge hP
  have hgl := isG_lt hg
  have aS : ag (sN (M.2.1 (p + 2))) (sts ps k).1 := by rw [ep]; exact (hc.2.2.2.1 k (by omega)).2.1
  have aV : ag (sN (M.2.1 (p + 4))) (sts ps k).2 := by rw [ep]; exact (hc.2.2.2.1 k (by omega)).2.2
  have hz := sts_z1 (ps := ps) k (fun j hj => hc.2.2.2.2 j (by omega))
  have ht := (tx_six hw).mp hw6
  show ab_W (pg_G L xs) (ab_X (pg_G L xs) (d + 78)) 64 _ 0 [some (.ref 0), some (zi ((tx_num w : Nat) : Int)), none] [] (hp M ++ es)
  refine x_ld 0 1 2 1 rfl rfl rfl rfl rfl ?_
  refine g_0_3 27 4 rfl rfl h3 rfl ?_
  refine g_G_5 hg 101 7 rfl rfl hb5 rfl ?_
  refine x_st 2 1 2 8 [some (.ref 0), some (zi ((tx_num w : Nat) : Int)), some (.ref p)] rfl rfl rfl (Nat.le_of_ble_eq_true rfl) rfl rfl ?_
  refine x_ld 2 1 2 9 rfl rfl rfl rfl rfl ?_
  refine g_P_5 hP 105 12 rfl rfl rfl ?_
  refine x_ld 1 1 0 13 rfl rfl rfl rfl rfl ?_
  refine x_cv 119 38 16 [.ref (p + 1), zi ((tx_num w : Nat) : Int)] rfl rfl rfl (Nat.le_of_ble_eq_true rfl) rfl rfl (Nat.le_of_ble_eq_true rfl) ⟨_, _, _, rfl, oT (iT_P1 hP)⟩ (Nat.le_of_ble_eq_true rfl) (by have q := c38 (L := L) (xs := xs) (es := es) (M := M) (d + 77) (iT_P1 hP) (t := ((tx_num w : Nat) : Int)) ⟨by omega, by omega⟩; rw [hasB_in (B := M.2.1 (p + 2)) (t := ((tx_num w : Nat) : Int)) (by omega) (by omega), show M.2.1 (p + 2) ((tx_num w : Nat) : Int) = false from (aS (tx_num w) (by omega)).trans hb] at q; exact q) rfl ?_
  refine z_ifeq 28 19 rfl rfl rfl (rg_lit 0 rfl) (fun _ => ?_) (fun c => absurd c (by decide))
  refine x_cst (zi (-1)) 1 29 rfl rfl rfl ?_
  refine x_ret rfl rfl rfl rfl ?_
  exact ⟨rfl, rfl⟩
theorem c64_t (d : Nat) {b : Nat} {ps : Nat → prt} {k : Nat} (hc : cls b M ps (k + 1)) (h3 : M.2.2 0 3 = b) (hb5 : M.2.2 b 5 = b + 3 + 9 * k) (h05 : M.1 0 5 = 1) {w : List Nat} (hw : tx_L w) (hw6 : w.length ≤ 6) (hb : (sts ps k).1 (tx_num w) = true) : ab_S (pg_G L xs) (d + 79) 64 [.ref 0, zi (tx_num w : Nat)] (hp M ++ es) (some (zi (nz (sem_sh (pgo ps) k w)))) (hp M ++ es) := by
  obtain ⟨p, ep⟩ : ∃ p, p = b + 3 + 9 * k := ⟨_, rfl⟩
  rw [← ep] at hb5
  have hg := hc.1
  have hc31 := hc.2.1
  have hP : isP p := by rw [ep]; exact isP_A hc.1 (by omega)
  have hge := isP_ge hP
  have hgl := isG_lt hg
  have aS : ag (sN (M.2.1 (p + 2))) (sts ps k).1 := by rw [ep]; exact (hc.2.2.2.1 k (by omega)).2.1
  have aV : ag (sN (M.2.1 (p + 4))) (sts ps k).2 := by rw [ep]; exact (hc.2.2.2.1 k (by omega)).2.2
  have hz := sts_z1 (ps := ps) k (fun j hj => hc.2.2.2.2 j (by omega))
  have ht := (tx_six hw).mp hw6
  show ab_W (pg_G L xs) (ab_X (pg_G L xs) (d + 78)) 64 _ 0 [some (.ref 0), some (zi ((tx_num w : Nat) : Int)), none] [] (hp M ++ es)
  refine x_ld 0 1 2 1 rfl rfl rfl rfl rfl ?_
  refine g_0_3 27 4 rfl rfl h3 rfl ?_
  refine g_G_5 hg 101 7 rfl rfl hb5 rfl ?_
  refine x_st 2 1 2 8 [some (.ref 0), some (zi ((tx_num w : Nat) : Int)), some (.ref p)] rfl rfl rfl (Nat.le_of_ble_eq_true rfl) rfl rfl ?_
  refine x_ld 2 1 2 9 rfl rfl rfl rfl rfl ?_
  refine g_P_5 hP 105 12 rfl rfl rfl ?_
  refine x_ld 1 1 0 13 rfl rfl rfl rfl rfl ?_
  refine x_cv 119 38 16 [.ref (p + 1), zi ((tx_num w : Nat) : Int)] rfl rfl rfl (Nat.le_of_ble_eq_true rfl) rfl rfl (Nat.le_of_ble_eq_true rfl) ⟨_, _, _, rfl, oT (iT_P1 hP)⟩ (Nat.le_of_ble_eq_true rfl) (by have q := c38 (L := L) (xs := xs) (es := es) (M := M) (d + 77) (iT_P1 hP) (t := ((tx_num w : Nat) : Int)) ⟨by omega, by omega⟩; rw [hasB_in (B := M.2.1 (p + 2)) (t := ((tx_num w : Nat) : Int)) (by omega) (by omega), show M.2.1 (p + 2) ((tx_num w : Nat) : Int) = true from (aS (tx_num w) (by omega)).trans hb] at q; exact q) rfl ?_
  refine z_ifeq 28 19 rfl rfl rfl (rg_lit 1 rfl) (fun c => absurd c (by decide)) (fun _ => ?_)
  refine x_ld 2 1 2 20 rfl rfl rfl rfl rfl ?_
  refine x_ld 1 1 0 21 rfl rfl rfl rfl rfl ?_
  refine x_cst (zi 0) 1 22 rfl rfl rfl ?_
  refine x_cv 167 65 25 [.ref p, zi ((tx_num w : Nat) : Int), zi 0] rfl rfl rfl (Nat.le_of_ble_eq_true rfl) rfl rfl (Nat.le_of_ble_eq_true rfl) ⟨_, _, _, rfl, oP hP⟩ (Nat.le_of_ble_eq_true rfl) (by rw [ep]; exact c65 (L := L) (xs := xs) (es := es) (M := M) hc k (by omega) (d + 78) (by omega) 0 w (by omega) hw hw6 hb) rfl ?_
  refine x_go 29 rfl rfl ?_
  refine x_ret rfl rfl rfl rfl ?_
  exact ⟨rfl, rfl⟩
theorem c63_f (d : Nat) {b : Nat} {ps : Nat → prt} {k : Nat} (hc : cls b M ps (k + 1)) (h3 : M.2.2 0 3 = b) (hb5 : M.2.2 b 5 = b + 3 + 9 * k) (h05 : M.1 0 5 = 1) {w : List Nat} (hw : tx_L w) (hw6 : w.length ≤ 6) (hb : (sts ps k).1 (tx_num w) = false) : ab_S (pg_G L xs) (d + 80) 63 [.ref 0, zi (tx_num w : Nat)] (hp M ++ es) (some (zi ((-1)))) (hp M ++ es) := by
  have ht := (tx_six hw).mp hw6
  show ab_W (pg_G L xs) (ab_X (pg_G L xs) (d + 79)) 63 _ 0 [some (.ref 0), some (zi ((tx_num w : Nat) : Int))] [] (hp M ++ es)
  refine x_ld 0 1 2 1 rfl rfl rfl rfl rfl ?_
  refine x_cv 96 55 4 [.ref 0] rfl rfl rfl (Nat.le_of_ble_eq_true rfl) rfl rfl (Nat.le_of_ble_eq_true rfl) ⟨_, _, _, rfl, o_0⟩ (Nat.le_of_ble_eq_true rfl) (c55 (M := M) (d + 78) h05) rfl ?_
  refine x_ld 1 1 0 5 rfl rfl rfl rfl rfl ?_
  refine x_cv 115 59 8 [zi ((tx_num w : Nat) : Int)] rfl rfl rfl (Nat.le_of_ble_eq_true rfl) rfl rfl (Nat.le_of_ble_eq_true rfl) trivial (Nat.le_of_ble_eq_true rfl) (c59_t (M := M) (d + 78) (by omega) (by omega)) rfl ?_
  refine x_ld 0 1 2 9 rfl rfl rfl rfl rfl ?_
  refine x_ld 1 1 0 10 rfl rfl rfl rfl rfl ?_
  refine x_cv 123 64 13 [.ref 0, zi ((tx_num w : Nat) : Int)] rfl rfl rfl (Nat.le_of_ble_eq_true rfl) rfl rfl (Nat.le_of_ble_eq_true rfl) ⟨_, _, _, rfl, o_0⟩ (Nat.le_of_ble_eq_true rfl) (c64_f d hc h3 hb5 h05 hw hw6 hb) rfl ?_
  refine x_ret rfl rfl rfl rfl ?_
  exact ⟨rfl, rfl⟩
theorem c63_t (d : Nat) {b : Nat} {ps : Nat → prt} {k : Nat} (hc : cls b M ps (k + 1)) (h3 : M.2.2 0 3 = b) (hb5 : M.2.2 b 5 = b + 3 + 9 * k) (h05 : M.1 0 5 = 1) {w : List Nat} (hw : tx_L w) (hw6 : w.length ≤ 6) (hb : (sts ps k).1 (tx_num w) = true) : ab_S (pg_G L xs) (d + 80) 63 [.ref 0, zi (tx_num w : Nat)] (hp M ++ es) (some (zi (nz (sem_sh (pgo ps) k w)))) (hp M ++ es) := by
  have ht := (tx_six hw).mp hw6
  show ab_W (pg_G L xs) (ab_X (pg_G L xs) (d + 79)) 63 _ 0 [some (.ref 0), some (zi ((tx_num w : Nat) : Int))] [] (hp M ++ es)
  refine x_ld 0 1 2 1 rfl rfl rfl rfl rfl ?_
  refine x_cv 96 55 4 [.ref 0] rfl rfl rfl (Nat.le_of_ble_eq_true rfl) rfl rfl (Nat.le_of_ble_eq_true rfl) ⟨_, _, _, rfl, o_0⟩ (Nat.le_of_ble_eq_true rfl) (c55 (M := M) (d + 78) h05) rfl ?_
  refine x_ld 1 1 0 5 rfl rfl rfl rfl rfl ?_
  refine x_cv 115 59 8 [zi ((tx_num w : Nat) : Int)] rfl rfl rfl (Nat.le_of_ble_eq_true rfl) rfl rfl (Nat.le_of_ble_eq_true rfl) trivial (Nat.le_of_ble_eq_true rfl) (c59_t (M := M) (d + 78) (by omega) (by omega)) rfl ?_
  refine x_ld 0 1 2 9 rfl rfl rfl rfl rfl ?_
  refine x_ld 1 1 0 10 rfl rfl rfl rfl rfl ?_
  refine x_cv 123 64 13 [.ref 0, zi ((tx_num w : Nat) : Int)] rfl rfl rfl (Nat.le_of_ble_eq_true rfl) rfl rfl (Nat.le_of_ble_eq_true rfl) ⟨_, _, _, rfl, o_0⟩ (Nat.le_of_ble_eq_true rfl) (c64_t d hc h3 hb5 h05 hw hw6 hb) rfl ?_
  refine x_ret rfl rfl rfl rfl ?_
  exact ⟨rfl, rfl⟩
theorem c73_f (d : Nat) {b : Nat} {ps : Nat → prt} {k : Nat} (hc : cls b M ps (k + 1)) (h3 : M.2.2 0 3 = b) (hb5 : M.2.2 b 5 = b + 3 + 9 * k) (h05 : M.1 0 5 = 1) {w : List Nat} (hw : tx_L w) (hw6 : w.length ≤ 6) (hb : (sts ps k).1 (tx_num w) = false) : ab_S (pg_G L xs) (d + 80) 73 [.ref 0, zi (tx_num w : Nat)] (hp M ++ es) (some (zi 0)) (hp M ++ es) := by
  have ht := (tx_six hw).mp hw6
  show ab_W (pg_G L xs) (ab_X (pg_G L xs) (d + 79)) 73 _ 0 [some (.ref 0), some (zi ((tx_num w : Nat) : Int))] [] (hp M ++ es)
  refine x_ld 0 1 2 1 rfl rfl rfl rfl rfl ?_
  refine x_cv 96 55 4 [.ref 0] rfl rfl rfl (Nat.le_of_ble_eq_true rfl) rfl rfl (Nat.le_of_ble_eq_true rfl) ⟨_, _, _, rfl, o_0⟩ (Nat.le_of_ble_eq_true rfl) (c55 (M := M) (d + 78) h05) rfl ?_
  refine x_ld 1 1 0 5 rfl rfl rfl rfl rfl ?_
  refine x_cv 115 59 8 [zi ((tx_num w : Nat) : Int)] rfl rfl rfl (Nat.le_of_ble_eq_true rfl) rfl rfl (Nat.le_of_ble_eq_true rfl) trivial (Nat.le_of_ble_eq_true rfl) (c59_t (M := M) (d + 78) (by omega) (by omega)) rfl ?_
  refine x_ld 0 1 2 9 rfl rfl rfl rfl rfl ?_
  refine x_ld 1 1 0 10 rfl rfl rfl rfl rfl ?_
  refine x_cv 123 64 13 [.ref 0, zi ((tx_num w : Nat) : Int)] rfl rfl rfl (Nat.le_of_ble_eq_true rfl) rfl rfl (Nat.le_of_ble_eq_true rfl) ⟨_, _, _, rfl, o_0⟩ (Nat.le_of_ble_eq_true rfl) (c64_f d hc h3 hb5 h05 hw hw6 hb) rfl ?_
  refine z_ifge 18 16 rfl rfl rfl (rg_lit (-1) rfl) (fun c => absurd c (by decide)) (fun _ => ?_)
  refine x_cst (zi 0) 1 17 rfl rfl rfl ?_
  refine x_ret rfl rfl rfl rfl ?_
  exact ⟨rfl, rfl⟩
theorem c73_l (d : Nat) {b : Nat} {ps : Nat → prt} {k : Nat} (hc : cls b M ps (k + 1)) (h3 : M.2.2 0 3 = b) (hb5 : M.2.2 b 5 = b + 3 + 9 * k) (h05 : M.1 0 5 = 1) {w : List Nat} (hw : tx_L w) (hw6 : w.length ≤ 6) (hb : (sts ps k).1 (tx_num w) = true) (hl : ¬ (sem_sh (pgo ps) k w).length ≤ 6) : ab_S (pg_G L xs) (d + 80) 73 [.ref 0, zi (tx_num w : Nat)] (hp M ++ es) (some (zi 0)) (hp M ++ es) := by
  have ht := (tx_six hw).mp hw6
  show ab_W (pg_G L xs) (ab_X (pg_G L xs) (d + 79)) 73 _ 0 [some (.ref 0), some (zi ((tx_num w : Nat) : Int))] [] (hp M ++ es)
  refine x_ld 0 1 2 1 rfl rfl rfl rfl rfl ?_
  refine x_cv 96 55 4 [.ref 0] rfl rfl rfl (Nat.le_of_ble_eq_true rfl) rfl rfl (Nat.le_of_ble_eq_true rfl) ⟨_, _, _, rfl, o_0⟩ (Nat.le_of_ble_eq_true rfl) (c55 (M := M) (d + 78) h05) rfl ?_
  refine x_ld 1 1 0 5 rfl rfl rfl rfl rfl ?_
  refine x_cv 115 59 8 [zi ((tx_num w : Nat) : Int)] rfl rfl rfl (Nat.le_of_ble_eq_true rfl) rfl rfl (Nat.le_of_ble_eq_true rfl) trivial (Nat.le_of_ble_eq_true rfl) (c59_t (M := M) (d + 78) (by omega) (by omega)) rfl ?_
  refine x_ld 0 1 2 9 rfl rfl rfl rfl rfl ?_
  refine x_ld 1 1 0 10 rfl rfl rfl rfl rfl ?_
  refine x_cv 123 64 13 [.ref 0, zi ((tx_num w : Nat) : Int)] rfl rfl rfl (Nat.le_of_ble_eq_true rfl) rfl rfl (Nat.le_of_ble_eq_true rfl) ⟨_, _, _, rfl, o_0⟩ (Nat.le_of_ble_eq_true rfl) (c64_t d hc h3 hb5 h05 hw hw6 hb) rfl ?_
  rw [nz_gt hl]
  refine z_ifge 18 16 rfl rfl rfl (rg_lit (-2) rfl) (fun c => absurd c (by decide)) (fun _ => ?_)
  refine x_cst (zi 0) 1 17 rfl rfl rfl ?_
  refine x_ret rfl rfl rfl rfl ?_
  exact ⟨rfl, rfl⟩
theorem c73_y (d : Nat) {b : Nat} {ps : Nat → prt} {k : Nat} (hc : cls b M ps (k + 1)) (h3 : M.2.2 0 3 = b) (hb5 : M.2.2 b 5 = b + 3 + 9 * k) (h05 : M.1 0 5 = 1) {w : List Nat} (hw : tx_L w) (hw6 : w.length ≤ 6) (hb : (sts ps k).1 (tx_num w) = true) (hl : (sem_sh (pgo ps) k w).length ≤ 6) : ab_S (pg_G L xs) (d + 80) 73 [.ref 0, zi (tx_num w : Nat)] (hp M ++ es) (some (zi 1)) (hp (sI M 0 8 ((tx_num w : Nat) : Int)) ++ es) := by
  have ht := (tx_six hw).mp hw6
  show ab_W (pg_G L xs) (ab_X (pg_G L xs) (d + 79)) 73 _ 0 [some (.ref 0), some (zi ((tx_num w : Nat) : Int))] [] (hp M ++ es)
  refine x_ld 0 1 2 1 rfl rfl rfl rfl rfl ?_
  refine x_cv 96 55 4 [.ref 0] rfl rfl rfl (Nat.le_of_ble_eq_true rfl) rfl rfl (Nat.le_of_ble_eq_true rfl) ⟨_, _, _, rfl, o_0⟩ (Nat.le_of_ble_eq_true rfl) (c55 (M := M) (d + 78) h05) rfl ?_
  refine x_ld 1 1 0 5 rfl rfl rfl rfl rfl ?_
  refine x_cv 115 59 8 [zi ((tx_num w : Nat) : Int)] rfl rfl rfl (Nat.le_of_ble_eq_true rfl) rfl rfl (Nat.le_of_ble_eq_true rfl) trivial (Nat.le_of_ble_eq_true rfl) (c59_t (M := M) (d + 78) (by omega) (by omega)) rfl ?_
  refine x_ld 0 1 2 9 rfl rfl rfl rfl rfl ?_
  refine x_ld 1 1 0 10 rfl rfl rfl rfl rfl ?_
  refine x_cv 123 64 13 [.ref 0, zi ((tx_num w : Nat) : Int)] rfl rfl rfl (Nat.le_of_ble_eq_true rfl) rfl rfl (Nat.le_of_ble_eq_true rfl) ⟨_, _, _, rfl, o_0⟩ (Nat.le_of_ble_eq_true rfl) (c64_t d hc h3 hb5 h05 hw hw6 hb) rfl ?_
  rw [nz_le hl]
  have hshl := (tx_six (sh_L (cls_gds hc) k (by omega) w hw)).mp hl
  refine z_ifge 18 16 rfl rfl rfl ⟨by omega, by omega⟩ (fun _ => ?_) (fun c => absurd c (by omega))
  refine x_ld 0 1 2 19 rfl rfl rfl rfl rfl ?_
  refine x_ld 1 1 0 20 rfl rfl rfl rfl rfl ?_
  refine s_0_8 44 23 rfl rfl rfl rfl rfl rfl ?_
  refine x_cst (zi 1) 1 24 rfl rfl rfl ?_
  refine x_ret rfl rfl rfl rfl ?_
  exact ⟨rfl, rfl⟩
theorem c94_f (d : Nat) {b : Nat} {ps : Nat → prt} {k : Nat} (hc : cls b M ps (k + 1)) (h3 : M.2.2 0 3 = b) (hb5 : M.2.2 b 5 = b + 3 + 9 * k) (h05 : M.1 0 5 = 1) {w : List Nat} (hw : tx_L w) (hw6 : w.length ≤ 6) (hb : (sts ps k).2 (tx_num w) = false) : ab_S (pg_G L xs) (d + 80) 94 [.ref 0, zi (tx_num w : Nat)] (hp M ++ es) (some (zi (-1))) (hp (sI M 0 10 0) ++ es) := by
  obtain ⟨p, ep⟩ : ∃ p, p = b + 3 + 9 * k := ⟨_, rfl⟩
  rw [← ep] at hb5
  have hg := hc.1
  have hc31 := hc.2.1
  have hP : isP p := by rw [ep]; exact isP_A hc.1 (by omega)
  have hge := isP_ge hP
  have hgl := isG_lt hg
  have aS : ag (sN (M.2.1 (p + 2))) (sts ps k).1 := by rw [ep]; exact (hc.2.2.2.1 k (by omega)).2.1
  have aV : ag (sN (M.2.1 (p + 4))) (sts ps k).2 := by rw [ep]; exact (hc.2.2.2.1 k (by omega)).2.2
  have hz := sts_z1 (ps := ps) k (fun j hj => hc.2.2.2.2 j (by omega))
  have ht := (tx_six hw).mp hw6
  show ab_W (pg_G L xs) (ab_X (pg_G L xs) (d + 79)) 94 _ 0 [some (.ref 0), some (zi ((tx_num w : Nat) : Int)), none] [] (hp M ++ es)
  refine x_ld 0 1 2 1 rfl rfl rfl rfl rfl ?_
  refine x_cv 96 55 4 [.ref 0] rfl rfl rfl (Nat.le_of_ble_eq_true rfl) rfl rfl (Nat.le_of_ble_eq_true rfl) ⟨_, _, _, rfl, o_0⟩ (Nat.le_of_ble_eq_true rfl) (c55 (M := M) (d + 78) h05) rfl ?_
  refine x_ld 1 1 0 5 rfl rfl rfl rfl rfl ?_
  refine x_cv 115 59 8 [zi ((tx_num w : Nat) : Int)] rfl rfl rfl (Nat.le_of_ble_eq_true rfl) rfl rfl (Nat.le_of_ble_eq_true rfl) trivial (Nat.le_of_ble_eq_true rfl) (c59_t (M := M) (d + 78) (by omega) (by omega)) rfl ?_
  refine x_ld 0 1 2 9 rfl rfl rfl rfl rfl ?_
  refine x_cst (zi 0) 1 10 rfl rfl rfl ?_
  refine s_0_10 51 13 rfl rfl rfl rfl rfl rfl ?_
  refine x_ld 0 1 2 14 rfl rfl rfl rfl rfl ?_
  refine g_0_3 27 17 rfl rfl h3 rfl ?_
  refine g_G_5 hg 101 20 rfl rfl hb5 rfl ?_
  refine x_st 2 1 2 21 [some (.ref 0), some (zi ((tx_num w : Nat) : Int)), some (.ref p)] rfl rfl rfl (Nat.le_of_ble_eq_true rfl) rfl rfl ?_
  refine x_ld 2 1 2 22 rfl rfl rfl rfl rfl ?_
  refine g_P_6 hP 112 25 rfl rfl rfl ?_
  refine x_ld 1 1 0 26 rfl rfl rfl rfl rfl ?_
  refine x_cv 119 38 29 [.ref (p + 3), zi ((tx_num w : Nat) : Int)] rfl rfl rfl (Nat.le_of_ble_eq_true rfl) rfl rfl (Nat.le_of_ble_eq_true rfl) ⟨_, _, _, rfl, oT (iT_P3 hP)⟩ (Nat.le_of_ble_eq_true rfl) (by have q := c38 (L := L) (xs := xs) (es := es) (M := (sI M 0 10 0)) (d + 78) (iT_P3 hP) (t := ((tx_num w : Nat) : Int)) ⟨by omega, by omega⟩; rw [hasB_in (B := (sI M 0 10 0).2.1 (p + 4)) (t := ((tx_num w : Nat) : Int)) (by omega) (by omega), show (sI M 0 10 0).2.1 (p + 4) ((tx_num w : Nat) : Int) = false from (aV (tx_num w) (by omega)).trans hb] at q; exact q) rfl ?_
  refine z_ifeq 41 32 rfl rfl rfl (rg_lit 0 rfl) (fun _ => ?_) (fun c => absurd c (by decide))
  refine x_cst (zi (-1)) 1 42 rfl rfl rfl ?_
  refine x_ret rfl rfl rfl rfl ?_
  exact ⟨rfl, rfl⟩
theorem c94_t (d : Nat) {b : Nat} {ps : Nat → prt} {k : Nat} (hc : cls b M ps (k + 1)) (h3 : M.2.2 0 3 = b) (hb5 : M.2.2 b 5 = b + 3 + 9 * k) (h05 : M.1 0 5 = 1) {w : List Nat} (hw : tx_L w) (hw6 : w.length ≤ 6) (hb : (sts ps k).2 (tx_num w) = true) : ab_S (pg_G L xs) (d + 80) 94 [.ref 0, zi (tx_num w : Nat)] (hp M ++ es) (some (zi (nz (sem_cr (pgo ps) k w)))) (hp (sI M 0 10 0) ++ es) := by
  obtain ⟨p, ep⟩ : ∃ p, p = b + 3 + 9 * k := ⟨_, rfl⟩
  rw [← ep] at hb5
  have hg := hc.1
  have hc31 := hc.2.1
  have hP : isP p := by rw [ep]; exact isP_A hc.1 (by omega)
  have hge := isP_ge hP
  have hgl := isG_lt hg
  have aS : ag (sN (M.2.1 (p + 2))) (sts ps k).1 := by rw [ep]; exact (hc.2.2.2.1 k (by omega)).2.1
  have aV : ag (sN (M.2.1 (p + 4))) (sts ps k).2 := by rw [ep]; exact (hc.2.2.2.1 k (by omega)).2.2
  have hz := sts_z1 (ps := ps) k (fun j hj => hc.2.2.2.2 j (by omega))
  have ht := (tx_six hw).mp hw6
  show ab_W (pg_G L xs) (ab_X (pg_G L xs) (d + 79)) 94 _ 0 [some (.ref 0), some (zi ((tx_num w : Nat) : Int)), none] [] (hp M ++ es)
  refine x_ld 0 1 2 1 rfl rfl rfl rfl rfl ?_
  refine x_cv 96 55 4 [.ref 0] rfl rfl rfl (Nat.le_of_ble_eq_true rfl) rfl rfl (Nat.le_of_ble_eq_true rfl) ⟨_, _, _, rfl, o_0⟩ (Nat.le_of_ble_eq_true rfl) (c55 (M := M) (d + 78) h05) rfl ?_
  refine x_ld 1 1 0 5 rfl rfl rfl rfl rfl ?_
  refine x_cv 115 59 8 [zi ((tx_num w : Nat) : Int)] rfl rfl rfl (Nat.le_of_ble_eq_true rfl) rfl rfl (Nat.le_of_ble_eq_true rfl) trivial (Nat.le_of_ble_eq_true rfl) (c59_t (M := M) (d + 78) (by omega) (by omega)) rfl ?_
  refine x_ld 0 1 2 9 rfl rfl rfl rfl rfl ?_
  refine x_cst (zi 0) 1 10 rfl rfl rfl ?_
  refine s_0_10 51 13 rfl rfl rfl rfl rfl rfl ?_
  refine x_ld 0 1 2 14 rfl rfl rfl rfl rfl ?_
  refine g_0_3 27 17 rfl rfl h3 rfl ?_
  refine g_G_5 hg 101 20 rfl rfl hb5 rfl ?_
  refine x_st 2 1 2 21 [some (.ref 0), some (zi ((tx_num w : Nat) : Int)), some (.ref p)] rfl rfl rfl (Nat.le_of_ble_eq_true rfl) rfl rfl ?_
  refine x_ld 2 1 2 22 rfl rfl rfl rfl rfl ?_
  refine g_P_6 hP 112 25 rfl rfl rfl ?_
  refine x_ld 1 1 0 26 rfl rfl rfl rfl rfl ?_
  refine x_cv 119 38 29 [.ref (p + 3), zi ((tx_num w : Nat) : Int)] rfl rfl rfl (Nat.le_of_ble_eq_true rfl) rfl rfl (Nat.le_of_ble_eq_true rfl) ⟨_, _, _, rfl, oT (iT_P3 hP)⟩ (Nat.le_of_ble_eq_true rfl) (by have q := c38 (L := L) (xs := xs) (es := es) (M := (sI M 0 10 0)) (d + 78) (iT_P3 hP) (t := ((tx_num w : Nat) : Int)) ⟨by omega, by omega⟩; rw [hasB_in (B := (sI M 0 10 0).2.1 (p + 4)) (t := ((tx_num w : Nat) : Int)) (by omega) (by omega), show (sI M 0 10 0).2.1 (p + 4) ((tx_num w : Nat) : Int) = true from (aV (tx_num w) (by omega)).trans hb] at q; exact q) rfl ?_
  refine z_ifeq 41 32 rfl rfl rfl (rg_lit 1 rfl) (fun c => absurd c (by decide)) (fun _ => ?_)
  refine x_ld 2 1 2 33 rfl rfl rfl rfl rfl ?_
  refine x_ld 1 1 0 34 rfl rfl rfl rfl rfl ?_
  refine x_cst (zi 0) 1 35 rfl rfl rfl ?_
  refine x_cv 144 78 38 [.ref p, zi ((tx_num w : Nat) : Int), zi 0] rfl rfl rfl (Nat.le_of_ble_eq_true rfl) rfl rfl (Nat.le_of_ble_eq_true rfl) ⟨_, _, _, rfl, oP hP⟩ (Nat.le_of_ble_eq_true rfl) (by rw [ep]; exact c78 (L := L) (xs := xs) (es := es) (M := (sI M 0 10 0)) (cls_f hc) k (by omega) (d + 79) (by omega) 0 w (by omega) hw hw6 hb) rfl ?_
  refine x_go 42 rfl rfl ?_
  refine x_ret rfl rfl rfl rfl ?_
  exact ⟨rfl, rfl⟩
theorem c96_f (d : Nat) {b : Nat} {ps : Nat → prt} {k : Nat} (hc : cls b M ps (k + 1)) (h3 : M.2.2 0 3 = b) (hb5 : M.2.2 b 5 = b + 3 + 9 * k) (h05 : M.1 0 5 = 1) {w : List Nat} (hw : tx_L w) (hw6 : w.length ≤ 6) (hb : (sts ps k).2 (tx_num w) = false) : ab_S (pg_G L xs) (d + 80) 96 [.ref 0, zi (tx_num w : Nat)] (hp M ++ es) (some (zi (-1))) (hp M ++ es) := by
  obtain ⟨p, ep⟩ : ∃ p, p = b + 3 + 9 * k := ⟨_, rfl⟩
  rw [← ep] at hb5
  have hg := hc.1
  have hc31 := hc.2.1
  have hP : isP p := by rw [ep]; exact isP_A hc.1 (by omega)
  have hge := isP_ge hP
  have hgl := isG_lt hg
  have aS : ag (sN (M.2.1 (p + 2))) (sts ps k).1 := by rw [ep]; exact (hc.2.2.2.1 k (by omega)).2.1
  have aV : ag (sN (M.2.1 (p + 4))) (sts ps k).2 := by rw [ep]; exact (hc.2.2.2.1 k (by omega)).2.2
  have hz := sts_z1 (ps := ps) k (fun j hj => hc.2.2.2.2 j (by omega))
  have ht := (tx_six hw).mp hw6
  show ab_W (pg_G L xs) (ab_X (pg_G L xs) (d + 79)) 96 _ 0 [some (.ref 0), some (zi ((tx_num w : Nat) : Int)), none] [] (hp M ++ es)
  refine x_ld 0 1 2 1 rfl rfl rfl rfl rfl ?_
  refine x_cv 96 55 4 [.ref 0] rfl rfl rfl (Nat.le_of_ble_eq_true rfl) rfl rfl (Nat.le_of_ble_eq_true rfl) ⟨_, _, _, rfl, o_0⟩ (Nat.le_of_ble_eq_true rfl) (c55 (M := M) (d + 78) h05) rfl ?_
  refine x_ld 1 1 0 5 rfl rfl rfl rfl rfl ?_
  refine x_cv 115 59 8 [zi ((tx_num w : Nat) : Int)] rfl rfl rfl (Nat.le_of_ble_eq_true rfl) rfl rfl (Nat.le_of_ble_eq_true rfl) trivial (Nat.le_of_ble_eq_true rfl) (c59_t (M := M) (d + 78) (by omega) (by omega)) rfl ?_
  refine x_ld 0 1 2 9 rfl rfl rfl rfl rfl ?_
  refine g_0_3 27 12 rfl rfl h3 rfl ?_
  refine g_G_5 hg 101 15 rfl rfl hb5 rfl ?_
  refine x_st 2 1 2 16 [some (.ref 0), some (zi ((tx_num w : Nat) : Int)), some (.ref p)] rfl rfl rfl (Nat.le_of_ble_eq_true rfl) rfl rfl ?_
  refine x_ld 2 1 2 17 rfl rfl rfl rfl rfl ?_
  refine g_P_6 hP 112 20 rfl rfl rfl ?_
  refine x_ld 1 1 0 21 rfl rfl rfl rfl rfl ?_
  refine x_cv 119 38 24 [.ref (p + 3), zi ((tx_num w : Nat) : Int)] rfl rfl rfl (Nat.le_of_ble_eq_true rfl) rfl rfl (Nat.le_of_ble_eq_true rfl) ⟨_, _, _, rfl, oT (iT_P3 hP)⟩ (Nat.le_of_ble_eq_true rfl) (by have q := c38 (L := L) (xs := xs) (es := es) (M := M) (d + 78) (iT_P3 hP) (t := ((tx_num w : Nat) : Int)) ⟨by omega, by omega⟩; rw [hasB_in (B := M.2.1 (p + 4)) (t := ((tx_num w : Nat) : Int)) (by omega) (by omega), show M.2.1 (p + 4) ((tx_num w : Nat) : Int) = false from (aV (tx_num w) (by omega)).trans hb] at q; exact q) rfl ?_
  refine z_ifeq 36 27 rfl rfl rfl (rg_lit 0 rfl) (fun _ => ?_) (fun c => absurd c (by decide))
  refine x_cst (zi (-1)) 1 37 rfl rfl rfl ?_
  refine x_ret rfl rfl rfl rfl ?_
  exact ⟨rfl, rfl⟩
theorem c96_t (d : Nat) {b : Nat} {ps : Nat → prt} {k : Nat} (hc : cls b M ps (k + 1)) (h3 : M.2.2 0 3 = b) (hb5 : M.2.2 b 5 = b + 3 + 9 * k) (h05 : M.1 0 5 = 1) {w : List Nat} (hw : tx_L w) (hw6 : w.length ≤ 6) (hb : (sts ps k).2 (tx_num w) = true) : ab_S (pg_G L xs) (d + 80) 96 [.ref 0, zi (tx_num w : Nat)] (hp M ++ es) (some (zi (nz (sem_ky (pgo ps) k w)))) (hp M ++ es) := by
  obtain ⟨p, ep⟩ : ∃ p, p = b + 3 + 9 * k := ⟨_, rfl⟩
  rw [← ep] at hb5
  have hg := hc.1
  have hc31 := hc.2.1
  have hP : isP p := by rw [ep]; exact isP_A hc.1 (by omega)
  have hge := isP_ge hP
  have hgl := isG_lt hg
  have aS : ag (sN (M.2.1 (p + 2))) (sts ps k).1 := by rw [ep]; exact (hc.2.2.2.1 k (by omega)).2.1
  have aV : ag (sN (M.2.1 (p + 4))) (sts ps k).2 := by rw [ep]; exact (hc.2.2.2.1 k (by omega)).2.2
  have hz := sts_z1 (ps := ps) k (fun j hj => hc.2.2.2.2 j (by omega))
  have ht := (tx_six hw).mp hw6
  show ab_W (pg_G L xs) (ab_X (pg_G L xs) (d + 79)) 96 _ 0 [some (.ref 0), some (zi ((tx_num w : Nat) : Int)), none] [] (hp M ++ es)
  refine x_ld 0 1 2 1 rfl rfl rfl rfl rfl ?_
  refine x_cv 96 55 4 [.ref 0] rfl rfl rfl (Nat.le_of_ble_eq_true rfl) rfl rfl (Nat.le_of_ble_eq_true rfl) ⟨_, _, _, rfl, o_0⟩ (Nat.le_of_ble_eq_true rfl) (c55 (M := M) (d + 78) h05) rfl ?_
  refine x_ld 1 1 0 5 rfl rfl rfl rfl rfl ?_
  refine x_cv 115 59 8 [zi ((tx_num w : Nat) : Int)] rfl rfl rfl (Nat.le_of_ble_eq_true rfl) rfl rfl (Nat.le_of_ble_eq_true rfl) trivial (Nat.le_of_ble_eq_true rfl) (c59_t (M := M) (d + 78) (by omega) (by omega)) rfl ?_
  refine x_ld 0 1 2 9 rfl rfl rfl rfl rfl ?_
  refine g_0_3 27 12 rfl rfl h3 rfl ?_
  refine g_G_5 hg 101 15 rfl rfl hb5 rfl ?_
  refine x_st 2 1 2 16 [some (.ref 0), some (zi ((tx_num w : Nat) : Int)), some (.ref p)] rfl rfl rfl (Nat.le_of_ble_eq_true rfl) rfl rfl ?_
  refine x_ld 2 1 2 17 rfl rfl rfl rfl rfl ?_
  refine g_P_6 hP 112 20 rfl rfl rfl ?_
  refine x_ld 1 1 0 21 rfl rfl rfl rfl rfl ?_
  refine x_cv 119 38 24 [.ref (p + 3), zi ((tx_num w : Nat) : Int)] rfl rfl rfl (Nat.le_of_ble_eq_true rfl) rfl rfl (Nat.le_of_ble_eq_true rfl) ⟨_, _, _, rfl, oT (iT_P3 hP)⟩ (Nat.le_of_ble_eq_true rfl) (by have q := c38 (L := L) (xs := xs) (es := es) (M := M) (d + 78) (iT_P3 hP) (t := ((tx_num w : Nat) : Int)) ⟨by omega, by omega⟩; rw [hasB_in (B := M.2.1 (p + 4)) (t := ((tx_num w : Nat) : Int)) (by omega) (by omega), show M.2.1 (p + 4) ((tx_num w : Nat) : Int) = true from (aV (tx_num w) (by omega)).trans hb] at q; exact q) rfl ?_
  refine z_ifeq 36 27 rfl rfl rfl (rg_lit 1 rfl) (fun c => absurd c (by decide)) (fun _ => ?_)
  refine x_ld 2 1 2 28 rfl rfl rfl rfl rfl ?_
  refine x_ld 1 1 0 29 rfl rfl rfl rfl rfl ?_
  refine x_cst (zi 0) 1 30 rfl rfl rfl ?_
  refine x_cv 147 86 33 [.ref p, zi ((tx_num w : Nat) : Int), zi 0] rfl rfl rfl (Nat.le_of_ble_eq_true rfl) rfl rfl (Nat.le_of_ble_eq_true rfl) ⟨_, _, _, rfl, oP hP⟩ (Nat.le_of_ble_eq_true rfl) (by rw [ep]; exact c86 (L := L) (xs := xs) (es := es) (M := M) hc k (by omega) (d + 79) (by omega) 0 w (by omega) hw hw6 hb) rfl ?_
  refine x_go 37 rfl rfl ?_
  refine x_ret rfl rfl rfl rfl ?_
  exact ⟨rfl, rfl⟩
/-- the note is taken -/
def ntM (M : mm) (p : Nat) : mm := (sI (rB M 571 (cpB (M.2.1 (p + 4)) (M.2.1 571))) 0 12 1)
theorem c98 (d : Nat) {b : Nat} {ps : Nat → prt} {k : Nat} (hc : cls b M ps (k + 1)) (h3 : M.2.2 0 3 = b) (hb5 : M.2.2 b 5 = b + 3 + 9 * k) (h05 : M.1 0 5 = 1) : ab_Z (pg_G L xs) (d + 80) 98 [.ref 0] M es (fun v M' => v = some (zi ((cnt (sts ps k).2 1093 : Nat) : Int)) ∧ M' = ntM M (b + 3 + 9 * k) ∧ ag (sN (M'.2.1 571)) (sts ps k).2) := by
  obtain ⟨p, ep⟩ : ∃ p, p = b + 3 + 9 * k := ⟨_, rfl⟩
  rw [← ep] at hb5
  have hg := hc.1
  have hc31 := hc.2.1
  have hP : isP p := by rw [ep]; exact isP_A hc.1 (by omega)
  have hge := isP_ge hP
  have hgl := isG_lt hg
  have aS : ag (sN (M.2.1 (p + 2))) (sts ps k).1 := by rw [ep]; exact (hc.2.2.2.1 k (by omega)).2.1
  have aV : ag (sN (M.2.1 (p + 4))) (sts ps k).2 := by rw [ep]; exact (hc.2.2.2.1 k (by omega)).2.2
  have hz := sts_z1 (ps := ps) k (fun j hj => hc.2.2.2.2 j (by omega))
  have cS : cnt (sN (M.2.1 (p + 2))) 1152 = cnt (sts ps k).1 1093 := (cnt_ag (n := 1152) (fun t ht => aS t ht)).trans (cnt_z (m := 1093) (fun t ht => (hz t ht).1) 1152 (by decide))
  have cV : cnt (sN (M.2.1 (p + 4))) 1152 = cnt (sts ps k).2 1093 := (cnt_ag (n := 1152) (fun t ht => aV t ht)).trans (cnt_z (m := 1093) (fun t ht => (hz t ht).2) 1152 (by decide))
  rw [← ep]
  have hBn : (sI (rB M 571 (cpB (M.2.1 (p + 4)) (M.2.1 571))) 0 12 1).2.1 571 = (cpB (M.2.1 (p + 4)) (M.2.1 571)) := rB_at M 571 (cpB (M.2.1 (p + 4)) (M.2.1 571))
  have aN : ∀ t : Nat, t < 1152 → sN ((sI (rB M 571 (cpB (M.2.1 (p + 4)) (M.2.1 571))) 0 12 1).2.1 571) t = sN (M.2.1 (p + 4)) t := fun t ht => by rw [hBn]; unfold cpB; exact if_pos ⟨by omega, by omega⟩
  have eN : cnt (sN ((sI (rB M 571 (cpB (M.2.1 (p + 4)) (M.2.1 571))) 0 12 1).2.1 571)) 1152 = cnt (sts ps k).2 1093 := (cnt_ag (n := 1152) aN).trans cV
  show ab_W (pg_G L xs) (ab_X (pg_G L xs) (d + 79)) 98 _ 0 [some (.ref 0)] [] (hp M ++ es)
  refine x_ld 0 1 2 1 rfl rfl rfl rfl rfl ?_
  refine x_cv 96 55 4 [.ref 0] rfl rfl rfl (Nat.le_of_ble_eq_true rfl) rfl rfl (Nat.le_of_ble_eq_true rfl) ⟨_, _, _, rfl, o_0⟩ (Nat.le_of_ble_eq_true rfl) (c55 (M := M) (d + 78) h05) rfl ?_
  refine x_ld 0 1 2 5 rfl rfl rfl rfl rfl ?_
  refine g_0_11 57 8 rfl rfl rfl ?_
  refine x_ld 0 1 2 9 rfl rfl rfl rfl rfl ?_
  refine g_0_3 27 12 rfl rfl h3 rfl ?_
  refine g_G_5 hg 101 15 rfl rfl hb5 rfl ?_
  refine g_P_6 hP 112 18 rfl rfl rfl ?_
  refine x_cv 150 23 21 [.ref 570, .ref (p + 3)] rfl rfl rfl (Nat.le_of_ble_eq_true rfl) rfl rfl (Nat.le_of_ble_eq_true rfl) ⟨_, _, _, rfl, o_570⟩ (Nat.le_of_ble_eq_true rfl) (c23 (M := M) (d + 78) iT_570 (iT_P3 hP)) rfl ?_
  refine x_ld 0 1 2 22 rfl rfl rfl rfl rfl ?_
  refine x_cst (zi 1) 1 23 rfl rfl rfl ?_
  refine s_0_12 61 26 rfl rfl rfl rfl rfl rfl ?_
  refine x_ld 0 1 2 27 rfl rfl rfl rfl rfl ?_
  refine g_0_11 57 30 rfl rfl rfl ?_
  refine x_cv 108 56 33 [.ref 570] rfl rfl rfl (Nat.le_of_ble_eq_true rfl) rfl rfl (Nat.le_of_ble_eq_true rfl) ⟨_, _, _, rfl, o_570⟩ (Nat.le_of_ble_eq_true rfl) (by have q := c56 (L := L) (xs := xs) (es := es) (M := (sI (rB M 571 (cpB (M.2.1 (p + 4)) (M.2.1 571))) 0 12 1)) (d + 77) iT_570; rw [eN] at q; exact q) rfl ?_
  refine x_ret rfl rfl rfl rfl ?_
  exact ⟨_, _, rfl, rfl, rfl, rfl, fun t ht => (aN t ht).trans (aV t ht)⟩
theorem c100_v (d : Nat) {b : Nat} {ps : Nat → prt} {k : Nat} (hc : cls b M ps (k + 1)) (h3 : M.2.2 0 3 = b) (hb5 : M.2.2 b 5 = b + 3 + 9 * k) (h05 : M.1 0 5 = 1) (h12 : M.1 0 12 = 1) {N : Nat → Bool} (hN : ag (sN (M.2.1 571)) N) (hNz : ∀ t, 1093 ≤ t → N t = false) : ab_Z (pg_G L xs) (d + 80) 100 [.ref 0] M es (fun v M' => M' = M ∧ ∃ x, v = some (zi x) ∧ lst (fun t => t < 1093 ∧ (N t ^^ (sts ps k).2 t) = true) x) := by
  obtain ⟨p, ep⟩ : ∃ p, p = b + 3 + 9 * k := ⟨_, rfl⟩
  rw [← ep] at hb5
  have hg := hc.1
  have hc31 := hc.2.1
  have hP : isP p := by rw [ep]; exact isP_A hc.1 (by omega)
  have hge := isP_ge hP
  have hgl := isG_lt hg
  have aS : ag (sN (M.2.1 (p + 2))) (sts ps k).1 := by rw [ep]; exact (hc.2.2.2.1 k (by omega)).2.1
  have aV : ag (sN (M.2.1 (p + 4))) (sts ps k).2 := by rw [ep]; exact (hc.2.2.2.1 k (by omega)).2.2
  have hz := sts_z1 (ps := ps) k (fun j hj => hc.2.2.2.2 j (by omega))
  show ab_W (pg_G L xs) (ab_X (pg_G L xs) (d + 79)) 100 _ 0 [some (.ref 0)] [] (hp M ++ es)
  refine x_ld 0 1 2 1 rfl rfl rfl rfl rfl ?_
  refine x_cv 96 55 4 [.ref 0] rfl rfl rfl (Nat.le_of_ble_eq_true rfl) rfl rfl (Nat.le_of_ble_eq_true rfl) ⟨_, _, _, rfl, o_0⟩ (Nat.le_of_ble_eq_true rfl) (c55 (M := M) (d + 78) h05) rfl ?_
  refine x_ld 0 1 2 5 rfl rfl rfl rfl rfl ?_
  refine g_0_12 61 8 rfl rfl h12 rfl ?_
  refine z_ifne 21 11 rfl rfl rfl (rg_lit 1 rfl) (fun _ => ?_) (fun c => absurd c (by decide))
  refine x_ld 0 1 2 22 rfl rfl rfl rfl rfl ?_
  refine g_0_11 57 25 rfl rfl rfl ?_
  refine x_ld 0 1 2 26 rfl rfl rfl rfl rfl ?_
  refine g_0_3 27 29 rfl rfl h3 rfl ?_
  refine g_G_5 hg 101 32 rfl rfl hb5 rfl ?_
  refine g_P_6 hP 112 35 rfl rfl rfl ?_
  refine x_ce 156 101 38 [.ref 570, .ref (p + 3)] rfl rfl rfl (Nat.le_of_ble_eq_true rfl) rfl rfl (Nat.le_of_ble_eq_true rfl) ⟨_, _, _, rfl, o_570⟩ (Nat.le_of_ble_eq_true rfl) (c101 (d + 76) iT_570 (iT_P3 hP)) rfl ?_
  rintro v M2 ⟨hM2, x, rfl, hx⟩
  rw [hM2]
  refine x_ret rfl rfl rfl rfl ?_
  refine ⟨_, _, rfl, rfl, rfl, x, rfl, lst_congr (fun t => ?_) hx⟩
  constructor
  · rintro ⟨h1, h2⟩
    have e1 := aV t h1
    have e2 := hN t h1
    rw [show M.2.1 571 (t : Int) = N t from e2, show M.2.1 (p + 4) (t : Int) = (sts ps k).2 t from e1] at h2
    refine ⟨?_, h2⟩
    rcases Nat.lt_or_ge t 1093 with q | q
    · exact q
    · rw [hNz t q, (hz t q).2] at h2; exact absurd h2 (by decide)
  · rintro ⟨h1, h2⟩
    refine ⟨by omega, ?_⟩
    rw [show M.2.1 571 (t : Int) = N t from hN t (by omega), show M.2.1 (p + 4) (t : Int) = (sts ps k).2 t from aV t (by omega)]; exact h2
theorem c49_y (d : Nat) {x m : Int} (h0 : 0 ≤ x) (h1 : x < m) (hm6 : m ≤ 6) (h10 : M.1 0 10 = m) : ab_S (pg_G L xs) (d + 1) 49 [.ref 0, zi x] (hp M ++ es) (some (zi (M.1 569 x))) (hp M ++ es) := by
  show ab_W (pg_G L xs) (ab_X (pg_G L xs) d) 49 _ 0 [some (.ref 0), some (zi x)] [] (hp M ++ es)
  refine x_ld 1 1 0 1 rfl rfl rfl rfl rfl ?_
  refine z_iflt 21 4 rfl rfl rfl ⟨by omega, by omega⟩ (fun c => absurd c (by omega)) (fun _ => ?_)
  refine x_ld 1 1 0 5 rfl rfl rfl rfl rfl ?_
  refine x_ld 0 1 2 6 rfl rfl rfl rfl rfl ?_
  refine g_0_10 51 9 rfl rfl h10 rfl ?_
  refine z_icge 21 12 rfl rfl rfl ⟨by omega, by omega⟩ ⟨by omega, by omega⟩ (fun c => absurd c (by omega)) (fun _ => ?_)
  refine x_ld 0 1 2 13 rfl rfl rfl rfl rfl ?_
  refine g_0_9 47 16 rfl rfl rfl ?_
  refine x_ld 1 1 0 17 rfl rfl rfl rfl rfl ?_
  refine z_ild (M.1 569 x) 18 rfl i_569 rfl ⟨by omega, by omega⟩ rfl rfl ?_
  refine x_go 22 rfl rfl ?_
  refine x_ret rfl rfl rfl rfl ?_
  exact ⟨rfl, rfl⟩
theorem c49_n (d : Nat) {x m : Int} (hx : rg x) (hb : ¬ (0 ≤ x ∧ x < m)) (hm0 : 0 ≤ m) (hm6 : m ≤ 6) (h10 : M.1 0 10 = m) : ab_S (pg_G L xs) (d + 1) 49 [.ref 0, zi x] (hp M ++ es) (some (zi (-1))) (hp M ++ es) := by
  show ab_W (pg_G L xs) (ab_X (pg_G L xs) d) 49 _ 0 [some (.ref 0), some (zi x)] [] (hp M ++ es)
  refine x_ld 1 1 0 1 rfl rfl rfl rfl rfl ?_
  refine z_iflt 21 4 rfl rfl rfl hx (fun c1 => ?_) (fun c1 => ?_)
  · refine x_cst (zi (-1)) 1 22 rfl rfl rfl ?_
    refine x_ret rfl rfl rfl rfl ?_
    exact ⟨rfl, rfl⟩
  · refine x_ld 1 1 0 5 rfl rfl rfl rfl rfl ?_
    refine x_ld 0 1 2 6 rfl rfl rfl rfl rfl ?_
    refine g_0_10 51 9 rfl rfl h10 rfl ?_
    refine z_icge 21 12 rfl rfl rfl hx ⟨by omega, by omega⟩ (fun _ => ?_) (fun c => absurd c (by omega))
    refine x_cst (zi (-1)) 1 22 rfl rfl rfl ?_
    refine x_ret rfl rfl rfl rfl ?_
    exact ⟨rfl, rfl⟩
theorem c91_y (d : Nat) {p : Nat} (hP : isP p) {K : Int} (hk : M.1 p 0 = K) (hK : 7 ≤ (K : Int) ∧ (K : Int) ≤ 8) : ab_S (pg_G L xs) (d + 1) 91 [.ref p] (hp M ++ es) (some (zi 1)) (hp M ++ es) := by
  show ab_W (pg_G L xs) (ab_X (pg_G L xs) d) 91 _ 0 [some (.ref p)] [] (hp M ++ es)
  refine x_ld 0 1 2 1 rfl rfl rfl rfl rfl ?_
  refine g_P_0 hP 9 4 rfl rfl hk rfl ?_
  refine x_cst (zi 7) 2 6 rfl rfl rfl ?_
  refine z_iceq 18 9 rfl rfl rfl ⟨by omega, by omega⟩ (rg_lit 7 rfl) (fun c6 => ?_) (fun c6 => ?_)
  · refine x_cst (zi 1) 1 19 rfl rfl rfl ?_
    refine x_go 23 rfl rfl ?_
    refine x_ret rfl rfl rfl rfl ?_
    exact ⟨rfl, rfl⟩
  · refine x_ld 0 1 2 10 rfl rfl rfl rfl rfl ?_
    refine g_P_0 hP 9 13 rfl rfl hk rfl ?_
    refine x_cst (zi 8) 2 15 rfl rfl rfl ?_
    refine z_icne 22 18 rfl rfl rfl ⟨by omega, by omega⟩ (rg_lit 8 rfl) (fun c => absurd c (by omega)) (fun _ => ?_)
    refine x_cst (zi 1) 1 19 rfl rfl rfl ?_
    refine x_go 23 rfl rfl ?_
    refine x_ret rfl rfl rfl rfl ?_
    exact ⟨rfl, rfl⟩
theorem c91_n (d : Nat) {p : Nat} (hP : isP p) {K : Int} (hk : M.1 p 0 = K) (hK : (0 : Int) ≤ (K : Int) ∧ (K : Int) ≤ 6) : ab_S (pg_G L xs) (d + 1) 91 [.ref p] (hp M ++ es) (some (zi 0)) (hp M ++ es) := by
  show ab_W (pg_G L xs) (ab_X (pg_G L xs) d) 91 _ 0 [some (.ref p)] [] (hp M ++ es)
  refine x_ld 0 1 2 1 rfl rfl rfl rfl rfl ?_
  refine g_P_0 hP 9 4 rfl rfl hk rfl ?_
  refine x_cst (zi 7) 2 6 rfl rfl rfl ?_
  refine z_iceq 18 9 rfl rfl rfl ⟨by omega, by omega⟩ (rg_lit 7 rfl) (fun c => absurd c (by omega)) (fun _ => ?_)
  refine x_ld 0 1 2 10 rfl rfl rfl rfl rfl ?_
  refine g_P_0 hP 9 13 rfl rfl hk rfl ?_
  refine x_cst (zi 8) 2 15 rfl rfl rfl ?_
  refine z_icne 22 18 rfl rfl rfl ⟨by omega, by omega⟩ (rg_lit 8 rfl) (fun _ => ?_) (fun c => absurd c (by omega))
  refine x_cst (zi 0) 1 23 rfl rfl rfl ?_
  refine x_ret rfl rfl rfl rfl ?_
  exact ⟨rfl, rfl⟩
theorem c92 (d : Nat) {p : Nat} (hP : isP p) : ab_S (pg_G L xs) (d + 1) 92 [.ref p, .ref 569] (hp M ++ es) (some (zi (M.1 p 13))) (hp (rI M 569 (cpI 6 (M.1 (p + 8)) (M.1 569))) ++ es) := by
  have hge := isP_ge hP
  show ab_W (pg_G L xs) (ab_X (pg_G L xs) d) 92 _ 0 [some (.ref p), some (.ref 569)] [] (hp M ++ es)
  refine x_ld 0 1 2 1 rfl rfl rfl rfl rfl ?_
  refine g_P_12 hP 47 4 rfl rfl rfl ?_
  refine x_cst (zi 0) 1 5 rfl rfl rfl ?_
  refine x_ld 1 1 2 6 rfl rfl rfl rfl rfl ?_
  refine x_cst (zi 0) 1 7 rfl rfl rfl ?_
  refine x_cst (zi 6) 2 9 rfl rfl rfl ?_
  refine z_cp6 192 12 rfl rfl (iP8 hP) i_569 (Nat.le_of_ble_eq_true rfl) rfl ?_
  refine x_ld 0 1 2 13 rfl rfl rfl rfl rfl ?_
  refine g_P_13 hP 50 16 rfl rfl (rd_ra (Ne.symm (by omega))) rfl ?_
  refine x_ret rfl rfl rfl rfl ?_
  exact ⟨rfl, rfl⟩
/-- what carrying back leaves as it was -/
def Fpt (b : Nat) (M M' : mm) : Prop := (∀ a, a ≠ 0 → a ≠ 569 → ¬ (b ≤ a ∧ a < b + 282) → M'.1 a = M.1 a) ∧ (∀ j, j ≠ 10 → M'.1 0 j = M.1 0 j) ∧ M'.2 = M.2
theorem Fpt_u {b k : Nat} {M M' : mm} (hg : isG b) (hk : k ≤ 30) (h : Fu b k (sI M 0 10 0) M') : (∀ a, a ≠ 0 → ¬ (b ≤ a ∧ a < b + 282) → M'.1 a = M.1 a) ∧ M'.1 0 = (sI M 0 10 0).1 0 ∧ M'.2 = M.2 := by
  have hgl := isG_lt hg
  refine ⟨fun a h1 h2 => (h.1 a (fun j hj => ⟨by omega, by omega⟩)).trans (sI_ne h1), h.1 0 (fun j hj => ⟨by omega, by omega⟩), h.2.2⟩
theorem c75_f (d : Nat) {b : Nat} {ps : Nat → prt} {k : Nat} (hc : cls b M ps (k + 1)) (h3 : M.2.2 0 3 = b) (hb5 : M.2.2 b 5 = b + 3 + 9 * k) (h05 : M.1 0 5 = 1) {s : Nat} (hs : s < 1093) (h08 : M.1 0 8 = (s : Int)) {w : List Nat} (hw : tx_L w) (hw6 : w.length ≤ 6) (hb : (sts ps k).2 (tx_num w) = false) : ab_S (pg_G L xs) (d + 80) 75 [.ref 0, zi (tx_num w : Nat)] (hp M ++ es) (some (zi (-1))) (hp (sI M 0 10 0) ++ es) := by
  obtain ⟨p, ep⟩ : ∃ p, p = b + 3 + 9 * k := ⟨_, rfl⟩
  rw [← ep] at hb5
  have hg := hc.1
  have hc31 := hc.2.1
  have hP : isP p := by rw [ep]; exact isP_A hc.1 (by omega)
  have hge := isP_ge hP
  have hgl := isG_lt hg
  have aS : ag (sN (M.2.1 (p + 2))) (sts ps k).1 := by rw [ep]; exact (hc.2.2.2.1 k (by omega)).2.1
  have aV : ag (sN (M.2.1 (p + 4))) (sts ps k).2 := by rw [ep]; exact (hc.2.2.2.1 k (by omega)).2.2
  have hz := sts_z1 (ps := ps) k (fun j hj => hc.2.2.2.2 j (by omega))
  have ht := (tx_six hw).mp hw6
  show ab_W (pg_G L xs) (ab_X (pg_G L xs) (d + 79)) 75 _ 0 [some (.ref 0), some (zi ((tx_num w : Nat) : Int)), none, none] [] (hp M ++ es)
  refine x_ld 0 1 2 1 rfl rfl rfl rfl rfl ?_
  refine x_cv 96 55 4 [.ref 0] rfl rfl rfl (Nat.le_of_ble_eq_true rfl) rfl rfl (Nat.le_of_ble_eq_true rfl) ⟨_, _, _, rfl, o_0⟩ (Nat.le_of_ble_eq_true rfl) (c55 (M := M) (d + 78) h05) rfl ?_
  refine x_ld 0 1 2 5 rfl rfl rfl rfl rfl ?_
  refine g_0_8 44 8 rfl rfl h08 rfl ?_
  refine x_cst (zi (-1)) 1 9 rfl rfl rfl ?_
  refine z_icne 22 12 rfl rfl rfl ⟨by omega, by omega⟩ (rg_lit (-1) rfl) (fun _ => ?_) (fun c => absurd c (by omega))
  refine x_ld 1 1 0 23 rfl rfl rfl rfl rfl ?_
  refine x_cv 115 59 26 [zi ((tx_num w : Nat) : Int)] rfl rfl rfl (Nat.le_of_ble_eq_true rfl) rfl rfl (Nat.le_of_ble_eq_true rfl) trivial (Nat.le_of_ble_eq_true rfl) (c59_t (M := M) (d + 78) (by omega) (by omega)) rfl ?_
  refine x_ld 0 1 2 27 rfl rfl rfl rfl rfl ?_
  refine x_cst (zi 0) 1 28 rfl rfl rfl ?_
  refine s_0_10 51 31 rfl rfl rfl rfl rfl rfl ?_
  refine x_ld 0 1 2 32 rfl rfl rfl rfl rfl ?_
  refine g_0_3 27 35 rfl rfl h3 rfl ?_
  refine g_G_5 hg 101 38 rfl rfl hb5 rfl ?_
  refine x_st 2 1 2 39 [some (.ref 0), some (zi ((tx_num w : Nat) : Int)), some (.ref p), none] rfl rfl rfl (Nat.le_of_ble_eq_true rfl) rfl rfl ?_
  refine x_ld 2 1 2 40 rfl rfl rfl rfl rfl ?_
  refine g_P_6 hP 112 43 rfl rfl rfl ?_
  refine x_ld 1 1 0 44 rfl rfl rfl rfl rfl ?_
  refine x_cv 119 38 47 [.ref (p + 3), zi ((tx_num w : Nat) : Int)] rfl rfl rfl (Nat.le_of_ble_eq_true rfl) rfl rfl (Nat.le_of_ble_eq_true rfl) ⟨_, _, _, rfl, oT (iT_P3 hP)⟩ (Nat.le_of_ble_eq_true rfl) (by have q := c38 (L := L) (xs := xs) (es := es) (M := (sI M 0 10 0)) (d + 78) (iT_P3 hP) (t := ((tx_num w : Nat) : Int)) ⟨by omega, by omega⟩; rw [hasB_in (B := (sI M 0 10 0).2.1 (p + 4)) (t := ((tx_num w : Nat) : Int)) (by omega) (by omega), show (sI M 0 10 0).2.1 (p + 4) ((tx_num w : Nat) : Int) = false from (aV (tx_num w) (by omega)).trans hb] at q; exact q) rfl ?_
  refine z_ifne 52 50 rfl rfl rfl (rg_lit 0 rfl) (fun c => absurd c (by decide)) (fun _ => ?_)
  refine x_cst (zi (-1)) 1 51 rfl rfl rfl ?_
  refine x_ret rfl rfl rfl rfl ?_
  exact ⟨rfl, rfl⟩
theorem c75_l (d : Nat) {b : Nat} {ps : Nat → prt} {k : Nat} (hc : cls b M ps (k + 1)) (h3 : M.2.2 0 3 = b) (hb5 : M.2.2 b 5 = b + 3 + 9 * k) (h05 : M.1 0 5 = 1) {s : List Nat} (hs : tx_L s) (hs6 : s.length ≤ 6) (h08 : M.1 0 8 = ((tx_num s : Nat) : Int)) (hsS : (sts ps k).1 (tx_num s) = true) (hsv : (sem_sh (pgo ps) k s).length ≤ 6) {w : List Nat} (hw : tx_L w) (hw6 : w.length ≤ 6) (hb : (sts ps k).2 (tx_num w) = true) (hl : ¬ (sem_pu (pgo ps) k s w).length ≤ 6) : ab_Z (pg_G L xs) (d + 80) 75 [.ref 0, zi (tx_num w : Nat)] M es (fun v M' => v = some (zi (nz (sem_pu (pgo ps) k s w))) ∧ Fpt b M M' ∧ cls b M' ps (k + 1) ∧ ogQ ps k s w (M'.1 0 10) (M'.1 569)) := by
  obtain ⟨p, ep⟩ : ∃ p, p = b + 3 + 9 * k := ⟨_, rfl⟩
  rw [← ep] at hb5
  have hg := hc.1
  have hc31 := hc.2.1
  have hP : isP p := by rw [ep]; exact isP_A hc.1 (by omega)
  have hge := isP_ge hP
  have hgl := isG_lt hg
  have aS : ag (sN (M.2.1 (p + 2))) (sts ps k).1 := by rw [ep]; exact (hc.2.2.2.1 k (by omega)).2.1
  have aV : ag (sN (M.2.1 (p + 4))) (sts ps k).2 := by rw [ep]; exact (hc.2.2.2.1 k (by omega)).2.2
  have hz := sts_z1 (ps := ps) k (fun j hj => hc.2.2.2.2 j (by omega))
  have ht := (tx_six hw).mp hw6
  have hts := (tx_six hs).mp hs6
  show ab_W (pg_G L xs) (ab_X (pg_G L xs) (d + 79)) 75 _ 0 [some (.ref 0), some (zi ((tx_num w : Nat) : Int)), none, none] [] (hp M ++ es)
  refine x_ld 0 1 2 1 rfl rfl rfl rfl rfl ?_
  refine x_cv 96 55 4 [.ref 0] rfl rfl rfl (Nat.le_of_ble_eq_true rfl) rfl rfl (Nat.le_of_ble_eq_true rfl) ⟨_, _, _, rfl, o_0⟩ (Nat.le_of_ble_eq_true rfl) (c55 (M := M) (d + 78) h05) rfl ?_
  refine x_ld 0 1 2 5 rfl rfl rfl rfl rfl ?_
  refine g_0_8 44 8 rfl rfl h08 rfl ?_
  refine x_cst (zi (-1)) 1 9 rfl rfl rfl ?_
  refine z_icne 22 12 rfl rfl rfl ⟨by omega, by omega⟩ (rg_lit (-1) rfl) (fun _ => ?_) (fun c => absurd c (by omega))
  refine x_ld 1 1 0 23 rfl rfl rfl rfl rfl ?_
  refine x_cv 115 59 26 [zi ((tx_num w : Nat) : Int)] rfl rfl rfl (Nat.le_of_ble_eq_true rfl) rfl rfl (Nat.le_of_ble_eq_true rfl) trivial (Nat.le_of_ble_eq_true rfl) (c59_t (M := M) (d + 78) (by omega) (by omega)) rfl ?_
  refine x_ld 0 1 2 27 rfl rfl rfl rfl rfl ?_
  refine x_cst (zi 0) 1 28 rfl rfl rfl ?_
  refine s_0_10 51 31 rfl rfl rfl rfl rfl rfl ?_
  refine x_ld 0 1 2 32 rfl rfl rfl rfl rfl ?_
  refine g_0_3 27 35 rfl rfl h3 rfl ?_
  refine g_G_5 hg 101 38 rfl rfl hb5 rfl ?_
  refine x_st 2 1 2 39 [some (.ref 0), some (zi ((tx_num w : Nat) : Int)), some (.ref p), none] rfl rfl rfl (Nat.le_of_ble_eq_true rfl) rfl rfl ?_
  refine x_ld 2 1 2 40 rfl rfl rfl rfl rfl ?_
  refine g_P_6 hP 112 43 rfl rfl rfl ?_
  refine x_ld 1 1 0 44 rfl rfl rfl rfl rfl ?_
  refine x_cv 119 38 47 [.ref (p + 3), zi ((tx_num w : Nat) : Int)] rfl rfl rfl (Nat.le_of_ble_eq_true rfl) rfl rfl (Nat.le_of_ble_eq_true rfl) ⟨_, _, _, rfl, oT (iT_P3 hP)⟩ (Nat.le_of_ble_eq_true rfl) (by have q := c38 (L := L) (xs := xs) (es := es) (M := (sI M 0 10 0)) (d + 78) (iT_P3 hP) (t := ((tx_num w : Nat) : Int)) ⟨by omega, by omega⟩; rw [hasB_in (B := (sI M 0 10 0).2.1 (p + 4)) (t := ((tx_num w : Nat) : Int)) (by omega) (by omega), show (sI M 0 10 0).2.1 (p + 4) ((tx_num w : Nat) : Int) = true from (aV (tx_num w) (by omega)).trans hb] at q; exact q) rfl ?_
  refine z_ifne 52 50 rfl rfl rfl (rg_lit 1 rfl) (fun _ => ?_) (fun c => absurd c (by decide))
  refine x_ld 2 1 2 53 rfl rfl rfl rfl rfl ?_
  refine x_ld 0 1 2 54 rfl rfl rfl rfl rfl ?_
  refine g_0_8 44 57 rfl rfl ((rd_nk (Ne.symm (by decide))).trans h08) rfl ?_
  refine x_ld 1 1 0 58 rfl rfl rfl rfl rfl ?_
  refine x_cst (zi 0) 1 59 rfl rfl rfl ?_
  refine x_ce 132 76 62 [.ref p, zi ((tx_num s : Nat) : Int), zi ((tx_num w : Nat) : Int), zi 0] rfl rfl rfl (Nat.le_of_ble_eq_true rfl) rfl rfl (Nat.le_of_ble_eq_true rfl) ⟨_, _, _, rfl, oP hP⟩ (Nat.le_of_ble_eq_true rfl) (by rw [ep]; exact c76 (L := L) (xs := xs) (es := es) (ps := ps) (c := k + 1) k (by omega) (d + 79) (by omega) (sI M 0 10 0) (cls_f hc) 0 s w (by omega) hs hw hs6 hw6 hsS hb hsv) rfl ?_
  rintro v M2 ⟨x, rfl, rfl, hF2, hO2⟩
  have hu := Fpt_u hg (by omega) hF2
  have hc2 := cls_Fu (cls_f hc) (by omega) hF2
  have hmk := hc2.2.2.1 k (by omega)
  rw [nz_gt hl]
  refine x_st 3 1 0 63 [some (.ref 0), some (zi ((tx_num w : Nat) : Int)), some (.ref p), some (zi (-2))] rfl rfl rfl (Nat.le_of_ble_eq_true rfl) rfl rfl ?_
  refine x_ld 3 1 0 64 rfl rfl rfl rfl rfl ?_
  refine z_iflt 86 67 rfl rfl rfl (rg_lit (-2) rfl) (fun _ => ?_) (fun c => absurd c (by omega))
  refine x_ld 3 1 0 87 rfl rfl rfl rfl rfl ?_
  refine x_ret rfl rfl rfl rfl ?_
  refine ⟨_, M2, rfl, rfl, rfl, ⟨fun a h1 h2 h3 => hu.1 a h1 h3, fun j hj => (congrFun hu.2.1 j).trans (rd_nk hj), hu.2.2⟩, hc2, .inr ⟨fun h => hl h.1, (congrFun hu.2.1 10).trans rd_eq⟩⟩
theorem c75_y7 (d : Nat) {b : Nat} {ps : Nat → prt} {k : Nat} (hc : cls b M ps (k + 1)) (h3 : M.2.2 0 3 = b) (hb5 : M.2.2 b 5 = b + 3 + 9 * k) (h05 : M.1 0 5 = 1) {s : List Nat} (hs : tx_L s) (hs6 : s.length ≤ 6) (h08 : M.1 0 8 = ((tx_num s : Nat) : Int)) (hsS : (sts ps k).1 (tx_num s) = true) (hsv : (sem_sh (pgo ps) k s).length ≤ 6) {w : List Nat} (hw : tx_L w) (hw6 : w.length ≤ 6) (hb : (sts ps k).2 (tx_num w) = true) (hl : (sem_pu (pgo ps) k s w).length ≤ 6) (hK : 7 ≤ (ps k).1) : ab_Z (pg_G L xs) (d + 80) 75 [.ref 0, zi (tx_num w : Nat)] M es (fun v M' => v = some (zi (nz (sem_pu (pgo ps) k s w))) ∧ Fpt b M M' ∧ cls b M' ps (k + 1) ∧ ogQ ps k s w (M'.1 0 10) (M'.1 569)) := by
  obtain ⟨p, ep⟩ : ∃ p, p = b + 3 + 9 * k := ⟨_, rfl⟩
  rw [← ep] at hb5
  have hg := hc.1
  have hc31 := hc.2.1
  have hP : isP p := by rw [ep]; exact isP_A hc.1 (by omega)
  have hge := isP_ge hP
  have hgl := isG_lt hg
  have aS : ag (sN (M.2.1 (p + 2))) (sts ps k).1 := by rw [ep]; exact (hc.2.2.2.1 k (by omega)).2.1
  have aV : ag (sN (M.2.1 (p + 4))) (sts ps k).2 := by rw [ep]; exact (hc.2.2.2.1 k (by omega)).2.2
  have hz := sts_z1 (ps := ps) k (fun j hj => hc.2.2.2.2 j (by omega))
  have ht := (tx_six hw).mp hw6
  have hts := (tx_six hs).mp hs6
  have hpl := (tx_six (pu_L (cls_gds hc) k (by omega) s w hs hw)).mp hl
  show ab_W (pg_G L xs) (ab_X (pg_G L xs) (d + 79)) 75 _ 0 [some (.ref 0), some (zi ((tx_num w : Nat) : Int)), none, none] [] (hp M ++ es)
  refine x_ld 0 1 2 1 rfl rfl rfl rfl rfl ?_
  refine x_cv 96 55 4 [.ref 0] rfl rfl rfl (Nat.le_of_ble_eq_true rfl) rfl rfl (Nat.le_of_ble_eq_true rfl) ⟨_, _, _, rfl, o_0⟩ (Nat.le_of_ble_eq_true rfl) (c55 (M := M) (d + 78) h05) rfl ?_
  refine x_ld 0 1 2 5 rfl rfl rfl rfl rfl ?_
  refine g_0_8 44 8 rfl rfl h08 rfl ?_
  refine x_cst (zi (-1)) 1 9 rfl rfl rfl ?_
  refine z_icne 22 12 rfl rfl rfl ⟨by omega, by omega⟩ (rg_lit (-1) rfl) (fun _ => ?_) (fun c => absurd c (by omega))
  refine x_ld 1 1 0 23 rfl rfl rfl rfl rfl ?_
  refine x_cv 115 59 26 [zi ((tx_num w : Nat) : Int)] rfl rfl rfl (Nat.le_of_ble_eq_true rfl) rfl rfl (Nat.le_of_ble_eq_true rfl) trivial (Nat.le_of_ble_eq_true rfl) (c59_t (M := M) (d + 78) (by omega) (by omega)) rfl ?_
  refine x_ld 0 1 2 27 rfl rfl rfl rfl rfl ?_
  refine x_cst (zi 0) 1 28 rfl rfl rfl ?_
  refine s_0_10 51 31 rfl rfl rfl rfl rfl rfl ?_
  refine x_ld 0 1 2 32 rfl rfl rfl rfl rfl ?_
  refine g_0_3 27 35 rfl rfl h3 rfl ?_
  refine g_G_5 hg 101 38 rfl rfl hb5 rfl ?_
  refine x_st 2 1 2 39 [some (.ref 0), some (zi ((tx_num w : Nat) : Int)), some (.ref p), none] rfl rfl rfl (Nat.le_of_ble_eq_true rfl) rfl rfl ?_
  refine x_ld 2 1 2 40 rfl rfl rfl rfl rfl ?_
  refine g_P_6 hP 112 43 rfl rfl rfl ?_
  refine x_ld 1 1 0 44 rfl rfl rfl rfl rfl ?_
  refine x_cv 119 38 47 [.ref (p + 3), zi ((tx_num w : Nat) : Int)] rfl rfl rfl (Nat.le_of_ble_eq_true rfl) rfl rfl (Nat.le_of_ble_eq_true rfl) ⟨_, _, _, rfl, oT (iT_P3 hP)⟩ (Nat.le_of_ble_eq_true rfl) (by have q := c38 (L := L) (xs := xs) (es := es) (M := (sI M 0 10 0)) (d + 78) (iT_P3 hP) (t := ((tx_num w : Nat) : Int)) ⟨by omega, by omega⟩; rw [hasB_in (B := (sI M 0 10 0).2.1 (p + 4)) (t := ((tx_num w : Nat) : Int)) (by omega) (by omega), show (sI M 0 10 0).2.1 (p + 4) ((tx_num w : Nat) : Int) = true from (aV (tx_num w) (by omega)).trans hb] at q; exact q) rfl ?_
  refine z_ifne 52 50 rfl rfl rfl (rg_lit 1 rfl) (fun _ => ?_) (fun c => absurd c (by decide))
  refine x_ld 2 1 2 53 rfl rfl rfl rfl rfl ?_
  refine x_ld 0 1 2 54 rfl rfl rfl rfl rfl ?_
  refine g_0_8 44 57 rfl rfl ((rd_nk (Ne.symm (by decide))).trans h08) rfl ?_
  refine x_ld 1 1 0 58 rfl rfl rfl rfl rfl ?_
  refine x_cst (zi 0) 1 59 rfl rfl rfl ?_
  refine x_ce 132 76 62 [.ref p, zi ((tx_num s : Nat) : Int), zi ((tx_num w : Nat) : Int), zi 0] rfl rfl rfl (Nat.le_of_ble_eq_true rfl) rfl rfl (Nat.le_of_ble_eq_true rfl) ⟨_, _, _, rfl, oP hP⟩ (Nat.le_of_ble_eq_true rfl) (by rw [ep]; exact c76 (L := L) (xs := xs) (es := es) (ps := ps) (c := k + 1) k (by omega) (d + 79) (by omega) (sI M 0 10 0) (cls_f hc) 0 s w (by omega) hs hw hs6 hw6 hsS hb hsv) rfl ?_
  rintro v M2 ⟨x, rfl, rfl, hF2, hO2⟩
  have hu := Fpt_u hg (by omega) hF2
  have hc2 := cls_Fu (cls_f hc) (by omega) hF2
  have hmk := hc2.2.2.1 k (by omega)
  rw [nz_le hl]
  have hk0 : M2.1 p 0 = (((ps k).1 : Nat) : Int) := by rw [ep]; exact hmk.1
  have hK8 := (hc.2.2.2.2 k (by omega)).1
  refine x_st 3 1 0 63 [some (.ref 0), some (zi ((tx_num w : Nat) : Int)), some (.ref p), some (zi ((tx_num (sem_pu (pgo ps) k s w) : Nat) : Int))] rfl rfl rfl (Nat.le_of_ble_eq_true rfl) rfl rfl ?_
  refine x_ld 3 1 0 64 rfl rfl rfl rfl rfl ?_
  refine z_iflt 86 67 rfl rfl rfl ⟨by omega, by omega⟩ (fun c => absurd c (by omega)) (fun _ => ?_)
  refine x_ld 2 1 2 68 rfl rfl rfl rfl rfl ?_
  refine x_cv 136 91 71 [.ref p] rfl rfl rfl (Nat.le_of_ble_eq_true rfl) rfl rfl (Nat.le_of_ble_eq_true rfl) ⟨_, _, _, rfl, oP hP⟩ (Nat.le_of_ble_eq_true rfl) (c91_y (M := M2) (d + 78) hP hk0 ⟨by omega, by omega⟩) rfl ?_
  refine z_ifeq 86 74 rfl rfl rfl (rg_lit 1 rfl) (fun c => absurd c (by decide)) (fun _ => ?_)
  refine x_ld 0 1 2 75 rfl rfl rfl rfl rfl ?_
  refine x_ld 2 1 2 76 rfl rfl rfl rfl rfl ?_
  refine x_ld 0 1 2 77 rfl rfl rfl rfl rfl ?_
  refine g_0_9 47 80 rfl rfl rfl ?_
  refine x_cv 140 92 83 [.ref p, .ref 569] rfl rfl rfl (Nat.le_of_ble_eq_true rfl) rfl rfl (Nat.le_of_ble_eq_true rfl) ⟨_, _, _, rfl, oP hP⟩ (Nat.le_of_ble_eq_true rfl) (c92 (M := M2) (d + 78) hP) rfl ?_
  refine s_0_10 51 86 rfl rfl rfl rfl rfl rfl ?_
  refine x_ld 3 1 0 87 rfl rfl rfl rfl rfl ?_
  refine x_ret rfl rfl rfl rfl ?_
  refine ⟨_, _, rfl, rfl, rfl, ⟨fun a h1 h2 h3 => ?_, fun j hj => ?_, hu.2.2⟩, ?_, ?_⟩
  · rw [sI_ne h1, rI_ne h2]; exact hu.1 a h1 h3
  · exact (rd_nk hj).trans ((rd_ra (by decide)).trans ((congrFun hu.2.1 j).trans (rd_nk hj)))
  · have t : cls b (rI M2 569 (cpI 6 (M2.1 (p + 8)) (M2.1 569))) ps (k + 1) := by
      refine ⟨hc2.1, hc2.2.1, fun q hq => ?_, hc2.2.2.2.1, hc2.2.2.2.2⟩
      have u := hc2.2.2.1 q hq
      rw [rI_ne (show b + 3 + 9 * q ≠ 569 by omega)]; exact u
    exact cls_f t
  · have ho := hO2 hK
    rw [← ep] at ho
    refine .inl ⟨⟨hl, hK⟩, rd_eq.trans ho.1, fun i hi => ?_⟩
    rw [sI_ne (by decide), rI_at]; unfold cpI
    have h6i := rps_len (sts ps (ps k).2.1).2 (sts ps k).2 w
    rw [if_pos ⟨by omega, by omega⟩]; exact ho.2 i hi
theorem c75_y6 (d : Nat) {b : Nat} {ps : Nat → prt} {k : Nat} (hc : cls b M ps (k + 1)) (h3 : M.2.2 0 3 = b) (hb5 : M.2.2 b 5 = b + 3 + 9 * k) (h05 : M.1 0 5 = 1) {s : List Nat} (hs : tx_L s) (hs6 : s.length ≤ 6) (h08 : M.1 0 8 = ((tx_num s : Nat) : Int)) (hsS : (sts ps k).1 (tx_num s) = true) (hsv : (sem_sh (pgo ps) k s).length ≤ 6) {w : List Nat} (hw : tx_L w) (hw6 : w.length ≤ 6) (hb : (sts ps k).2 (tx_num w) = true) (hl : (sem_pu (pgo ps) k s w).length ≤ 6) (hK : ¬ 7 ≤ (ps k).1) : ab_Z (pg_G L xs) (d + 80) 75 [.ref 0, zi (tx_num w : Nat)] M es (fun v M' => v = some (zi (nz (sem_pu (pgo ps) k s w))) ∧ Fpt b M M' ∧ cls b M' ps (k + 1) ∧ ogQ ps k s w (M'.1 0 10) (M'.1 569)) := by
  obtain ⟨p, ep⟩ : ∃ p, p = b + 3 + 9 * k := ⟨_, rfl⟩
  rw [← ep] at hb5
  have hg := hc.1
  have hc31 := hc.2.1
  have hP : isP p := by rw [ep]; exact isP_A hc.1 (by omega)
  have hge := isP_ge hP
  have hgl := isG_lt hg
  have aS : ag (sN (M.2.1 (p + 2))) (sts ps k).1 := by rw [ep]; exact (hc.2.2.2.1 k (by omega)).2.1
  have aV : ag (sN (M.2.1 (p + 4))) (sts ps k).2 := by rw [ep]; exact (hc.2.2.2.1 k (by omega)).2.2
  have hz := sts_z1 (ps := ps) k (fun j hj => hc.2.2.2.2 j (by omega))
  have ht := (tx_six hw).mp hw6
  have hts := (tx_six hs).mp hs6
  have hpl := (tx_six (pu_L (cls_gds hc) k (by omega) s w hs hw)).mp hl
  show ab_W (pg_G L xs) (ab_X (pg_G L xs) (d + 79)) 75 _ 0 [some (.ref 0), some (zi ((tx_num w : Nat) : Int)), none, none] [] (hp M ++ es)
  refine x_ld 0 1 2 1 rfl rfl rfl rfl rfl ?_
  refine x_cv 96 55 4 [.ref 0] rfl rfl rfl (Nat.le_of_ble_eq_true rfl) rfl rfl (Nat.le_of_ble_eq_true rfl) ⟨_, _, _, rfl, o_0⟩ (Nat.le_of_ble_eq_true rfl) (c55 (M := M) (d + 78) h05) rfl ?_
  refine x_ld 0 1 2 5 rfl rfl rfl rfl rfl ?_
  refine g_0_8 44 8 rfl rfl h08 rfl ?_
  refine x_cst (zi (-1)) 1 9 rfl rfl rfl ?_
  refine z_icne 22 12 rfl rfl rfl ⟨by omega, by omega⟩ (rg_lit (-1) rfl) (fun _ => ?_) (fun c => absurd c (by omega))
  refine x_ld 1 1 0 23 rfl rfl rfl rfl rfl ?_
  refine x_cv 115 59 26 [zi ((tx_num w : Nat) : Int)] rfl rfl rfl (Nat.le_of_ble_eq_true rfl) rfl rfl (Nat.le_of_ble_eq_true rfl) trivial (Nat.le_of_ble_eq_true rfl) (c59_t (M := M) (d + 78) (by omega) (by omega)) rfl ?_
  refine x_ld 0 1 2 27 rfl rfl rfl rfl rfl ?_
  refine x_cst (zi 0) 1 28 rfl rfl rfl ?_
  refine s_0_10 51 31 rfl rfl rfl rfl rfl rfl ?_
  refine x_ld 0 1 2 32 rfl rfl rfl rfl rfl ?_
  refine g_0_3 27 35 rfl rfl h3 rfl ?_
  refine g_G_5 hg 101 38 rfl rfl hb5 rfl ?_
  refine x_st 2 1 2 39 [some (.ref 0), some (zi ((tx_num w : Nat) : Int)), some (.ref p), none] rfl rfl rfl (Nat.le_of_ble_eq_true rfl) rfl rfl ?_
  refine x_ld 2 1 2 40 rfl rfl rfl rfl rfl ?_
  refine g_P_6 hP 112 43 rfl rfl rfl ?_
  refine x_ld 1 1 0 44 rfl rfl rfl rfl rfl ?_
  refine x_cv 119 38 47 [.ref (p + 3), zi ((tx_num w : Nat) : Int)] rfl rfl rfl (Nat.le_of_ble_eq_true rfl) rfl rfl (Nat.le_of_ble_eq_true rfl) ⟨_, _, _, rfl, oT (iT_P3 hP)⟩ (Nat.le_of_ble_eq_true rfl) (by have q := c38 (L := L) (xs := xs) (es := es) (M := (sI M 0 10 0)) (d + 78) (iT_P3 hP) (t := ((tx_num w : Nat) : Int)) ⟨by omega, by omega⟩; rw [hasB_in (B := (sI M 0 10 0).2.1 (p + 4)) (t := ((tx_num w : Nat) : Int)) (by omega) (by omega), show (sI M 0 10 0).2.1 (p + 4) ((tx_num w : Nat) : Int) = true from (aV (tx_num w) (by omega)).trans hb] at q; exact q) rfl ?_
  refine z_ifne 52 50 rfl rfl rfl (rg_lit 1 rfl) (fun _ => ?_) (fun c => absurd c (by decide))
  refine x_ld 2 1 2 53 rfl rfl rfl rfl rfl ?_
  refine x_ld 0 1 2 54 rfl rfl rfl rfl rfl ?_
  refine g_0_8 44 57 rfl rfl ((rd_nk (Ne.symm (by decide))).trans h08) rfl ?_
  refine x_ld 1 1 0 58 rfl rfl rfl rfl rfl ?_
  refine x_cst (zi 0) 1 59 rfl rfl rfl ?_
  refine x_ce 132 76 62 [.ref p, zi ((tx_num s : Nat) : Int), zi ((tx_num w : Nat) : Int), zi 0] rfl rfl rfl (Nat.le_of_ble_eq_true rfl) rfl rfl (Nat.le_of_ble_eq_true rfl) ⟨_, _, _, rfl, oP hP⟩ (Nat.le_of_ble_eq_true rfl) (by rw [ep]; exact c76 (L := L) (xs := xs) (es := es) (ps := ps) (c := k + 1) k (by omega) (d + 79) (by omega) (sI M 0 10 0) (cls_f hc) 0 s w (by omega) hs hw hs6 hw6 hsS hb hsv) rfl ?_
  rintro v M2 ⟨x, rfl, rfl, hF2, hO2⟩
  have hu := Fpt_u hg (by omega) hF2
  have hc2 := cls_Fu (cls_f hc) (by omega) hF2
  have hmk := hc2.2.2.1 k (by omega)
  rw [nz_le hl]
  have hk0 : M2.1 p 0 = (((ps k).1 : Nat) : Int) := by rw [ep]; exact hmk.1
  have hK8 := (hc.2.2.2.2 k (by omega)).1
  refine x_st 3 1 0 63 [some (.ref 0), some (zi ((tx_num w : Nat) : Int)), some (.ref p), some (zi ((tx_num (sem_pu (pgo ps) k s w) : Nat) : Int))] rfl rfl rfl (Nat.le_of_ble_eq_true rfl) rfl rfl ?_
  refine x_ld 3 1 0 64 rfl rfl rfl rfl rfl ?_
  refine z_iflt 86 67 rfl rfl rfl ⟨by omega, by omega⟩ (fun c => absurd c (by omega)) (fun _ => ?_)
  refine x_ld 2 1 2 68 rfl rfl rfl rfl rfl ?_
  refine x_cv 136 91 71 [.ref p] rfl rfl rfl (Nat.le_of_ble_eq_true rfl) rfl rfl (Nat.le_of_ble_eq_true rfl) ⟨_, _, _, rfl, oP hP⟩ (Nat.le_of_ble_eq_true rfl) (c91_n (M := M2) (d + 78) hP hk0 ⟨by omega, by omega⟩) rfl ?_
  refine z_ifeq 86 74 rfl rfl rfl (rg_lit 0 rfl) (fun _ => ?_) (fun c => absurd c (by decide))
  refine x_ld 3 1 0 87 rfl rfl rfl rfl rfl ?_
  refine x_ret rfl rfl rfl rfl ?_
  refine ⟨_, M2, rfl, rfl, rfl, ⟨fun a h1 h2 h3 => hu.1 a h1 h3, fun j hj => (congrFun hu.2.1 j).trans (rd_nk hj), hu.2.2⟩, hc2, .inr ⟨fun h => hK h.2, (congrFun hu.2.1 10).trans rd_eq⟩⟩
end C44
