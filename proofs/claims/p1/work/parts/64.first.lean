/-! OURS, printed by wip/tools/gen64.py: the first call on new objects. -/
section P1
variable {L : Nat} {xs : Nat → Int32}
theorem app_l {h t : ab_H} {i : Nat} {x : ab_O} (e : h[i]? = some x) : (h ++ t)[i]? = some x := by
  rw [List.getElem?_append_left (List.getElem?_eq_some_iff.mp e).1]
  exact e
theorem fc_0 (d : Nat) {Q : ab_Q} {k : Nat} (hL : L ≤ 1024) (hk : k ≤ 2000) (hlt : k + 2 ≤ L) (hc : xs k &&& 15 = 0) (kk : ∀ a b h2, ab_W (pg_G L xs) (ab_X (pg_G L xs) (d + 10)) 0 Q 796 [some (.ref 1000002), some (.ref 0), some (.ref 572), some (.ref 619), some (.int (Int32.ofNat k)), a, b] [] h2) : ab_W (pg_G L xs) (ab_X (pg_G L xs) (d + 10)) 0 Q 23 [some (.ref 1000002), some (.ref 0), some (.ref 572), some (.ref 619), some (.int (Int32.ofNat k)), none, none] [] H0 := by
  obtain ⟨fs, hM, hfs, h2, h3, h4, h5, h30, h31, h35, h36⟩ := H0_M
  have r1 : H0.length + 1 ≤ 600000 := by rw [H0_len]; decide
  have r2 : ab_wt (pg_G L xs) H0 + 6 ≤ 7000000 := by rw [H0_wt]; decide
  have hl1 : (fs.set 2 (.int 1)).length = 68 := by rw [List.length_set, hfs]
  have hf1 : (fs.set 2 (.int 1))[2]? = some (.int 1) := fs_at (by rw [hfs]; decide)
  refine lw_sw0 hL hk hlt hc ?_
  rcases ok_or_bad (xs (k + 1)) with ⟨c, hc4, H⟩ | ⟨c, hc4, H⟩
  · match c, hc4 with
    | 0, _ =>
      have hw := w_50_1 (d + 9) (b := 619) H0_0 (t51_0 (L := L) (xs := xs) (d + 7) (n := 0) H0_0 H0_1 (by decide) (by decide) H (by decide)) ((set_ne (by decide)).trans ((set_ne (by decide)).trans H0_619))
      exact lw_0_1 (o := vp_updL (fun _ => 0) 0 1) hL hlt hw ((set_ne (by decide)).trans ((set_ne (by decide)).trans ((set_ne (by decide)).trans hM))) (t104_0 (d + 9) (n := 0) ((set_ne (by decide)).trans ((set_ne (by decide)).trans ((set_ne (by decide)).trans hM))) hfs h3 h4 ((set_ne (by decide)).trans ((set_ne (by decide)).trans ((set_ne (by decide)).trans H0_575))) (by decide) (by decide) H (by decide)) (set_at ((set_ne (by decide)).trans ((set_ne (by decide)).trans ((set_ne (by decide)).trans ((set_ne (by decide)).trans hM))))) (c_103 (d + 9) (set_at ((set_ne (by decide)).trans ((set_ne (by decide)).trans ((set_ne (by decide)).trans ((set_ne (by decide)).trans hM))))) (by rw [List.length_set, List.length_set, hfs]) ((fs_ne (by decide)).trans (fs_at (by rw [hfs]; decide)))) ((set_ne (by decide)).trans ((set_ne (by decide)).trans (set_at ((set_ne (by decide)).trans ((set_ne (by decide)).trans H0_619))))) rfl (kk _ _ _)
    | 1, _ =>
      have hw := w_50_1 (d + 9) (b := 619) H0_0 (t51_1 (L := L) (xs := xs) (d + 7) (n := 0) H0_0 H0_1 (by decide) (by decide) H (by decide)) ((set_ne (by decide)).trans ((set_ne (by decide)).trans H0_619))
      exact lw_0_1 (o := vp_updL (fun _ => 0) 0 1) hL hlt hw ((set_ne (by decide)).trans ((set_ne (by decide)).trans ((set_ne (by decide)).trans hM))) (t104_1 (d + 9) (n := 0) ((set_ne (by decide)).trans ((set_ne (by decide)).trans ((set_ne (by decide)).trans hM))) hfs h3 h4 ((set_ne (by decide)).trans ((set_ne (by decide)).trans ((set_ne (by decide)).trans H0_575))) (by decide) (by decide) H (by decide)) (set_at ((set_ne (by decide)).trans ((set_ne (by decide)).trans ((set_ne (by decide)).trans ((set_ne (by decide)).trans hM))))) (c_103 (d + 9) (set_at ((set_ne (by decide)).trans ((set_ne (by decide)).trans ((set_ne (by decide)).trans ((set_ne (by decide)).trans hM))))) (by rw [List.length_set, List.length_set, hfs]) ((fs_ne (by decide)).trans (fs_at (by rw [hfs]; decide)))) ((set_ne (by decide)).trans ((set_ne (by decide)).trans (set_at ((set_ne (by decide)).trans ((set_ne (by decide)).trans H0_619))))) rfl (kk _ _ _)
    | 2, _ =>
      have hw := w_50_1 (d + 9) (b := 619) H0_0 (t51_2 (L := L) (xs := xs) (d + 7) (n := 0) H0_0 H0_1 (by decide) (by decide) H (by decide)) ((set_ne (by decide)).trans ((set_ne (by decide)).trans H0_619))
      exact lw_0_1 (o := vp_updL (fun _ => 0) 0 1) hL hlt hw ((set_ne (by decide)).trans ((set_ne (by decide)).trans ((set_ne (by decide)).trans hM))) (t104_2 (d + 9) (n := 0) ((set_ne (by decide)).trans ((set_ne (by decide)).trans ((set_ne (by decide)).trans hM))) hfs h3 h4 ((set_ne (by decide)).trans ((set_ne (by decide)).trans ((set_ne (by decide)).trans H0_575))) (by decide) (by decide) H (by decide)) (set_at ((set_ne (by decide)).trans ((set_ne (by decide)).trans ((set_ne (by decide)).trans ((set_ne (by decide)).trans hM))))) (c_103 (d + 9) (set_at ((set_ne (by decide)).trans ((set_ne (by decide)).trans ((set_ne (by decide)).trans ((set_ne (by decide)).trans hM))))) (by rw [List.length_set, List.length_set, hfs]) ((fs_ne (by decide)).trans (fs_at (by rw [hfs]; decide)))) ((set_ne (by decide)).trans ((set_ne (by decide)).trans (set_at ((set_ne (by decide)).trans ((set_ne (by decide)).trans H0_619))))) rfl (kk _ _ _)
    | 3, _ =>
      have hw := w_50_1 (d + 9) (b := 619) H0_0 (t51_3 (L := L) (xs := xs) (d + 7) (n := 0) H0_0 H0_1 (by decide) (by decide) H (by decide)) ((set_ne (by decide)).trans ((set_ne (by decide)).trans H0_619))
      exact lw_0_1 (o := vp_updL (fun _ => 0) 0 1) hL hlt hw ((set_ne (by decide)).trans ((set_ne (by decide)).trans ((set_ne (by decide)).trans hM))) (t104_3 (d + 9) (n := 0) ((set_ne (by decide)).trans ((set_ne (by decide)).trans ((set_ne (by decide)).trans hM))) hfs h3 h4 ((set_ne (by decide)).trans ((set_ne (by decide)).trans ((set_ne (by decide)).trans H0_575))) (by decide) (by decide) H (by decide)) (set_at ((set_ne (by decide)).trans ((set_ne (by decide)).trans ((set_ne (by decide)).trans ((set_ne (by decide)).trans hM))))) (c_103 (d + 9) (set_at ((set_ne (by decide)).trans ((set_ne (by decide)).trans ((set_ne (by decide)).trans ((set_ne (by decide)).trans hM))))) (by rw [List.length_set, List.length_set, hfs]) ((fs_ne (by decide)).trans (fs_at (by rw [hfs]; decide)))) ((set_ne (by decide)).trans ((set_ne (by decide)).trans (set_at ((set_ne (by decide)).trans ((set_ne (by decide)).trans H0_619))))) rfl (kk _ _ _)
    | 4, _ =>
      have hw := w_50_1 (d + 9) (b := 619) H0_0 (t51_4 (L := L) (xs := xs) (d + 7) (n := 0) H0_0 H0_1 (by decide) (by decide) H (by decide)) ((set_ne (by decide)).trans ((set_ne (by decide)).trans H0_619))
      exact lw_0_1 (o := vp_updL (fun _ => 0) 0 1) hL hlt hw ((set_ne (by decide)).trans ((set_ne (by decide)).trans ((set_ne (by decide)).trans hM))) (t104_4 (d + 9) (n := 0) ((set_ne (by decide)).trans ((set_ne (by decide)).trans ((set_ne (by decide)).trans hM))) hfs h3 h4 ((set_ne (by decide)).trans ((set_ne (by decide)).trans ((set_ne (by decide)).trans H0_575))) (by decide) (by decide) H (by decide)) (set_at ((set_ne (by decide)).trans ((set_ne (by decide)).trans ((set_ne (by decide)).trans ((set_ne (by decide)).trans hM))))) (c_103 (d + 9) (set_at ((set_ne (by decide)).trans ((set_ne (by decide)).trans ((set_ne (by decide)).trans ((set_ne (by decide)).trans hM))))) (by rw [List.length_set, List.length_set, hfs]) ((fs_ne (by decide)).trans (fs_at (by rw [hfs]; decide)))) ((set_ne (by decide)).trans ((set_ne (by decide)).trans (set_at ((set_ne (by decide)).trans ((set_ne (by decide)).trans H0_619))))) rfl (kk _ _ _)
    | n + 5, h => exact absurd h (by omega)
  · match c, hc4 with
    | 0, _ =>
      have hw := y_50_6 (d + 9) (b := 619) H0_0 (b51_0 (L := L) (xs := xs) (d + 7) (n := 0) H0_0 H0_1 (by decide) (by decide) H r1 r2)
      exact lw_0_x (w := 1) (v := 0) hL hlt hw (app_l hM) (b104_0 (d + 9) (n := 0) (app_l hM) hfs h3 h4 (app_l H0_575) (by decide) (by decide) H) (set_at (app_l hM)) (c_103 (d + 9) (set_at (app_l hM)) hl1 hf1) (by decide) (kk _ _ _)
    | 1, _ =>
      have hw := y_50_6 (d + 9) (b := 619) H0_0 (b51_1 (L := L) (xs := xs) (d + 7) (n := 0) H0_0 H0_1 (by decide) (by decide) H r1 r2)
      exact lw_0_x (w := 1) (v := 0) hL hlt hw (app_l hM) (b104_1 (d + 9) (n := 0) (app_l hM) hfs h3 h4 (app_l H0_575) (by decide) (by decide) H) (set_at (app_l hM)) (c_103 (d + 9) (set_at (app_l hM)) hl1 hf1) (by decide) (kk _ _ _)
    | 2, _ =>
      have hw := y_50_6 (d + 9) (b := 619) H0_0 (b51_2 (L := L) (xs := xs) (d + 7) (n := 0) H0_0 H0_1 (by decide) (by decide) H r1 r2)
      exact lw_0_x (w := 1) (v := 0) hL hlt hw (app_l hM) (b104_2 (d + 9) (n := 0) (app_l hM) hfs h3 h4 (app_l H0_575) (by decide) (by decide) H) (set_at (app_l hM)) (c_103 (d + 9) (set_at (app_l hM)) hl1 hf1) (by decide) (kk _ _ _)
    | 3, _ =>
      have hw := y_50_6 (d + 9) (b := 619) H0_0 (b51_3 (L := L) (xs := xs) (d + 7) (n := 0) H0_0 H0_1 (by decide) (by decide) H r1 r2)
      exact lw_0_x (w := 1) (v := 0) hL hlt hw (app_l hM) (b104_3 (d + 9) (n := 0) (app_l hM) hfs h3 h4 (app_l H0_575) (by decide) (by decide) H) (set_at (app_l hM)) (c_103 (d + 9) (set_at (app_l hM)) hl1 hf1) (by decide) (kk _ _ _)
    | n + 4, h => exact absurd h (by omega)
theorem fc_1 (d : Nat) {Q : ab_Q} {k : Nat} (hL : L ≤ 1024) (hk : k ≤ 2000) (hlt : k + 2 ≤ L) (hc : xs k &&& 15 = 1) (kk : ∀ a b h2, ab_W (pg_G L xs) (ab_X (pg_G L xs) (d + 10)) 0 Q 796 [some (.ref 1000002), some (.ref 0), some (.ref 572), some (.ref 619), some (.int (Int32.ofNat k)), a, b] [] h2) : ab_W (pg_G L xs) (ab_X (pg_G L xs) (d + 10)) 0 Q 23 [some (.ref 1000002), some (.ref 0), some (.ref 572), some (.ref 619), some (.int (Int32.ofNat k)), none, none] [] H0 := by
  obtain ⟨fs, hM, hfs, h2, h3, h4, h5, h30, h31, h35, h36⟩ := H0_M
  have r1 : H0.length + 1 ≤ 600000 := by rw [H0_len]; decide
  have r2 : ab_wt (pg_G L xs) H0 + 6 ≤ 7000000 := by rw [H0_wt]; decide
  have hl1 : (fs.set 2 (.int 1)).length = 68 := by rw [List.length_set, hfs]
  have hf1 : (fs.set 2 (.int 1))[2]? = some (.int 1) := fs_at (by rw [hfs]; decide)
  refine lw_sw1 hL hk hlt hc ?_
  exact lw_1 (v := 1) hL hlt H0_0 (e_7 (d + 3) H0_0 H0_287 H0_288 H0_1 (by decide) (by decide) (by decide) (by decide) (by decide)) ((set_ne (by decide)).trans ((set_ne (by decide)).trans hM)) (e_105 (d + 8) ((set_ne (by decide)).trans ((set_ne (by decide)).trans hM)) hfs h4) (kk _ _ _)
theorem fc_2 (d : Nat) {Q : ab_Q} {k : Nat} (hL : L ≤ 1024) (hk : k ≤ 2000) (hlt : k + 2 ≤ L) (hc : xs k &&& 15 = 2) (kk : ∀ a b h2, ab_W (pg_G L xs) (ab_X (pg_G L xs) (d + 10)) 0 Q 796 [some (.ref 1000002), some (.ref 0), some (.ref 572), some (.ref 619), some (.int (Int32.ofNat k)), a, b] [] h2) : ab_W (pg_G L xs) (ab_X (pg_G L xs) (d + 10)) 0 Q 23 [some (.ref 1000002), some (.ref 0), some (.ref 572), some (.ref 619), some (.int (Int32.ofNat k)), none, none] [] H0 := by
  obtain ⟨fs, hM, hfs, h2, h3, h4, h5, h30, h31, h35, h36⟩ := H0_M
  have r1 : H0.length + 1 ≤ 600000 := by rw [H0_len]; decide
  have r2 : ab_wt (pg_G L xs) H0 + 6 ≤ 7000000 := by rw [H0_wt]; decide
  have hl1 : (fs.set 2 (.int 1)).length = 68 := by rw [List.length_set, hfs]
  have hf1 : (fs.set 2 (.int 1))[2]? = some (.int 1) := fs_at (by rw [hfs]; decide)
  refine lw_sw2 hL hk hlt hc ?_
  exact lw_2 (v := 0) hL hlt H0_0 (c_47 (d + 9) H0_0) hM (c_129 (d + 9) hM hfs h30) (kk _ _ _)
theorem fc_3 (d : Nat) {Q : ab_Q} {k : Nat} (hL : L ≤ 1024) (hk : k ≤ 2000) (hlt : k + 2 ≤ L) (hc : xs k &&& 15 = 3) (kk : ∀ a b h2, ab_W (pg_G L xs) (ab_X (pg_G L xs) (d + 10)) 0 Q 796 [some (.ref 1000002), some (.ref 0), some (.ref 572), some (.ref 619), some (.int (Int32.ofNat k)), a, b] [] h2) : ab_W (pg_G L xs) (ab_X (pg_G L xs) (d + 10)) 0 Q 23 [some (.ref 1000002), some (.ref 0), some (.ref 572), some (.ref 619), some (.int (Int32.ofNat k)), none, none] [] H0 := by
  obtain ⟨fs, hM, hfs, h2, h3, h4, h5, h30, h31, h35, h36⟩ := H0_M
  have r1 : H0.length + 1 ≤ 600000 := by rw [H0_len]; decide
  have r2 : ab_wt (pg_G L xs) H0 + 6 ≤ 7000000 := by rw [H0_wt]; decide
  have hl1 : (fs.set 2 (.int 1)).length = 68 := by rw [List.length_set, hfs]
  have hf1 : (fs.set 2 (.int 1))[2]? = some (.int 1) := fs_at (by rw [hfs]; decide)
  refine lw_sw3 hL hk hlt hc ?_
  exact lw_3 (v := -1) hL hlt H0_0 (c_48 (d + 9) H0_0) hM (c_130 (d + 9) hM hfs h31) (kk _ _ _)
theorem fc_4 (d : Nat) {Q : ab_Q} {k : Nat} (hL : L ≤ 1024) (hk : k ≤ 2000) (hlt : k + 2 ≤ L) (hc : xs k &&& 15 = 4) (kk : ∀ a b h2, ab_W (pg_G L xs) (ab_X (pg_G L xs) (d + 10)) 0 Q 796 [some (.ref 1000002), some (.ref 0), some (.ref 572), some (.ref 619), some (.int (Int32.ofNat k)), a, b] [] h2) : ab_W (pg_G L xs) (ab_X (pg_G L xs) (d + 10)) 0 Q 23 [some (.ref 1000002), some (.ref 0), some (.ref 572), some (.ref 619), some (.int (Int32.ofNat k)), none, none] [] H0 := by
  obtain ⟨fs, hM, hfs, h2, h3, h4, h5, h30, h31, h35, h36⟩ := H0_M
  have r1 : H0.length + 1 ≤ 600000 := by rw [H0_len]; decide
  have r2 : ab_wt (pg_G L xs) H0 + 6 ≤ 7000000 := by rw [H0_wt]; decide
  have hl1 : (fs.set 2 (.int 1)).length = 68 := by rw [List.length_set, hfs]
  have hf1 : (fs.set 2 (.int 1))[2]? = some (.int 1) := fs_at (by rw [hfs]; decide)
  refine lw_sw4 hL hk hlt hc ?_
  exact lw_4_x (w := 1) (v := 0) hL hlt (n_53 (d + 7) H0_0 r1 r2) (app_l hM) (m_131 (d + 8) (app_l hM) hfs h5) (set_at (app_l hM)) (c_103 (d + 9) (set_at (app_l hM)) hl1 hf1) (by decide) (kk _ _ _)
theorem fc_5 (d : Nat) {Q : ab_Q} {k : Nat} (hL : L ≤ 1024) (hk : k ≤ 2000) (hlt : k + 2 ≤ L) (hc : xs k &&& 15 = 5) (kk : ∀ a b h2, ab_W (pg_G L xs) (ab_X (pg_G L xs) (d + 10)) 0 Q 796 [some (.ref 1000002), some (.ref 0), some (.ref 572), some (.ref 619), some (.int (Int32.ofNat k)), a, b] [] h2) : ab_W (pg_G L xs) (ab_X (pg_G L xs) (d + 10)) 0 Q 23 [some (.ref 1000002), some (.ref 0), some (.ref 572), some (.ref 619), some (.int (Int32.ofNat k)), none, none] [] H0 := by
  obtain ⟨fs, hM, hfs, h2, h3, h4, h5, h30, h31, h35, h36⟩ := H0_M
  have r1 : H0.length + 1 ≤ 600000 := by rw [H0_len]; decide
  have r2 : ab_wt (pg_G L xs) H0 + 6 ≤ 7000000 := by rw [H0_wt]; decide
  have hl1 : (fs.set 2 (.int 1)).length = 68 := by rw [List.length_set, hfs]
  have hf1 : (fs.set 2 (.int 1))[2]? = some (.int 1) := fs_at (by rw [hfs]; decide)
  refine lw_sw5 hL hk hlt hc ?_
  exact lw_5_x (w := 1) (v := 0) hL hlt (n_57 (d + 7) H0_0 r1 r2) (app_l hM) (m_134 (d + 8) (app_l hM) hfs h5) (set_at (app_l hM)) (c_103 (d + 9) (set_at (app_l hM)) hl1 hf1) (by decide) (kk _ _ _)
theorem fc_6 (d : Nat) {Q : ab_Q} {k : Nat} (hL : L ≤ 1024) (hk : k ≤ 2000) (hlt : k + 2 ≤ L) (hc : xs k &&& 15 = 6) (kk : ∀ a b h2, ab_W (pg_G L xs) (ab_X (pg_G L xs) (d + 10)) 0 Q 796 [some (.ref 1000002), some (.ref 0), some (.ref 572), some (.ref 619), some (.int (Int32.ofNat k)), a, b] [] h2) : ab_W (pg_G L xs) (ab_X (pg_G L xs) (d + 10)) 0 Q 23 [some (.ref 1000002), some (.ref 0), some (.ref 572), some (.ref 619), some (.int (Int32.ofNat k)), none, none] [] H0 := by
  obtain ⟨fs, hM, hfs, h2, h3, h4, h5, h30, h31, h35, h36⟩ := H0_M
  have r1 : H0.length + 1 ≤ 600000 := by rw [H0_len]; decide
  have r2 : ab_wt (pg_G L xs) H0 + 6 ≤ 7000000 := by rw [H0_wt]; decide
  have hl1 : (fs.set 2 (.int 1)).length = 68 := by rw [List.length_set, hfs]
  have hf1 : (fs.set 2 (.int 1))[2]? = some (.int 1) := fs_at (by rw [hfs]; decide)
  refine lw_sw6 hL hk hlt hc ?_
  exact lw_6_x (w := 1) (v := 0) hL hlt (n_60 (d + 7) H0_0 r1 r2) (app_l hM) (m_136 (d + 8) (app_l hM) hfs h5) (set_at (app_l hM)) (c_103 (d + 9) (set_at (app_l hM)) hl1 hf1) (by decide) (kk _ _ _)
theorem fc_7 (d : Nat) {Q : ab_Q} {k : Nat} (hL : L ≤ 1024) (hk : k ≤ 2000) (hlt : k + 2 ≤ L) (hc : xs k &&& 15 = 7) (kk : ∀ a b h2, ab_W (pg_G L xs) (ab_X (pg_G L xs) (d + 10)) 0 Q 796 [some (.ref 1000002), some (.ref 0), some (.ref 572), some (.ref 619), some (.int (Int32.ofNat k)), a, b] [] h2) : ab_W (pg_G L xs) (ab_X (pg_G L xs) (d + 10)) 0 Q 23 [some (.ref 1000002), some (.ref 0), some (.ref 572), some (.ref 619), some (.int (Int32.ofNat k)), none, none] [] H0 := by
  obtain ⟨fs, hM, hfs, h2, h3, h4, h5, h30, h31, h35, h36⟩ := H0_M
  have r1 : H0.length + 1 ≤ 600000 := by rw [H0_len]; decide
  have r2 : ab_wt (pg_G L xs) H0 + 6 ≤ 7000000 := by rw [H0_wt]; decide
  have hl1 : (fs.set 2 (.int 1)).length = 68 := by rw [List.length_set, hfs]
  have hf1 : (fs.set 2 (.int 1))[2]? = some (.int 1) := fs_at (by rw [hfs]; decide)
  refine lw_sw7 hL hk hlt hc ?_
  exact lw_7_x (w := 1) (v := 0) hL hlt (n_62 (d + 7) H0_0 r1 r2) (app_l hM) (m_137 (d + 8) (app_l hM) hfs h5) (set_at (app_l hM)) (c_103 (d + 9) (set_at (app_l hM)) hl1 hf1) (by decide) (kk _ _ _)
theorem fc_8 (d : Nat) {Q : ab_Q} {k : Nat} (hL : L ≤ 1024) (hk : k ≤ 2000) (hlt : k + 2 ≤ L) (hc : xs k &&& 15 = 8) (kk : ∀ a b h2, ab_W (pg_G L xs) (ab_X (pg_G L xs) (d + 10)) 0 Q 796 [some (.ref 1000002), some (.ref 0), some (.ref 572), some (.ref 619), some (.int (Int32.ofNat k)), a, b] [] h2) : ab_W (pg_G L xs) (ab_X (pg_G L xs) (d + 10)) 0 Q 23 [some (.ref 1000002), some (.ref 0), some (.ref 572), some (.ref 619), some (.int (Int32.ofNat k)), none, none] [] H0 := by
  obtain ⟨fs, hM, hfs, h2, h3, h4, h5, h30, h31, h35, h36⟩ := H0_M
  have r1 : H0.length + 1 ≤ 600000 := by rw [H0_len]; decide
  have r2 : ab_wt (pg_G L xs) H0 + 6 ≤ 7000000 := by rw [H0_wt]; decide
  have hl1 : (fs.set 2 (.int 1)).length = 68 := by rw [List.length_set, hfs]
  have hf1 : (fs.set 2 (.int 1))[2]? = some (.int 1) := fs_at (by rw [hfs]; decide)
  refine lw_sw8 hL hk hlt hc ?_
  exact lw_8_x (w := 1) (v := 0) hL hlt (n_72 (d + 7) H0_0 r1 r2) (app_l hM) (m_148 (d + 8) (app_l hM) hfs h5) (set_at (app_l hM)) (c_103 (d + 9) (set_at (app_l hM)) hl1 hf1) (by decide) (kk _ _ _)
theorem fc_9 (d : Nat) {Q : ab_Q} {k : Nat} (hL : L ≤ 1024) (hk : k ≤ 2000) (hlt : k + 2 ≤ L) (hc : xs k &&& 15 = 9) (kk : ∀ a b h2, ab_W (pg_G L xs) (ab_X (pg_G L xs) (d + 10)) 0 Q 796 [some (.ref 1000002), some (.ref 0), some (.ref 572), some (.ref 619), some (.int (Int32.ofNat k)), a, b] [] h2) : ab_W (pg_G L xs) (ab_X (pg_G L xs) (d + 10)) 0 Q 23 [some (.ref 1000002), some (.ref 0), some (.ref 572), some (.ref 619), some (.int (Int32.ofNat k)), none, none] [] H0 := by
  obtain ⟨fs, hM, hfs, h2, h3, h4, h5, h30, h31, h35, h36⟩ := H0_M
  have r1 : H0.length + 1 ≤ 600000 := by rw [H0_len]; decide
  have r2 : ab_wt (pg_G L xs) H0 + 6 ≤ 7000000 := by rw [H0_wt]; decide
  have hl1 : (fs.set 2 (.int 1)).length = 68 := by rw [List.length_set, hfs]
  have hf1 : (fs.set 2 (.int 1))[2]? = some (.int 1) := fs_at (by rw [hfs]; decide)
  refine lw_sw9 hL hk hlt hc ?_
  exact lw_9_x (w := 1) (v := 0) hL hlt (n_74 (d + 7) H0_0 r1 r2) (app_l hM) (m_149 (d + 8) (app_l hM) hfs h5) (set_at (app_l hM)) (c_103 (d + 9) (set_at (app_l hM)) hl1 hf1) (by decide) (kk _ _ _)
theorem fc_10 (d : Nat) {Q : ab_Q} {k : Nat} (hL : L ≤ 1024) (hk : k ≤ 2000) (hlt : k + 2 ≤ L) (hc : xs k &&& 15 = 10) (kk : ∀ a b h2, ab_W (pg_G L xs) (ab_X (pg_G L xs) (d + 10)) 0 Q 796 [some (.ref 1000002), some (.ref 0), some (.ref 572), some (.ref 619), some (.int (Int32.ofNat k)), a, b] [] h2) : ab_W (pg_G L xs) (ab_X (pg_G L xs) (d + 10)) 0 Q 23 [some (.ref 1000002), some (.ref 0), some (.ref 572), some (.ref 619), some (.int (Int32.ofNat k)), none, none] [] H0 := by
  obtain ⟨fs, hM, hfs, h2, h3, h4, h5, h30, h31, h35, h36⟩ := H0_M
  have r1 : H0.length + 1 ≤ 600000 := by rw [H0_len]; decide
  have r2 : ab_wt (pg_G L xs) H0 + 6 ≤ 7000000 := by rw [H0_wt]; decide
  have hl1 : (fs.set 2 (.int 1)).length = 68 := by rw [List.length_set, hfs]
  have hf1 : (fs.set 2 (.int 1))[2]? = some (.int 1) := fs_at (by rw [hfs]; decide)
  refine lw_sw10 hL hk hlt hc ?_
  exact lw_10_x (w := 1) (v := 0) hL hlt (n_93 (d + 7) H0_0 r1 r2) (app_l hM) (m_162 (d + 8) (app_l hM) hfs h5) (set_at (app_l hM)) (c_103 (d + 9) (set_at (app_l hM)) hl1 hf1) (by decide) (kk _ _ _)
theorem fc_11 (d : Nat) {Q : ab_Q} {k : Nat} (hL : L ≤ 1024) (hk : k ≤ 2000) (hlt : k + 2 ≤ L) (hc : xs k &&& 15 = 11) (kk : ∀ a b h2, ab_W (pg_G L xs) (ab_X (pg_G L xs) (d + 10)) 0 Q 796 [some (.ref 1000002), some (.ref 0), some (.ref 572), some (.ref 619), some (.int (Int32.ofNat k)), a, b] [] h2) : ab_W (pg_G L xs) (ab_X (pg_G L xs) (d + 10)) 0 Q 23 [some (.ref 1000002), some (.ref 0), some (.ref 572), some (.ref 619), some (.int (Int32.ofNat k)), none, none] [] H0 := by
  obtain ⟨fs, hM, hfs, h2, h3, h4, h5, h30, h31, h35, h36⟩ := H0_M
  have r1 : H0.length + 1 ≤ 600000 := by rw [H0_len]; decide
  have r2 : ab_wt (pg_G L xs) H0 + 6 ≤ 7000000 := by rw [H0_wt]; decide
  have hl1 : (fs.set 2 (.int 1)).length = 68 := by rw [List.length_set, hfs]
  have hf1 : (fs.set 2 (.int 1))[2]? = some (.int 1) := fs_at (by rw [hfs]; decide)
  refine lw_sw11 hL hk hlt hc ?_
  have g0 : (0 : Int32) ≤ 6 := by decide
  have e1 := c_49 (L := L) (xs := xs) (d + 9) (k := xs (k + 1)) (n := 0) (g := fun _ => 0) H0_0 H0_569 g0
  have e2 := c_163 (L := L) (xs := xs) (d + 9) (k := xs (k + 1)) (n := 0) (g := fun _ => 0) hM hfs h35 h36 H0_fr (by decide) g0
  have nn : ¬ (0 ≤ xs (k + 1) ∧ xs (k + 1) < 0) := fun z => absurd z.2 (Int32.not_lt.mpr z.1)
  rw [if_neg nn] at e1 e2
  exact lw_11 (v := -1) hL hlt H0_0 e1 hM e2 (kk _ _ _)
theorem fc_12 (d : Nat) {Q : ab_Q} {k : Nat} (hL : L ≤ 1024) (hk : k ≤ 2000) (hlt : k + 2 ≤ L) (hc : xs k &&& 15 = 12) (kk : ∀ a b h2, ab_W (pg_G L xs) (ab_X (pg_G L xs) (d + 10)) 0 Q 796 [some (.ref 1000002), some (.ref 0), some (.ref 572), some (.ref 619), some (.int (Int32.ofNat k)), a, b] [] h2) : ab_W (pg_G L xs) (ab_X (pg_G L xs) (d + 10)) 0 Q 23 [some (.ref 1000002), some (.ref 0), some (.ref 572), some (.ref 619), some (.int (Int32.ofNat k)), none, none] [] H0 := by
  obtain ⟨fs, hM, hfs, h2, h3, h4, h5, h30, h31, h35, h36⟩ := H0_M
  have r1 : H0.length + 1 ≤ 600000 := by rw [H0_len]; decide
  have r2 : ab_wt (pg_G L xs) H0 + 6 ≤ 7000000 := by rw [H0_wt]; decide
  have hl1 : (fs.set 2 (.int 1)).length = 68 := by rw [List.length_set, hfs]
  have hf1 : (fs.set 2 (.int 1))[2]? = some (.int 1) := fs_at (by rw [hfs]; decide)
  refine lw_sw12 hL hk hlt hc ?_
  exact lw_12_x (w := 1) (v := 0) hL hlt (n_95 (d + 7) H0_0 r1 r2) (app_l hM) (m_164 (d + 8) (app_l hM) hfs h5) (set_at (app_l hM)) (c_103 (d + 9) (set_at (app_l hM)) hl1 hf1) (by decide) (kk _ _ _)
theorem fc_13 (d : Nat) {Q : ab_Q} {k : Nat} (hL : L ≤ 1024) (hk : k ≤ 2000) (hlt : k + 2 ≤ L) (hc : xs k &&& 15 = 13) (kk : ∀ a b h2, ab_W (pg_G L xs) (ab_X (pg_G L xs) (d + 10)) 0 Q 796 [some (.ref 1000002), some (.ref 0), some (.ref 572), some (.ref 619), some (.int (Int32.ofNat k)), a, b] [] h2) : ab_W (pg_G L xs) (ab_X (pg_G L xs) (d + 10)) 0 Q 23 [some (.ref 1000002), some (.ref 0), some (.ref 572), some (.ref 619), some (.int (Int32.ofNat k)), none, none] [] H0 := by
  obtain ⟨fs, hM, hfs, h2, h3, h4, h5, h30, h31, h35, h36⟩ := H0_M
  have r1 : H0.length + 1 ≤ 600000 := by rw [H0_len]; decide
  have r2 : ab_wt (pg_G L xs) H0 + 6 ≤ 7000000 := by rw [H0_wt]; decide
  have hl1 : (fs.set 2 (.int 1)).length = 68 := by rw [List.length_set, hfs]
  have hf1 : (fs.set 2 (.int 1))[2]? = some (.int 1) := fs_at (by rw [hfs]; decide)
  refine lw_sw13 hL hk hlt hc ?_
  exact lw_13_x (w := 1) (v := 0) hL hlt (n_97 (d + 7) H0_0 r1 r2) (app_l hM) (m_165 (d + 8) (app_l hM) hfs h5) (set_at (app_l hM)) (c_103 (d + 9) (set_at (app_l hM)) hl1 hf1) (by decide) (kk _ _ _)
theorem fc_14 (d : Nat) {Q : ab_Q} {k : Nat} (hL : L ≤ 1024) (hk : k ≤ 2000) (hlt : k + 2 ≤ L) (hc : xs k &&& 15 = 14) (kk : ∀ a b h2, ab_W (pg_G L xs) (ab_X (pg_G L xs) (d + 10)) 0 Q 796 [some (.ref 1000002), some (.ref 0), some (.ref 572), some (.ref 619), some (.int (Int32.ofNat k)), a, b] [] h2) : ab_W (pg_G L xs) (ab_X (pg_G L xs) (d + 10)) 0 Q 23 [some (.ref 1000002), some (.ref 0), some (.ref 572), some (.ref 619), some (.int (Int32.ofNat k)), none, none] [] H0 := by
  obtain ⟨fs, hM, hfs, h2, h3, h4, h5, h30, h31, h35, h36⟩ := H0_M
  have r1 : H0.length + 1 ≤ 600000 := by rw [H0_len]; decide
  have r2 : ab_wt (pg_G L xs) H0 + 6 ≤ 7000000 := by rw [H0_wt]; decide
  have hl1 : (fs.set 2 (.int 1)).length = 68 := by rw [List.length_set, hfs]
  have hf1 : (fs.set 2 (.int 1))[2]? = some (.int 1) := fs_at (by rw [hfs]; decide)
  refine lw_sw14 hL hk hlt hc ?_
  exact lw_14_x (w := 1) (v := 0) hL hlt (n_99 (d + 7) H0_0 r1 r2) (app_l hM) (m_166 (d + 8) (app_l hM) hfs h5) (set_at (app_l hM)) (c_103 (d + 9) (set_at (app_l hM)) hl1 hf1) (by decide) (kk _ _ _)
theorem fc_15 (d : Nat) {Q : ab_Q} {k : Nat} (hL : L ≤ 1024) (hk : k ≤ 2000) (hlt : k + 2 ≤ L) (hc : xs k &&& 15 = 15) (kk : ∀ a b h2, ab_W (pg_G L xs) (ab_X (pg_G L xs) (d + 10)) 0 Q 796 [some (.ref 1000002), some (.ref 0), some (.ref 572), some (.ref 619), some (.int (Int32.ofNat k)), a, b] [] h2) : ab_W (pg_G L xs) (ab_X (pg_G L xs) (d + 10)) 0 Q 23 [some (.ref 1000002), some (.ref 0), some (.ref 572), some (.ref 619), some (.int (Int32.ofNat k)), none, none] [] H0 := by
  obtain ⟨fs, hM, hfs, h2, h3, h4, h5, h30, h31, h35, h36⟩ := H0_M
  have r1 : H0.length + 1 ≤ 600000 := by rw [H0_len]; decide
  have r2 : ab_wt (pg_G L xs) H0 + 6 ≤ 7000000 := by rw [H0_wt]; decide
  have hl1 : (fs.set 2 (.int 1)).length = 68 := by rw [List.length_set, hfs]
  have hf1 : (fs.set 2 (.int 1))[2]? = some (.int 1) := fs_at (by rw [hfs]; decide)
  refine lw_sw15 hL hk hlt hc ?_
  exact kk _ _ _
theorem first_call (d : Nat) {Q : ab_Q} {k : Nat} (hL : L ≤ 1024) (hk : k ≤ 2000) (hlt : k + 2 ≤ L) (kk : ∀ a b h2, ab_W (pg_G L xs) (ab_X (pg_G L xs) (d + 10)) 0 Q 796 [some (.ref 1000002), some (.ref 0), some (.ref 572), some (.ref 619), some (.int (Int32.ofNat k)), a, b] [] h2) : ab_W (pg_G L xs) (ab_X (pg_G L xs) (d + 10)) 0 Q 23 [some (.ref 1000002), some (.ref 0), some (.ref 572), some (.ref 619), some (.int (Int32.ofNat k)), none, none] [] H0 := by
  obtain ⟨c, hc16, hc⟩ := and15 (xs k)
  match c, hc16 with
  | 0, _ => exact fc_0 d hL hk hlt hc kk
  | 1, _ => exact fc_1 d hL hk hlt hc kk
  | 2, _ => exact fc_2 d hL hk hlt hc kk
  | 3, _ => exact fc_3 d hL hk hlt hc kk
  | 4, _ => exact fc_4 d hL hk hlt hc kk
  | 5, _ => exact fc_5 d hL hk hlt hc kk
  | 6, _ => exact fc_6 d hL hk hlt hc kk
  | 7, _ => exact fc_7 d hL hk hlt hc kk
  | 8, _ => exact fc_8 d hL hk hlt hc kk
  | 9, _ => exact fc_9 d hL hk hlt hc kk
  | 10, _ => exact fc_10 d hL hk hlt hc kk
  | 11, _ => exact fc_11 d hL hk hlt hc kk
  | 12, _ => exact fc_12 d hL hk hlt hc kk
  | 13, _ => exact fc_13 d hL hk hlt hc kk
  | 14, _ => exact fc_14 d hL hk hlt hc kk
  | 15, _ => exact fc_15 d hL hk hlt hc kk
  | n + 16, h => exact absurd h (by omega)
theorem law_p1 (hL : L ≤ 2) : ab_X (pg_G L xs) 1000 0 [.ref 1000002] [] (fun r _ => r = .inl (some (.int 1))) := by
  show ab_W (pg_G L xs) (ab_X (pg_G L xs) 999) 0 _ 0 [some (.ref 1000002), none, none, none, none, none, none] [] []
  refine lw_init 995 ?_
  by_cases h2 : L = 2
  · refine first_call 989 (by omega) (by decide) (by omega) (fun a b h2 => ?_)
    refine lw_next (by decide) ?_
    exact lw_end (by omega) (by decide) (by omega) rfl
  · exact lw_end (by omega) (by decide) (by omega) rfl
end P1
