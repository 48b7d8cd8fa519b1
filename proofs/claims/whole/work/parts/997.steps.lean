/-! OURS, printed by wip/tools/gen997.py: one call of the law, both sides together. -/
abbrev oO (o : Nat → Int64) : ab_O := .inl (1, 1, .inr (.inl o))
section C45
variable {L : Nat} {xs : Nat → Int32} {d : Nat} {Q : ab_Q} {k : Nat} {M M1 : mm} {es ex : ab_H} {o : Nat → Int64} {o5 o6 : Option Value}
theorem HP619 : (hp M ++ (oO o :: ex))[619]? = some (oO o) := by
  have h := ap_at (hp M) (oO o) ex
  rw [hp_len] at h; exact h
theorem HPset {o' : Nat → Int64} : (hp M ++ (oO o :: ex)).set 619 (oO o') = hp M ++ (oO o' :: ex) := by
  rw [List.set_append_right _ _ (by rw [hp_len]; exact Nat.le_refl _), hp_len]; rfl
theorem HPapp {e : ab_O} : hp M ++ (oO o :: ex) ++ [e] = hp M ++ (oO o :: (ex ++ [e])) := by rw [List.append_assoc, List.cons_append]
theorem upd00 {v : Int64} : vp_updL o 0 v 0 = v := by simp [vp_updL]
/-- the law's loop, somewhere -/
abbrev LW (L : Nat) (xs : Nat → Int32) (d : Nat) (Q : ab_Q) (k : Nat) (a b : Option Value) (pc : Nat) (h : ab_H) : Prop := ab_W (pg_G L xs) (ab_X (pg_G L xs) (d + 200)) 0 Q pc [some (.ref 1000002), some (.ref 0), some (.ref 572), some (.ref 619), some (.int (Int32.ofNat k)), a, b] [] h
theorem lv_4_v {t : Int32} (ht : xs (k + 1) = t) {y : Int} (hL : L ≤ 1024) (hlt : k + 2 ≤ L) (hc : ab_S (pg_G L xs) (d + 199) 54 [.ref 0, .int t] (hp M ++ (oO o :: ex)) (some (zi y)) (hp M1 ++ (oO o :: ex))) {F : mm → Prop} (hm : ∀ o', ∃ M2, ab_S (pg_G L xs) (d + 200) 131 [.ref 572, .int t] (hp M1 ++ (oO o' :: ex)) (some (zi y)) (hp M2 ++ (oO o' :: ex)) ∧ M2.1 572 2 = 0 ∧ F M2) (kk : ∀ M2 o' a b, F M2 → LW L xs d Q k a b 796 (hp M2 ++ (oO o' :: ex))) : LW L xs d Q k o5 o6 214 (hp M ++ (oO o :: ex)) := by
  subst ht
  obtain ⟨M2, m1, m2, m3⟩ := hm (vp_updL o 0 (Int32.ofInt y).toInt64)
  have q := w_53 (L := L) (xs := xs) (d + 199) o_0 hc HP619
  rw [HPset] at q
  have z := c103 (L := L) (xs := xs) (M := M2) (es := oO (vp_updL o 0 (Int32.ofInt y).toInt64) :: ex) (d + 199)
  rw [m2] at z
  exact lw_4_v hL hlt q o_572 m1 o_572 z HP619 upd00 (kk M2 _ _ _ m3)
theorem lx_4_7 {t : Int32} (ht : xs (k + 1) = t) (hL : L ≤ 1024) (hlt : k + 2 ≤ L) (hc : ab_X (pg_G L xs) (d + 199) 54 [.ref 0, .int t] (hp M ++ (oO o :: ex)) (fun r h' => r = .inr (hp M ++ (oO o :: ex)).length ∧ h' = (hp M ++ (oO o :: ex)) ++ [.inr (7, [])])) (hm : ab_S (pg_G L xs) (d + 200) 131 [.ref 572, .int t] (hp M ++ (oO o :: (ex ++ [.inr (7, [])]))) (some (zi 0)) (hp (sI M 572 2 1) ++ (oO o :: (ex ++ [.inr (7, [])])))) (kk : ∀ a b, LW L xs d Q k a b 796 (hp (sI M 572 2 1) ++ (oO o :: (ex ++ [.inr (7, [])])))) : LW L xs d Q k o5 o6 214 (hp M ++ (oO o :: ex)) := by
  subst ht
  have q := y_53_7 (L := L) (xs := xs) (b := 619) (d + 199) o_0 hc
  rw [HPapp] at q
  have z := c103 (L := L) (xs := xs) (M := sI M 572 2 1) (es := oO o :: (ex ++ [.inr (7, [])])) (d + 199)
  rw [rd_eq] at z
  exact lw_4_x (w := 1) (v := 0) hL hlt q o_572 hm o_572 z (by decide) (kk _ _)
theorem lx_4_6 {t : Int32} (ht : xs (k + 1) = t) (hL : L ≤ 1024) (hlt : k + 2 ≤ L) (hc : ab_X (pg_G L xs) (d + 199) 54 [.ref 0, .int t] (hp M ++ (oO o :: ex)) (fun r h' => r = .inr (hp M ++ (oO o :: ex)).length ∧ h' = (hp M ++ (oO o :: ex)) ++ [.inr (6, [])])) (hm : ab_S (pg_G L xs) (d + 200) 131 [.ref 572, .int t] (hp M ++ (oO o :: (ex ++ [.inr (6, [])]))) (some (zi 0)) (hp (sI M 572 2 2) ++ (oO o :: (ex ++ [.inr (6, [])])))) (kk : ∀ a b, LW L xs d Q k a b 796 (hp (sI M 572 2 2) ++ (oO o :: (ex ++ [.inr (6, [])])))) : LW L xs d Q k o5 o6 214 (hp M ++ (oO o :: ex)) := by
  subst ht
  have q := y_53_6 (L := L) (xs := xs) (b := 619) (d + 199) o_0 hc
  rw [HPapp] at q
  have z := c103 (L := L) (xs := xs) (M := sI M 572 2 2) (es := oO o :: (ex ++ [.inr (6, [])])) (d + 199)
  rw [rd_eq] at z
  exact lw_4_x (w := 2) (v := 0) hL hlt q o_572 hm o_572 z (by decide) (kk _ _)
theorem lv_5_0 {t : Int32} (ht : xs (k + 1) = t) (hL : L ≤ 1024) (hlt : k + 2 ≤ L) (hc : ab_S (pg_G L xs) (d + 199) 58 [.ref 0, .int t] (hp M ++ (oO o :: ex)) (some (zi 0)) (hp M1 ++ (oO o :: ex))) {F : mm → Prop} (hm : ∀ o', ∃ M2, ab_S (pg_G L xs) (d + 200) 134 [.ref 572, .int t] (hp M1 ++ (oO o' :: ex)) (some (zi 0)) (hp M2 ++ (oO o' :: ex)) ∧ M2.1 572 2 = 0 ∧ F M2) (kk : ∀ M2 o' a b, F M2 → LW L xs d Q k a b 796 (hp M2 ++ (oO o' :: ex))) : LW L xs d Q k o5 o6 270 (hp M ++ (oO o :: ex)) := by
  subst ht
  obtain ⟨M2, m1, m2, m3⟩ := hm (vp_updL o 0 0)
  have q := w_57_0 (L := L) (xs := xs) (d + 199) o_0 hc HP619
  rw [HPset] at q
  have z := c103 (L := L) (xs := xs) (M := M2) (es := oO (vp_updL o 0 0) :: ex) (d + 199)
  rw [m2] at z
  exact lw_5_0 hL hlt q o_572 m1 o_572 z HP619 upd00 (kk M2 _ _ _ m3)
theorem lv_5_1 {t : Int32} (ht : xs (k + 1) = t) (hL : L ≤ 1024) (hlt : k + 2 ≤ L) (hc : ab_S (pg_G L xs) (d + 199) 58 [.ref 0, .int t] (hp M ++ (oO o :: ex)) (some (zi 1)) (hp M1 ++ (oO o :: ex))) {F : mm → Prop} (hm : ∀ o', ∃ M2, ab_S (pg_G L xs) (d + 200) 134 [.ref 572, .int t] (hp M1 ++ (oO o' :: ex)) (some (zi 1)) (hp M2 ++ (oO o' :: ex)) ∧ M2.1 572 2 = 0 ∧ F M2) (kk : ∀ M2 o' a b, F M2 → LW L xs d Q k a b 796 (hp M2 ++ (oO o' :: ex))) : LW L xs d Q k o5 o6 270 (hp M ++ (oO o :: ex)) := by
  subst ht
  obtain ⟨M2, m1, m2, m3⟩ := hm (vp_updL o 0 1)
  have q := w_57_1 (L := L) (xs := xs) (d + 199) o_0 hc HP619
  rw [HPset] at q
  have z := c103 (L := L) (xs := xs) (M := M2) (es := oO (vp_updL o 0 1) :: ex) (d + 199)
  rw [m2] at z
  exact lw_5_1 hL hlt q o_572 m1 o_572 z HP619 upd00 (kk M2 _ _ _ m3)
theorem lx_5_7 {t : Int32} (ht : xs (k + 1) = t) (hL : L ≤ 1024) (hlt : k + 2 ≤ L) (hc : ab_X (pg_G L xs) (d + 199) 58 [.ref 0, .int t] (hp M ++ (oO o :: ex)) (fun r h' => r = .inr (hp M ++ (oO o :: ex)).length ∧ h' = (hp M ++ (oO o :: ex)) ++ [.inr (7, [])])) (hm : ab_S (pg_G L xs) (d + 200) 134 [.ref 572, .int t] (hp M ++ (oO o :: (ex ++ [.inr (7, [])]))) (some (zi 0)) (hp (sI M 572 2 1) ++ (oO o :: (ex ++ [.inr (7, [])])))) (kk : ∀ a b, LW L xs d Q k a b 796 (hp (sI M 572 2 1) ++ (oO o :: (ex ++ [.inr (7, [])])))) : LW L xs d Q k o5 o6 270 (hp M ++ (oO o :: ex)) := by
  subst ht
  have q := y_57_7 (L := L) (xs := xs) (b := 619) (d + 199) o_0 hc
  rw [HPapp] at q
  have z := c103 (L := L) (xs := xs) (M := sI M 572 2 1) (es := oO o :: (ex ++ [.inr (7, [])])) (d + 199)
  rw [rd_eq] at z
  exact lw_5_x (w := 1) (v := 0) hL hlt q o_572 hm o_572 z (by decide) (kk _ _)
theorem lx_5_8 {t : Int32} (ht : xs (k + 1) = t) (hL : L ≤ 1024) (hlt : k + 2 ≤ L) (hc : ab_X (pg_G L xs) (d + 199) 58 [.ref 0, .int t] (hp M ++ (oO o :: ex)) (fun r h' => r = .inr (hp M ++ (oO o :: ex)).length ∧ h' = (hp M ++ (oO o :: ex)) ++ [.inr (8, [])])) (hm : ab_S (pg_G L xs) (d + 200) 134 [.ref 572, .int t] (hp M ++ (oO o :: (ex ++ [.inr (8, [])]))) (some (zi 0)) (hp (sI M 572 2 2) ++ (oO o :: (ex ++ [.inr (8, [])])))) (kk : ∀ a b, LW L xs d Q k a b 796 (hp (sI M 572 2 2) ++ (oO o :: (ex ++ [.inr (8, [])])))) : LW L xs d Q k o5 o6 270 (hp M ++ (oO o :: ex)) := by
  subst ht
  have q := y_57_8 (L := L) (xs := xs) (b := 619) (d + 199) o_0 hc
  rw [HPapp] at q
  have z := c103 (L := L) (xs := xs) (M := sI M 572 2 2) (es := oO o :: (ex ++ [.inr (8, [])])) (d + 199)
  rw [rd_eq] at z
  exact lw_5_x (w := 2) (v := 0) hL hlt q o_572 hm o_572 z (by decide) (kk _ _)
theorem lv_6_0 {t : Int32} (ht : xs (k + 1) = t) (hL : L ≤ 1024) (hlt : k + 2 ≤ L) (hc : ab_S (pg_G L xs) (d + 199) 61 [.ref 0, .int t] (hp M ++ (oO o :: ex)) (some (zi 0)) (hp M1 ++ (oO o :: ex))) {F : mm → Prop} (hm : ∀ o', ∃ M2, ab_S (pg_G L xs) (d + 200) 136 [.ref 572, .int t] (hp M1 ++ (oO o' :: ex)) (some (zi 0)) (hp M2 ++ (oO o' :: ex)) ∧ M2.1 572 2 = 0 ∧ F M2) (kk : ∀ M2 o' a b, F M2 → LW L xs d Q k a b 796 (hp M2 ++ (oO o' :: ex))) : LW L xs d Q k o5 o6 333 (hp M ++ (oO o :: ex)) := by
  subst ht
  obtain ⟨M2, m1, m2, m3⟩ := hm (vp_updL o 0 0)
  have q := w_60_0 (L := L) (xs := xs) (d + 199) o_0 hc HP619
  rw [HPset] at q
  have z := c103 (L := L) (xs := xs) (M := M2) (es := oO (vp_updL o 0 0) :: ex) (d + 199)
  rw [m2] at z
  exact lw_6_0 hL hlt q o_572 m1 o_572 z HP619 upd00 (kk M2 _ _ _ m3)
theorem lv_6_1 {t : Int32} (ht : xs (k + 1) = t) (hL : L ≤ 1024) (hlt : k + 2 ≤ L) (hc : ab_S (pg_G L xs) (d + 199) 61 [.ref 0, .int t] (hp M ++ (oO o :: ex)) (some (zi 1)) (hp M1 ++ (oO o :: ex))) {F : mm → Prop} (hm : ∀ o', ∃ M2, ab_S (pg_G L xs) (d + 200) 136 [.ref 572, .int t] (hp M1 ++ (oO o' :: ex)) (some (zi 1)) (hp M2 ++ (oO o' :: ex)) ∧ M2.1 572 2 = 0 ∧ F M2) (kk : ∀ M2 o' a b, F M2 → LW L xs d Q k a b 796 (hp M2 ++ (oO o' :: ex))) : LW L xs d Q k o5 o6 333 (hp M ++ (oO o :: ex)) := by
  subst ht
  obtain ⟨M2, m1, m2, m3⟩ := hm (vp_updL o 0 1)
  have q := w_60_1 (L := L) (xs := xs) (d + 199) o_0 hc HP619
  rw [HPset] at q
  have z := c103 (L := L) (xs := xs) (M := M2) (es := oO (vp_updL o 0 1) :: ex) (d + 199)
  rw [m2] at z
  exact lw_6_1 hL hlt q o_572 m1 o_572 z HP619 upd00 (kk M2 _ _ _ m3)
theorem lx_6_7 {t : Int32} (ht : xs (k + 1) = t) (hL : L ≤ 1024) (hlt : k + 2 ≤ L) (hc : ab_X (pg_G L xs) (d + 199) 61 [.ref 0, .int t] (hp M ++ (oO o :: ex)) (fun r h' => r = .inr (hp M ++ (oO o :: ex)).length ∧ h' = (hp M ++ (oO o :: ex)) ++ [.inr (7, [])])) (hm : ab_S (pg_G L xs) (d + 200) 136 [.ref 572, .int t] (hp M ++ (oO o :: (ex ++ [.inr (7, [])]))) (some (zi 0)) (hp (sI M 572 2 1) ++ (oO o :: (ex ++ [.inr (7, [])])))) (kk : ∀ a b, LW L xs d Q k a b 796 (hp (sI M 572 2 1) ++ (oO o :: (ex ++ [.inr (7, [])])))) : LW L xs d Q k o5 o6 333 (hp M ++ (oO o :: ex)) := by
  subst ht
  have q := y_60_7 (L := L) (xs := xs) (b := 619) (d + 199) o_0 hc
  rw [HPapp] at q
  have z := c103 (L := L) (xs := xs) (M := sI M 572 2 1) (es := oO o :: (ex ++ [.inr (7, [])])) (d + 199)
  rw [rd_eq] at z
  exact lw_6_x (w := 1) (v := 0) hL hlt q o_572 hm o_572 z (by decide) (kk _ _)
theorem lx_6_8 {t : Int32} (ht : xs (k + 1) = t) (hL : L ≤ 1024) (hlt : k + 2 ≤ L) (hc : ab_X (pg_G L xs) (d + 199) 61 [.ref 0, .int t] (hp M ++ (oO o :: ex)) (fun r h' => r = .inr (hp M ++ (oO o :: ex)).length ∧ h' = (hp M ++ (oO o :: ex)) ++ [.inr (8, [])])) (hm : ab_S (pg_G L xs) (d + 200) 136 [.ref 572, .int t] (hp M ++ (oO o :: (ex ++ [.inr (8, [])]))) (some (zi 0)) (hp (sI M 572 2 2) ++ (oO o :: (ex ++ [.inr (8, [])])))) (kk : ∀ a b, LW L xs d Q k a b 796 (hp (sI M 572 2 2) ++ (oO o :: (ex ++ [.inr (8, [])])))) : LW L xs d Q k o5 o6 333 (hp M ++ (oO o :: ex)) := by
  subst ht
  have q := y_60_8 (L := L) (xs := xs) (b := 619) (d + 199) o_0 hc
  rw [HPapp] at q
  have z := c103 (L := L) (xs := xs) (M := sI M 572 2 2) (es := oO o :: (ex ++ [.inr (8, [])])) (d + 199)
  rw [rd_eq] at z
  exact lw_6_x (w := 2) (v := 0) hL hlt q o_572 hm o_572 z (by decide) (kk _ _)
theorem lv_7_v {t : Int32} (ht : xs (k + 1) = t) {y : Int} (hL : L ≤ 1024) (hlt : k + 2 ≤ L) (hc : ab_S (pg_G L xs) (d + 199) 63 [.ref 0, .int t] (hp M ++ (oO o :: ex)) (some (zi y)) (hp M1 ++ (oO o :: ex))) {F : mm → Prop} (hm : ∀ o', ∃ M2, ab_S (pg_G L xs) (d + 200) 137 [.ref 572, .int t] (hp M1 ++ (oO o' :: ex)) (some (zi y)) (hp M2 ++ (oO o' :: ex)) ∧ M2.1 572 2 = 0 ∧ F M2) (kk : ∀ M2 o' a b, F M2 → LW L xs d Q k a b 796 (hp M2 ++ (oO o' :: ex))) : LW L xs d Q k o5 o6 396 (hp M ++ (oO o :: ex)) := by
  subst ht
  obtain ⟨M2, m1, m2, m3⟩ := hm (vp_updL o 0 (Int32.ofInt y).toInt64)
  have q := w_62 (L := L) (xs := xs) (d + 199) o_0 hc HP619
  rw [HPset] at q
  have z := c103 (L := L) (xs := xs) (M := M2) (es := oO (vp_updL o 0 (Int32.ofInt y).toInt64) :: ex) (d + 199)
  rw [m2] at z
  exact lw_7_v hL hlt q o_572 m1 o_572 z HP619 upd00 (kk M2 _ _ _ m3)
theorem lx_7_7 {t : Int32} (ht : xs (k + 1) = t) (hL : L ≤ 1024) (hlt : k + 2 ≤ L) (hc : ab_X (pg_G L xs) (d + 199) 63 [.ref 0, .int t] (hp M ++ (oO o :: ex)) (fun r h' => r = .inr (hp M ++ (oO o :: ex)).length ∧ h' = (hp M ++ (oO o :: ex)) ++ [.inr (7, [])])) (hm : ab_S (pg_G L xs) (d + 200) 137 [.ref 572, .int t] (hp M ++ (oO o :: (ex ++ [.inr (7, [])]))) (some (zi 0)) (hp (sI M 572 2 1) ++ (oO o :: (ex ++ [.inr (7, [])])))) (kk : ∀ a b, LW L xs d Q k a b 796 (hp (sI M 572 2 1) ++ (oO o :: (ex ++ [.inr (7, [])])))) : LW L xs d Q k o5 o6 396 (hp M ++ (oO o :: ex)) := by
  subst ht
  have q := y_62_7 (L := L) (xs := xs) (b := 619) (d + 199) o_0 hc
  rw [HPapp] at q
  have z := c103 (L := L) (xs := xs) (M := sI M 572 2 1) (es := oO o :: (ex ++ [.inr (7, [])])) (d + 199)
  rw [rd_eq] at z
  exact lw_7_x (w := 1) (v := 0) hL hlt q o_572 hm o_572 z (by decide) (kk _ _)
theorem lx_7_8 {t : Int32} (ht : xs (k + 1) = t) (hL : L ≤ 1024) (hlt : k + 2 ≤ L) (hc : ab_X (pg_G L xs) (d + 199) 63 [.ref 0, .int t] (hp M ++ (oO o :: ex)) (fun r h' => r = .inr (hp M ++ (oO o :: ex)).length ∧ h' = (hp M ++ (oO o :: ex)) ++ [.inr (8, [])])) (hm : ab_S (pg_G L xs) (d + 200) 137 [.ref 572, .int t] (hp M ++ (oO o :: (ex ++ [.inr (8, [])]))) (some (zi 0)) (hp (sI M 572 2 2) ++ (oO o :: (ex ++ [.inr (8, [])])))) (kk : ∀ a b, LW L xs d Q k a b 796 (hp (sI M 572 2 2) ++ (oO o :: (ex ++ [.inr (8, [])])))) : LW L xs d Q k o5 o6 396 (hp M ++ (oO o :: ex)) := by
  subst ht
  have q := y_62_8 (L := L) (xs := xs) (b := 619) (d + 199) o_0 hc
  rw [HPapp] at q
  have z := c103 (L := L) (xs := xs) (M := sI M 572 2 2) (es := oO o :: (ex ++ [.inr (8, [])])) (d + 199)
  rw [rd_eq] at z
  exact lw_7_x (w := 2) (v := 0) hL hlt q o_572 hm o_572 z (by decide) (kk _ _)
theorem lv_8_0 {t : Int32} (ht : xs (k + 1) = t) (hL : L ≤ 1024) (hlt : k + 2 ≤ L) (hc : ab_S (pg_G L xs) (d + 199) 73 [.ref 0, .int t] (hp M ++ (oO o :: ex)) (some (zi 0)) (hp M1 ++ (oO o :: ex))) {F : mm → Prop} (hm : ∀ o', ∃ M2, ab_S (pg_G L xs) (d + 200) 148 [.ref 572, .int t] (hp M1 ++ (oO o' :: ex)) (some (zi 0)) (hp M2 ++ (oO o' :: ex)) ∧ M2.1 572 2 = 0 ∧ F M2) (kk : ∀ M2 o' a b, F M2 → LW L xs d Q k a b 796 (hp M2 ++ (oO o' :: ex))) : LW L xs d Q k o5 o6 452 (hp M ++ (oO o :: ex)) := by
  subst ht
  obtain ⟨M2, m1, m2, m3⟩ := hm (vp_updL o 0 0)
  have q := w_72_0 (L := L) (xs := xs) (d + 199) o_0 hc HP619
  rw [HPset] at q
  have z := c103 (L := L) (xs := xs) (M := M2) (es := oO (vp_updL o 0 0) :: ex) (d + 199)
  rw [m2] at z
  exact lw_8_0 hL hlt q o_572 m1 o_572 z HP619 upd00 (kk M2 _ _ _ m3)
theorem lv_8_1 {t : Int32} (ht : xs (k + 1) = t) (hL : L ≤ 1024) (hlt : k + 2 ≤ L) (hc : ab_S (pg_G L xs) (d + 199) 73 [.ref 0, .int t] (hp M ++ (oO o :: ex)) (some (zi 1)) (hp M1 ++ (oO o :: ex))) {F : mm → Prop} (hm : ∀ o', ∃ M2, ab_S (pg_G L xs) (d + 200) 148 [.ref 572, .int t] (hp M1 ++ (oO o' :: ex)) (some (zi 1)) (hp M2 ++ (oO o' :: ex)) ∧ M2.1 572 2 = 0 ∧ F M2) (kk : ∀ M2 o' a b, F M2 → LW L xs d Q k a b 796 (hp M2 ++ (oO o' :: ex))) : LW L xs d Q k o5 o6 452 (hp M ++ (oO o :: ex)) := by
  subst ht
  obtain ⟨M2, m1, m2, m3⟩ := hm (vp_updL o 0 1)
  have q := w_72_1 (L := L) (xs := xs) (d + 199) o_0 hc HP619
  rw [HPset] at q
  have z := c103 (L := L) (xs := xs) (M := M2) (es := oO (vp_updL o 0 1) :: ex) (d + 199)
  rw [m2] at z
  exact lw_8_1 hL hlt q o_572 m1 o_572 z HP619 upd00 (kk M2 _ _ _ m3)
theorem lx_8_7 {t : Int32} (ht : xs (k + 1) = t) (hL : L ≤ 1024) (hlt : k + 2 ≤ L) (hc : ab_X (pg_G L xs) (d + 199) 73 [.ref 0, .int t] (hp M ++ (oO o :: ex)) (fun r h' => r = .inr (hp M ++ (oO o :: ex)).length ∧ h' = (hp M ++ (oO o :: ex)) ++ [.inr (7, [])])) (hm : ab_S (pg_G L xs) (d + 200) 148 [.ref 572, .int t] (hp M ++ (oO o :: (ex ++ [.inr (7, [])]))) (some (zi 0)) (hp (sI M 572 2 1) ++ (oO o :: (ex ++ [.inr (7, [])])))) (kk : ∀ a b, LW L xs d Q k a b 796 (hp (sI M 572 2 1) ++ (oO o :: (ex ++ [.inr (7, [])])))) : LW L xs d Q k o5 o6 452 (hp M ++ (oO o :: ex)) := by
  subst ht
  have q := y_72_7 (L := L) (xs := xs) (b := 619) (d + 199) o_0 hc
  rw [HPapp] at q
  have z := c103 (L := L) (xs := xs) (M := sI M 572 2 1) (es := oO o :: (ex ++ [.inr (7, [])])) (d + 199)
  rw [rd_eq] at z
  exact lw_8_x (w := 1) (v := 0) hL hlt q o_572 hm o_572 z (by decide) (kk _ _)
theorem lx_8_8 {t : Int32} (ht : xs (k + 1) = t) (hL : L ≤ 1024) (hlt : k + 2 ≤ L) (hc : ab_X (pg_G L xs) (d + 199) 73 [.ref 0, .int t] (hp M ++ (oO o :: ex)) (fun r h' => r = .inr (hp M ++ (oO o :: ex)).length ∧ h' = (hp M ++ (oO o :: ex)) ++ [.inr (8, [])])) (hm : ab_S (pg_G L xs) (d + 200) 148 [.ref 572, .int t] (hp M ++ (oO o :: (ex ++ [.inr (8, [])]))) (some (zi 0)) (hp (sI M 572 2 2) ++ (oO o :: (ex ++ [.inr (8, [])])))) (kk : ∀ a b, LW L xs d Q k a b 796 (hp (sI M 572 2 2) ++ (oO o :: (ex ++ [.inr (8, [])])))) : LW L xs d Q k o5 o6 452 (hp M ++ (oO o :: ex)) := by
  subst ht
  have q := y_72_8 (L := L) (xs := xs) (b := 619) (d + 199) o_0 hc
  rw [HPapp] at q
  have z := c103 (L := L) (xs := xs) (M := sI M 572 2 2) (es := oO o :: (ex ++ [.inr (8, [])])) (d + 199)
  rw [rd_eq] at z
  exact lw_8_x (w := 2) (v := 0) hL hlt q o_572 hm o_572 z (by decide) (kk _ _)
theorem lv_9_v {t : Int32} (ht : xs (k + 1) = t) {y : Int} (hL : L ≤ 1024) (hlt : k + 2 ≤ L) (hc : ab_S (pg_G L xs) (d + 199) 75 [.ref 0, .int t] (hp M ++ (oO o :: ex)) (some (zi y)) (hp M1 ++ (oO o :: ex))) {F : mm → Prop} (hm : ∀ o', ∃ M2, ab_S (pg_G L xs) (d + 200) 149 [.ref 572, .int t] (hp M1 ++ (oO o' :: ex)) (some (zi y)) (hp M2 ++ (oO o' :: ex)) ∧ M2.1 572 2 = 0 ∧ F M2) (kk : ∀ M2 o' a b, F M2 → LW L xs d Q k a b 796 (hp M2 ++ (oO o' :: ex))) : LW L xs d Q k o5 o6 515 (hp M ++ (oO o :: ex)) := by
  subst ht
  obtain ⟨M2, m1, m2, m3⟩ := hm (vp_updL o 0 (Int32.ofInt y).toInt64)
  have q := w_74 (L := L) (xs := xs) (d + 199) o_0 hc HP619
  rw [HPset] at q
  have z := c103 (L := L) (xs := xs) (M := M2) (es := oO (vp_updL o 0 (Int32.ofInt y).toInt64) :: ex) (d + 199)
  rw [m2] at z
  exact lw_9_v hL hlt q o_572 m1 o_572 z HP619 upd00 (kk M2 _ _ _ m3)
theorem lx_9_7 {t : Int32} (ht : xs (k + 1) = t) (hL : L ≤ 1024) (hlt : k + 2 ≤ L) (hc : ab_X (pg_G L xs) (d + 199) 75 [.ref 0, .int t] (hp M ++ (oO o :: ex)) (fun r h' => r = .inr (hp M ++ (oO o :: ex)).length ∧ h' = (hp M ++ (oO o :: ex)) ++ [.inr (7, [])])) (hm : ab_S (pg_G L xs) (d + 200) 149 [.ref 572, .int t] (hp M ++ (oO o :: (ex ++ [.inr (7, [])]))) (some (zi 0)) (hp (sI M 572 2 1) ++ (oO o :: (ex ++ [.inr (7, [])])))) (kk : ∀ a b, LW L xs d Q k a b 796 (hp (sI M 572 2 1) ++ (oO o :: (ex ++ [.inr (7, [])])))) : LW L xs d Q k o5 o6 515 (hp M ++ (oO o :: ex)) := by
  subst ht
  have q := y_74_7 (L := L) (xs := xs) (b := 619) (d + 199) o_0 hc
  rw [HPapp] at q
  have z := c103 (L := L) (xs := xs) (M := sI M 572 2 1) (es := oO o :: (ex ++ [.inr (7, [])])) (d + 199)
  rw [rd_eq] at z
  exact lw_9_x (w := 1) (v := 0) hL hlt q o_572 hm o_572 z (by decide) (kk _ _)
theorem lx_9_8 {t : Int32} (ht : xs (k + 1) = t) (hL : L ≤ 1024) (hlt : k + 2 ≤ L) (hc : ab_X (pg_G L xs) (d + 199) 75 [.ref 0, .int t] (hp M ++ (oO o :: ex)) (fun r h' => r = .inr (hp M ++ (oO o :: ex)).length ∧ h' = (hp M ++ (oO o :: ex)) ++ [.inr (8, [])])) (hm : ab_S (pg_G L xs) (d + 200) 149 [.ref 572, .int t] (hp M ++ (oO o :: (ex ++ [.inr (8, [])]))) (some (zi 0)) (hp (sI M 572 2 2) ++ (oO o :: (ex ++ [.inr (8, [])])))) (kk : ∀ a b, LW L xs d Q k a b 796 (hp (sI M 572 2 2) ++ (oO o :: (ex ++ [.inr (8, [])])))) : LW L xs d Q k o5 o6 515 (hp M ++ (oO o :: ex)) := by
  subst ht
  have q := y_74_8 (L := L) (xs := xs) (b := 619) (d + 199) o_0 hc
  rw [HPapp] at q
  have z := c103 (L := L) (xs := xs) (M := sI M 572 2 2) (es := oO o :: (ex ++ [.inr (8, [])])) (d + 199)
  rw [rd_eq] at z
  exact lw_9_x (w := 2) (v := 0) hL hlt q o_572 hm o_572 z (by decide) (kk _ _)
theorem lv_10_v {t : Int32} (ht : xs (k + 1) = t) {y : Int} (hL : L ≤ 1024) (hlt : k + 2 ≤ L) (hc : ab_S (pg_G L xs) (d + 199) 94 [.ref 0, .int t] (hp M ++ (oO o :: ex)) (some (zi y)) (hp M1 ++ (oO o :: ex))) {F : mm → Prop} (hm : ∀ o', ∃ M2, ab_S (pg_G L xs) (d + 200) 162 [.ref 572, .int t] (hp M1 ++ (oO o' :: ex)) (some (zi y)) (hp M2 ++ (oO o' :: ex)) ∧ M2.1 572 2 = 0 ∧ F M2) (kk : ∀ M2 o' a b, F M2 → LW L xs d Q k a b 796 (hp M2 ++ (oO o' :: ex))) : LW L xs d Q k o5 o6 571 (hp M ++ (oO o :: ex)) := by
  subst ht
  obtain ⟨M2, m1, m2, m3⟩ := hm (vp_updL o 0 (Int32.ofInt y).toInt64)
  have q := w_93 (L := L) (xs := xs) (d + 199) o_0 hc HP619
  rw [HPset] at q
  have z := c103 (L := L) (xs := xs) (M := M2) (es := oO (vp_updL o 0 (Int32.ofInt y).toInt64) :: ex) (d + 199)
  rw [m2] at z
  exact lw_10_v hL hlt q o_572 m1 o_572 z HP619 upd00 (kk M2 _ _ _ m3)
theorem lx_10_7 {t : Int32} (ht : xs (k + 1) = t) (hL : L ≤ 1024) (hlt : k + 2 ≤ L) (hc : ab_X (pg_G L xs) (d + 199) 94 [.ref 0, .int t] (hp M ++ (oO o :: ex)) (fun r h' => r = .inr (hp M ++ (oO o :: ex)).length ∧ h' = (hp M ++ (oO o :: ex)) ++ [.inr (7, [])])) (hm : ab_S (pg_G L xs) (d + 200) 162 [.ref 572, .int t] (hp M ++ (oO o :: (ex ++ [.inr (7, [])]))) (some (zi 0)) (hp (sI M 572 2 1) ++ (oO o :: (ex ++ [.inr (7, [])])))) (kk : ∀ a b, LW L xs d Q k a b 796 (hp (sI M 572 2 1) ++ (oO o :: (ex ++ [.inr (7, [])])))) : LW L xs d Q k o5 o6 571 (hp M ++ (oO o :: ex)) := by
  subst ht
  have q := y_93_7 (L := L) (xs := xs) (b := 619) (d + 199) o_0 hc
  rw [HPapp] at q
  have z := c103 (L := L) (xs := xs) (M := sI M 572 2 1) (es := oO o :: (ex ++ [.inr (7, [])])) (d + 199)
  rw [rd_eq] at z
  exact lw_10_x (w := 1) (v := 0) hL hlt q o_572 hm o_572 z (by decide) (kk _ _)
theorem lx_10_8 {t : Int32} (ht : xs (k + 1) = t) (hL : L ≤ 1024) (hlt : k + 2 ≤ L) (hc : ab_X (pg_G L xs) (d + 199) 94 [.ref 0, .int t] (hp M ++ (oO o :: ex)) (fun r h' => r = .inr (hp M ++ (oO o :: ex)).length ∧ h' = (hp M ++ (oO o :: ex)) ++ [.inr (8, [])])) (hm : ab_S (pg_G L xs) (d + 200) 162 [.ref 572, .int t] (hp M ++ (oO o :: (ex ++ [.inr (8, [])]))) (some (zi 0)) (hp (sI M 572 2 2) ++ (oO o :: (ex ++ [.inr (8, [])])))) (kk : ∀ a b, LW L xs d Q k a b 796 (hp (sI M 572 2 2) ++ (oO o :: (ex ++ [.inr (8, [])])))) : LW L xs d Q k o5 o6 571 (hp M ++ (oO o :: ex)) := by
  subst ht
  have q := y_93_8 (L := L) (xs := xs) (b := 619) (d + 199) o_0 hc
  rw [HPapp] at q
  have z := c103 (L := L) (xs := xs) (M := sI M 572 2 2) (es := oO o :: (ex ++ [.inr (8, [])])) (d + 199)
  rw [rd_eq] at z
  exact lw_10_x (w := 2) (v := 0) hL hlt q o_572 hm o_572 z (by decide) (kk _ _)
theorem lv_12_v {t : Int32} (ht : xs (k + 1) = t) {y : Int} (hL : L ≤ 1024) (hlt : k + 2 ≤ L) (hc : ab_S (pg_G L xs) (d + 199) 96 [.ref 0, .int t] (hp M ++ (oO o :: ex)) (some (zi y)) (hp M1 ++ (oO o :: ex))) {F : mm → Prop} (hm : ∀ o', ∃ M2, ab_S (pg_G L xs) (d + 200) 164 [.ref 572, .int t] (hp M1 ++ (oO o' :: ex)) (some (zi y)) (hp M2 ++ (oO o' :: ex)) ∧ M2.1 572 2 = 0 ∧ F M2) (kk : ∀ M2 o' a b, F M2 → LW L xs d Q k a b 796 (hp M2 ++ (oO o' :: ex))) : LW L xs d Q k o5 o6 652 (hp M ++ (oO o :: ex)) := by
  subst ht
  obtain ⟨M2, m1, m2, m3⟩ := hm (vp_updL o 0 (Int32.ofInt y).toInt64)
  have q := w_95 (L := L) (xs := xs) (d + 199) o_0 hc HP619
  rw [HPset] at q
  have z := c103 (L := L) (xs := xs) (M := M2) (es := oO (vp_updL o 0 (Int32.ofInt y).toInt64) :: ex) (d + 199)
  rw [m2] at z
  exact lw_12_v hL hlt q o_572 m1 o_572 z HP619 upd00 (kk M2 _ _ _ m3)
theorem lx_12_7 {t : Int32} (ht : xs (k + 1) = t) (hL : L ≤ 1024) (hlt : k + 2 ≤ L) (hc : ab_X (pg_G L xs) (d + 199) 96 [.ref 0, .int t] (hp M ++ (oO o :: ex)) (fun r h' => r = .inr (hp M ++ (oO o :: ex)).length ∧ h' = (hp M ++ (oO o :: ex)) ++ [.inr (7, [])])) (hm : ab_S (pg_G L xs) (d + 200) 164 [.ref 572, .int t] (hp M ++ (oO o :: (ex ++ [.inr (7, [])]))) (some (zi 0)) (hp (sI M 572 2 1) ++ (oO o :: (ex ++ [.inr (7, [])])))) (kk : ∀ a b, LW L xs d Q k a b 796 (hp (sI M 572 2 1) ++ (oO o :: (ex ++ [.inr (7, [])])))) : LW L xs d Q k o5 o6 652 (hp M ++ (oO o :: ex)) := by
  subst ht
  have q := y_95_7 (L := L) (xs := xs) (b := 619) (d + 199) o_0 hc
  rw [HPapp] at q
  have z := c103 (L := L) (xs := xs) (M := sI M 572 2 1) (es := oO o :: (ex ++ [.inr (7, [])])) (d + 199)
  rw [rd_eq] at z
  exact lw_12_x (w := 1) (v := 0) hL hlt q o_572 hm o_572 z (by decide) (kk _ _)
theorem lx_12_8 {t : Int32} (ht : xs (k + 1) = t) (hL : L ≤ 1024) (hlt : k + 2 ≤ L) (hc : ab_X (pg_G L xs) (d + 199) 96 [.ref 0, .int t] (hp M ++ (oO o :: ex)) (fun r h' => r = .inr (hp M ++ (oO o :: ex)).length ∧ h' = (hp M ++ (oO o :: ex)) ++ [.inr (8, [])])) (hm : ab_S (pg_G L xs) (d + 200) 164 [.ref 572, .int t] (hp M ++ (oO o :: (ex ++ [.inr (8, [])]))) (some (zi 0)) (hp (sI M 572 2 2) ++ (oO o :: (ex ++ [.inr (8, [])])))) (kk : ∀ a b, LW L xs d Q k a b 796 (hp (sI M 572 2 2) ++ (oO o :: (ex ++ [.inr (8, [])])))) : LW L xs d Q k o5 o6 652 (hp M ++ (oO o :: ex)) := by
  subst ht
  have q := y_95_8 (L := L) (xs := xs) (b := 619) (d + 199) o_0 hc
  rw [HPapp] at q
  have z := c103 (L := L) (xs := xs) (M := sI M 572 2 2) (es := oO o :: (ex ++ [.inr (8, [])])) (d + 199)
  rw [rd_eq] at z
  exact lw_12_x (w := 2) (v := 0) hL hlt q o_572 hm o_572 z (by decide) (kk _ _)
theorem lv_13_v {y : Int} (hL : L ≤ 1024) (hlt : k + 2 ≤ L) (hc : ab_S (pg_G L xs) (d + 199) 98 [.ref 0] (hp M ++ (oO o :: ex)) (some (zi y)) (hp M1 ++ (oO o :: ex))) {F : mm → Prop} (hm : ∀ o', ∃ M2, ab_S (pg_G L xs) (d + 200) 165 [.ref 572] (hp M1 ++ (oO o' :: ex)) (some (zi y)) (hp M2 ++ (oO o' :: ex)) ∧ M2.1 572 2 = 0 ∧ F M2) (kk : ∀ M2 o' a b, F M2 → LW L xs d Q k a b 796 (hp M2 ++ (oO o' :: ex))) : LW L xs d Q k o5 o6 708 (hp M ++ (oO o :: ex)) := by
  obtain ⟨M2, m1, m2, m3⟩ := hm (vp_updL o 0 (Int32.ofInt y).toInt64)
  have q := w_97 (L := L) (xs := xs) (d + 199) o_0 hc HP619
  rw [HPset] at q
  have z := c103 (L := L) (xs := xs) (M := M2) (es := oO (vp_updL o 0 (Int32.ofInt y).toInt64) :: ex) (d + 199)
  rw [m2] at z
  exact lw_13_v hL hlt q o_572 m1 o_572 z HP619 upd00 (kk M2 _ _ _ m3)
theorem lx_13_7 (hL : L ≤ 1024) (hlt : k + 2 ≤ L) (hc : ab_X (pg_G L xs) (d + 199) 98 [.ref 0] (hp M ++ (oO o :: ex)) (fun r h' => r = .inr (hp M ++ (oO o :: ex)).length ∧ h' = (hp M ++ (oO o :: ex)) ++ [.inr (7, [])])) (hm : ab_S (pg_G L xs) (d + 200) 165 [.ref 572] (hp M ++ (oO o :: (ex ++ [.inr (7, [])]))) (some (zi 0)) (hp (sI M 572 2 1) ++ (oO o :: (ex ++ [.inr (7, [])])))) (kk : ∀ a b, LW L xs d Q k a b 796 (hp (sI M 572 2 1) ++ (oO o :: (ex ++ [.inr (7, [])])))) : LW L xs d Q k o5 o6 708 (hp M ++ (oO o :: ex)) := by
  have q := y_97_7 (L := L) (xs := xs) (b := 619) (d + 199) o_0 hc
  rw [HPapp] at q
  have z := c103 (L := L) (xs := xs) (M := sI M 572 2 1) (es := oO o :: (ex ++ [.inr (7, [])])) (d + 199)
  rw [rd_eq] at z
  exact lw_13_x (w := 1) (v := 0) hL hlt q o_572 hm o_572 z (by decide) (kk _ _)
theorem lv_14_v {y : Int} (hL : L ≤ 1024) (hlt : k + 2 ≤ L) (hc : ab_S (pg_G L xs) (d + 199) 100 [.ref 0] (hp M ++ (oO o :: ex)) (some (zi y)) (hp M1 ++ (oO o :: ex))) {F : mm → Prop} (hm : ∀ o', ∃ M2, ab_S (pg_G L xs) (d + 200) 166 [.ref 572] (hp M1 ++ (oO o' :: ex)) (some (zi y)) (hp M2 ++ (oO o' :: ex)) ∧ M2.1 572 2 = 0 ∧ F M2) (kk : ∀ M2 o' a b, F M2 → LW L xs d Q k a b 796 (hp M2 ++ (oO o' :: ex))) : LW L xs d Q k o5 o6 752 (hp M ++ (oO o :: ex)) := by
  obtain ⟨M2, m1, m2, m3⟩ := hm (vp_updL o 0 (Int32.ofInt y).toInt64)
  have q := w_99 (L := L) (xs := xs) (d + 199) o_0 hc HP619
  rw [HPset] at q
  have z := c103 (L := L) (xs := xs) (M := M2) (es := oO (vp_updL o 0 (Int32.ofInt y).toInt64) :: ex) (d + 199)
  rw [m2] at z
  exact lw_14_v hL hlt q o_572 m1 o_572 z HP619 upd00 (kk M2 _ _ _ m3)
theorem lx_14_7 (hL : L ≤ 1024) (hlt : k + 2 ≤ L) (hc : ab_X (pg_G L xs) (d + 199) 100 [.ref 0] (hp M ++ (oO o :: ex)) (fun r h' => r = .inr (hp M ++ (oO o :: ex)).length ∧ h' = (hp M ++ (oO o :: ex)) ++ [.inr (7, [])])) (hm : ab_S (pg_G L xs) (d + 200) 166 [.ref 572] (hp M ++ (oO o :: (ex ++ [.inr (7, [])]))) (some (zi 0)) (hp (sI M 572 2 1) ++ (oO o :: (ex ++ [.inr (7, [])])))) (kk : ∀ a b, LW L xs d Q k a b 796 (hp (sI M 572 2 1) ++ (oO o :: (ex ++ [.inr (7, [])])))) : LW L xs d Q k o5 o6 752 (hp M ++ (oO o :: ex)) := by
  have q := y_99_7 (L := L) (xs := xs) (b := 619) (d + 199) o_0 hc
  rw [HPapp] at q
  have z := c103 (L := L) (xs := xs) (M := sI M 572 2 1) (es := oO o :: (ex ++ [.inr (7, [])])) (d + 199)
  rw [rd_eq] at z
  exact lw_14_x (w := 1) (v := 0) hL hlt q o_572 hm o_572 z (by decide) (kk _ _)
theorem zi_nat (n : Nat) : Int32.ofInt (n : Int) = Int32.ofNat n := rfl
theorem ups_lo {g : Nat → Int32} {n : Nat} {t : Int32} {i : Nat} (h : i < n) : ∀ c, ups g n t c i = g i
  | 0 => rfl
  | c + 1 => by
    show upd (ups g n t c) (n + c) (byt t (Int32.ofNat c)) i = g i
    unfold upd
    rw [if_neg (by omega)]
    exact ups_lo h c
theorem ups_hi {g : Nat → Int32} {n : Nat} {t : Int32} {j : Nat} : ∀ c, j < c → ups g n t c (n + j) = byt t (Int32.ofNat j)
  | 0, h => absurd h (Nat.not_lt_zero j)
  | c + 1, h => by
    show upd (ups g n t c) (n + c) (byt t (Int32.ofNat c)) (n + j) = _
    unfold upd
    rcases Nat.eq_or_lt_of_le (Nat.le_of_lt_succ h) with e | e
    · subst e; rw [if_pos rfl]
    · rw [if_neg (by omega)]; exact ups_hi c e
/-- the line, typed on -/
def nln (x : lne) (t : Int32) (c : Nat) : lne := (x.1 + c, fun i => if i < x.1 then x.2 i else (byt t (Int32.ofNat (i - x.1))).toInt.toNat)
def tpI (f : Int → Int) (n : Nat) (t : Int32) (c : Nat) : Int → Int := fun j => (ups (fun q => Int32.ofInt (f (q : Int))) n t c j.toNat).toInt
theorem tpI_row (f : Int → Int) (n : Nat) (t : Int32) (c : Nat) : (fun q : Nat => Int32.ofInt (tpI f n t c (q : Int))) = ups (fun q => Int32.ofInt (f (q : Int))) n t c := by
  funext q
  unfold tpI
  rw [Int.toNat_natCast, Int32.ofInt_toInt]
theorem tpI_ln {f : Int → Int} {x : lne} (hx : ∀ i : Nat, i < x.1 → f (i : Int) = ((x.2 i : Nat) : Int) ∧ x.2 i < 127) {t : Int32} {c : Nat} (H : okc t c) : ∀ i : Nat, i < (nln x t c).1 → tpI f x.1 t c (i : Int) = (((nln x t c).2 i : Nat) : Int) ∧ (nln x t c).2 i < 127 := by
  intro i hi
  have hi' : i < x.1 + c := hi
  unfold tpI nln
  dsimp only
  rw [Int.toNat_natCast]
  by_cases h : i < x.1
  · have q := hx i h
    rw [ups_lo h, if_pos h, q.1, i32_toInt (by omega) (by omega)]
    exact ⟨rfl, q.2⟩
  · obtain ⟨j, rfl⟩ : ∃ j, i = x.1 + j := ⟨i - x.1, by omega⟩
    have q := H.1 j (by omega)
    rw [if_neg h, ups_hi c (by omega), show x.1 + j - x.1 = j by omega]
    have q1 := Int32.le_iff_toInt_le.mp q.1
    have q2 := Int32.le_iff_toInt_le.mp q.2
    rw [show (32 : Int32).toInt = 32 by decide] at q1
    rw [show (126 : Int32).toInt = 126 by decide] at q2
    exact ⟨by omega, by omega⟩
theorem o_1p : (hp M ++ es)[1]? = some (.inl (2, 16, .inl (fun q => Int32.ofInt (M.1 1 (q : Int))))) := (hp_at M es (by decide)).trans rfl
theorem o_575p : (hp M ++ es)[575]? = some (.inl (0, 16, .inl (fun q => Int32.ofInt (M.1 575 (q : Int))))) := (hp_at M es (by decide)).trans rfl
theorem T51 (d : Nat) {t : Int32} {c n : Nat} (hc : c ≤ 4) (H : okc t c) (h01 : M.1 0 1 = (n : Int)) (hf : n + c ≤ 16) : ab_S (pg_G L xs) (d + 2) 51 [.ref 0, .int t] (hp M ++ es) (some (.int 1)) (hp (sI (rI M 1 (tpI (M.1 1) n t c)) 0 1 ((n + c : Nat) : Int)) ++ es) := by
  have e : zi (M.1 0 1) = .int (Int32.ofNat n) := by rw [h01]; rfl
  have ha := o_0 (M := M) (es := es)
  rw [e] at ha
  have key : ab_S (pg_G L xs) (d + 2) 51 [.ref 0, .int t] (hp M ++ es) (some (.int 1)) (((hp M ++ es).set 1 (.inl (2, 16, .inl (ups (fun q => Int32.ofInt (M.1 1 (q : Int))) n t c)))).set 0 (.inr (0, [.ref 1, .int (Int32.ofNat (n + c)), .ref 2, .ref (M.2.2 0 3), .ref (M.2.2 0 4), zi (M.1 0 5), zi (M.1 0 6), zi (M.1 0 7), zi (M.1 0 8), .ref 569, zi (M.1 0 10), .ref 570, zi (M.1 0 12)]))) := by
    match c, hc with
    | 0, _ => exact t51_0 d ha o_1p (by decide) (by omega) H hf
    | 1, _ => exact t51_1 d ha o_1p (by decide) (by omega) H hf
    | 2, _ => exact t51_2 d ha o_1p (by decide) (by omega) H hf
    | 3, _ => exact t51_3 d ha o_1p (by decide) (by omega) H hf
    | 4, _ => exact t51_4 d ha o_1p (by decide) (by omega) H hf
    | q + 5, hq => exact absurd hq (by omega)
  rw [hp_rI (f := tpI (M.1 1) n t c) (by decide) (by show (.inl (2, 16, .inl (fun q : Nat => Int32.ofInt (tpI (M.1 1) n t c (q : Int)))) : ab_O) = _; rw [tpI_row]), hp_sI (k := 1) (x := ((n + c : Nat) : Int)) (by decide) (by rw [rI_ne (by decide)]; rfl)] at key
  exact key
theorem F51 (d : Nat) {t : Int32} {c n : Nat} (hc : c ≤ 4) (H : okc t c) (h01 : M.1 0 1 = (n : Int)) (hn : n ≤ 16) (hf : ¬ n + c ≤ 16) : ab_S (pg_G L xs) (d + 2) 51 [.ref 0, .int t] (hp M ++ es) (some (.int 0)) (hp M ++ es) := by
  have e : zi (M.1 0 1) = .int (Int32.ofNat n) := by rw [h01]; rfl
  have ha := o_0 (M := M) (es := es)
  rw [e] at ha
  match c, hc with
  | 0, _ => exact f51_0 d ha o_1p (by decide) (by omega) H hf
  | 1, _ => exact f51_1 d ha o_1p (by decide) (by omega) H hf
  | 2, _ => exact f51_2 d ha o_1p (by decide) (by omega) H hf
  | 3, _ => exact f51_3 d ha o_1p (by decide) (by omega) H hf
  | 4, _ => exact f51_4 d ha o_1p (by decide) (by omega) H hf
  | q + 5, hq => exact absurd hq (by omega)
theorem B51 (d : Nat) {t : Int32} {c n : Nat} (hc : c < 4) (H : bdc t c) (h01 : M.1 0 1 = (n : Int)) (hn : n ≤ 16) (r1 : (hp M ++ es).length + 1 ≤ 600000) (r2 : ab_wt (pg_G L xs) (hp M ++ es) + 6 ≤ 7000000) : ab_X (pg_G L xs) (d + 2) 51 [.ref 0, .int t] (hp M ++ es) (fun r h' => r = .inr (hp M ++ es).length ∧ h' = hp M ++ es ++ [.inr (6, [])]) := by
  have e : zi (M.1 0 1) = .int (Int32.ofNat n) := by rw [h01]; rfl
  have ha := o_0 (M := M) (es := es)
  rw [e] at ha
  match c, hc with
  | 0, _ => exact b51_0 d ha o_1p (by decide) (by omega) H r1 r2
  | 1, _ => exact b51_1 d ha o_1p (by decide) (by omega) H r1 r2
  | 2, _ => exact b51_2 d ha o_1p (by decide) (by omega) H r1 r2
  | 3, _ => exact b51_3 d ha o_1p (by decide) (by omega) H r1 r2
  | q + 4, hq => exact absurd hq (by omega)
theorem T104 (d : Nat) {t : Int32} {c n : Nat} (hc : c ≤ 4) (H : okc t c) (h04 : M.1 572 4 = (n : Int)) (hf : n + c ≤ 16) : ab_S (pg_G L xs) (d + 1) 104 [.ref 572, .int t] (hp M ++ es) (some (.int 1)) (hp (sI (sI (rI M 575 (tpI (M.1 575) n t c)) 572 2 0) 572 4 ((n + c : Nat) : Int)) ++ es) := by
  have e : (some (zi (M.1 572 4)) : Option Value) = some (.int (Int32.ofNat n)) := by rw [h04]; rfl
  have ha := o_572 (M := M) (es := es)
  obtain ⟨fs, hM, hl, h3, h4, hset⟩ : ∃ fs : List Value, (hp M ++ es)[572]? = some (.inr (5, fs)) ∧ fs.length = 68 ∧ fs[3]? = some (.ref 575) ∧ fs[4]? = some (.int (Int32.ofNat n)) ∧ ∀ y : Int, rn (upi (upi (M.1 572) 2 0) 4 y) (M.2.1 572) (M.2.2 572) 572 = .inr (5, (fs.set 2 (.int 0)).set 4 (zi y)) := ⟨_, ha, rfl, rfl, e, fun y => rfl⟩
  have key : ab_S (pg_G L xs) (d + 1) 104 [.ref 572, .int t] (hp M ++ es) (some (.int 1)) (((hp M ++ es).set 575 (.inl (0, 16, .inl (ups (fun q => Int32.ofInt (M.1 575 (q : Int))) n t c)))).set 572 (.inr (5, (fs.set 2 (.int 0)).set 4 (.int (Int32.ofNat (n + c)))))) := by
    match c, hc with
    | 0, _ => exact t104_0 d hM hl h3 h4 o_575p (by decide) (by omega) H hf
    | 1, _ => exact t104_1 d hM hl h3 h4 o_575p (by decide) (by omega) H hf
    | 2, _ => exact t104_2 d hM hl h3 h4 o_575p (by decide) (by omega) H hf
    | 3, _ => exact t104_3 d hM hl h3 h4 o_575p (by decide) (by omega) H hf
    | 4, _ => exact t104_4 d hM hl h3 h4 o_575p (by decide) (by omega) H hf
    | q + 5, hq => exact absurd hq (by omega)
  rw [hp_rI (f := tpI (M.1 575) n t c) (by decide) (by show (.inl (0, 16, .inl (fun q : Nat => Int32.ofInt (tpI (M.1 575) n t c (q : Int)))) : ab_O) = _; rw [tpI_row]), hp_set (M' := sI (sI (rI M 575 (tpI (M.1 575) n t c)) 572 2 0) 572 4 ((n + c : Nat) : Int)) (by decide) (by unfold ob; rw [sI_at, sI_at, rI_ne (by decide)]; exact hset _) (fun b hb => by unfold ob; rw [sI_ne hb, sI_ne hb]; rfl)] at key
  exact key
theorem F104 (d : Nat) {t : Int32} {c n : Nat} (hc : c ≤ 4) (H : okc t c) (h04 : M.1 572 4 = (n : Int)) (hn : n ≤ 16) (hf : ¬ n + c ≤ 16) : ab_S (pg_G L xs) (d + 1) 104 [.ref 572, .int t] (hp M ++ es) (some (.int 0)) (hp (sI M 572 2 0) ++ es) := by
  have e : (some (zi (M.1 572 4)) : Option Value) = some (.int (Int32.ofNat n)) := by rw [h04]; rfl
  have ha := o_572 (M := M) (es := es)
  obtain ⟨fs, hM, hl, h3, h4, hset⟩ : ∃ fs : List Value, (hp M ++ es)[572]? = some (.inr (5, fs)) ∧ fs.length = 68 ∧ fs[3]? = some (.ref 575) ∧ fs[4]? = some (.int (Int32.ofNat n)) ∧ rn (upi (M.1 572) 2 0) (M.2.1 572) (M.2.2 572) 572 = .inr (5, fs.set 2 (.int 0)) := ⟨_, ha, rfl, rfl, e, rfl⟩
  have key : ab_S (pg_G L xs) (d + 1) 104 [.ref 572, .int t] (hp M ++ es) (some (.int 0)) ((hp M ++ es).set 572 (.inr (5, fs.set 2 (.int 0)))) := by
    match c, hc with
    | 0, _ => exact f104_0 d hM hl h3 h4 o_575p (by decide) (by omega) H hf
    | 1, _ => exact f104_1 d hM hl h3 h4 o_575p (by decide) (by omega) H hf
    | 2, _ => exact f104_2 d hM hl h3 h4 o_575p (by decide) (by omega) H hf
    | 3, _ => exact f104_3 d hM hl h3 h4 o_575p (by decide) (by omega) H hf
    | 4, _ => exact f104_4 d hM hl h3 h4 o_575p (by decide) (by omega) H hf
    | q + 5, hq => exact absurd hq (by omega)
  rw [hp_sI (k := 2) (x := 0) (by decide) hset] at key
  exact key
theorem B104 (d : Nat) {t : Int32} {c n : Nat} (hc : c < 4) (H : bdc t c) (h04 : M.1 572 4 = (n : Int)) (hn : n ≤ 16) : ab_S (pg_G L xs) (d + 1) 104 [.ref 572, .int t] (hp M ++ es) (some (.int 0)) (hp (sI M 572 2 1) ++ es) := by
  have e : (some (zi (M.1 572 4)) : Option Value) = some (.int (Int32.ofNat n)) := by rw [h04]; rfl
  have ha := o_572 (M := M) (es := es)
  obtain ⟨fs, hM, hl, h3, h4, hset⟩ : ∃ fs : List Value, (hp M ++ es)[572]? = some (.inr (5, fs)) ∧ fs.length = 68 ∧ fs[3]? = some (.ref 575) ∧ fs[4]? = some (.int (Int32.ofNat n)) ∧ rn (upi (M.1 572) 2 1) (M.2.1 572) (M.2.2 572) 572 = .inr (5, fs.set 2 (.int 1)) := ⟨_, ha, rfl, rfl, e, rfl⟩
  have key : ab_S (pg_G L xs) (d + 1) 104 [.ref 572, .int t] (hp M ++ es) (some (.int 0)) ((hp M ++ es).set 572 (.inr (5, fs.set 2 (.int 1)))) := by
    match c, hc with
    | 0, _ => exact b104_0 d hM hl h3 h4 o_575p (by decide) (by omega) H
    | 1, _ => exact b104_1 d hM hl h3 h4 o_575p (by decide) (by omega) H
    | 2, _ => exact b104_2 d hM hl h3 h4 o_575p (by decide) (by omega) H
    | 3, _ => exact b104_3 d hM hl h3 h4 o_575p (by decide) (by omega) H
    | q + 4, hq => exact absurd hq (by omega)
  rw [hp_sI (k := 2) (x := 1) (by decide) hset] at key
  exact key
end C45
