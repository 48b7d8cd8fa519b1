section Un
variable {P : pgm} {k : Nat}
theorem sh_0 (hk : pK P k = 0) (w : List Nat) : sem_sh P k w = w := by
  rw [sem_sh, hk]
  split <;> rfl
theorem sh_1 (hk : pK P k = 1) (w : List Nat) : sem_sh P k w = [] := by
  rw [sem_sh, hk]
  split <;> rfl
theorem sh_2 (hk : pK P k = 2) (w : List Nat) : sem_sh P k w = [pT P k - 1] := by
  rw [sem_sh, hk]
  split <;> rfl
theorem sh_3 (hk : pK P k = 3) (hl : pL P k < k ∧ pR P k < k) (w : List Nat) : sem_sh P k w = sem_sh P (pL P k) w := by
  rw [sem_sh, dif_pos hl, hk]
  rfl
theorem sh_4 (hk : pK P k = 4) (hl : pL P k < k ∧ pR P k < k) (w : List Nat) : sem_sh P k w = bif pS_ P (pL P k) (tx_num w) then sem_sh P (pL P k) w else sem_sh P (pR P k) w := by
  rw [sem_sh, dif_pos hl, hk]
  rfl
theorem sh_5 (hk : pK P k = 5) (hl : pL P k < k ∧ pR P k < k) (w : List Nat) : sem_sh P k w = sem_sh P (pL P k) (w.take (cut (pS_ P (pL P k)) (pS_ P (pR P k)) w)) ++ sem_sh P (pR P k) (w.drop (cut (pS_ P (pL P k)) (pS_ P (pR P k)) w)) := by
  rw [sem_sh, dif_pos hl, hk]
  rfl
theorem sh_6 (hk : pK P k = 6) (hl : pL P k < k ∧ pR P k < k) (w : List Nat) : sem_sh P k w = sem_sh P (pR P k) (w.drop (cut (pS_ P (pL P k)) (pS_ P (pR P k)) w)) ++ sem_sh P (pL P k) (w.take (cut (pS_ P (pL P k)) (pS_ P (pR P k)) w)) := by
  rw [sem_sh, dif_pos hl, hk]
  rfl
theorem sh_7 (hk : pK P k = 7) (hl : pL P k < k ∧ pR P k < k) (w : List Nat) : sem_sh P k w = (rps (pS_ P (pL P k)) (pS_ P k) w).flatMap (fun u => sem_sh P (pL P k) u) := by
  rw [sem_sh, dif_pos hl, hk]
  rfl
theorem sh_8 (hk : pK P k = 8) (hl : pL P k < k ∧ pR P k < k) (w : List Nat) : sem_sh P k w = (rps (pS_ P (pL P k)) (pS_ P k) w).flatMap (fun u => sem_sh P (pL P k) u) := by
  rw [sem_sh, dif_pos hl, hk]
  rfl
theorem cr_0 (hk : pK P k = 0) (v : List Nat) : sem_cr P k v = v := by
  rw [sem_cr, hk]
  split <;> rfl
theorem cr_1 (hk : pK P k = 1) (v : List Nat) : sem_cr P k v = [pT P k - 1] := by
  rw [sem_cr, hk]
  split <;> rfl
theorem cr_2 (hk : pK P k = 2) (v : List Nat) : sem_cr P k v = [] := by
  rw [sem_cr, hk]
  split <;> rfl
theorem cr_3 (hk : pK P k = 3) (hl : pL P k < k ∧ pR P k < k) (v : List Nat) : sem_cr P k v = sem_cr P (pL P k) v := by
  rw [sem_cr, dif_pos hl, hk]
  rfl
theorem cr_4 (hk : pK P k = 4) (hl : pL P k < k ∧ pR P k < k) (v : List Nat) : sem_cr P k v = bif pV P (pL P k) (tx_num v) then sem_cr P (pL P k) v else sem_cr P (pR P k) v := by
  rw [sem_cr, dif_pos hl, hk]
  rfl
theorem cr_5 (hk : pK P k = 5) (hl : pL P k < k ∧ pR P k < k) (v : List Nat) : sem_cr P k v = sem_cr P (pL P k) (v.take (cut (pV P (pL P k)) (pV P (pR P k)) v)) ++ sem_cr P (pR P k) (v.drop (cut (pV P (pL P k)) (pV P (pR P k)) v)) := by
  rw [sem_cr, dif_pos hl, hk]
  rfl
theorem cr_6 (hk : pK P k = 6) (hl : pL P k < k ∧ pR P k < k) (v : List Nat) : sem_cr P k v = sem_cr P (pL P k) (v.drop (cut (pV P (pR P k)) (pV P (pL P k)) v)) ++ sem_cr P (pR P k) (v.take (cut (pV P (pR P k)) (pV P (pL P k)) v)) := by
  rw [sem_cr, dif_pos hl, hk]
  rfl
theorem cr_7 (hk : pK P k = 7) (hl : pL P k < k ∧ pR P k < k) (v : List Nat) : sem_cr P k v = (rps (pV P (pL P k)) (pV P k) v).flatMap (fun u => sem_cr P (pL P k) u) := by
  rw [sem_cr, dif_pos hl, hk]
  rfl
theorem cr_8 (hk : pK P k = 8) (hl : pL P k < k ∧ pR P k < k) (v : List Nat) : sem_cr P k v = (rps (pV P (pL P k)) (pV P k) v).flatMap (fun u => sem_cr P (pL P k) u) := by
  rw [sem_cr, dif_pos hl, hk]
  rfl
theorem ky_0 (hk : pK P k = 0) (v : List Nat) : sem_ky P k v = [] := by
  rw [sem_ky, hk]
  split <;> rfl
theorem ky_1 (hk : pK P k = 1) (v : List Nat) : sem_ky P k v = [] := by
  rw [sem_ky, hk]
  split <;> rfl
theorem ky_2 (hk : pK P k = 2) (v : List Nat) : sem_ky P k v = [] := by
  rw [sem_ky, hk]
  split <;> rfl
theorem ky_3 (hk : pK P k = 3) (hl : pL P k < k ∧ pR P k < k) (v : List Nat) : sem_ky P k v = v := by
  rw [sem_ky, dif_pos hl, hk]
  rfl
theorem ky_4 (hk : pK P k = 4) (hl : pL P k < k ∧ pR P k < k) (v : List Nat) : sem_ky P k v = bif pV P (pL P k) (tx_num v) then sem_ky P (pL P k) v else sem_ky P (pR P k) v := by
  rw [sem_ky, dif_pos hl, hk]
  rfl
theorem ky_5 (hk : pK P k = 5) (hl : pL P k < k ∧ pR P k < k) (v : List Nat) : sem_ky P k v = sem_ky P (pL P k) (v.take (cut (pV P (pL P k)) (pV P (pR P k)) v)) ++ sem_ky P (pR P k) (v.drop (cut (pV P (pL P k)) (pV P (pR P k)) v)) := by
  rw [sem_ky, dif_pos hl, hk]
  rfl
theorem ky_6 (hk : pK P k = 6) (hl : pL P k < k ∧ pR P k < k) (v : List Nat) : sem_ky P k v = sem_ky P (pL P k) (v.drop (cut (pV P (pR P k)) (pV P (pL P k)) v)) ++ sem_ky P (pR P k) (v.take (cut (pV P (pR P k)) (pV P (pL P k)) v)) := by
  rw [sem_ky, dif_pos hl, hk]
  rfl
theorem ky_7 (hk : pK P k = 7) (hl : pL P k < k ∧ pR P k < k) (v : List Nat) : sem_ky P k v = (rps (pV P (pL P k)) (pV P k) v).flatMap (fun u => sem_ky P (pL P k) u) := by
  rw [sem_ky, dif_pos hl, hk]
  rfl
theorem ky_8 (hk : pK P k = 8) (hl : pL P k < k ∧ pR P k < k) (v : List Nat) : sem_ky P k v = (rps (pV P (pL P k)) (pV P k) v).flatMap (fun u => sem_ky P (pL P k) u) := by
  rw [sem_ky, dif_pos hl, hk]
  rfl
theorem pu_0 (hk : pK P k = 0) (s v : List Nat) : sem_pu P k s v = v := by
  rw [sem_pu, hk]
  split <;> rfl
theorem pu_1 (hk : pK P k = 1) (s v : List Nat) : sem_pu P k s v = s := by
  rw [sem_pu, hk]
  split <;> rfl
theorem pu_2 (hk : pK P k = 2) (s v : List Nat) : sem_pu P k s v = [] := by
  rw [sem_pu, hk]
  split <;> rfl
theorem pu_3 (hk : pK P k = 3) (hl : pL P k < k ∧ pR P k < k) (s v : List Nat) : sem_pu P k s v = sem_pu P (pL P k) s v := by
  rw [sem_pu, dif_pos hl, hk]
  rfl
theorem pu_4 (hk : pK P k = 4) (hl : pL P k < k ∧ pR P k < k) (s v : List Nat) : sem_pu P k s v = bif pS_ P (pL P k) (tx_num s) then (bif pV P (pL P k) (tx_num v) then sem_pu P (pL P k) s v else sem_cr P (pR P k) v) else (bif pV P (pR P k) (tx_num v) then sem_pu P (pR P k) s v else sem_cr P (pL P k) v) := by
  rw [sem_pu, dif_pos hl, hk]
  rfl
theorem pu_5 (hk : pK P k = 5) (hl : pL P k < k ∧ pR P k < k) (s v : List Nat) : sem_pu P k s v = sem_pu P (pL P k) (s.take (cut (pS_ P (pL P k)) (pS_ P (pR P k)) s)) (v.take (cut (pV P (pL P k)) (pV P (pR P k)) v)) ++ sem_pu P (pR P k) (s.drop (cut (pS_ P (pL P k)) (pS_ P (pR P k)) s)) (v.drop (cut (pV P (pL P k)) (pV P (pR P k)) v)) := by
  rw [sem_pu, dif_pos hl, hk]
  rfl
theorem pu_6 (hk : pK P k = 6) (hl : pL P k < k ∧ pR P k < k) (s v : List Nat) : sem_pu P k s v = sem_pu P (pL P k) (s.take (cut (pS_ P (pL P k)) (pS_ P (pR P k)) s)) (v.drop (cut (pV P (pR P k)) (pV P (pL P k)) v)) ++ sem_pu P (pR P k) (s.drop (cut (pS_ P (pL P k)) (pS_ P (pR P k)) s)) (v.take (cut (pV P (pR P k)) (pV P (pL P k)) v)) := by
  rw [sem_pu, dif_pos hl, hk]
  rfl
theorem pu_7 (hk : pK P k = 7) (hl : pL P k < k ∧ pR P k < k) (s v : List Nat) : sem_pu P k s v = (List.range (rps (pV P (pL P k)) (pV P k) v).length).flatMap (fun i => match org false ((rps (pS_ P (pL P k)) (pS_ P k) s).map (fun u => tx_num (sem_ky P (pL P k) (sem_sh P (pL P k) u)))) ((rps (pV P (pL P k)) (pV P k) v).map (fun u => tx_num (sem_ky P (pL P k) u))) i with
        | none => sem_cr P (pL P k) (rps (pV P (pL P k)) (pV P k) v)[i]!
        | some o => sem_pu P (pL P k) (rps (pS_ P (pL P k)) (pS_ P k) s)[o]! (rps (pV P (pL P k)) (pV P k) v)[i]!) := by
  rw [sem_pu, dif_pos hl, hk]
  rfl
theorem pu_8 (hk : pK P k = 8) (hl : pL P k < k ∧ pR P k < k) (s v : List Nat) : sem_pu P k s v = (List.range (rps (pV P (pL P k)) (pV P k) v).length).flatMap (fun i => match org true ((rps (pS_ P (pL P k)) (pS_ P k) s).map (fun u => tx_num (sem_ky P (pL P k) (sem_sh P (pL P k) u)))) ((rps (pV P (pL P k)) (pV P k) v).map (fun u => tx_num (sem_ky P (pL P k) u))) i with
        | none => sem_cr P (pL P k) (rps (pV P (pL P k)) (pV P k) v)[i]!
        | some o => sem_pu P (pL P k) (rps (pS_ P (pL P k)) (pS_ P k) s)[o]! (rps (pV P (pL P k)) (pV P k) v)[i]!) := by
  rw [sem_pu, dif_pos hl, hk]
  rfl
end Un
