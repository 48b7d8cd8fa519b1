/-! OURS, printed: the checks of every method's code. -/
theorem ck_c0 : (List.range 12).all (fun k => dk_ck (pg_cd (0 + k)).data.toList (pg_tb.getD (0 + k) [])) = true := by decide +kernel
theorem ck_c12 : (List.range 12).all (fun k => dk_ck (pg_cd (12 + k)).data.toList (pg_tb.getD (12 + k) [])) = true := by decide +kernel
theorem ck_c24 : (List.range 12).all (fun k => dk_ck (pg_cd (24 + k)).data.toList (pg_tb.getD (24 + k) [])) = true := by decide +kernel
theorem ck_c36 : (List.range 12).all (fun k => dk_ck (pg_cd (36 + k)).data.toList (pg_tb.getD (36 + k) [])) = true := by decide +kernel
theorem ck_c48 : (List.range 12).all (fun k => dk_ck (pg_cd (48 + k)).data.toList (pg_tb.getD (48 + k) [])) = true := by decide +kernel
theorem ck_c60 : (List.range 12).all (fun k => dk_ck (pg_cd (60 + k)).data.toList (pg_tb.getD (60 + k) [])) = true := by decide +kernel
theorem ck_c72 : (List.range 12).all (fun k => dk_ck (pg_cd (72 + k)).data.toList (pg_tb.getD (72 + k) [])) = true := by decide +kernel
theorem ck_c84 : (List.range 12).all (fun k => dk_ck (pg_cd (84 + k)).data.toList (pg_tb.getD (84 + k) [])) = true := by decide +kernel
theorem ck_c96 : (List.range 12).all (fun k => dk_ck (pg_cd (96 + k)).data.toList (pg_tb.getD (96 + k) [])) = true := by decide +kernel
theorem ck_c108 : (List.range 12).all (fun k => dk_ck (pg_cd (108 + k)).data.toList (pg_tb.getD (108 + k) [])) = true := by decide +kernel
theorem ck_c120 : (List.range 12).all (fun k => dk_ck (pg_cd (120 + k)).data.toList (pg_tb.getD (120 + k) [])) = true := by decide +kernel
theorem ck_c132 : (List.range 12).all (fun k => dk_ck (pg_cd (132 + k)).data.toList (pg_tb.getD (132 + k) [])) = true := by decide +kernel
theorem ck_c144 : (List.range 12).all (fun k => dk_ck (pg_cd (144 + k)).data.toList (pg_tb.getD (144 + k) [])) = true := by decide +kernel
theorem ck_c156 : (List.range 11).all (fun k => dk_ck (pg_cd (156 + k)).data.toList (pg_tb.getD (156 + k) [])) = true := by decide +kernel
theorem ck_c_ok : ∀ j, j < 167 → dk_ck (pg_cd j).data.toList (pg_tb.getD j []) = true := by
  intro j hj
  by_cases h0 : 0 ≤ j ∧ j < 12
  · have h := List.all_eq_true.mp ck_c0 (j - 0) (List.mem_range.mpr (by omega))
    rw [show 0 + (j - 0) = j by omega] at h
    exact h
  by_cases h12 : 12 ≤ j ∧ j < 24
  · have h := List.all_eq_true.mp ck_c12 (j - 12) (List.mem_range.mpr (by omega))
    rw [show 12 + (j - 12) = j by omega] at h
    exact h
  by_cases h24 : 24 ≤ j ∧ j < 36
  · have h := List.all_eq_true.mp ck_c24 (j - 24) (List.mem_range.mpr (by omega))
    rw [show 24 + (j - 24) = j by omega] at h
    exact h
  by_cases h36 : 36 ≤ j ∧ j < 48
  · have h := List.all_eq_true.mp ck_c36 (j - 36) (List.mem_range.mpr (by omega))
    rw [show 36 + (j - 36) = j by omega] at h
    exact h
  by_cases h48 : 48 ≤ j ∧ j < 60
  · have h := List.all_eq_true.mp ck_c48 (j - 48) (List.mem_range.mpr (by omega))
    rw [show 48 + (j - 48) = j by omega] at h
    exact h
  by_cases h60 : 60 ≤ j ∧ j < 72
  · have h := List.all_eq_true.mp ck_c60 (j - 60) (List.mem_range.mpr (by omega))
    rw [show 60 + (j - 60) = j by omega] at h
    exact h
  by_cases h72 : 72 ≤ j ∧ j < 84
  · have h := List.all_eq_true.mp ck_c72 (j - 72) (List.mem_range.mpr (by omega))
    rw [show 72 + (j - 72) = j by omega] at h
    exact h
  by_cases h84 : 84 ≤ j ∧ j < 96
  · have h := List.all_eq_true.mp ck_c84 (j - 84) (List.mem_range.mpr (by omega))
    rw [show 84 + (j - 84) = j by omega] at h
    exact h
  by_cases h96 : 96 ≤ j ∧ j < 108
  · have h := List.all_eq_true.mp ck_c96 (j - 96) (List.mem_range.mpr (by omega))
    rw [show 96 + (j - 96) = j by omega] at h
    exact h
  by_cases h108 : 108 ≤ j ∧ j < 120
  · have h := List.all_eq_true.mp ck_c108 (j - 108) (List.mem_range.mpr (by omega))
    rw [show 108 + (j - 108) = j by omega] at h
    exact h
  by_cases h120 : 120 ≤ j ∧ j < 132
  · have h := List.all_eq_true.mp ck_c120 (j - 120) (List.mem_range.mpr (by omega))
    rw [show 120 + (j - 120) = j by omega] at h
    exact h
  by_cases h132 : 132 ≤ j ∧ j < 144
  · have h := List.all_eq_true.mp ck_c132 (j - 132) (List.mem_range.mpr (by omega))
    rw [show 132 + (j - 132) = j by omega] at h
    exact h
  by_cases h144 : 144 ≤ j ∧ j < 156
  · have h := List.all_eq_true.mp ck_c144 (j - 144) (List.mem_range.mpr (by omega))
    rw [show 144 + (j - 144) = j by omega] at h
    exact h
  by_cases h156 : 156 ≤ j ∧ j < 167
  · have h := List.all_eq_true.mp ck_c156 (j - 156) (List.mem_range.mpr (by omega))
    rw [show 156 + (j - 156) = j by omega] at h
    exact h
  omega
def ck_sl : List (Nat × Nat) := [(0, 39), (12, 4), (22, 14), (65, 12), (76, 12), (78, 12), (86, 12), (142, 22), (152, 22)]
theorem ck_s : (List.range 167).all (fun j => ((pg_tb.getD j []).zipIdx).all (fun q => match q.1 with | none => true | some i => !(ab_sw i) || decide ((j, q.2) ∈ ck_sl))) = true := by decide +kernel
theorem ck_s0_39 : decode (pg_cd 0) 39 = .ok (.tableswitch 757 0 14 #[73, 136, 149, 162, 175, 231, 294, 357, 413, 476, 532, 588, 613, 669, 713], 73) := by decide +kernel
theorem ck_f0_39 : pg_f 0 39 = some (.tableswitch 757 0 14 #[73, 136, 149, 162, 175, 231, 294, 357, 413, 476, 532, 588, 613, 669, 713]) := by decide +kernel
theorem ck_s12_4 : decode (pg_cd 12) 4 = .ok (.lookupswitch 201 #[(40, 52), (43, 171), (45, 132), (61, 101), (94, 58)], 52) := by decide +kernel
theorem ck_f12_4 : pg_f 12 4 = some (.lookupswitch 201 #[(40, 52), (43, 171), (45, 132), (61, 101), (94, 58)]) := by decide +kernel
theorem ck_s22_14 : decode (pg_cd 22) 14 = .ok (.tableswitch 92 3 8 #[38, 69, 76, 76, 84, 84], 38) := by decide +kernel
theorem ck_f22_14 : pg_f 22 14 = some (.tableswitch 92 3 8 #[38, 69, 76, 76, 84, 84]) := by decide +kernel
theorem ck_s65_12 : decode (pg_cd 65) 12 = .ok (.tableswitch 85 0 6 #[44, 46, 48, 53, 65, 78, 78], 44) := by decide +kernel
theorem ck_f65_12 : pg_f 65 12 = some (.tableswitch 85 0 6 #[44, 46, 48, 53, 65, 78, 78]) := by decide +kernel
theorem ck_s76_12 : decode (pg_cd 76) 12 = .ok (.tableswitch 79 0 6 #[44, 46, 48, 50, 63, 71, 71], 44) := by decide +kernel
theorem ck_f76_12 : pg_f 76 12 = some (.tableswitch 79 0 6 #[44, 46, 48, 50, 63, 71, 71]) := by decide +kernel
theorem ck_s78_12 : decode (pg_cd 78) 12 = .ok (.tableswitch 96 0 6 #[44, 46, 62, 64, 76, 89, 89], 44) := by decide +kernel
theorem ck_f78_12 : pg_f 78 12 = some (.tableswitch 96 0 6 #[44, 46, 62, 64, 76, 89, 89]) := by decide +kernel
theorem ck_s86_12 : decode (pg_cd 86) 12 = .ok (.tableswitch 69 3 8 #[40, 42, 55, 55, 62, 62], 40) := by decide +kernel
theorem ck_f86_12 : pg_f 86 12 = some (.tableswitch 69 3 8 #[40, 42, 55, 55, 62, 62]) := by decide +kernel
theorem ck_s142_22 : decode (pg_cd 142) 22 = .ok (.tableswitch 142 0 9 #[54, 54, 67, 70, 142, 142, 83, 94, 132, 132], 54) := by decide +kernel
theorem ck_f142_22 : pg_f 142 22 = some (.tableswitch 142 0 9 #[54, 54, 67, 70, 142, 142, 83, 94, 132, 132]) := by decide +kernel
theorem ck_s152_22 : decode (pg_cd 152) 22 = .ok (.tableswitch 155 0 9 #[54, 54, 67, 109, 155, 155, 112, 127, 141, 141], 54) := by decide +kernel
theorem ck_f152_22 : pg_f 152 22 = some (.tableswitch 155 0 9 #[54, 54, 67, 109, 155, 155, 112, 127, 141, 141]) := by decide +kernel
theorem ck_s_ok : ∀ q ∈ ck_sl, ∀ i, pg_f q.1 q.2 = some i → ∃ n, decode (pg_cd q.1) q.2 = .ok (i, n) := by
  intro q hq i hi
  simp only [ck_sl, List.mem_cons, List.not_mem_nil, or_false] at hq
  rcases hq with rfl | rfl | rfl | rfl | rfl | rfl | rfl | rfl | rfl
  · exact ⟨73, by rw [← Option.some.inj (ck_f0_39.symm.trans hi)]; exact ck_s0_39⟩
  · exact ⟨52, by rw [← Option.some.inj (ck_f12_4.symm.trans hi)]; exact ck_s12_4⟩
  · exact ⟨38, by rw [← Option.some.inj (ck_f22_14.symm.trans hi)]; exact ck_s22_14⟩
  · exact ⟨44, by rw [← Option.some.inj (ck_f65_12.symm.trans hi)]; exact ck_s65_12⟩
  · exact ⟨44, by rw [← Option.some.inj (ck_f76_12.symm.trans hi)]; exact ck_s76_12⟩
  · exact ⟨44, by rw [← Option.some.inj (ck_f78_12.symm.trans hi)]; exact ck_s78_12⟩
  · exact ⟨40, by rw [← Option.some.inj (ck_f86_12.symm.trans hi)]; exact ck_s86_12⟩
  · exact ⟨54, by rw [← Option.some.inj (ck_f142_22.symm.trans hi)]; exact ck_s142_22⟩
  · exact ⟨54, by rw [← Option.some.inj (ck_f152_22.symm.trans hi)]; exact ck_s152_22⟩
theorem pg_T_ok {L : Nat} {xs : Nat → Int32} {j : Nat} (hj : j < 167) : sd_T (pg_G L xs) j (pg_cd j) := by
  intro pc i hf
  have h0 : ((pg_tb.getD j [])[pc]?).join = some i := hf
  have h1 : (pg_tb.getD j [])[pc]? = some (some i) := by
    cases h : (pg_tb.getD j [])[pc]? with
    | none => rw [h] at h0; cases h0
    | some o =>
      rw [h] at h0
      simp at h0
      rw [h0]
  cases hs : ab_sw i with
  | false =>
    have h2 := dk_ck_ok (code := pg_cd j) (pg_tb.getD j []) 0 (by rw [List.drop_zero]; exact ck_c_ok j hj) pc i h1 hs
    rw [Nat.zero_add] at h2
    exact ⟨_, h2, Or.inr rfl⟩
  | true =>
    have h2 := List.all_eq_true.mp ck_s j (List.mem_range.mpr hj)
    have h3 := List.all_eq_true.mp h2 (some i, pc) (List.mem_zipIdx_iff_getElem?.mpr h1)
    simp only [hs, Bool.not_true, Bool.false_or, decide_eq_true_eq] at h3
    obtain ⟨n, hn⟩ := ck_s_ok (j, pc) h3 i hf
    exact ⟨n, hn, Or.inl rfl⟩
