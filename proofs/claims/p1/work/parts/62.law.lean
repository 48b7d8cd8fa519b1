/-! OURS, printed by wip/tools/gen62.py: the law's own steps. -/
theorem lg_same (x : Int64) : lg_cmp x x = 0 := by
  unfold lg_cmp
  rw [if_neg (Int64.lt_irrefl), if_pos rfl]
theorem and15 (v : Int32) : ∃ c, c < 16 ∧ v &&& 15 = Int32.ofNat c := by
  refine ⟨(v &&& 15).toBitVec.toNat, ?_, ?_⟩
  · have h : (v &&& 15).toBitVec = v.toBitVec &&& 15#32 := rfl
    rw [h, BitVec.toNat_and]
    exact Nat.lt_of_le_of_lt Nat.and_le_right (by decide)
  · apply Int32.toBitVec_inj.mp
    show (v &&& 15).toBitVec = BitVec.ofNat 32 _
    rw [BitVec.ofNat_toNat, BitVec.setWidth_eq]
theorem sub2_lt {L k : Nat} (hL : L ≤ 1024) (hk : k ≤ 2000) : (Int32.ofNat L - 2 < Int32.ofNat k) ↔ L < k + 2 := by
  by_cases h : 2 ≤ L
  · have e : Int32.ofNat L - 2 = Int32.ofNat (L - 2) := by
      have e1 : Int32.ofNat L = Int32.ofNat (L - 2) + 2 := by
        have := i32_add (L - 2) 2
        rw [show L - 2 + 2 = L by omega] at this
        exact this.symm
      rw [e1, Int32.add_sub_cancel]
    rw [e, Int32.lt_iff_toInt_lt, Int32.toInt_ofNat_of_lt (by omega), Int32.toInt_ofNat_of_lt (by omega)]
    omega
  · have h2 : L = 0 ∨ L = 1 := by omega
    have hk' : (Int32.ofNat k).toInt = k := Int32.toInt_ofNat_of_lt (by omega)
    rcases h2 with rfl | rfl
    · rw [Int32.lt_iff_toInt_lt, hk']
      have : (Int32.ofNat 0 - 2).toInt = -2 := by decide
      rw [this]
      omega
    · rw [Int32.lt_iff_toInt_lt, hk']
      have : (Int32.ofNat 1 - 2).toInt = -1 := by decide
      rw [this]
      omega
section Lw
variable {L : Nat} {xs : Nat → Int32} {D : Nat} {Q : ab_Q} {h h1 h2 : ab_H} {k : Nat} {o5 o6 : Option Value}
set_option maxRecDepth 20000 in
theorem lw_next (hk : k ≤ 2000) (kk : ab_W (pg_G L xs) (ab_X (pg_G L xs) D) 0 Q 23 [some (.ref 1000002), some (.ref 0), some (.ref 572), some (.ref 619), some (.int (Int32.ofNat (k + 2))), o5, o6] [] h) : ab_W (pg_G L xs) (ab_X (pg_G L xs) D) 0 Q 796 [some (.ref 1000002), some (.ref 0), some (.ref 572), some (.ref 619), some (.int (Int32.ofNat k)), o5, o6] [] h := by
  refine x_inc 4 2 2 799 [some (.ref 1000002), some (.ref 0), some (.ref 572), some (.ref 619), some (.int (Int32.ofNat (k + 2))), o5, o6] rfl rfl (Nat.le_of_ble_eq_true rfl) rfl (by rw [← i32_add]; rfl) rfl ?_
  refine x_go 23 rfl rfl ?_
  exact kk
set_option maxRecDepth 20000 in
theorem lw_end (hL : L ≤ 1024) (hk : k ≤ 2000) (hlt : L < k + 2) (kk : Q (.inl (some (.int 1))) h) : ab_W (pg_G L xs) (ab_X (pg_G L xs) D) 0 Q 23 [some (.ref 1000002), some (.ref 0), some (.ref 572), some (.ref 619), some (.int (Int32.ofNat k)), o5, o6] [] h := by
  refine x_ld 4 2 0 25 rfl rfl rfl rfl rfl ?_
  refine x_ld 0 1 2 26 rfl rfl rfl rfl rfl ?_
  refine x_kln 27 rfl rfl rfl ?_
  refine x_cst (.int 2) 1 28 rfl rfl rfl ?_
  refine x_bin (Int32.ofNat L - 2) 29 rfl rfl rfl rfl ?_
  refine x_icgt 802 32 rfl rfl rfl (fun _ => ?_) (fun c => absurd ((sub2_lt hL hk).mpr hlt) c)
  refine x_cst (.int 1) 1 803 rfl rfl rfl ?_
  exact x_ret rfl rfl rfl rfl kk
set_option maxRecDepth 20000 in
theorem lw_sw0 (hL : L ≤ 1024) (hk : k ≤ 2000) (hlt : k + 2 ≤ L) (hc : xs k &&& 15 = 0) (kk : ab_W (pg_G L xs) (ab_X (pg_G L xs) D) 0 Q 112 [some (.ref 1000002), some (.ref 0), some (.ref 572), some (.ref 619), some (.int (Int32.ofNat k)), o5, o6] [] h) : ab_W (pg_G L xs) (ab_X (pg_G L xs) D) 0 Q 23 [some (.ref 1000002), some (.ref 0), some (.ref 572), some (.ref 619), some (.int (Int32.ofNat k)), o5, o6] [] h := by
  refine x_ld 4 2 0 25 rfl rfl rfl rfl rfl ?_
  refine x_ld 0 1 2 26 rfl rfl rfl rfl rfl ?_
  refine x_kln 27 rfl rfl rfl ?_
  refine x_cst (.int 2) 1 28 rfl rfl rfl ?_
  refine x_bin (Int32.ofNat L - 2) 29 rfl rfl rfl rfl ?_
  refine x_icgt 802 32 rfl rfl rfl (fun c => absurd ((sub2_lt hL hk).mp c) (by omega)) (fun _ => ?_)
  refine x_ld 0 1 2 33 rfl rfl rfl rfl rfl ?_
  refine x_ld 4 2 0 35 rfl rfl rfl rfl rfl ?_
  refine x_kld (xs k) 36 rfl rfl (i32_in k L (by omega) (by omega)) (by rw [i32_nat k (by omega)]) rfl ?_
  refine x_cst (.int 15) 2 38 rfl rfl rfl ?_
  refine x_bin 0 39 rfl rfl hc rfl ?_
  refine x_tin (off := 73) 112 rfl (by decide) (by decide) (by decide) rfl ?_
  exact kk
set_option maxRecDepth 20000 in
theorem lw_sw1 (hL : L ≤ 1024) (hk : k ≤ 2000) (hlt : k + 2 ≤ L) (hc : xs k &&& 15 = 1) (kk : ab_W (pg_G L xs) (ab_X (pg_G L xs) D) 0 Q 175 [some (.ref 1000002), some (.ref 0), some (.ref 572), some (.ref 619), some (.int (Int32.ofNat k)), o5, o6] [] h) : ab_W (pg_G L xs) (ab_X (pg_G L xs) D) 0 Q 23 [some (.ref 1000002), some (.ref 0), some (.ref 572), some (.ref 619), some (.int (Int32.ofNat k)), o5, o6] [] h := by
  refine x_ld 4 2 0 25 rfl rfl rfl rfl rfl ?_
  refine x_ld 0 1 2 26 rfl rfl rfl rfl rfl ?_
  refine x_kln 27 rfl rfl rfl ?_
  refine x_cst (.int 2) 1 28 rfl rfl rfl ?_
  refine x_bin (Int32.ofNat L - 2) 29 rfl rfl rfl rfl ?_
  refine x_icgt 802 32 rfl rfl rfl (fun c => absurd ((sub2_lt hL hk).mp c) (by omega)) (fun _ => ?_)
  refine x_ld 0 1 2 33 rfl rfl rfl rfl rfl ?_
  refine x_ld 4 2 0 35 rfl rfl rfl rfl rfl ?_
  refine x_kld (xs k) 36 rfl rfl (i32_in k L (by omega) (by omega)) (by rw [i32_nat k (by omega)]) rfl ?_
  refine x_cst (.int 15) 2 38 rfl rfl rfl ?_
  refine x_bin 1 39 rfl rfl hc rfl ?_
  refine x_tin (off := 136) 175 rfl (by decide) (by decide) (by decide) rfl ?_
  exact kk
set_option maxRecDepth 20000 in
theorem lw_sw2 (hL : L ≤ 1024) (hk : k ≤ 2000) (hlt : k + 2 ≤ L) (hc : xs k &&& 15 = 2) (kk : ab_W (pg_G L xs) (ab_X (pg_G L xs) D) 0 Q 188 [some (.ref 1000002), some (.ref 0), some (.ref 572), some (.ref 619), some (.int (Int32.ofNat k)), o5, o6] [] h) : ab_W (pg_G L xs) (ab_X (pg_G L xs) D) 0 Q 23 [some (.ref 1000002), some (.ref 0), some (.ref 572), some (.ref 619), some (.int (Int32.ofNat k)), o5, o6] [] h := by
  refine x_ld 4 2 0 25 rfl rfl rfl rfl rfl ?_
  refine x_ld 0 1 2 26 rfl rfl rfl rfl rfl ?_
  refine x_kln 27 rfl rfl rfl ?_
  refine x_cst (.int 2) 1 28 rfl rfl rfl ?_
  refine x_bin (Int32.ofNat L - 2) 29 rfl rfl rfl rfl ?_
  refine x_icgt 802 32 rfl rfl rfl (fun c => absurd ((sub2_lt hL hk).mp c) (by omega)) (fun _ => ?_)
  refine x_ld 0 1 2 33 rfl rfl rfl rfl rfl ?_
  refine x_ld 4 2 0 35 rfl rfl rfl rfl rfl ?_
  refine x_kld (xs k) 36 rfl rfl (i32_in k L (by omega) (by omega)) (by rw [i32_nat k (by omega)]) rfl ?_
  refine x_cst (.int 15) 2 38 rfl rfl rfl ?_
  refine x_bin 2 39 rfl rfl hc rfl ?_
  refine x_tin (off := 149) 188 rfl (by decide) (by decide) (by decide) rfl ?_
  exact kk
set_option maxRecDepth 20000 in
theorem lw_sw3 (hL : L ≤ 1024) (hk : k ≤ 2000) (hlt : k + 2 ≤ L) (hc : xs k &&& 15 = 3) (kk : ab_W (pg_G L xs) (ab_X (pg_G L xs) D) 0 Q 201 [some (.ref 1000002), some (.ref 0), some (.ref 572), some (.ref 619), some (.int (Int32.ofNat k)), o5, o6] [] h) : ab_W (pg_G L xs) (ab_X (pg_G L xs) D) 0 Q 23 [some (.ref 1000002), some (.ref 0), some (.ref 572), some (.ref 619), some (.int (Int32.ofNat k)), o5, o6] [] h := by
  refine x_ld 4 2 0 25 rfl rfl rfl rfl rfl ?_
  refine x_ld 0 1 2 26 rfl rfl rfl rfl rfl ?_
  refine x_kln 27 rfl rfl rfl ?_
  refine x_cst (.int 2) 1 28 rfl rfl rfl ?_
  refine x_bin (Int32.ofNat L - 2) 29 rfl rfl rfl rfl ?_
  refine x_icgt 802 32 rfl rfl rfl (fun c => absurd ((sub2_lt hL hk).mp c) (by omega)) (fun _ => ?_)
  refine x_ld 0 1 2 33 rfl rfl rfl rfl rfl ?_
  refine x_ld 4 2 0 35 rfl rfl rfl rfl rfl ?_
  refine x_kld (xs k) 36 rfl rfl (i32_in k L (by omega) (by omega)) (by rw [i32_nat k (by omega)]) rfl ?_
  refine x_cst (.int 15) 2 38 rfl rfl rfl ?_
  refine x_bin 3 39 rfl rfl hc rfl ?_
  refine x_tin (off := 162) 201 rfl (by decide) (by decide) (by decide) rfl ?_
  exact kk
set_option maxRecDepth 20000 in
theorem lw_sw4 (hL : L ≤ 1024) (hk : k ≤ 2000) (hlt : k + 2 ≤ L) (hc : xs k &&& 15 = 4) (kk : ab_W (pg_G L xs) (ab_X (pg_G L xs) D) 0 Q 214 [some (.ref 1000002), some (.ref 0), some (.ref 572), some (.ref 619), some (.int (Int32.ofNat k)), o5, o6] [] h) : ab_W (pg_G L xs) (ab_X (pg_G L xs) D) 0 Q 23 [some (.ref 1000002), some (.ref 0), some (.ref 572), some (.ref 619), some (.int (Int32.ofNat k)), o5, o6] [] h := by
  refine x_ld 4 2 0 25 rfl rfl rfl rfl rfl ?_
  refine x_ld 0 1 2 26 rfl rfl rfl rfl rfl ?_
  refine x_kln 27 rfl rfl rfl ?_
  refine x_cst (.int 2) 1 28 rfl rfl rfl ?_
  refine x_bin (Int32.ofNat L - 2) 29 rfl rfl rfl rfl ?_
  refine x_icgt 802 32 rfl rfl rfl (fun c => absurd ((sub2_lt hL hk).mp c) (by omega)) (fun _ => ?_)
  refine x_ld 0 1 2 33 rfl rfl rfl rfl rfl ?_
  refine x_ld 4 2 0 35 rfl rfl rfl rfl rfl ?_
  refine x_kld (xs k) 36 rfl rfl (i32_in k L (by omega) (by omega)) (by rw [i32_nat k (by omega)]) rfl ?_
  refine x_cst (.int 15) 2 38 rfl rfl rfl ?_
  refine x_bin 4 39 rfl rfl hc rfl ?_
  refine x_tin (off := 175) 214 rfl (by decide) (by decide) (by decide) rfl ?_
  exact kk
set_option maxRecDepth 20000 in
theorem lw_sw5 (hL : L ≤ 1024) (hk : k ≤ 2000) (hlt : k + 2 ≤ L) (hc : xs k &&& 15 = 5) (kk : ab_W (pg_G L xs) (ab_X (pg_G L xs) D) 0 Q 270 [some (.ref 1000002), some (.ref 0), some (.ref 572), some (.ref 619), some (.int (Int32.ofNat k)), o5, o6] [] h) : ab_W (pg_G L xs) (ab_X (pg_G L xs) D) 0 Q 23 [some (.ref 1000002), some (.ref 0), some (.ref 572), some (.ref 619), some (.int (Int32.ofNat k)), o5, o6] [] h := by
  refine x_ld 4 2 0 25 rfl rfl rfl rfl rfl ?_
  refine x_ld 0 1 2 26 rfl rfl rfl rfl rfl ?_
  refine x_kln 27 rfl rfl rfl ?_
  refine x_cst (.int 2) 1 28 rfl rfl rfl ?_
  refine x_bin (Int32.ofNat L - 2) 29 rfl rfl rfl rfl ?_
  refine x_icgt 802 32 rfl rfl rfl (fun c => absurd ((sub2_lt hL hk).mp c) (by omega)) (fun _ => ?_)
  refine x_ld 0 1 2 33 rfl rfl rfl rfl rfl ?_
  refine x_ld 4 2 0 35 rfl rfl rfl rfl rfl ?_
  refine x_kld (xs k) 36 rfl rfl (i32_in k L (by omega) (by omega)) (by rw [i32_nat k (by omega)]) rfl ?_
  refine x_cst (.int 15) 2 38 rfl rfl rfl ?_
  refine x_bin 5 39 rfl rfl hc rfl ?_
  refine x_tin (off := 231) 270 rfl (by decide) (by decide) (by decide) rfl ?_
  exact kk
set_option maxRecDepth 20000 in
theorem lw_sw6 (hL : L ≤ 1024) (hk : k ≤ 2000) (hlt : k + 2 ≤ L) (hc : xs k &&& 15 = 6) (kk : ab_W (pg_G L xs) (ab_X (pg_G L xs) D) 0 Q 333 [some (.ref 1000002), some (.ref 0), some (.ref 572), some (.ref 619), some (.int (Int32.ofNat k)), o5, o6] [] h) : ab_W (pg_G L xs) (ab_X (pg_G L xs) D) 0 Q 23 [some (.ref 1000002), some (.ref 0), some (.ref 572), some (.ref 619), some (.int (Int32.ofNat k)), o5, o6] [] h := by
  refine x_ld 4 2 0 25 rfl rfl rfl rfl rfl ?_
  refine x_ld 0 1 2 26 rfl rfl rfl rfl rfl ?_
  refine x_kln 27 rfl rfl rfl ?_
  refine x_cst (.int 2) 1 28 rfl rfl rfl ?_
  refine x_bin (Int32.ofNat L - 2) 29 rfl rfl rfl rfl ?_
  refine x_icgt 802 32 rfl rfl rfl (fun c => absurd ((sub2_lt hL hk).mp c) (by omega)) (fun _ => ?_)
  refine x_ld 0 1 2 33 rfl rfl rfl rfl rfl ?_
  refine x_ld 4 2 0 35 rfl rfl rfl rfl rfl ?_
  refine x_kld (xs k) 36 rfl rfl (i32_in k L (by omega) (by omega)) (by rw [i32_nat k (by omega)]) rfl ?_
  refine x_cst (.int 15) 2 38 rfl rfl rfl ?_
  refine x_bin 6 39 rfl rfl hc rfl ?_
  refine x_tin (off := 294) 333 rfl (by decide) (by decide) (by decide) rfl ?_
  exact kk
set_option maxRecDepth 20000 in
theorem lw_sw7 (hL : L ≤ 1024) (hk : k ≤ 2000) (hlt : k + 2 ≤ L) (hc : xs k &&& 15 = 7) (kk : ab_W (pg_G L xs) (ab_X (pg_G L xs) D) 0 Q 396 [some (.ref 1000002), some (.ref 0), some (.ref 572), some (.ref 619), some (.int (Int32.ofNat k)), o5, o6] [] h) : ab_W (pg_G L xs) (ab_X (pg_G L xs) D) 0 Q 23 [some (.ref 1000002), some (.ref 0), some (.ref 572), some (.ref 619), some (.int (Int32.ofNat k)), o5, o6] [] h := by
  refine x_ld 4 2 0 25 rfl rfl rfl rfl rfl ?_
  refine x_ld 0 1 2 26 rfl rfl rfl rfl rfl ?_
  refine x_kln 27 rfl rfl rfl ?_
  refine x_cst (.int 2) 1 28 rfl rfl rfl ?_
  refine x_bin (Int32.ofNat L - 2) 29 rfl rfl rfl rfl ?_
  refine x_icgt 802 32 rfl rfl rfl (fun c => absurd ((sub2_lt hL hk).mp c) (by omega)) (fun _ => ?_)
  refine x_ld 0 1 2 33 rfl rfl rfl rfl rfl ?_
  refine x_ld 4 2 0 35 rfl rfl rfl rfl rfl ?_
  refine x_kld (xs k) 36 rfl rfl (i32_in k L (by omega) (by omega)) (by rw [i32_nat k (by omega)]) rfl ?_
  refine x_cst (.int 15) 2 38 rfl rfl rfl ?_
  refine x_bin 7 39 rfl rfl hc rfl ?_
  refine x_tin (off := 357) 396 rfl (by decide) (by decide) (by decide) rfl ?_
  exact kk
set_option maxRecDepth 20000 in
theorem lw_sw8 (hL : L ≤ 1024) (hk : k ≤ 2000) (hlt : k + 2 ≤ L) (hc : xs k &&& 15 = 8) (kk : ab_W (pg_G L xs) (ab_X (pg_G L xs) D) 0 Q 452 [some (.ref 1000002), some (.ref 0), some (.ref 572), some (.ref 619), some (.int (Int32.ofNat k)), o5, o6] [] h) : ab_W (pg_G L xs) (ab_X (pg_G L xs) D) 0 Q 23 [some (.ref 1000002), some (.ref 0), some (.ref 572), some (.ref 619), some (.int (Int32.ofNat k)), o5, o6] [] h := by
  refine x_ld 4 2 0 25 rfl rfl rfl rfl rfl ?_
  refine x_ld 0 1 2 26 rfl rfl rfl rfl rfl ?_
  refine x_kln 27 rfl rfl rfl ?_
  refine x_cst (.int 2) 1 28 rfl rfl rfl ?_
  refine x_bin (Int32.ofNat L - 2) 29 rfl rfl rfl rfl ?_
  refine x_icgt 802 32 rfl rfl rfl (fun c => absurd ((sub2_lt hL hk).mp c) (by omega)) (fun _ => ?_)
  refine x_ld 0 1 2 33 rfl rfl rfl rfl rfl ?_
  refine x_ld 4 2 0 35 rfl rfl rfl rfl rfl ?_
  refine x_kld (xs k) 36 rfl rfl (i32_in k L (by omega) (by omega)) (by rw [i32_nat k (by omega)]) rfl ?_
  refine x_cst (.int 15) 2 38 rfl rfl rfl ?_
  refine x_bin 8 39 rfl rfl hc rfl ?_
  refine x_tin (off := 413) 452 rfl (by decide) (by decide) (by decide) rfl ?_
  exact kk
set_option maxRecDepth 20000 in
theorem lw_sw9 (hL : L ≤ 1024) (hk : k ≤ 2000) (hlt : k + 2 ≤ L) (hc : xs k &&& 15 = 9) (kk : ab_W (pg_G L xs) (ab_X (pg_G L xs) D) 0 Q 515 [some (.ref 1000002), some (.ref 0), some (.ref 572), some (.ref 619), some (.int (Int32.ofNat k)), o5, o6] [] h) : ab_W (pg_G L xs) (ab_X (pg_G L xs) D) 0 Q 23 [some (.ref 1000002), some (.ref 0), some (.ref 572), some (.ref 619), some (.int (Int32.ofNat k)), o5, o6] [] h := by
  refine x_ld 4 2 0 25 rfl rfl rfl rfl rfl ?_
  refine x_ld 0 1 2 26 rfl rfl rfl rfl rfl ?_
  refine x_kln 27 rfl rfl rfl ?_
  refine x_cst (.int 2) 1 28 rfl rfl rfl ?_
  refine x_bin (Int32.ofNat L - 2) 29 rfl rfl rfl rfl ?_
  refine x_icgt 802 32 rfl rfl rfl (fun c => absurd ((sub2_lt hL hk).mp c) (by omega)) (fun _ => ?_)
  refine x_ld 0 1 2 33 rfl rfl rfl rfl rfl ?_
  refine x_ld 4 2 0 35 rfl rfl rfl rfl rfl ?_
  refine x_kld (xs k) 36 rfl rfl (i32_in k L (by omega) (by omega)) (by rw [i32_nat k (by omega)]) rfl ?_
  refine x_cst (.int 15) 2 38 rfl rfl rfl ?_
  refine x_bin 9 39 rfl rfl hc rfl ?_
  refine x_tin (off := 476) 515 rfl (by decide) (by decide) (by decide) rfl ?_
  exact kk
set_option maxRecDepth 20000 in
theorem lw_sw10 (hL : L ≤ 1024) (hk : k ≤ 2000) (hlt : k + 2 ≤ L) (hc : xs k &&& 15 = 10) (kk : ab_W (pg_G L xs) (ab_X (pg_G L xs) D) 0 Q 571 [some (.ref 1000002), some (.ref 0), some (.ref 572), some (.ref 619), some (.int (Int32.ofNat k)), o5, o6] [] h) : ab_W (pg_G L xs) (ab_X (pg_G L xs) D) 0 Q 23 [some (.ref 1000002), some (.ref 0), some (.ref 572), some (.ref 619), some (.int (Int32.ofNat k)), o5, o6] [] h := by
  refine x_ld 4 2 0 25 rfl rfl rfl rfl rfl ?_
  refine x_ld 0 1 2 26 rfl rfl rfl rfl rfl ?_
  refine x_kln 27 rfl rfl rfl ?_
  refine x_cst (.int 2) 1 28 rfl rfl rfl ?_
  refine x_bin (Int32.ofNat L - 2) 29 rfl rfl rfl rfl ?_
  refine x_icgt 802 32 rfl rfl rfl (fun c => absurd ((sub2_lt hL hk).mp c) (by omega)) (fun _ => ?_)
  refine x_ld 0 1 2 33 rfl rfl rfl rfl rfl ?_
  refine x_ld 4 2 0 35 rfl rfl rfl rfl rfl ?_
  refine x_kld (xs k) 36 rfl rfl (i32_in k L (by omega) (by omega)) (by rw [i32_nat k (by omega)]) rfl ?_
  refine x_cst (.int 15) 2 38 rfl rfl rfl ?_
  refine x_bin 10 39 rfl rfl hc rfl ?_
  refine x_tin (off := 532) 571 rfl (by decide) (by decide) (by decide) rfl ?_
  exact kk
set_option maxRecDepth 20000 in
theorem lw_sw11 (hL : L ≤ 1024) (hk : k ≤ 2000) (hlt : k + 2 ≤ L) (hc : xs k &&& 15 = 11) (kk : ab_W (pg_G L xs) (ab_X (pg_G L xs) D) 0 Q 627 [some (.ref 1000002), some (.ref 0), some (.ref 572), some (.ref 619), some (.int (Int32.ofNat k)), o5, o6] [] h) : ab_W (pg_G L xs) (ab_X (pg_G L xs) D) 0 Q 23 [some (.ref 1000002), some (.ref 0), some (.ref 572), some (.ref 619), some (.int (Int32.ofNat k)), o5, o6] [] h := by
  refine x_ld 4 2 0 25 rfl rfl rfl rfl rfl ?_
  refine x_ld 0 1 2 26 rfl rfl rfl rfl rfl ?_
  refine x_kln 27 rfl rfl rfl ?_
  refine x_cst (.int 2) 1 28 rfl rfl rfl ?_
  refine x_bin (Int32.ofNat L - 2) 29 rfl rfl rfl rfl ?_
  refine x_icgt 802 32 rfl rfl rfl (fun c => absurd ((sub2_lt hL hk).mp c) (by omega)) (fun _ => ?_)
  refine x_ld 0 1 2 33 rfl rfl rfl rfl rfl ?_
  refine x_ld 4 2 0 35 rfl rfl rfl rfl rfl ?_
  refine x_kld (xs k) 36 rfl rfl (i32_in k L (by omega) (by omega)) (by rw [i32_nat k (by omega)]) rfl ?_
  refine x_cst (.int 15) 2 38 rfl rfl rfl ?_
  refine x_bin 11 39 rfl rfl hc rfl ?_
  refine x_tin (off := 588) 627 rfl (by decide) (by decide) (by decide) rfl ?_
  exact kk
set_option maxRecDepth 20000 in
theorem lw_sw12 (hL : L ≤ 1024) (hk : k ≤ 2000) (hlt : k + 2 ≤ L) (hc : xs k &&& 15 = 12) (kk : ab_W (pg_G L xs) (ab_X (pg_G L xs) D) 0 Q 652 [some (.ref 1000002), some (.ref 0), some (.ref 572), some (.ref 619), some (.int (Int32.ofNat k)), o5, o6] [] h) : ab_W (pg_G L xs) (ab_X (pg_G L xs) D) 0 Q 23 [some (.ref 1000002), some (.ref 0), some (.ref 572), some (.ref 619), some (.int (Int32.ofNat k)), o5, o6] [] h := by
  refine x_ld 4 2 0 25 rfl rfl rfl rfl rfl ?_
  refine x_ld 0 1 2 26 rfl rfl rfl rfl rfl ?_
  refine x_kln 27 rfl rfl rfl ?_
  refine x_cst (.int 2) 1 28 rfl rfl rfl ?_
  refine x_bin (Int32.ofNat L - 2) 29 rfl rfl rfl rfl ?_
  refine x_icgt 802 32 rfl rfl rfl (fun c => absurd ((sub2_lt hL hk).mp c) (by omega)) (fun _ => ?_)
  refine x_ld 0 1 2 33 rfl rfl rfl rfl rfl ?_
  refine x_ld 4 2 0 35 rfl rfl rfl rfl rfl ?_
  refine x_kld (xs k) 36 rfl rfl (i32_in k L (by omega) (by omega)) (by rw [i32_nat k (by omega)]) rfl ?_
  refine x_cst (.int 15) 2 38 rfl rfl rfl ?_
  refine x_bin 12 39 rfl rfl hc rfl ?_
  refine x_tin (off := 613) 652 rfl (by decide) (by decide) (by decide) rfl ?_
  exact kk
set_option maxRecDepth 20000 in
theorem lw_sw13 (hL : L ≤ 1024) (hk : k ≤ 2000) (hlt : k + 2 ≤ L) (hc : xs k &&& 15 = 13) (kk : ab_W (pg_G L xs) (ab_X (pg_G L xs) D) 0 Q 708 [some (.ref 1000002), some (.ref 0), some (.ref 572), some (.ref 619), some (.int (Int32.ofNat k)), o5, o6] [] h) : ab_W (pg_G L xs) (ab_X (pg_G L xs) D) 0 Q 23 [some (.ref 1000002), some (.ref 0), some (.ref 572), some (.ref 619), some (.int (Int32.ofNat k)), o5, o6] [] h := by
  refine x_ld 4 2 0 25 rfl rfl rfl rfl rfl ?_
  refine x_ld 0 1 2 26 rfl rfl rfl rfl rfl ?_
  refine x_kln 27 rfl rfl rfl ?_
  refine x_cst (.int 2) 1 28 rfl rfl rfl ?_
  refine x_bin (Int32.ofNat L - 2) 29 rfl rfl rfl rfl ?_
  refine x_icgt 802 32 rfl rfl rfl (fun c => absurd ((sub2_lt hL hk).mp c) (by omega)) (fun _ => ?_)
  refine x_ld 0 1 2 33 rfl rfl rfl rfl rfl ?_
  refine x_ld 4 2 0 35 rfl rfl rfl rfl rfl ?_
  refine x_kld (xs k) 36 rfl rfl (i32_in k L (by omega) (by omega)) (by rw [i32_nat k (by omega)]) rfl ?_
  refine x_cst (.int 15) 2 38 rfl rfl rfl ?_
  refine x_bin 13 39 rfl rfl hc rfl ?_
  refine x_tin (off := 669) 708 rfl (by decide) (by decide) (by decide) rfl ?_
  exact kk
set_option maxRecDepth 20000 in
theorem lw_sw14 (hL : L ≤ 1024) (hk : k ≤ 2000) (hlt : k + 2 ≤ L) (hc : xs k &&& 15 = 14) (kk : ab_W (pg_G L xs) (ab_X (pg_G L xs) D) 0 Q 752 [some (.ref 1000002), some (.ref 0), some (.ref 572), some (.ref 619), some (.int (Int32.ofNat k)), o5, o6] [] h) : ab_W (pg_G L xs) (ab_X (pg_G L xs) D) 0 Q 23 [some (.ref 1000002), some (.ref 0), some (.ref 572), some (.ref 619), some (.int (Int32.ofNat k)), o5, o6] [] h := by
  refine x_ld 4 2 0 25 rfl rfl rfl rfl rfl ?_
  refine x_ld 0 1 2 26 rfl rfl rfl rfl rfl ?_
  refine x_kln 27 rfl rfl rfl ?_
  refine x_cst (.int 2) 1 28 rfl rfl rfl ?_
  refine x_bin (Int32.ofNat L - 2) 29 rfl rfl rfl rfl ?_
  refine x_icgt 802 32 rfl rfl rfl (fun c => absurd ((sub2_lt hL hk).mp c) (by omega)) (fun _ => ?_)
  refine x_ld 0 1 2 33 rfl rfl rfl rfl rfl ?_
  refine x_ld 4 2 0 35 rfl rfl rfl rfl rfl ?_
  refine x_kld (xs k) 36 rfl rfl (i32_in k L (by omega) (by omega)) (by rw [i32_nat k (by omega)]) rfl ?_
  refine x_cst (.int 15) 2 38 rfl rfl rfl ?_
  refine x_bin 14 39 rfl rfl hc rfl ?_
  refine x_tin (off := 713) 752 rfl (by decide) (by decide) (by decide) rfl ?_
  exact kk
set_option maxRecDepth 20000 in
theorem lw_sw15 (hL : L ≤ 1024) (hk : k ≤ 2000) (hlt : k + 2 ≤ L) (hc : xs k &&& 15 = 15) (kk : ab_W (pg_G L xs) (ab_X (pg_G L xs) D) 0 Q 796 [some (.ref 1000002), some (.ref 0), some (.ref 572), some (.ref 619), some (.int (Int32.ofNat k)), o5, o6] [] h) : ab_W (pg_G L xs) (ab_X (pg_G L xs) D) 0 Q 23 [some (.ref 1000002), some (.ref 0), some (.ref 572), some (.ref 619), some (.int (Int32.ofNat k)), o5, o6] [] h := by
  refine x_ld 4 2 0 25 rfl rfl rfl rfl rfl ?_
  refine x_ld 0 1 2 26 rfl rfl rfl rfl rfl ?_
  refine x_kln 27 rfl rfl rfl ?_
  refine x_cst (.int 2) 1 28 rfl rfl rfl ?_
  refine x_bin (Int32.ofNat L - 2) 29 rfl rfl rfl rfl ?_
  refine x_icgt 802 32 rfl rfl rfl (fun c => absurd ((sub2_lt hL hk).mp c) (by omega)) (fun _ => ?_)
  refine x_ld 0 1 2 33 rfl rfl rfl rfl rfl ?_
  refine x_ld 4 2 0 35 rfl rfl rfl rfl rfl ?_
  refine x_kld (xs k) 36 rfl rfl (i32_in k L (by omega) (by omega)) (by rw [i32_nat k (by omega)]) rfl ?_
  refine x_cst (.int 15) 2 38 rfl rfl rfl ?_
  refine x_bin 15 39 rfl rfl hc rfl ?_
  refine x_tou 796 rfl (by decide) rfl ?_
  exact kk
set_option maxRecDepth 20000 in
theorem lw_0_x {w v : Int32} {fs1 fs2 : List Value} (hL : L ≤ 1024) (hlt : k + 2 ≤ L) (hw : ab_S (pg_G L xs) D 50 [.ref 0, .int (xs (k + 1)), .ref 619] h (some (.int w)) h1) (hM1 : h1[572]? = some (.inr (5, fs1))) (hm : ab_S (pg_G L xs) D 104 [.ref 572, .int (xs (k + 1))] h1 (some (.int v)) h2) (hM2 : h2[572]? = some (.inr (5, fs2))) (ht : ab_S (pg_G L xs) D 103 [.ref 572] h2 (some (.int w)) h2) (hw0 : ¬ w = 0) (kk : ab_W (pg_G L xs) (ab_X (pg_G L xs) D) 0 Q 796 [some (.ref 1000002), some (.ref 0), some (.ref 572), some (.ref 619), some (.int (Int32.ofNat k)), some (.int w), some (.int v)] [] h2) : ab_W (pg_G L xs) (ab_X (pg_G L xs) D) 0 Q 112 [some (.ref 1000002), some (.ref 0), some (.ref 572), some (.ref 619), some (.int (Int32.ofNat k)), o5, o6] [] h := by
  refine x_ld 1 1 2 113 rfl rfl rfl rfl rfl ?_
  refine x_ld 0 1 2 114 rfl rfl rfl rfl rfl ?_
  refine x_ld 4 2 0 116 rfl rfl rfl rfl rfl ?_
  refine x_cst (.int 1) 1 117 rfl rfl rfl ?_
  refine x_bin (Int32.ofNat (k + 1)) 118 rfl rfl (i32_add k 1) rfl ?_
  refine x_kld (xs (k + 1)) 119 rfl rfl (i32_in (k + 1) L (by omega) (by omega)) (by rw [i32_nat (k + 1) (by omega)]) rfl ?_
  refine x_ld 3 1 2 120 rfl rfl rfl rfl rfl ?_
  refine x_cv 55 50 123 [.ref 0, .int (xs (k + 1)), .ref 619] rfl rfl rfl (Nat.le_of_ble_eq_true rfl) rfl rfl (Nat.le_of_ble_eq_true rfl) trivial (Nat.le_of_ble_eq_true rfl) hw rfl ?_
  refine x_st 5 2 0 125 [some (.ref 1000002), some (.ref 0), some (.ref 572), some (.ref 619), some (.int (Int32.ofNat k)), some (.int w), o6] rfl rfl rfl (Nat.le_of_ble_eq_true rfl) rfl rfl ?_
  refine x_ld 2 1 2 126 rfl rfl rfl rfl rfl ?_
  refine x_ld 0 1 2 127 rfl rfl rfl rfl rfl ?_
  refine x_ld 4 2 0 129 rfl rfl rfl rfl rfl ?_
  refine x_cst (.int 1) 1 130 rfl rfl rfl ?_
  refine x_bin (Int32.ofNat (k + 1)) 131 rfl rfl (i32_add k 1) rfl ?_
  refine x_kld (xs (k + 1)) 132 rfl rfl (i32_in (k + 1) L (by omega) (by omega)) (by rw [i32_nat (k + 1) (by omega)]) rfl ?_
  refine x_cv 60 104 135 [.ref 572, .int (xs (k + 1))] rfl rfl rfl (Nat.le_of_ble_eq_true rfl) rfl rfl (Nat.le_of_ble_eq_true rfl) ⟨_, _, _, rfl, hM1⟩ (Nat.le_of_ble_eq_true rfl) hm rfl ?_
  refine x_st 6 2 0 137 [some (.ref 1000002), some (.ref 0), some (.ref 572), some (.ref 619), some (.int (Int32.ofNat k)), some (.int w), some (.int v)] rfl rfl rfl (Nat.le_of_ble_eq_true rfl) rfl rfl ?_
  refine x_ld 2 1 2 138 rfl rfl rfl rfl rfl ?_
  refine x_cv 61 103 141 [.ref 572] rfl rfl rfl (Nat.le_of_ble_eq_true rfl) rfl rfl (Nat.le_of_ble_eq_true rfl) ⟨_, _, _, rfl, hM2⟩ (Nat.le_of_ble_eq_true rfl) ht rfl ?_
  refine x_ld 5 2 0 143 rfl rfl rfl rfl rfl ?_
  refine x_iceq 148 146 rfl rfl rfl (fun _ => ?_) (fun c => absurd rfl c)
  refine x_ld 5 2 0 150 rfl rfl rfl rfl rfl ?_
  refine x_ifne 172 153 rfl rfl rfl (fun _ => ?_) (fun c => absurd c hw0)
  refine x_go 796 rfl rfl ?_
  exact kk
set_option maxRecDepth 20000 in
theorem lw_0_0 {o : Nat → Int64} {fs1 fs2 : List Value} (hL : L ≤ 1024) (hlt : k + 2 ≤ L) (hw : ab_S (pg_G L xs) D 50 [.ref 0, .int (xs (k + 1)), .ref 619] h (some (.int 0)) h1) (hM1 : h1[572]? = some (.inr (5, fs1))) (hm : ab_S (pg_G L xs) D 104 [.ref 572, .int (xs (k + 1))] h1 (some (.int 0)) h2) (hM2 : h2[572]? = some (.inr (5, fs2))) (ht : ab_S (pg_G L xs) D 103 [.ref 572] h2 (some (.int 0)) h2) (hO : h2[619]? = some (.inl (1, 1, .inr (.inl o)))) (ho : o 0 = 0) (kk : ab_W (pg_G L xs) (ab_X (pg_G L xs) D) 0 Q 796 [some (.ref 1000002), some (.ref 0), some (.ref 572), some (.ref 619), some (.int (Int32.ofNat k)), some (.int 0), some (.int 0)] [] h2) : ab_W (pg_G L xs) (ab_X (pg_G L xs) D) 0 Q 112 [some (.ref 1000002), some (.ref 0), some (.ref 572), some (.ref 619), some (.int (Int32.ofNat k)), o5, o6] [] h := by
  refine x_ld 1 1 2 113 rfl rfl rfl rfl rfl ?_
  refine x_ld 0 1 2 114 rfl rfl rfl rfl rfl ?_
  refine x_ld 4 2 0 116 rfl rfl rfl rfl rfl ?_
  refine x_cst (.int 1) 1 117 rfl rfl rfl ?_
  refine x_bin (Int32.ofNat (k + 1)) 118 rfl rfl (i32_add k 1) rfl ?_
  refine x_kld (xs (k + 1)) 119 rfl rfl (i32_in (k + 1) L (by omega) (by omega)) (by rw [i32_nat (k + 1) (by omega)]) rfl ?_
  refine x_ld 3 1 2 120 rfl rfl rfl rfl rfl ?_
  refine x_cv 55 50 123 [.ref 0, .int (xs (k + 1)), .ref 619] rfl rfl rfl (Nat.le_of_ble_eq_true rfl) rfl rfl (Nat.le_of_ble_eq_true rfl) trivial (Nat.le_of_ble_eq_true rfl) hw rfl ?_
  refine x_st 5 2 0 125 [some (.ref 1000002), some (.ref 0), some (.ref 572), some (.ref 619), some (.int (Int32.ofNat k)), some (.int 0), o6] rfl rfl rfl (Nat.le_of_ble_eq_true rfl) rfl rfl ?_
  refine x_ld 2 1 2 126 rfl rfl rfl rfl rfl ?_
  refine x_ld 0 1 2 127 rfl rfl rfl rfl rfl ?_
  refine x_ld 4 2 0 129 rfl rfl rfl rfl rfl ?_
  refine x_cst (.int 1) 1 130 rfl rfl rfl ?_
  refine x_bin (Int32.ofNat (k + 1)) 131 rfl rfl (i32_add k 1) rfl ?_
  refine x_kld (xs (k + 1)) 132 rfl rfl (i32_in (k + 1) L (by omega) (by omega)) (by rw [i32_nat (k + 1) (by omega)]) rfl ?_
  refine x_cv 60 104 135 [.ref 572, .int (xs (k + 1))] rfl rfl rfl (Nat.le_of_ble_eq_true rfl) rfl rfl (Nat.le_of_ble_eq_true rfl) ⟨_, _, _, rfl, hM1⟩ (Nat.le_of_ble_eq_true rfl) hm rfl ?_
  refine x_st 6 2 0 137 [some (.ref 1000002), some (.ref 0), some (.ref 572), some (.ref 619), some (.int (Int32.ofNat k)), some (.int 0), some (.int 0)] rfl rfl rfl (Nat.le_of_ble_eq_true rfl) rfl rfl ?_
  refine x_ld 2 1 2 138 rfl rfl rfl rfl rfl ?_
  refine x_cv 61 103 141 [.ref 572] rfl rfl rfl (Nat.le_of_ble_eq_true rfl) rfl rfl (Nat.le_of_ble_eq_true rfl) ⟨_, _, _, rfl, hM2⟩ (Nat.le_of_ble_eq_true rfl) ht rfl ?_
  refine x_ld 5 2 0 143 rfl rfl rfl rfl rfl ?_
  refine x_iceq 148 146 rfl rfl rfl (fun _ => ?_) (fun c => absurd rfl c)
  refine x_ld 5 2 0 150 rfl rfl rfl rfl rfl ?_
  refine x_ifne 172 153 rfl rfl rfl (fun c => absurd rfl c) (fun _ => ?_)
  refine x_ld 3 1 2 154 rfl rfl rfl rfl rfl ?_
  refine x_cst (.int 0) 1 155 rfl rfl rfl ?_
  refine x_lld (o 0) 156 rfl hO rfl (i32_in 0 1 (by decide) (by decide)) rfl rfl ?_
  refine x_ld 6 2 0 158 rfl rfl rfl rfl rfl ?_
  refine x_ifeq 165 161 rfl rfl rfl (fun _ => ?_) (fun c => absurd rfl c)
  refine x_cst (.long 0) 1 166 rfl rfl rfl ?_
  refine x_cmp 167 rfl rfl ?_
  refine x_ifeq 172 170 rfl rfl rfl (fun _ => ?_) (fun c => absurd (by rw [ho]; exact lg_same _) c)
  refine x_go 796 rfl rfl ?_
  exact kk
set_option maxRecDepth 20000 in
theorem lw_0_1 {o : Nat → Int64} {fs1 fs2 : List Value} (hL : L ≤ 1024) (hlt : k + 2 ≤ L) (hw : ab_S (pg_G L xs) D 50 [.ref 0, .int (xs (k + 1)), .ref 619] h (some (.int 0)) h1) (hM1 : h1[572]? = some (.inr (5, fs1))) (hm : ab_S (pg_G L xs) D 104 [.ref 572, .int (xs (k + 1))] h1 (some (.int 1)) h2) (hM2 : h2[572]? = some (.inr (5, fs2))) (ht : ab_S (pg_G L xs) D 103 [.ref 572] h2 (some (.int 0)) h2) (hO : h2[619]? = some (.inl (1, 1, .inr (.inl o)))) (ho : o 0 = 1) (kk : ab_W (pg_G L xs) (ab_X (pg_G L xs) D) 0 Q 796 [some (.ref 1000002), some (.ref 0), some (.ref 572), some (.ref 619), some (.int (Int32.ofNat k)), some (.int 0), some (.int 1)] [] h2) : ab_W (pg_G L xs) (ab_X (pg_G L xs) D) 0 Q 112 [some (.ref 1000002), some (.ref 0), some (.ref 572), some (.ref 619), some (.int (Int32.ofNat k)), o5, o6] [] h := by
  refine x_ld 1 1 2 113 rfl rfl rfl rfl rfl ?_
  refine x_ld 0 1 2 114 rfl rfl rfl rfl rfl ?_
  refine x_ld 4 2 0 116 rfl rfl rfl rfl rfl ?_
  refine x_cst (.int 1) 1 117 rfl rfl rfl ?_
  refine x_bin (Int32.ofNat (k + 1)) 118 rfl rfl (i32_add k 1) rfl ?_
  refine x_kld (xs (k + 1)) 119 rfl rfl (i32_in (k + 1) L (by omega) (by omega)) (by rw [i32_nat (k + 1) (by omega)]) rfl ?_
  refine x_ld 3 1 2 120 rfl rfl rfl rfl rfl ?_
  refine x_cv 55 50 123 [.ref 0, .int (xs (k + 1)), .ref 619] rfl rfl rfl (Nat.le_of_ble_eq_true rfl) rfl rfl (Nat.le_of_ble_eq_true rfl) trivial (Nat.le_of_ble_eq_true rfl) hw rfl ?_
  refine x_st 5 2 0 125 [some (.ref 1000002), some (.ref 0), some (.ref 572), some (.ref 619), some (.int (Int32.ofNat k)), some (.int 0), o6] rfl rfl rfl (Nat.le_of_ble_eq_true rfl) rfl rfl ?_
  refine x_ld 2 1 2 126 rfl rfl rfl rfl rfl ?_
  refine x_ld 0 1 2 127 rfl rfl rfl rfl rfl ?_
  refine x_ld 4 2 0 129 rfl rfl rfl rfl rfl ?_
  refine x_cst (.int 1) 1 130 rfl rfl rfl ?_
  refine x_bin (Int32.ofNat (k + 1)) 131 rfl rfl (i32_add k 1) rfl ?_
  refine x_kld (xs (k + 1)) 132 rfl rfl (i32_in (k + 1) L (by omega) (by omega)) (by rw [i32_nat (k + 1) (by omega)]) rfl ?_
  refine x_cv 60 104 135 [.ref 572, .int (xs (k + 1))] rfl rfl rfl (Nat.le_of_ble_eq_true rfl) rfl rfl (Nat.le_of_ble_eq_true rfl) ⟨_, _, _, rfl, hM1⟩ (Nat.le_of_ble_eq_true rfl) hm rfl ?_
  refine x_st 6 2 0 137 [some (.ref 1000002), some (.ref 0), some (.ref 572), some (.ref 619), some (.int (Int32.ofNat k)), some (.int 0), some (.int 1)] rfl rfl rfl (Nat.le_of_ble_eq_true rfl) rfl rfl ?_
  refine x_ld 2 1 2 138 rfl rfl rfl rfl rfl ?_
  refine x_cv 61 103 141 [.ref 572] rfl rfl rfl (Nat.le_of_ble_eq_true rfl) rfl rfl (Nat.le_of_ble_eq_true rfl) ⟨_, _, _, rfl, hM2⟩ (Nat.le_of_ble_eq_true rfl) ht rfl ?_
  refine x_ld 5 2 0 143 rfl rfl rfl rfl rfl ?_
  refine x_iceq 148 146 rfl rfl rfl (fun _ => ?_) (fun c => absurd rfl c)
  refine x_ld 5 2 0 150 rfl rfl rfl rfl rfl ?_
  refine x_ifne 172 153 rfl rfl rfl (fun c => absurd rfl c) (fun _ => ?_)
  refine x_ld 3 1 2 154 rfl rfl rfl rfl rfl ?_
  refine x_cst (.int 0) 1 155 rfl rfl rfl ?_
  refine x_lld (o 0) 156 rfl hO rfl (i32_in 0 1 (by decide) (by decide)) rfl rfl ?_
  refine x_ld 6 2 0 158 rfl rfl rfl rfl rfl ?_
  refine x_ifeq 165 161 rfl rfl rfl (fun c => absurd c (by decide)) (fun _ => ?_)
  refine x_cst (.long 1) 1 162 rfl rfl rfl ?_
  refine x_go 166 rfl rfl ?_
  refine x_cmp 167 rfl rfl ?_
  refine x_ifeq 172 170 rfl rfl rfl (fun _ => ?_) (fun c => absurd (by rw [ho]; exact lg_same _) c)
  refine x_go 796 rfl rfl ?_
  exact kk
set_option maxRecDepth 20000 in
theorem lw_4_x {w v : Int32} {fs1 fs2 : List Value} (hL : L ≤ 1024) (hlt : k + 2 ≤ L) (hw : ab_S (pg_G L xs) D 53 [.ref 0, .int (xs (k + 1)), .ref 619] h (some (.int w)) h1) (hM1 : h1[572]? = some (.inr (5, fs1))) (hm : ab_S (pg_G L xs) D 131 [.ref 572, .int (xs (k + 1))] h1 (some (.int v)) h2) (hM2 : h2[572]? = some (.inr (5, fs2))) (ht : ab_S (pg_G L xs) D 103 [.ref 572] h2 (some (.int w)) h2) (hw0 : ¬ w = 0) (kk : ab_W (pg_G L xs) (ab_X (pg_G L xs) D) 0 Q 796 [some (.ref 1000002), some (.ref 0), some (.ref 572), some (.ref 619), some (.int (Int32.ofNat k)), some (.int w), some (.int v)] [] h2) : ab_W (pg_G L xs) (ab_X (pg_G L xs) D) 0 Q 214 [some (.ref 1000002), some (.ref 0), some (.ref 572), some (.ref 619), some (.int (Int32.ofNat k)), o5, o6] [] h := by
  refine x_ld 1 1 2 215 rfl rfl rfl rfl rfl ?_
  refine x_ld 0 1 2 216 rfl rfl rfl rfl rfl ?_
  refine x_ld 4 2 0 218 rfl rfl rfl rfl rfl ?_
  refine x_cst (.int 1) 1 219 rfl rfl rfl ?_
  refine x_bin (Int32.ofNat (k + 1)) 220 rfl rfl (i32_add k 1) rfl ?_
  refine x_kld (xs (k + 1)) 221 rfl rfl (i32_in (k + 1) L (by omega) (by omega)) (by rw [i32_nat (k + 1) (by omega)]) rfl ?_
  refine x_ld 3 1 2 222 rfl rfl rfl rfl rfl ?_
  refine x_cv 76 53 225 [.ref 0, .int (xs (k + 1)), .ref 619] rfl rfl rfl (Nat.le_of_ble_eq_true rfl) rfl rfl (Nat.le_of_ble_eq_true rfl) trivial (Nat.le_of_ble_eq_true rfl) hw rfl ?_
  refine x_st 5 2 0 227 [some (.ref 1000002), some (.ref 0), some (.ref 572), some (.ref 619), some (.int (Int32.ofNat k)), some (.int w), o6] rfl rfl rfl (Nat.le_of_ble_eq_true rfl) rfl rfl ?_
  refine x_ld 2 1 2 228 rfl rfl rfl rfl rfl ?_
  refine x_ld 0 1 2 229 rfl rfl rfl rfl rfl ?_
  refine x_ld 4 2 0 231 rfl rfl rfl rfl rfl ?_
  refine x_cst (.int 1) 1 232 rfl rfl rfl ?_
  refine x_bin (Int32.ofNat (k + 1)) 233 rfl rfl (i32_add k 1) rfl ?_
  refine x_kld (xs (k + 1)) 234 rfl rfl (i32_in (k + 1) L (by omega) (by omega)) (by rw [i32_nat (k + 1) (by omega)]) rfl ?_
  refine x_cv 78 131 237 [.ref 572, .int (xs (k + 1))] rfl rfl rfl (Nat.le_of_ble_eq_true rfl) rfl rfl (Nat.le_of_ble_eq_true rfl) ⟨_, _, _, rfl, hM1⟩ (Nat.le_of_ble_eq_true rfl) hm rfl ?_
  refine x_st 6 2 0 239 [some (.ref 1000002), some (.ref 0), some (.ref 572), some (.ref 619), some (.int (Int32.ofNat k)), some (.int w), some (.int v)] rfl rfl rfl (Nat.le_of_ble_eq_true rfl) rfl rfl ?_
  refine x_ld 2 1 2 240 rfl rfl rfl rfl rfl ?_
  refine x_cv 61 103 243 [.ref 572] rfl rfl rfl (Nat.le_of_ble_eq_true rfl) rfl rfl (Nat.le_of_ble_eq_true rfl) ⟨_, _, _, rfl, hM2⟩ (Nat.le_of_ble_eq_true rfl) ht rfl ?_
  refine x_ld 5 2 0 245 rfl rfl rfl rfl rfl ?_
  refine x_iceq 250 248 rfl rfl rfl (fun _ => ?_) (fun c => absurd rfl c)
  refine x_ld 5 2 0 252 rfl rfl rfl rfl rfl ?_
  refine x_ifne 267 255 rfl rfl rfl (fun _ => ?_) (fun c => absurd c hw0)
  refine x_go 796 rfl rfl ?_
  exact kk
set_option maxRecDepth 20000 in
theorem lw_4_v {v : Int32} {o : Nat → Int64} {fs1 fs2 : List Value} (hL : L ≤ 1024) (hlt : k + 2 ≤ L) (hw : ab_S (pg_G L xs) D 53 [.ref 0, .int (xs (k + 1)), .ref 619] h (some (.int 0)) h1) (hM1 : h1[572]? = some (.inr (5, fs1))) (hm : ab_S (pg_G L xs) D 131 [.ref 572, .int (xs (k + 1))] h1 (some (.int v)) h2) (hM2 : h2[572]? = some (.inr (5, fs2))) (ht : ab_S (pg_G L xs) D 103 [.ref 572] h2 (some (.int 0)) h2) (hO : h2[619]? = some (.inl (1, 1, .inr (.inl o)))) (ho : o 0 = v.toInt64) (kk : ab_W (pg_G L xs) (ab_X (pg_G L xs) D) 0 Q 796 [some (.ref 1000002), some (.ref 0), some (.ref 572), some (.ref 619), some (.int (Int32.ofNat k)), some (.int 0), some (.int v)] [] h2) : ab_W (pg_G L xs) (ab_X (pg_G L xs) D) 0 Q 214 [some (.ref 1000002), some (.ref 0), some (.ref 572), some (.ref 619), some (.int (Int32.ofNat k)), o5, o6] [] h := by
  refine x_ld 1 1 2 215 rfl rfl rfl rfl rfl ?_
  refine x_ld 0 1 2 216 rfl rfl rfl rfl rfl ?_
  refine x_ld 4 2 0 218 rfl rfl rfl rfl rfl ?_
  refine x_cst (.int 1) 1 219 rfl rfl rfl ?_
  refine x_bin (Int32.ofNat (k + 1)) 220 rfl rfl (i32_add k 1) rfl ?_
  refine x_kld (xs (k + 1)) 221 rfl rfl (i32_in (k + 1) L (by omega) (by omega)) (by rw [i32_nat (k + 1) (by omega)]) rfl ?_
  refine x_ld 3 1 2 222 rfl rfl rfl rfl rfl ?_
  refine x_cv 76 53 225 [.ref 0, .int (xs (k + 1)), .ref 619] rfl rfl rfl (Nat.le_of_ble_eq_true rfl) rfl rfl (Nat.le_of_ble_eq_true rfl) trivial (Nat.le_of_ble_eq_true rfl) hw rfl ?_
  refine x_st 5 2 0 227 [some (.ref 1000002), some (.ref 0), some (.ref 572), some (.ref 619), some (.int (Int32.ofNat k)), some (.int 0), o6] rfl rfl rfl (Nat.le_of_ble_eq_true rfl) rfl rfl ?_
  refine x_ld 2 1 2 228 rfl rfl rfl rfl rfl ?_
  refine x_ld 0 1 2 229 rfl rfl rfl rfl rfl ?_
  refine x_ld 4 2 0 231 rfl rfl rfl rfl rfl ?_
  refine x_cst (.int 1) 1 232 rfl rfl rfl ?_
  refine x_bin (Int32.ofNat (k + 1)) 233 rfl rfl (i32_add k 1) rfl ?_
  refine x_kld (xs (k + 1)) 234 rfl rfl (i32_in (k + 1) L (by omega) (by omega)) (by rw [i32_nat (k + 1) (by omega)]) rfl ?_
  refine x_cv 78 131 237 [.ref 572, .int (xs (k + 1))] rfl rfl rfl (Nat.le_of_ble_eq_true rfl) rfl rfl (Nat.le_of_ble_eq_true rfl) ⟨_, _, _, rfl, hM1⟩ (Nat.le_of_ble_eq_true rfl) hm rfl ?_
  refine x_st 6 2 0 239 [some (.ref 1000002), some (.ref 0), some (.ref 572), some (.ref 619), some (.int (Int32.ofNat k)), some (.int 0), some (.int v)] rfl rfl rfl (Nat.le_of_ble_eq_true rfl) rfl rfl ?_
  refine x_ld 2 1 2 240 rfl rfl rfl rfl rfl ?_
  refine x_cv 61 103 243 [.ref 572] rfl rfl rfl (Nat.le_of_ble_eq_true rfl) rfl rfl (Nat.le_of_ble_eq_true rfl) ⟨_, _, _, rfl, hM2⟩ (Nat.le_of_ble_eq_true rfl) ht rfl ?_
  refine x_ld 5 2 0 245 rfl rfl rfl rfl rfl ?_
  refine x_iceq 250 248 rfl rfl rfl (fun _ => ?_) (fun c => absurd rfl c)
  refine x_ld 5 2 0 252 rfl rfl rfl rfl rfl ?_
  refine x_ifne 267 255 rfl rfl rfl (fun c => absurd rfl c) (fun _ => ?_)
  refine x_ld 3 1 2 256 rfl rfl rfl rfl rfl ?_
  refine x_cst (.int 0) 1 257 rfl rfl rfl ?_
  refine x_lld (o 0) 258 rfl hO rfl (i32_in 0 1 (by decide) (by decide)) rfl rfl ?_
  refine x_ld 6 2 0 260 rfl rfl rfl rfl rfl ?_
  refine x_un (.long v.toInt64) 261 rfl rfl rfl ?_
  refine x_cmp 262 rfl rfl ?_
  refine x_ifeq 267 265 rfl rfl rfl (fun _ => ?_) (fun c => absurd (by rw [ho]; exact lg_same _) c)
  refine x_go 796 rfl rfl ?_
  exact kk
set_option maxRecDepth 20000 in
theorem lw_5_x {w v : Int32} {fs1 fs2 : List Value} (hL : L ≤ 1024) (hlt : k + 2 ≤ L) (hw : ab_S (pg_G L xs) D 57 [.ref 0, .int (xs (k + 1)), .ref 619] h (some (.int w)) h1) (hM1 : h1[572]? = some (.inr (5, fs1))) (hm : ab_S (pg_G L xs) D 134 [.ref 572, .int (xs (k + 1))] h1 (some (.int v)) h2) (hM2 : h2[572]? = some (.inr (5, fs2))) (ht : ab_S (pg_G L xs) D 103 [.ref 572] h2 (some (.int w)) h2) (hw0 : ¬ w = 0) (kk : ab_W (pg_G L xs) (ab_X (pg_G L xs) D) 0 Q 796 [some (.ref 1000002), some (.ref 0), some (.ref 572), some (.ref 619), some (.int (Int32.ofNat k)), some (.int w), some (.int v)] [] h2) : ab_W (pg_G L xs) (ab_X (pg_G L xs) D) 0 Q 270 [some (.ref 1000002), some (.ref 0), some (.ref 572), some (.ref 619), some (.int (Int32.ofNat k)), o5, o6] [] h := by
  refine x_ld 1 1 2 271 rfl rfl rfl rfl rfl ?_
  refine x_ld 0 1 2 272 rfl rfl rfl rfl rfl ?_
  refine x_ld 4 2 0 274 rfl rfl rfl rfl rfl ?_
  refine x_cst (.int 1) 1 275 rfl rfl rfl ?_
  refine x_bin (Int32.ofNat (k + 1)) 276 rfl rfl (i32_add k 1) rfl ?_
  refine x_kld (xs (k + 1)) 277 rfl rfl (i32_in (k + 1) L (by omega) (by omega)) (by rw [i32_nat (k + 1) (by omega)]) rfl ?_
  refine x_ld 3 1 2 278 rfl rfl rfl rfl rfl ?_
  refine x_cv 79 57 281 [.ref 0, .int (xs (k + 1)), .ref 619] rfl rfl rfl (Nat.le_of_ble_eq_true rfl) rfl rfl (Nat.le_of_ble_eq_true rfl) trivial (Nat.le_of_ble_eq_true rfl) hw rfl ?_
  refine x_st 5 2 0 283 [some (.ref 1000002), some (.ref 0), some (.ref 572), some (.ref 619), some (.int (Int32.ofNat k)), some (.int w), o6] rfl rfl rfl (Nat.le_of_ble_eq_true rfl) rfl rfl ?_
  refine x_ld 2 1 2 284 rfl rfl rfl rfl rfl ?_
  refine x_ld 0 1 2 285 rfl rfl rfl rfl rfl ?_
  refine x_ld 4 2 0 287 rfl rfl rfl rfl rfl ?_
  refine x_cst (.int 1) 1 288 rfl rfl rfl ?_
  refine x_bin (Int32.ofNat (k + 1)) 289 rfl rfl (i32_add k 1) rfl ?_
  refine x_kld (xs (k + 1)) 290 rfl rfl (i32_in (k + 1) L (by omega) (by omega)) (by rw [i32_nat (k + 1) (by omega)]) rfl ?_
  refine x_cv 81 134 293 [.ref 572, .int (xs (k + 1))] rfl rfl rfl (Nat.le_of_ble_eq_true rfl) rfl rfl (Nat.le_of_ble_eq_true rfl) ⟨_, _, _, rfl, hM1⟩ (Nat.le_of_ble_eq_true rfl) hm rfl ?_
  refine x_st 6 2 0 295 [some (.ref 1000002), some (.ref 0), some (.ref 572), some (.ref 619), some (.int (Int32.ofNat k)), some (.int w), some (.int v)] rfl rfl rfl (Nat.le_of_ble_eq_true rfl) rfl rfl ?_
  refine x_ld 2 1 2 296 rfl rfl rfl rfl rfl ?_
  refine x_cv 61 103 299 [.ref 572] rfl rfl rfl (Nat.le_of_ble_eq_true rfl) rfl rfl (Nat.le_of_ble_eq_true rfl) ⟨_, _, _, rfl, hM2⟩ (Nat.le_of_ble_eq_true rfl) ht rfl ?_
  refine x_ld 5 2 0 301 rfl rfl rfl rfl rfl ?_
  refine x_iceq 306 304 rfl rfl rfl (fun _ => ?_) (fun c => absurd rfl c)
  refine x_ld 5 2 0 308 rfl rfl rfl rfl rfl ?_
  refine x_ifne 330 311 rfl rfl rfl (fun _ => ?_) (fun c => absurd c hw0)
  refine x_go 796 rfl rfl ?_
  exact kk
set_option maxRecDepth 20000 in
theorem lw_5_0 {o : Nat → Int64} {fs1 fs2 : List Value} (hL : L ≤ 1024) (hlt : k + 2 ≤ L) (hw : ab_S (pg_G L xs) D 57 [.ref 0, .int (xs (k + 1)), .ref 619] h (some (.int 0)) h1) (hM1 : h1[572]? = some (.inr (5, fs1))) (hm : ab_S (pg_G L xs) D 134 [.ref 572, .int (xs (k + 1))] h1 (some (.int 0)) h2) (hM2 : h2[572]? = some (.inr (5, fs2))) (ht : ab_S (pg_G L xs) D 103 [.ref 572] h2 (some (.int 0)) h2) (hO : h2[619]? = some (.inl (1, 1, .inr (.inl o)))) (ho : o 0 = 0) (kk : ab_W (pg_G L xs) (ab_X (pg_G L xs) D) 0 Q 796 [some (.ref 1000002), some (.ref 0), some (.ref 572), some (.ref 619), some (.int (Int32.ofNat k)), some (.int 0), some (.int 0)] [] h2) : ab_W (pg_G L xs) (ab_X (pg_G L xs) D) 0 Q 270 [some (.ref 1000002), some (.ref 0), some (.ref 572), some (.ref 619), some (.int (Int32.ofNat k)), o5, o6] [] h := by
  refine x_ld 1 1 2 271 rfl rfl rfl rfl rfl ?_
  refine x_ld 0 1 2 272 rfl rfl rfl rfl rfl ?_
  refine x_ld 4 2 0 274 rfl rfl rfl rfl rfl ?_
  refine x_cst (.int 1) 1 275 rfl rfl rfl ?_
  refine x_bin (Int32.ofNat (k + 1)) 276 rfl rfl (i32_add k 1) rfl ?_
  refine x_kld (xs (k + 1)) 277 rfl rfl (i32_in (k + 1) L (by omega) (by omega)) (by rw [i32_nat (k + 1) (by omega)]) rfl ?_
  refine x_ld 3 1 2 278 rfl rfl rfl rfl rfl ?_
  refine x_cv 79 57 281 [.ref 0, .int (xs (k + 1)), .ref 619] rfl rfl rfl (Nat.le_of_ble_eq_true rfl) rfl rfl (Nat.le_of_ble_eq_true rfl) trivial (Nat.le_of_ble_eq_true rfl) hw rfl ?_
  refine x_st 5 2 0 283 [some (.ref 1000002), some (.ref 0), some (.ref 572), some (.ref 619), some (.int (Int32.ofNat k)), some (.int 0), o6] rfl rfl rfl (Nat.le_of_ble_eq_true rfl) rfl rfl ?_
  refine x_ld 2 1 2 284 rfl rfl rfl rfl rfl ?_
  refine x_ld 0 1 2 285 rfl rfl rfl rfl rfl ?_
  refine x_ld 4 2 0 287 rfl rfl rfl rfl rfl ?_
  refine x_cst (.int 1) 1 288 rfl rfl rfl ?_
  refine x_bin (Int32.ofNat (k + 1)) 289 rfl rfl (i32_add k 1) rfl ?_
  refine x_kld (xs (k + 1)) 290 rfl rfl (i32_in (k + 1) L (by omega) (by omega)) (by rw [i32_nat (k + 1) (by omega)]) rfl ?_
  refine x_cv 81 134 293 [.ref 572, .int (xs (k + 1))] rfl rfl rfl (Nat.le_of_ble_eq_true rfl) rfl rfl (Nat.le_of_ble_eq_true rfl) ⟨_, _, _, rfl, hM1⟩ (Nat.le_of_ble_eq_true rfl) hm rfl ?_
  refine x_st 6 2 0 295 [some (.ref 1000002), some (.ref 0), some (.ref 572), some (.ref 619), some (.int (Int32.ofNat k)), some (.int 0), some (.int 0)] rfl rfl rfl (Nat.le_of_ble_eq_true rfl) rfl rfl ?_
  refine x_ld 2 1 2 296 rfl rfl rfl rfl rfl ?_
  refine x_cv 61 103 299 [.ref 572] rfl rfl rfl (Nat.le_of_ble_eq_true rfl) rfl rfl (Nat.le_of_ble_eq_true rfl) ⟨_, _, _, rfl, hM2⟩ (Nat.le_of_ble_eq_true rfl) ht rfl ?_
  refine x_ld 5 2 0 301 rfl rfl rfl rfl rfl ?_
  refine x_iceq 306 304 rfl rfl rfl (fun _ => ?_) (fun c => absurd rfl c)
  refine x_ld 5 2 0 308 rfl rfl rfl rfl rfl ?_
  refine x_ifne 330 311 rfl rfl rfl (fun c => absurd rfl c) (fun _ => ?_)
  refine x_ld 3 1 2 312 rfl rfl rfl rfl rfl ?_
  refine x_cst (.int 0) 1 313 rfl rfl rfl ?_
  refine x_lld (o 0) 314 rfl hO rfl (i32_in 0 1 (by decide) (by decide)) rfl rfl ?_
  refine x_ld 6 2 0 316 rfl rfl rfl rfl rfl ?_
  refine x_ifeq 323 319 rfl rfl rfl (fun _ => ?_) (fun c => absurd rfl c)
  refine x_cst (.long 0) 1 324 rfl rfl rfl ?_
  refine x_cmp 325 rfl rfl ?_
  refine x_ifeq 330 328 rfl rfl rfl (fun _ => ?_) (fun c => absurd (by rw [ho]; exact lg_same _) c)
  refine x_go 796 rfl rfl ?_
  exact kk
set_option maxRecDepth 20000 in
theorem lw_5_1 {o : Nat → Int64} {fs1 fs2 : List Value} (hL : L ≤ 1024) (hlt : k + 2 ≤ L) (hw : ab_S (pg_G L xs) D 57 [.ref 0, .int (xs (k + 1)), .ref 619] h (some (.int 0)) h1) (hM1 : h1[572]? = some (.inr (5, fs1))) (hm : ab_S (pg_G L xs) D 134 [.ref 572, .int (xs (k + 1))] h1 (some (.int 1)) h2) (hM2 : h2[572]? = some (.inr (5, fs2))) (ht : ab_S (pg_G L xs) D 103 [.ref 572] h2 (some (.int 0)) h2) (hO : h2[619]? = some (.inl (1, 1, .inr (.inl o)))) (ho : o 0 = 1) (kk : ab_W (pg_G L xs) (ab_X (pg_G L xs) D) 0 Q 796 [some (.ref 1000002), some (.ref 0), some (.ref 572), some (.ref 619), some (.int (Int32.ofNat k)), some (.int 0), some (.int 1)] [] h2) : ab_W (pg_G L xs) (ab_X (pg_G L xs) D) 0 Q 270 [some (.ref 1000002), some (.ref 0), some (.ref 572), some (.ref 619), some (.int (Int32.ofNat k)), o5, o6] [] h := by
  refine x_ld 1 1 2 271 rfl rfl rfl rfl rfl ?_
  refine x_ld 0 1 2 272 rfl rfl rfl rfl rfl ?_
  refine x_ld 4 2 0 274 rfl rfl rfl rfl rfl ?_
  refine x_cst (.int 1) 1 275 rfl rfl rfl ?_
  refine x_bin (Int32.ofNat (k + 1)) 276 rfl rfl (i32_add k 1) rfl ?_
  refine x_kld (xs (k + 1)) 277 rfl rfl (i32_in (k + 1) L (by omega) (by omega)) (by rw [i32_nat (k + 1) (by omega)]) rfl ?_
  refine x_ld 3 1 2 278 rfl rfl rfl rfl rfl ?_
  refine x_cv 79 57 281 [.ref 0, .int (xs (k + 1)), .ref 619] rfl rfl rfl (Nat.le_of_ble_eq_true rfl) rfl rfl (Nat.le_of_ble_eq_true rfl) trivial (Nat.le_of_ble_eq_true rfl) hw rfl ?_
  refine x_st 5 2 0 283 [some (.ref 1000002), some (.ref 0), some (.ref 572), some (.ref 619), some (.int (Int32.ofNat k)), some (.int 0), o6] rfl rfl rfl (Nat.le_of_ble_eq_true rfl) rfl rfl ?_
  refine x_ld 2 1 2 284 rfl rfl rfl rfl rfl ?_
  refine x_ld 0 1 2 285 rfl rfl rfl rfl rfl ?_
  refine x_ld 4 2 0 287 rfl rfl rfl rfl rfl ?_
  refine x_cst (.int 1) 1 288 rfl rfl rfl ?_
  refine x_bin (Int32.ofNat (k + 1)) 289 rfl rfl (i32_add k 1) rfl ?_
  refine x_kld (xs (k + 1)) 290 rfl rfl (i32_in (k + 1) L (by omega) (by omega)) (by rw [i32_nat (k + 1) (by omega)]) rfl ?_
  refine x_cv 81 134 293 [.ref 572, .int (xs (k + 1))] rfl rfl rfl (Nat.le_of_ble_eq_true rfl) rfl rfl (Nat.le_of_ble_eq_true rfl) ⟨_, _, _, rfl, hM1⟩ (Nat.le_of_ble_eq_true rfl) hm rfl ?_
  refine x_st 6 2 0 295 [some (.ref 1000002), some (.ref 0), some (.ref 572), some (.ref 619), some (.int (Int32.ofNat k)), some (.int 0), some (.int 1)] rfl rfl rfl (Nat.le_of_ble_eq_true rfl) rfl rfl ?_
  refine x_ld 2 1 2 296 rfl rfl rfl rfl rfl ?_
  refine x_cv 61 103 299 [.ref 572] rfl rfl rfl (Nat.le_of_ble_eq_true rfl) rfl rfl (Nat.le_of_ble_eq_true rfl) ⟨_, _, _, rfl, hM2⟩ (Nat.le_of_ble_eq_true rfl) ht rfl ?_
  refine x_ld 5 2 0 301 rfl rfl rfl rfl rfl ?_
  refine x_iceq 306 304 rfl rfl rfl (fun _ => ?_) (fun c => absurd rfl c)
  refine x_ld 5 2 0 308 rfl rfl rfl rfl rfl ?_
  refine x_ifne 330 311 rfl rfl rfl (fun c => absurd rfl c) (fun _ => ?_)
  refine x_ld 3 1 2 312 rfl rfl rfl rfl rfl ?_
  refine x_cst (.int 0) 1 313 rfl rfl rfl ?_
  refine x_lld (o 0) 314 rfl hO rfl (i32_in 0 1 (by decide) (by decide)) rfl rfl ?_
  refine x_ld 6 2 0 316 rfl rfl rfl rfl rfl ?_
  refine x_ifeq 323 319 rfl rfl rfl (fun c => absurd c (by decide)) (fun _ => ?_)
  refine x_cst (.long 1) 1 320 rfl rfl rfl ?_
  refine x_go 324 rfl rfl ?_
  refine x_cmp 325 rfl rfl ?_
  refine x_ifeq 330 328 rfl rfl rfl (fun _ => ?_) (fun c => absurd (by rw [ho]; exact lg_same _) c)
  refine x_go 796 rfl rfl ?_
  exact kk
set_option maxRecDepth 20000 in
theorem lw_6_x {w v : Int32} {fs1 fs2 : List Value} (hL : L ≤ 1024) (hlt : k + 2 ≤ L) (hw : ab_S (pg_G L xs) D 60 [.ref 0, .int (xs (k + 1)), .ref 619] h (some (.int w)) h1) (hM1 : h1[572]? = some (.inr (5, fs1))) (hm : ab_S (pg_G L xs) D 136 [.ref 572, .int (xs (k + 1))] h1 (some (.int v)) h2) (hM2 : h2[572]? = some (.inr (5, fs2))) (ht : ab_S (pg_G L xs) D 103 [.ref 572] h2 (some (.int w)) h2) (hw0 : ¬ w = 0) (kk : ab_W (pg_G L xs) (ab_X (pg_G L xs) D) 0 Q 796 [some (.ref 1000002), some (.ref 0), some (.ref 572), some (.ref 619), some (.int (Int32.ofNat k)), some (.int w), some (.int v)] [] h2) : ab_W (pg_G L xs) (ab_X (pg_G L xs) D) 0 Q 333 [some (.ref 1000002), some (.ref 0), some (.ref 572), some (.ref 619), some (.int (Int32.ofNat k)), o5, o6] [] h := by
  refine x_ld 1 1 2 334 rfl rfl rfl rfl rfl ?_
  refine x_ld 0 1 2 335 rfl rfl rfl rfl rfl ?_
  refine x_ld 4 2 0 337 rfl rfl rfl rfl rfl ?_
  refine x_cst (.int 1) 1 338 rfl rfl rfl ?_
  refine x_bin (Int32.ofNat (k + 1)) 339 rfl rfl (i32_add k 1) rfl ?_
  refine x_kld (xs (k + 1)) 340 rfl rfl (i32_in (k + 1) L (by omega) (by omega)) (by rw [i32_nat (k + 1) (by omega)]) rfl ?_
  refine x_ld 3 1 2 341 rfl rfl rfl rfl rfl ?_
  refine x_cv 82 60 344 [.ref 0, .int (xs (k + 1)), .ref 619] rfl rfl rfl (Nat.le_of_ble_eq_true rfl) rfl rfl (Nat.le_of_ble_eq_true rfl) trivial (Nat.le_of_ble_eq_true rfl) hw rfl ?_
  refine x_st 5 2 0 346 [some (.ref 1000002), some (.ref 0), some (.ref 572), some (.ref 619), some (.int (Int32.ofNat k)), some (.int w), o6] rfl rfl rfl (Nat.le_of_ble_eq_true rfl) rfl rfl ?_
  refine x_ld 2 1 2 347 rfl rfl rfl rfl rfl ?_
  refine x_ld 0 1 2 348 rfl rfl rfl rfl rfl ?_
  refine x_ld 4 2 0 350 rfl rfl rfl rfl rfl ?_
  refine x_cst (.int 1) 1 351 rfl rfl rfl ?_
  refine x_bin (Int32.ofNat (k + 1)) 352 rfl rfl (i32_add k 1) rfl ?_
  refine x_kld (xs (k + 1)) 353 rfl rfl (i32_in (k + 1) L (by omega) (by omega)) (by rw [i32_nat (k + 1) (by omega)]) rfl ?_
  refine x_cv 84 136 356 [.ref 572, .int (xs (k + 1))] rfl rfl rfl (Nat.le_of_ble_eq_true rfl) rfl rfl (Nat.le_of_ble_eq_true rfl) ⟨_, _, _, rfl, hM1⟩ (Nat.le_of_ble_eq_true rfl) hm rfl ?_
  refine x_st 6 2 0 358 [some (.ref 1000002), some (.ref 0), some (.ref 572), some (.ref 619), some (.int (Int32.ofNat k)), some (.int w), some (.int v)] rfl rfl rfl (Nat.le_of_ble_eq_true rfl) rfl rfl ?_
  refine x_ld 2 1 2 359 rfl rfl rfl rfl rfl ?_
  refine x_cv 61 103 362 [.ref 572] rfl rfl rfl (Nat.le_of_ble_eq_true rfl) rfl rfl (Nat.le_of_ble_eq_true rfl) ⟨_, _, _, rfl, hM2⟩ (Nat.le_of_ble_eq_true rfl) ht rfl ?_
  refine x_ld 5 2 0 364 rfl rfl rfl rfl rfl ?_
  refine x_iceq 369 367 rfl rfl rfl (fun _ => ?_) (fun c => absurd rfl c)
  refine x_ld 5 2 0 371 rfl rfl rfl rfl rfl ?_
  refine x_ifne 393 374 rfl rfl rfl (fun _ => ?_) (fun c => absurd c hw0)
  refine x_go 796 rfl rfl ?_
  exact kk
set_option maxRecDepth 20000 in
theorem lw_6_0 {o : Nat → Int64} {fs1 fs2 : List Value} (hL : L ≤ 1024) (hlt : k + 2 ≤ L) (hw : ab_S (pg_G L xs) D 60 [.ref 0, .int (xs (k + 1)), .ref 619] h (some (.int 0)) h1) (hM1 : h1[572]? = some (.inr (5, fs1))) (hm : ab_S (pg_G L xs) D 136 [.ref 572, .int (xs (k + 1))] h1 (some (.int 0)) h2) (hM2 : h2[572]? = some (.inr (5, fs2))) (ht : ab_S (pg_G L xs) D 103 [.ref 572] h2 (some (.int 0)) h2) (hO : h2[619]? = some (.inl (1, 1, .inr (.inl o)))) (ho : o 0 = 0) (kk : ab_W (pg_G L xs) (ab_X (pg_G L xs) D) 0 Q 796 [some (.ref 1000002), some (.ref 0), some (.ref 572), some (.ref 619), some (.int (Int32.ofNat k)), some (.int 0), some (.int 0)] [] h2) : ab_W (pg_G L xs) (ab_X (pg_G L xs) D) 0 Q 333 [some (.ref 1000002), some (.ref 0), some (.ref 572), some (.ref 619), some (.int (Int32.ofNat k)), o5, o6] [] h := by
  refine x_ld 1 1 2 334 rfl rfl rfl rfl rfl ?_
  refine x_ld 0 1 2 335 rfl rfl rfl rfl rfl ?_
  refine x_ld 4 2 0 337 rfl rfl rfl rfl rfl ?_
  refine x_cst (.int 1) 1 338 rfl rfl rfl ?_
  refine x_bin (Int32.ofNat (k + 1)) 339 rfl rfl (i32_add k 1) rfl ?_
  refine x_kld (xs (k + 1)) 340 rfl rfl (i32_in (k + 1) L (by omega) (by omega)) (by rw [i32_nat (k + 1) (by omega)]) rfl ?_
  refine x_ld 3 1 2 341 rfl rfl rfl rfl rfl ?_
  refine x_cv 82 60 344 [.ref 0, .int (xs (k + 1)), .ref 619] rfl rfl rfl (Nat.le_of_ble_eq_true rfl) rfl rfl (Nat.le_of_ble_eq_true rfl) trivial (Nat.le_of_ble_eq_true rfl) hw rfl ?_
  refine x_st 5 2 0 346 [some (.ref 1000002), some (.ref 0), some (.ref 572), some (.ref 619), some (.int (Int32.ofNat k)), some (.int 0), o6] rfl rfl rfl (Nat.le_of_ble_eq_true rfl) rfl rfl ?_
  refine x_ld 2 1 2 347 rfl rfl rfl rfl rfl ?_
  refine x_ld 0 1 2 348 rfl rfl rfl rfl rfl ?_
  refine x_ld 4 2 0 350 rfl rfl rfl rfl rfl ?_
  refine x_cst (.int 1) 1 351 rfl rfl rfl ?_
  refine x_bin (Int32.ofNat (k + 1)) 352 rfl rfl (i32_add k 1) rfl ?_
  refine x_kld (xs (k + 1)) 353 rfl rfl (i32_in (k + 1) L (by omega) (by omega)) (by rw [i32_nat (k + 1) (by omega)]) rfl ?_
  refine x_cv 84 136 356 [.ref 572, .int (xs (k + 1))] rfl rfl rfl (Nat.le_of_ble_eq_true rfl) rfl rfl (Nat.le_of_ble_eq_true rfl) ⟨_, _, _, rfl, hM1⟩ (Nat.le_of_ble_eq_true rfl) hm rfl ?_
  refine x_st 6 2 0 358 [some (.ref 1000002), some (.ref 0), some (.ref 572), some (.ref 619), some (.int (Int32.ofNat k)), some (.int 0), some (.int 0)] rfl rfl rfl (Nat.le_of_ble_eq_true rfl) rfl rfl ?_
  refine x_ld 2 1 2 359 rfl rfl rfl rfl rfl ?_
  refine x_cv 61 103 362 [.ref 572] rfl rfl rfl (Nat.le_of_ble_eq_true rfl) rfl rfl (Nat.le_of_ble_eq_true rfl) ⟨_, _, _, rfl, hM2⟩ (Nat.le_of_ble_eq_true rfl) ht rfl ?_
  refine x_ld 5 2 0 364 rfl rfl rfl rfl rfl ?_
  refine x_iceq 369 367 rfl rfl rfl (fun _ => ?_) (fun c => absurd rfl c)
  refine x_ld 5 2 0 371 rfl rfl rfl rfl rfl ?_
  refine x_ifne 393 374 rfl rfl rfl (fun c => absurd rfl c) (fun _ => ?_)
  refine x_ld 3 1 2 375 rfl rfl rfl rfl rfl ?_
  refine x_cst (.int 0) 1 376 rfl rfl rfl ?_
  refine x_lld (o 0) 377 rfl hO rfl (i32_in 0 1 (by decide) (by decide)) rfl rfl ?_
  refine x_ld 6 2 0 379 rfl rfl rfl rfl rfl ?_
  refine x_ifeq 386 382 rfl rfl rfl (fun _ => ?_) (fun c => absurd rfl c)
  refine x_cst (.long 0) 1 387 rfl rfl rfl ?_
  refine x_cmp 388 rfl rfl ?_
  refine x_ifeq 393 391 rfl rfl rfl (fun _ => ?_) (fun c => absurd (by rw [ho]; exact lg_same _) c)
  refine x_go 796 rfl rfl ?_
  exact kk
set_option maxRecDepth 20000 in
theorem lw_6_1 {o : Nat → Int64} {fs1 fs2 : List Value} (hL : L ≤ 1024) (hlt : k + 2 ≤ L) (hw : ab_S (pg_G L xs) D 60 [.ref 0, .int (xs (k + 1)), .ref 619] h (some (.int 0)) h1) (hM1 : h1[572]? = some (.inr (5, fs1))) (hm : ab_S (pg_G L xs) D 136 [.ref 572, .int (xs (k + 1))] h1 (some (.int 1)) h2) (hM2 : h2[572]? = some (.inr (5, fs2))) (ht : ab_S (pg_G L xs) D 103 [.ref 572] h2 (some (.int 0)) h2) (hO : h2[619]? = some (.inl (1, 1, .inr (.inl o)))) (ho : o 0 = 1) (kk : ab_W (pg_G L xs) (ab_X (pg_G L xs) D) 0 Q 796 [some (.ref 1000002), some (.ref 0), some (.ref 572), some (.ref 619), some (.int (Int32.ofNat k)), some (.int 0), some (.int 1)] [] h2) : ab_W (pg_G L xs) (ab_X (pg_G L xs) D) 0 Q 333 [some (.ref 1000002), some (.ref 0), some (.ref 572), some (.ref 619), some (.int (Int32.ofNat k)), o5, o6] [] h := by
  refine x_ld 1 1 2 334 rfl rfl rfl rfl rfl ?_
  refine x_ld 0 1 2 335 rfl rfl rfl rfl rfl ?_
  refine x_ld 4 2 0 337 rfl rfl rfl rfl rfl ?_
  refine x_cst (.int 1) 1 338 rfl rfl rfl ?_
  refine x_bin (Int32.ofNat (k + 1)) 339 rfl rfl (i32_add k 1) rfl ?_
  refine x_kld (xs (k + 1)) 340 rfl rfl (i32_in (k + 1) L (by omega) (by omega)) (by rw [i32_nat (k + 1) (by omega)]) rfl ?_
  refine x_ld 3 1 2 341 rfl rfl rfl rfl rfl ?_
  refine x_cv 82 60 344 [.ref 0, .int (xs (k + 1)), .ref 619] rfl rfl rfl (Nat.le_of_ble_eq_true rfl) rfl rfl (Nat.le_of_ble_eq_true rfl) trivial (Nat.le_of_ble_eq_true rfl) hw rfl ?_
  refine x_st 5 2 0 346 [some (.ref 1000002), some (.ref 0), some (.ref 572), some (.ref 619), some (.int (Int32.ofNat k)), some (.int 0), o6] rfl rfl rfl (Nat.le_of_ble_eq_true rfl) rfl rfl ?_
  refine x_ld 2 1 2 347 rfl rfl rfl rfl rfl ?_
  refine x_ld 0 1 2 348 rfl rfl rfl rfl rfl ?_
  refine x_ld 4 2 0 350 rfl rfl rfl rfl rfl ?_
  refine x_cst (.int 1) 1 351 rfl rfl rfl ?_
  refine x_bin (Int32.ofNat (k + 1)) 352 rfl rfl (i32_add k 1) rfl ?_
  refine x_kld (xs (k + 1)) 353 rfl rfl (i32_in (k + 1) L (by omega) (by omega)) (by rw [i32_nat (k + 1) (by omega)]) rfl ?_
  refine x_cv 84 136 356 [.ref 572, .int (xs (k + 1))] rfl rfl rfl (Nat.le_of_ble_eq_true rfl) rfl rfl (Nat.le_of_ble_eq_true rfl) ⟨_, _, _, rfl, hM1⟩ (Nat.le_of_ble_eq_true rfl) hm rfl ?_
  refine x_st 6 2 0 358 [some (.ref 1000002), some (.ref 0), some (.ref 572), some (.ref 619), some (.int (Int32.ofNat k)), some (.int 0), some (.int 1)] rfl rfl rfl (Nat.le_of_ble_eq_true rfl) rfl rfl ?_
  refine x_ld 2 1 2 359 rfl rfl rfl rfl rfl ?_
  refine x_cv 61 103 362 [.ref 572] rfl rfl rfl (Nat.le_of_ble_eq_true rfl) rfl rfl (Nat.le_of_ble_eq_true rfl) ⟨_, _, _, rfl, hM2⟩ (Nat.le_of_ble_eq_true rfl) ht rfl ?_
  refine x_ld 5 2 0 364 rfl rfl rfl rfl rfl ?_
  refine x_iceq 369 367 rfl rfl rfl (fun _ => ?_) (fun c => absurd rfl c)
  refine x_ld 5 2 0 371 rfl rfl rfl rfl rfl ?_
  refine x_ifne 393 374 rfl rfl rfl (fun c => absurd rfl c) (fun _ => ?_)
  refine x_ld 3 1 2 375 rfl rfl rfl rfl rfl ?_
  refine x_cst (.int 0) 1 376 rfl rfl rfl ?_
  refine x_lld (o 0) 377 rfl hO rfl (i32_in 0 1 (by decide) (by decide)) rfl rfl ?_
  refine x_ld 6 2 0 379 rfl rfl rfl rfl rfl ?_
  refine x_ifeq 386 382 rfl rfl rfl (fun c => absurd c (by decide)) (fun _ => ?_)
  refine x_cst (.long 1) 1 383 rfl rfl rfl ?_
  refine x_go 387 rfl rfl ?_
  refine x_cmp 388 rfl rfl ?_
  refine x_ifeq 393 391 rfl rfl rfl (fun _ => ?_) (fun c => absurd (by rw [ho]; exact lg_same _) c)
  refine x_go 796 rfl rfl ?_
  exact kk
set_option maxRecDepth 20000 in
theorem lw_7_x {w v : Int32} {fs1 fs2 : List Value} (hL : L ≤ 1024) (hlt : k + 2 ≤ L) (hw : ab_S (pg_G L xs) D 62 [.ref 0, .int (xs (k + 1)), .ref 619] h (some (.int w)) h1) (hM1 : h1[572]? = some (.inr (5, fs1))) (hm : ab_S (pg_G L xs) D 137 [.ref 572, .int (xs (k + 1))] h1 (some (.int v)) h2) (hM2 : h2[572]? = some (.inr (5, fs2))) (ht : ab_S (pg_G L xs) D 103 [.ref 572] h2 (some (.int w)) h2) (hw0 : ¬ w = 0) (kk : ab_W (pg_G L xs) (ab_X (pg_G L xs) D) 0 Q 796 [some (.ref 1000002), some (.ref 0), some (.ref 572), some (.ref 619), some (.int (Int32.ofNat k)), some (.int w), some (.int v)] [] h2) : ab_W (pg_G L xs) (ab_X (pg_G L xs) D) 0 Q 396 [some (.ref 1000002), some (.ref 0), some (.ref 572), some (.ref 619), some (.int (Int32.ofNat k)), o5, o6] [] h := by
  refine x_ld 1 1 2 397 rfl rfl rfl rfl rfl ?_
  refine x_ld 0 1 2 398 rfl rfl rfl rfl rfl ?_
  refine x_ld 4 2 0 400 rfl rfl rfl rfl rfl ?_
  refine x_cst (.int 1) 1 401 rfl rfl rfl ?_
  refine x_bin (Int32.ofNat (k + 1)) 402 rfl rfl (i32_add k 1) rfl ?_
  refine x_kld (xs (k + 1)) 403 rfl rfl (i32_in (k + 1) L (by omega) (by omega)) (by rw [i32_nat (k + 1) (by omega)]) rfl ?_
  refine x_ld 3 1 2 404 rfl rfl rfl rfl rfl ?_
  refine x_cv 85 62 407 [.ref 0, .int (xs (k + 1)), .ref 619] rfl rfl rfl (Nat.le_of_ble_eq_true rfl) rfl rfl (Nat.le_of_ble_eq_true rfl) trivial (Nat.le_of_ble_eq_true rfl) hw rfl ?_
  refine x_st 5 2 0 409 [some (.ref 1000002), some (.ref 0), some (.ref 572), some (.ref 619), some (.int (Int32.ofNat k)), some (.int w), o6] rfl rfl rfl (Nat.le_of_ble_eq_true rfl) rfl rfl ?_
  refine x_ld 2 1 2 410 rfl rfl rfl rfl rfl ?_
  refine x_ld 0 1 2 411 rfl rfl rfl rfl rfl ?_
  refine x_ld 4 2 0 413 rfl rfl rfl rfl rfl ?_
  refine x_cst (.int 1) 1 414 rfl rfl rfl ?_
  refine x_bin (Int32.ofNat (k + 1)) 415 rfl rfl (i32_add k 1) rfl ?_
  refine x_kld (xs (k + 1)) 416 rfl rfl (i32_in (k + 1) L (by omega) (by omega)) (by rw [i32_nat (k + 1) (by omega)]) rfl ?_
  refine x_cv 87 137 419 [.ref 572, .int (xs (k + 1))] rfl rfl rfl (Nat.le_of_ble_eq_true rfl) rfl rfl (Nat.le_of_ble_eq_true rfl) ⟨_, _, _, rfl, hM1⟩ (Nat.le_of_ble_eq_true rfl) hm rfl ?_
  refine x_st 6 2 0 421 [some (.ref 1000002), some (.ref 0), some (.ref 572), some (.ref 619), some (.int (Int32.ofNat k)), some (.int w), some (.int v)] rfl rfl rfl (Nat.le_of_ble_eq_true rfl) rfl rfl ?_
  refine x_ld 2 1 2 422 rfl rfl rfl rfl rfl ?_
  refine x_cv 61 103 425 [.ref 572] rfl rfl rfl (Nat.le_of_ble_eq_true rfl) rfl rfl (Nat.le_of_ble_eq_true rfl) ⟨_, _, _, rfl, hM2⟩ (Nat.le_of_ble_eq_true rfl) ht rfl ?_
  refine x_ld 5 2 0 427 rfl rfl rfl rfl rfl ?_
  refine x_iceq 432 430 rfl rfl rfl (fun _ => ?_) (fun c => absurd rfl c)
  refine x_ld 5 2 0 434 rfl rfl rfl rfl rfl ?_
  refine x_ifne 449 437 rfl rfl rfl (fun _ => ?_) (fun c => absurd c hw0)
  refine x_go 796 rfl rfl ?_
  exact kk
set_option maxRecDepth 20000 in
theorem lw_7_v {v : Int32} {o : Nat → Int64} {fs1 fs2 : List Value} (hL : L ≤ 1024) (hlt : k + 2 ≤ L) (hw : ab_S (pg_G L xs) D 62 [.ref 0, .int (xs (k + 1)), .ref 619] h (some (.int 0)) h1) (hM1 : h1[572]? = some (.inr (5, fs1))) (hm : ab_S (pg_G L xs) D 137 [.ref 572, .int (xs (k + 1))] h1 (some (.int v)) h2) (hM2 : h2[572]? = some (.inr (5, fs2))) (ht : ab_S (pg_G L xs) D 103 [.ref 572] h2 (some (.int 0)) h2) (hO : h2[619]? = some (.inl (1, 1, .inr (.inl o)))) (ho : o 0 = v.toInt64) (kk : ab_W (pg_G L xs) (ab_X (pg_G L xs) D) 0 Q 796 [some (.ref 1000002), some (.ref 0), some (.ref 572), some (.ref 619), some (.int (Int32.ofNat k)), some (.int 0), some (.int v)] [] h2) : ab_W (pg_G L xs) (ab_X (pg_G L xs) D) 0 Q 396 [some (.ref 1000002), some (.ref 0), some (.ref 572), some (.ref 619), some (.int (Int32.ofNat k)), o5, o6] [] h := by
  refine x_ld 1 1 2 397 rfl rfl rfl rfl rfl ?_
  refine x_ld 0 1 2 398 rfl rfl rfl rfl rfl ?_
  refine x_ld 4 2 0 400 rfl rfl rfl rfl rfl ?_
  refine x_cst (.int 1) 1 401 rfl rfl rfl ?_
  refine x_bin (Int32.ofNat (k + 1)) 402 rfl rfl (i32_add k 1) rfl ?_
  refine x_kld (xs (k + 1)) 403 rfl rfl (i32_in (k + 1) L (by omega) (by omega)) (by rw [i32_nat (k + 1) (by omega)]) rfl ?_
  refine x_ld 3 1 2 404 rfl rfl rfl rfl rfl ?_
  refine x_cv 85 62 407 [.ref 0, .int (xs (k + 1)), .ref 619] rfl rfl rfl (Nat.le_of_ble_eq_true rfl) rfl rfl (Nat.le_of_ble_eq_true rfl) trivial (Nat.le_of_ble_eq_true rfl) hw rfl ?_
  refine x_st 5 2 0 409 [some (.ref 1000002), some (.ref 0), some (.ref 572), some (.ref 619), some (.int (Int32.ofNat k)), some (.int 0), o6] rfl rfl rfl (Nat.le_of_ble_eq_true rfl) rfl rfl ?_
  refine x_ld 2 1 2 410 rfl rfl rfl rfl rfl ?_
  refine x_ld 0 1 2 411 rfl rfl rfl rfl rfl ?_
  refine x_ld 4 2 0 413 rfl rfl rfl rfl rfl ?_
  refine x_cst (.int 1) 1 414 rfl rfl rfl ?_
  refine x_bin (Int32.ofNat (k + 1)) 415 rfl rfl (i32_add k 1) rfl ?_
  refine x_kld (xs (k + 1)) 416 rfl rfl (i32_in (k + 1) L (by omega) (by omega)) (by rw [i32_nat (k + 1) (by omega)]) rfl ?_
  refine x_cv 87 137 419 [.ref 572, .int (xs (k + 1))] rfl rfl rfl (Nat.le_of_ble_eq_true rfl) rfl rfl (Nat.le_of_ble_eq_true rfl) ⟨_, _, _, rfl, hM1⟩ (Nat.le_of_ble_eq_true rfl) hm rfl ?_
  refine x_st 6 2 0 421 [some (.ref 1000002), some (.ref 0), some (.ref 572), some (.ref 619), some (.int (Int32.ofNat k)), some (.int 0), some (.int v)] rfl rfl rfl (Nat.le_of_ble_eq_true rfl) rfl rfl ?_
  refine x_ld 2 1 2 422 rfl rfl rfl rfl rfl ?_
  refine x_cv 61 103 425 [.ref 572] rfl rfl rfl (Nat.le_of_ble_eq_true rfl) rfl rfl (Nat.le_of_ble_eq_true rfl) ⟨_, _, _, rfl, hM2⟩ (Nat.le_of_ble_eq_true rfl) ht rfl ?_
  refine x_ld 5 2 0 427 rfl rfl rfl rfl rfl ?_
  refine x_iceq 432 430 rfl rfl rfl (fun _ => ?_) (fun c => absurd rfl c)
  refine x_ld 5 2 0 434 rfl rfl rfl rfl rfl ?_
  refine x_ifne 449 437 rfl rfl rfl (fun c => absurd rfl c) (fun _ => ?_)
  refine x_ld 3 1 2 438 rfl rfl rfl rfl rfl ?_
  refine x_cst (.int 0) 1 439 rfl rfl rfl ?_
  refine x_lld (o 0) 440 rfl hO rfl (i32_in 0 1 (by decide) (by decide)) rfl rfl ?_
  refine x_ld 6 2 0 442 rfl rfl rfl rfl rfl ?_
  refine x_un (.long v.toInt64) 443 rfl rfl rfl ?_
  refine x_cmp 444 rfl rfl ?_
  refine x_ifeq 449 447 rfl rfl rfl (fun _ => ?_) (fun c => absurd (by rw [ho]; exact lg_same _) c)
  refine x_go 796 rfl rfl ?_
  exact kk
set_option maxRecDepth 20000 in
theorem lw_8_x {w v : Int32} {fs1 fs2 : List Value} (hL : L ≤ 1024) (hlt : k + 2 ≤ L) (hw : ab_S (pg_G L xs) D 72 [.ref 0, .int (xs (k + 1)), .ref 619] h (some (.int w)) h1) (hM1 : h1[572]? = some (.inr (5, fs1))) (hm : ab_S (pg_G L xs) D 148 [.ref 572, .int (xs (k + 1))] h1 (some (.int v)) h2) (hM2 : h2[572]? = some (.inr (5, fs2))) (ht : ab_S (pg_G L xs) D 103 [.ref 572] h2 (some (.int w)) h2) (hw0 : ¬ w = 0) (kk : ab_W (pg_G L xs) (ab_X (pg_G L xs) D) 0 Q 796 [some (.ref 1000002), some (.ref 0), some (.ref 572), some (.ref 619), some (.int (Int32.ofNat k)), some (.int w), some (.int v)] [] h2) : ab_W (pg_G L xs) (ab_X (pg_G L xs) D) 0 Q 452 [some (.ref 1000002), some (.ref 0), some (.ref 572), some (.ref 619), some (.int (Int32.ofNat k)), o5, o6] [] h := by
  refine x_ld 1 1 2 453 rfl rfl rfl rfl rfl ?_
  refine x_ld 0 1 2 454 rfl rfl rfl rfl rfl ?_
  refine x_ld 4 2 0 456 rfl rfl rfl rfl rfl ?_
  refine x_cst (.int 1) 1 457 rfl rfl rfl ?_
  refine x_bin (Int32.ofNat (k + 1)) 458 rfl rfl (i32_add k 1) rfl ?_
  refine x_kld (xs (k + 1)) 459 rfl rfl (i32_in (k + 1) L (by omega) (by omega)) (by rw [i32_nat (k + 1) (by omega)]) rfl ?_
  refine x_ld 3 1 2 460 rfl rfl rfl rfl rfl ?_
  refine x_cv 88 72 463 [.ref 0, .int (xs (k + 1)), .ref 619] rfl rfl rfl (Nat.le_of_ble_eq_true rfl) rfl rfl (Nat.le_of_ble_eq_true rfl) trivial (Nat.le_of_ble_eq_true rfl) hw rfl ?_
  refine x_st 5 2 0 465 [some (.ref 1000002), some (.ref 0), some (.ref 572), some (.ref 619), some (.int (Int32.ofNat k)), some (.int w), o6] rfl rfl rfl (Nat.le_of_ble_eq_true rfl) rfl rfl ?_
  refine x_ld 2 1 2 466 rfl rfl rfl rfl rfl ?_
  refine x_ld 0 1 2 467 rfl rfl rfl rfl rfl ?_
  refine x_ld 4 2 0 469 rfl rfl rfl rfl rfl ?_
  refine x_cst (.int 1) 1 470 rfl rfl rfl ?_
  refine x_bin (Int32.ofNat (k + 1)) 471 rfl rfl (i32_add k 1) rfl ?_
  refine x_kld (xs (k + 1)) 472 rfl rfl (i32_in (k + 1) L (by omega) (by omega)) (by rw [i32_nat (k + 1) (by omega)]) rfl ?_
  refine x_cv 90 148 475 [.ref 572, .int (xs (k + 1))] rfl rfl rfl (Nat.le_of_ble_eq_true rfl) rfl rfl (Nat.le_of_ble_eq_true rfl) ⟨_, _, _, rfl, hM1⟩ (Nat.le_of_ble_eq_true rfl) hm rfl ?_
  refine x_st 6 2 0 477 [some (.ref 1000002), some (.ref 0), some (.ref 572), some (.ref 619), some (.int (Int32.ofNat k)), some (.int w), some (.int v)] rfl rfl rfl (Nat.le_of_ble_eq_true rfl) rfl rfl ?_
  refine x_ld 2 1 2 478 rfl rfl rfl rfl rfl ?_
  refine x_cv 61 103 481 [.ref 572] rfl rfl rfl (Nat.le_of_ble_eq_true rfl) rfl rfl (Nat.le_of_ble_eq_true rfl) ⟨_, _, _, rfl, hM2⟩ (Nat.le_of_ble_eq_true rfl) ht rfl ?_
  refine x_ld 5 2 0 483 rfl rfl rfl rfl rfl ?_
  refine x_iceq 488 486 rfl rfl rfl (fun _ => ?_) (fun c => absurd rfl c)
  refine x_ld 5 2 0 490 rfl rfl rfl rfl rfl ?_
  refine x_ifne 512 493 rfl rfl rfl (fun _ => ?_) (fun c => absurd c hw0)
  refine x_go 796 rfl rfl ?_
  exact kk
set_option maxRecDepth 20000 in
theorem lw_8_0 {o : Nat → Int64} {fs1 fs2 : List Value} (hL : L ≤ 1024) (hlt : k + 2 ≤ L) (hw : ab_S (pg_G L xs) D 72 [.ref 0, .int (xs (k + 1)), .ref 619] h (some (.int 0)) h1) (hM1 : h1[572]? = some (.inr (5, fs1))) (hm : ab_S (pg_G L xs) D 148 [.ref 572, .int (xs (k + 1))] h1 (some (.int 0)) h2) (hM2 : h2[572]? = some (.inr (5, fs2))) (ht : ab_S (pg_G L xs) D 103 [.ref 572] h2 (some (.int 0)) h2) (hO : h2[619]? = some (.inl (1, 1, .inr (.inl o)))) (ho : o 0 = 0) (kk : ab_W (pg_G L xs) (ab_X (pg_G L xs) D) 0 Q 796 [some (.ref 1000002), some (.ref 0), some (.ref 572), some (.ref 619), some (.int (Int32.ofNat k)), some (.int 0), some (.int 0)] [] h2) : ab_W (pg_G L xs) (ab_X (pg_G L xs) D) 0 Q 452 [some (.ref 1000002), some (.ref 0), some (.ref 572), some (.ref 619), some (.int (Int32.ofNat k)), o5, o6] [] h := by
  refine x_ld 1 1 2 453 rfl rfl rfl rfl rfl ?_
  refine x_ld 0 1 2 454 rfl rfl rfl rfl rfl ?_
  refine x_ld 4 2 0 456 rfl rfl rfl rfl rfl ?_
  refine x_cst (.int 1) 1 457 rfl rfl rfl ?_
  refine x_bin (Int32.ofNat (k + 1)) 458 rfl rfl (i32_add k 1) rfl ?_
  refine x_kld (xs (k + 1)) 459 rfl rfl (i32_in (k + 1) L (by omega) (by omega)) (by rw [i32_nat (k + 1) (by omega)]) rfl ?_
  refine x_ld 3 1 2 460 rfl rfl rfl rfl rfl ?_
  refine x_cv 88 72 463 [.ref 0, .int (xs (k + 1)), .ref 619] rfl rfl rfl (Nat.le_of_ble_eq_true rfl) rfl rfl (Nat.le_of_ble_eq_true rfl) trivial (Nat.le_of_ble_eq_true rfl) hw rfl ?_
  refine x_st 5 2 0 465 [some (.ref 1000002), some (.ref 0), some (.ref 572), some (.ref 619), some (.int (Int32.ofNat k)), some (.int 0), o6] rfl rfl rfl (Nat.le_of_ble_eq_true rfl) rfl rfl ?_
  refine x_ld 2 1 2 466 rfl rfl rfl rfl rfl ?_
  refine x_ld 0 1 2 467 rfl rfl rfl rfl rfl ?_
  refine x_ld 4 2 0 469 rfl rfl rfl rfl rfl ?_
  refine x_cst (.int 1) 1 470 rfl rfl rfl ?_
  refine x_bin (Int32.ofNat (k + 1)) 471 rfl rfl (i32_add k 1) rfl ?_
  refine x_kld (xs (k + 1)) 472 rfl rfl (i32_in (k + 1) L (by omega) (by omega)) (by rw [i32_nat (k + 1) (by omega)]) rfl ?_
  refine x_cv 90 148 475 [.ref 572, .int (xs (k + 1))] rfl rfl rfl (Nat.le_of_ble_eq_true rfl) rfl rfl (Nat.le_of_ble_eq_true rfl) ⟨_, _, _, rfl, hM1⟩ (Nat.le_of_ble_eq_true rfl) hm rfl ?_
  refine x_st 6 2 0 477 [some (.ref 1000002), some (.ref 0), some (.ref 572), some (.ref 619), some (.int (Int32.ofNat k)), some (.int 0), some (.int 0)] rfl rfl rfl (Nat.le_of_ble_eq_true rfl) rfl rfl ?_
  refine x_ld 2 1 2 478 rfl rfl rfl rfl rfl ?_
  refine x_cv 61 103 481 [.ref 572] rfl rfl rfl (Nat.le_of_ble_eq_true rfl) rfl rfl (Nat.le_of_ble_eq_true rfl) ⟨_, _, _, rfl, hM2⟩ (Nat.le_of_ble_eq_true rfl) ht rfl ?_
  refine x_ld 5 2 0 483 rfl rfl rfl rfl rfl ?_
  refine x_iceq 488 486 rfl rfl rfl (fun _ => ?_) (fun c => absurd rfl c)
  refine x_ld 5 2 0 490 rfl rfl rfl rfl rfl ?_
  refine x_ifne 512 493 rfl rfl rfl (fun c => absurd rfl c) (fun _ => ?_)
  refine x_ld 3 1 2 494 rfl rfl rfl rfl rfl ?_
  refine x_cst (.int 0) 1 495 rfl rfl rfl ?_
  refine x_lld (o 0) 496 rfl hO rfl (i32_in 0 1 (by decide) (by decide)) rfl rfl ?_
  refine x_ld 6 2 0 498 rfl rfl rfl rfl rfl ?_
  refine x_ifeq 505 501 rfl rfl rfl (fun _ => ?_) (fun c => absurd rfl c)
  refine x_cst (.long 0) 1 506 rfl rfl rfl ?_
  refine x_cmp 507 rfl rfl ?_
  refine x_ifeq 512 510 rfl rfl rfl (fun _ => ?_) (fun c => absurd (by rw [ho]; exact lg_same _) c)
  refine x_go 796 rfl rfl ?_
  exact kk
set_option maxRecDepth 20000 in
theorem lw_8_1 {o : Nat → Int64} {fs1 fs2 : List Value} (hL : L ≤ 1024) (hlt : k + 2 ≤ L) (hw : ab_S (pg_G L xs) D 72 [.ref 0, .int (xs (k + 1)), .ref 619] h (some (.int 0)) h1) (hM1 : h1[572]? = some (.inr (5, fs1))) (hm : ab_S (pg_G L xs) D 148 [.ref 572, .int (xs (k + 1))] h1 (some (.int 1)) h2) (hM2 : h2[572]? = some (.inr (5, fs2))) (ht : ab_S (pg_G L xs) D 103 [.ref 572] h2 (some (.int 0)) h2) (hO : h2[619]? = some (.inl (1, 1, .inr (.inl o)))) (ho : o 0 = 1) (kk : ab_W (pg_G L xs) (ab_X (pg_G L xs) D) 0 Q 796 [some (.ref 1000002), some (.ref 0), some (.ref 572), some (.ref 619), some (.int (Int32.ofNat k)), some (.int 0), some (.int 1)] [] h2) : ab_W (pg_G L xs) (ab_X (pg_G L xs) D) 0 Q 452 [some (.ref 1000002), some (.ref 0), some (.ref 572), some (.ref 619), some (.int (Int32.ofNat k)), o5, o6] [] h := by
  refine x_ld 1 1 2 453 rfl rfl rfl rfl rfl ?_
  refine x_ld 0 1 2 454 rfl rfl rfl rfl rfl ?_
  refine x_ld 4 2 0 456 rfl rfl rfl rfl rfl ?_
  refine x_cst (.int 1) 1 457 rfl rfl rfl ?_
  refine x_bin (Int32.ofNat (k + 1)) 458 rfl rfl (i32_add k 1) rfl ?_
  refine x_kld (xs (k + 1)) 459 rfl rfl (i32_in (k + 1) L (by omega) (by omega)) (by rw [i32_nat (k + 1) (by omega)]) rfl ?_
  refine x_ld 3 1 2 460 rfl rfl rfl rfl rfl ?_
  refine x_cv 88 72 463 [.ref 0, .int (xs (k + 1)), .ref 619] rfl rfl rfl (Nat.le_of_ble_eq_true rfl) rfl rfl (Nat.le_of_ble_eq_true rfl) trivial (Nat.le_of_ble_eq_true rfl) hw rfl ?_
  refine x_st 5 2 0 465 [some (.ref 1000002), some (.ref 0), some (.ref 572), some (.ref 619), some (.int (Int32.ofNat k)), some (.int 0), o6] rfl rfl rfl (Nat.le_of_ble_eq_true rfl) rfl rfl ?_
  refine x_ld 2 1 2 466 rfl rfl rfl rfl rfl ?_
  refine x_ld 0 1 2 467 rfl rfl rfl rfl rfl ?_
  refine x_ld 4 2 0 469 rfl rfl rfl rfl rfl ?_
  refine x_cst (.int 1) 1 470 rfl rfl rfl ?_
  refine x_bin (Int32.ofNat (k + 1)) 471 rfl rfl (i32_add k 1) rfl ?_
  refine x_kld (xs (k + 1)) 472 rfl rfl (i32_in (k + 1) L (by omega) (by omega)) (by rw [i32_nat (k + 1) (by omega)]) rfl ?_
  refine x_cv 90 148 475 [.ref 572, .int (xs (k + 1))] rfl rfl rfl (Nat.le_of_ble_eq_true rfl) rfl rfl (Nat.le_of_ble_eq_true rfl) ⟨_, _, _, rfl, hM1⟩ (Nat.le_of_ble_eq_true rfl) hm rfl ?_
  refine x_st 6 2 0 477 [some (.ref 1000002), some (.ref 0), some (.ref 572), some (.ref 619), some (.int (Int32.ofNat k)), some (.int 0), some (.int 1)] rfl rfl rfl (Nat.le_of_ble_eq_true rfl) rfl rfl ?_
  refine x_ld 2 1 2 478 rfl rfl rfl rfl rfl ?_
  refine x_cv 61 103 481 [.ref 572] rfl rfl rfl (Nat.le_of_ble_eq_true rfl) rfl rfl (Nat.le_of_ble_eq_true rfl) ⟨_, _, _, rfl, hM2⟩ (Nat.le_of_ble_eq_true rfl) ht rfl ?_
  refine x_ld 5 2 0 483 rfl rfl rfl rfl rfl ?_
  refine x_iceq 488 486 rfl rfl rfl (fun _ => ?_) (fun c => absurd rfl c)
  refine x_ld 5 2 0 490 rfl rfl rfl rfl rfl ?_
  refine x_ifne 512 493 rfl rfl rfl (fun c => absurd rfl c) (fun _ => ?_)
  refine x_ld 3 1 2 494 rfl rfl rfl rfl rfl ?_
  refine x_cst (.int 0) 1 495 rfl rfl rfl ?_
  refine x_lld (o 0) 496 rfl hO rfl (i32_in 0 1 (by decide) (by decide)) rfl rfl ?_
  refine x_ld 6 2 0 498 rfl rfl rfl rfl rfl ?_
  refine x_ifeq 505 501 rfl rfl rfl (fun c => absurd c (by decide)) (fun _ => ?_)
  refine x_cst (.long 1) 1 502 rfl rfl rfl ?_
  refine x_go 506 rfl rfl ?_
  refine x_cmp 507 rfl rfl ?_
  refine x_ifeq 512 510 rfl rfl rfl (fun _ => ?_) (fun c => absurd (by rw [ho]; exact lg_same _) c)
  refine x_go 796 rfl rfl ?_
  exact kk
set_option maxRecDepth 20000 in
theorem lw_9_x {w v : Int32} {fs1 fs2 : List Value} (hL : L ≤ 1024) (hlt : k + 2 ≤ L) (hw : ab_S (pg_G L xs) D 74 [.ref 0, .int (xs (k + 1)), .ref 619] h (some (.int w)) h1) (hM1 : h1[572]? = some (.inr (5, fs1))) (hm : ab_S (pg_G L xs) D 149 [.ref 572, .int (xs (k + 1))] h1 (some (.int v)) h2) (hM2 : h2[572]? = some (.inr (5, fs2))) (ht : ab_S (pg_G L xs) D 103 [.ref 572] h2 (some (.int w)) h2) (hw0 : ¬ w = 0) (kk : ab_W (pg_G L xs) (ab_X (pg_G L xs) D) 0 Q 796 [some (.ref 1000002), some (.ref 0), some (.ref 572), some (.ref 619), some (.int (Int32.ofNat k)), some (.int w), some (.int v)] [] h2) : ab_W (pg_G L xs) (ab_X (pg_G L xs) D) 0 Q 515 [some (.ref 1000002), some (.ref 0), some (.ref 572), some (.ref 619), some (.int (Int32.ofNat k)), o5, o6] [] h := by
  refine x_ld 1 1 2 516 rfl rfl rfl rfl rfl ?_
  refine x_ld 0 1 2 517 rfl rfl rfl rfl rfl ?_
  refine x_ld 4 2 0 519 rfl rfl rfl rfl rfl ?_
  refine x_cst (.int 1) 1 520 rfl rfl rfl ?_
  refine x_bin (Int32.ofNat (k + 1)) 521 rfl rfl (i32_add k 1) rfl ?_
  refine x_kld (xs (k + 1)) 522 rfl rfl (i32_in (k + 1) L (by omega) (by omega)) (by rw [i32_nat (k + 1) (by omega)]) rfl ?_
  refine x_ld 3 1 2 523 rfl rfl rfl rfl rfl ?_
  refine x_cv 91 74 526 [.ref 0, .int (xs (k + 1)), .ref 619] rfl rfl rfl (Nat.le_of_ble_eq_true rfl) rfl rfl (Nat.le_of_ble_eq_true rfl) trivial (Nat.le_of_ble_eq_true rfl) hw rfl ?_
  refine x_st 5 2 0 528 [some (.ref 1000002), some (.ref 0), some (.ref 572), some (.ref 619), some (.int (Int32.ofNat k)), some (.int w), o6] rfl rfl rfl (Nat.le_of_ble_eq_true rfl) rfl rfl ?_
  refine x_ld 2 1 2 529 rfl rfl rfl rfl rfl ?_
  refine x_ld 0 1 2 530 rfl rfl rfl rfl rfl ?_
  refine x_ld 4 2 0 532 rfl rfl rfl rfl rfl ?_
  refine x_cst (.int 1) 1 533 rfl rfl rfl ?_
  refine x_bin (Int32.ofNat (k + 1)) 534 rfl rfl (i32_add k 1) rfl ?_
  refine x_kld (xs (k + 1)) 535 rfl rfl (i32_in (k + 1) L (by omega) (by omega)) (by rw [i32_nat (k + 1) (by omega)]) rfl ?_
  refine x_cv 93 149 538 [.ref 572, .int (xs (k + 1))] rfl rfl rfl (Nat.le_of_ble_eq_true rfl) rfl rfl (Nat.le_of_ble_eq_true rfl) ⟨_, _, _, rfl, hM1⟩ (Nat.le_of_ble_eq_true rfl) hm rfl ?_
  refine x_st 6 2 0 540 [some (.ref 1000002), some (.ref 0), some (.ref 572), some (.ref 619), some (.int (Int32.ofNat k)), some (.int w), some (.int v)] rfl rfl rfl (Nat.le_of_ble_eq_true rfl) rfl rfl ?_
  refine x_ld 2 1 2 541 rfl rfl rfl rfl rfl ?_
  refine x_cv 61 103 544 [.ref 572] rfl rfl rfl (Nat.le_of_ble_eq_true rfl) rfl rfl (Nat.le_of_ble_eq_true rfl) ⟨_, _, _, rfl, hM2⟩ (Nat.le_of_ble_eq_true rfl) ht rfl ?_
  refine x_ld 5 2 0 546 rfl rfl rfl rfl rfl ?_
  refine x_iceq 551 549 rfl rfl rfl (fun _ => ?_) (fun c => absurd rfl c)
  refine x_ld 5 2 0 553 rfl rfl rfl rfl rfl ?_
  refine x_ifne 568 556 rfl rfl rfl (fun _ => ?_) (fun c => absurd c hw0)
  refine x_go 796 rfl rfl ?_
  exact kk
set_option maxRecDepth 20000 in
theorem lw_9_v {v : Int32} {o : Nat → Int64} {fs1 fs2 : List Value} (hL : L ≤ 1024) (hlt : k + 2 ≤ L) (hw : ab_S (pg_G L xs) D 74 [.ref 0, .int (xs (k + 1)), .ref 619] h (some (.int 0)) h1) (hM1 : h1[572]? = some (.inr (5, fs1))) (hm : ab_S (pg_G L xs) D 149 [.ref 572, .int (xs (k + 1))] h1 (some (.int v)) h2) (hM2 : h2[572]? = some (.inr (5, fs2))) (ht : ab_S (pg_G L xs) D 103 [.ref 572] h2 (some (.int 0)) h2) (hO : h2[619]? = some (.inl (1, 1, .inr (.inl o)))) (ho : o 0 = v.toInt64) (kk : ab_W (pg_G L xs) (ab_X (pg_G L xs) D) 0 Q 796 [some (.ref 1000002), some (.ref 0), some (.ref 572), some (.ref 619), some (.int (Int32.ofNat k)), some (.int 0), some (.int v)] [] h2) : ab_W (pg_G L xs) (ab_X (pg_G L xs) D) 0 Q 515 [some (.ref 1000002), some (.ref 0), some (.ref 572), some (.ref 619), some (.int (Int32.ofNat k)), o5, o6] [] h := by
  refine x_ld 1 1 2 516 rfl rfl rfl rfl rfl ?_
  refine x_ld 0 1 2 517 rfl rfl rfl rfl rfl ?_
  refine x_ld 4 2 0 519 rfl rfl rfl rfl rfl ?_
  refine x_cst (.int 1) 1 520 rfl rfl rfl ?_
  refine x_bin (Int32.ofNat (k + 1)) 521 rfl rfl (i32_add k 1) rfl ?_
  refine x_kld (xs (k + 1)) 522 rfl rfl (i32_in (k + 1) L (by omega) (by omega)) (by rw [i32_nat (k + 1) (by omega)]) rfl ?_
  refine x_ld 3 1 2 523 rfl rfl rfl rfl rfl ?_
  refine x_cv 91 74 526 [.ref 0, .int (xs (k + 1)), .ref 619] rfl rfl rfl (Nat.le_of_ble_eq_true rfl) rfl rfl (Nat.le_of_ble_eq_true rfl) trivial (Nat.le_of_ble_eq_true rfl) hw rfl ?_
  refine x_st 5 2 0 528 [some (.ref 1000002), some (.ref 0), some (.ref 572), some (.ref 619), some (.int (Int32.ofNat k)), some (.int 0), o6] rfl rfl rfl (Nat.le_of_ble_eq_true rfl) rfl rfl ?_
  refine x_ld 2 1 2 529 rfl rfl rfl rfl rfl ?_
  refine x_ld 0 1 2 530 rfl rfl rfl rfl rfl ?_
  refine x_ld 4 2 0 532 rfl rfl rfl rfl rfl ?_
  refine x_cst (.int 1) 1 533 rfl rfl rfl ?_
  refine x_bin (Int32.ofNat (k + 1)) 534 rfl rfl (i32_add k 1) rfl ?_
  refine x_kld (xs (k + 1)) 535 rfl rfl (i32_in (k + 1) L (by omega) (by omega)) (by rw [i32_nat (k + 1) (by omega)]) rfl ?_
  refine x_cv 93 149 538 [.ref 572, .int (xs (k + 1))] rfl rfl rfl (Nat.le_of_ble_eq_true rfl) rfl rfl (Nat.le_of_ble_eq_true rfl) ⟨_, _, _, rfl, hM1⟩ (Nat.le_of_ble_eq_true rfl) hm rfl ?_
  refine x_st 6 2 0 540 [some (.ref 1000002), some (.ref 0), some (.ref 572), some (.ref 619), some (.int (Int32.ofNat k)), some (.int 0), some (.int v)] rfl rfl rfl (Nat.le_of_ble_eq_true rfl) rfl rfl ?_
  refine x_ld 2 1 2 541 rfl rfl rfl rfl rfl ?_
  refine x_cv 61 103 544 [.ref 572] rfl rfl rfl (Nat.le_of_ble_eq_true rfl) rfl rfl (Nat.le_of_ble_eq_true rfl) ⟨_, _, _, rfl, hM2⟩ (Nat.le_of_ble_eq_true rfl) ht rfl ?_
  refine x_ld 5 2 0 546 rfl rfl rfl rfl rfl ?_
  refine x_iceq 551 549 rfl rfl rfl (fun _ => ?_) (fun c => absurd rfl c)
  refine x_ld 5 2 0 553 rfl rfl rfl rfl rfl ?_
  refine x_ifne 568 556 rfl rfl rfl (fun c => absurd rfl c) (fun _ => ?_)
  refine x_ld 3 1 2 557 rfl rfl rfl rfl rfl ?_
  refine x_cst (.int 0) 1 558 rfl rfl rfl ?_
  refine x_lld (o 0) 559 rfl hO rfl (i32_in 0 1 (by decide) (by decide)) rfl rfl ?_
  refine x_ld 6 2 0 561 rfl rfl rfl rfl rfl ?_
  refine x_un (.long v.toInt64) 562 rfl rfl rfl ?_
  refine x_cmp 563 rfl rfl ?_
  refine x_ifeq 568 566 rfl rfl rfl (fun _ => ?_) (fun c => absurd (by rw [ho]; exact lg_same _) c)
  refine x_go 796 rfl rfl ?_
  exact kk
set_option maxRecDepth 20000 in
theorem lw_10_x {w v : Int32} {fs1 fs2 : List Value} (hL : L ≤ 1024) (hlt : k + 2 ≤ L) (hw : ab_S (pg_G L xs) D 93 [.ref 0, .int (xs (k + 1)), .ref 619] h (some (.int w)) h1) (hM1 : h1[572]? = some (.inr (5, fs1))) (hm : ab_S (pg_G L xs) D 162 [.ref 572, .int (xs (k + 1))] h1 (some (.int v)) h2) (hM2 : h2[572]? = some (.inr (5, fs2))) (ht : ab_S (pg_G L xs) D 103 [.ref 572] h2 (some (.int w)) h2) (hw0 : ¬ w = 0) (kk : ab_W (pg_G L xs) (ab_X (pg_G L xs) D) 0 Q 796 [some (.ref 1000002), some (.ref 0), some (.ref 572), some (.ref 619), some (.int (Int32.ofNat k)), some (.int w), some (.int v)] [] h2) : ab_W (pg_G L xs) (ab_X (pg_G L xs) D) 0 Q 571 [some (.ref 1000002), some (.ref 0), some (.ref 572), some (.ref 619), some (.int (Int32.ofNat k)), o5, o6] [] h := by
  refine x_ld 1 1 2 572 rfl rfl rfl rfl rfl ?_
  refine x_ld 0 1 2 573 rfl rfl rfl rfl rfl ?_
  refine x_ld 4 2 0 575 rfl rfl rfl rfl rfl ?_
  refine x_cst (.int 1) 1 576 rfl rfl rfl ?_
  refine x_bin (Int32.ofNat (k + 1)) 577 rfl rfl (i32_add k 1) rfl ?_
  refine x_kld (xs (k + 1)) 578 rfl rfl (i32_in (k + 1) L (by omega) (by omega)) (by rw [i32_nat (k + 1) (by omega)]) rfl ?_
  refine x_ld 3 1 2 579 rfl rfl rfl rfl rfl ?_
  refine x_cv 94 93 582 [.ref 0, .int (xs (k + 1)), .ref 619] rfl rfl rfl (Nat.le_of_ble_eq_true rfl) rfl rfl (Nat.le_of_ble_eq_true rfl) trivial (Nat.le_of_ble_eq_true rfl) hw rfl ?_
  refine x_st 5 2 0 584 [some (.ref 1000002), some (.ref 0), some (.ref 572), some (.ref 619), some (.int (Int32.ofNat k)), some (.int w), o6] rfl rfl rfl (Nat.le_of_ble_eq_true rfl) rfl rfl ?_
  refine x_ld 2 1 2 585 rfl rfl rfl rfl rfl ?_
  refine x_ld 0 1 2 586 rfl rfl rfl rfl rfl ?_
  refine x_ld 4 2 0 588 rfl rfl rfl rfl rfl ?_
  refine x_cst (.int 1) 1 589 rfl rfl rfl ?_
  refine x_bin (Int32.ofNat (k + 1)) 590 rfl rfl (i32_add k 1) rfl ?_
  refine x_kld (xs (k + 1)) 591 rfl rfl (i32_in (k + 1) L (by omega) (by omega)) (by rw [i32_nat (k + 1) (by omega)]) rfl ?_
  refine x_cv 96 162 594 [.ref 572, .int (xs (k + 1))] rfl rfl rfl (Nat.le_of_ble_eq_true rfl) rfl rfl (Nat.le_of_ble_eq_true rfl) ⟨_, _, _, rfl, hM1⟩ (Nat.le_of_ble_eq_true rfl) hm rfl ?_
  refine x_st 6 2 0 596 [some (.ref 1000002), some (.ref 0), some (.ref 572), some (.ref 619), some (.int (Int32.ofNat k)), some (.int w), some (.int v)] rfl rfl rfl (Nat.le_of_ble_eq_true rfl) rfl rfl ?_
  refine x_ld 2 1 2 597 rfl rfl rfl rfl rfl ?_
  refine x_cv 61 103 600 [.ref 572] rfl rfl rfl (Nat.le_of_ble_eq_true rfl) rfl rfl (Nat.le_of_ble_eq_true rfl) ⟨_, _, _, rfl, hM2⟩ (Nat.le_of_ble_eq_true rfl) ht rfl ?_
  refine x_ld 5 2 0 602 rfl rfl rfl rfl rfl ?_
  refine x_iceq 607 605 rfl rfl rfl (fun _ => ?_) (fun c => absurd rfl c)
  refine x_ld 5 2 0 609 rfl rfl rfl rfl rfl ?_
  refine x_ifne 624 612 rfl rfl rfl (fun _ => ?_) (fun c => absurd c hw0)
  refine x_go 796 rfl rfl ?_
  exact kk
set_option maxRecDepth 20000 in
theorem lw_10_v {v : Int32} {o : Nat → Int64} {fs1 fs2 : List Value} (hL : L ≤ 1024) (hlt : k + 2 ≤ L) (hw : ab_S (pg_G L xs) D 93 [.ref 0, .int (xs (k + 1)), .ref 619] h (some (.int 0)) h1) (hM1 : h1[572]? = some (.inr (5, fs1))) (hm : ab_S (pg_G L xs) D 162 [.ref 572, .int (xs (k + 1))] h1 (some (.int v)) h2) (hM2 : h2[572]? = some (.inr (5, fs2))) (ht : ab_S (pg_G L xs) D 103 [.ref 572] h2 (some (.int 0)) h2) (hO : h2[619]? = some (.inl (1, 1, .inr (.inl o)))) (ho : o 0 = v.toInt64) (kk : ab_W (pg_G L xs) (ab_X (pg_G L xs) D) 0 Q 796 [some (.ref 1000002), some (.ref 0), some (.ref 572), some (.ref 619), some (.int (Int32.ofNat k)), some (.int 0), some (.int v)] [] h2) : ab_W (pg_G L xs) (ab_X (pg_G L xs) D) 0 Q 571 [some (.ref 1000002), some (.ref 0), some (.ref 572), some (.ref 619), some (.int (Int32.ofNat k)), o5, o6] [] h := by
  refine x_ld 1 1 2 572 rfl rfl rfl rfl rfl ?_
  refine x_ld 0 1 2 573 rfl rfl rfl rfl rfl ?_
  refine x_ld 4 2 0 575 rfl rfl rfl rfl rfl ?_
  refine x_cst (.int 1) 1 576 rfl rfl rfl ?_
  refine x_bin (Int32.ofNat (k + 1)) 577 rfl rfl (i32_add k 1) rfl ?_
  refine x_kld (xs (k + 1)) 578 rfl rfl (i32_in (k + 1) L (by omega) (by omega)) (by rw [i32_nat (k + 1) (by omega)]) rfl ?_
  refine x_ld 3 1 2 579 rfl rfl rfl rfl rfl ?_
  refine x_cv 94 93 582 [.ref 0, .int (xs (k + 1)), .ref 619] rfl rfl rfl (Nat.le_of_ble_eq_true rfl) rfl rfl (Nat.le_of_ble_eq_true rfl) trivial (Nat.le_of_ble_eq_true rfl) hw rfl ?_
  refine x_st 5 2 0 584 [some (.ref 1000002), some (.ref 0), some (.ref 572), some (.ref 619), some (.int (Int32.ofNat k)), some (.int 0), o6] rfl rfl rfl (Nat.le_of_ble_eq_true rfl) rfl rfl ?_
  refine x_ld 2 1 2 585 rfl rfl rfl rfl rfl ?_
  refine x_ld 0 1 2 586 rfl rfl rfl rfl rfl ?_
  refine x_ld 4 2 0 588 rfl rfl rfl rfl rfl ?_
  refine x_cst (.int 1) 1 589 rfl rfl rfl ?_
  refine x_bin (Int32.ofNat (k + 1)) 590 rfl rfl (i32_add k 1) rfl ?_
  refine x_kld (xs (k + 1)) 591 rfl rfl (i32_in (k + 1) L (by omega) (by omega)) (by rw [i32_nat (k + 1) (by omega)]) rfl ?_
  refine x_cv 96 162 594 [.ref 572, .int (xs (k + 1))] rfl rfl rfl (Nat.le_of_ble_eq_true rfl) rfl rfl (Nat.le_of_ble_eq_true rfl) ⟨_, _, _, rfl, hM1⟩ (Nat.le_of_ble_eq_true rfl) hm rfl ?_
  refine x_st 6 2 0 596 [some (.ref 1000002), some (.ref 0), some (.ref 572), some (.ref 619), some (.int (Int32.ofNat k)), some (.int 0), some (.int v)] rfl rfl rfl (Nat.le_of_ble_eq_true rfl) rfl rfl ?_
  refine x_ld 2 1 2 597 rfl rfl rfl rfl rfl ?_
  refine x_cv 61 103 600 [.ref 572] rfl rfl rfl (Nat.le_of_ble_eq_true rfl) rfl rfl (Nat.le_of_ble_eq_true rfl) ⟨_, _, _, rfl, hM2⟩ (Nat.le_of_ble_eq_true rfl) ht rfl ?_
  refine x_ld 5 2 0 602 rfl rfl rfl rfl rfl ?_
  refine x_iceq 607 605 rfl rfl rfl (fun _ => ?_) (fun c => absurd rfl c)
  refine x_ld 5 2 0 609 rfl rfl rfl rfl rfl ?_
  refine x_ifne 624 612 rfl rfl rfl (fun c => absurd rfl c) (fun _ => ?_)
  refine x_ld 3 1 2 613 rfl rfl rfl rfl rfl ?_
  refine x_cst (.int 0) 1 614 rfl rfl rfl ?_
  refine x_lld (o 0) 615 rfl hO rfl (i32_in 0 1 (by decide) (by decide)) rfl rfl ?_
  refine x_ld 6 2 0 617 rfl rfl rfl rfl rfl ?_
  refine x_un (.long v.toInt64) 618 rfl rfl rfl ?_
  refine x_cmp 619 rfl rfl ?_
  refine x_ifeq 624 622 rfl rfl rfl (fun _ => ?_) (fun c => absurd (by rw [ho]; exact lg_same _) c)
  refine x_go 796 rfl rfl ?_
  exact kk
set_option maxRecDepth 20000 in
theorem lw_12_x {w v : Int32} {fs1 fs2 : List Value} (hL : L ≤ 1024) (hlt : k + 2 ≤ L) (hw : ab_S (pg_G L xs) D 95 [.ref 0, .int (xs (k + 1)), .ref 619] h (some (.int w)) h1) (hM1 : h1[572]? = some (.inr (5, fs1))) (hm : ab_S (pg_G L xs) D 164 [.ref 572, .int (xs (k + 1))] h1 (some (.int v)) h2) (hM2 : h2[572]? = some (.inr (5, fs2))) (ht : ab_S (pg_G L xs) D 103 [.ref 572] h2 (some (.int w)) h2) (hw0 : ¬ w = 0) (kk : ab_W (pg_G L xs) (ab_X (pg_G L xs) D) 0 Q 796 [some (.ref 1000002), some (.ref 0), some (.ref 572), some (.ref 619), some (.int (Int32.ofNat k)), some (.int w), some (.int v)] [] h2) : ab_W (pg_G L xs) (ab_X (pg_G L xs) D) 0 Q 652 [some (.ref 1000002), some (.ref 0), some (.ref 572), some (.ref 619), some (.int (Int32.ofNat k)), o5, o6] [] h := by
  refine x_ld 1 1 2 653 rfl rfl rfl rfl rfl ?_
  refine x_ld 0 1 2 654 rfl rfl rfl rfl rfl ?_
  refine x_ld 4 2 0 656 rfl rfl rfl rfl rfl ?_
  refine x_cst (.int 1) 1 657 rfl rfl rfl ?_
  refine x_bin (Int32.ofNat (k + 1)) 658 rfl rfl (i32_add k 1) rfl ?_
  refine x_kld (xs (k + 1)) 659 rfl rfl (i32_in (k + 1) L (by omega) (by omega)) (by rw [i32_nat (k + 1) (by omega)]) rfl ?_
  refine x_ld 3 1 2 660 rfl rfl rfl rfl rfl ?_
  refine x_cv 101 95 663 [.ref 0, .int (xs (k + 1)), .ref 619] rfl rfl rfl (Nat.le_of_ble_eq_true rfl) rfl rfl (Nat.le_of_ble_eq_true rfl) trivial (Nat.le_of_ble_eq_true rfl) hw rfl ?_
  refine x_st 5 2 0 665 [some (.ref 1000002), some (.ref 0), some (.ref 572), some (.ref 619), some (.int (Int32.ofNat k)), some (.int w), o6] rfl rfl rfl (Nat.le_of_ble_eq_true rfl) rfl rfl ?_
  refine x_ld 2 1 2 666 rfl rfl rfl rfl rfl ?_
  refine x_ld 0 1 2 667 rfl rfl rfl rfl rfl ?_
  refine x_ld 4 2 0 669 rfl rfl rfl rfl rfl ?_
  refine x_cst (.int 1) 1 670 rfl rfl rfl ?_
  refine x_bin (Int32.ofNat (k + 1)) 671 rfl rfl (i32_add k 1) rfl ?_
  refine x_kld (xs (k + 1)) 672 rfl rfl (i32_in (k + 1) L (by omega) (by omega)) (by rw [i32_nat (k + 1) (by omega)]) rfl ?_
  refine x_cv 103 164 675 [.ref 572, .int (xs (k + 1))] rfl rfl rfl (Nat.le_of_ble_eq_true rfl) rfl rfl (Nat.le_of_ble_eq_true rfl) ⟨_, _, _, rfl, hM1⟩ (Nat.le_of_ble_eq_true rfl) hm rfl ?_
  refine x_st 6 2 0 677 [some (.ref 1000002), some (.ref 0), some (.ref 572), some (.ref 619), some (.int (Int32.ofNat k)), some (.int w), some (.int v)] rfl rfl rfl (Nat.le_of_ble_eq_true rfl) rfl rfl ?_
  refine x_ld 2 1 2 678 rfl rfl rfl rfl rfl ?_
  refine x_cv 61 103 681 [.ref 572] rfl rfl rfl (Nat.le_of_ble_eq_true rfl) rfl rfl (Nat.le_of_ble_eq_true rfl) ⟨_, _, _, rfl, hM2⟩ (Nat.le_of_ble_eq_true rfl) ht rfl ?_
  refine x_ld 5 2 0 683 rfl rfl rfl rfl rfl ?_
  refine x_iceq 688 686 rfl rfl rfl (fun _ => ?_) (fun c => absurd rfl c)
  refine x_ld 5 2 0 690 rfl rfl rfl rfl rfl ?_
  refine x_ifne 705 693 rfl rfl rfl (fun _ => ?_) (fun c => absurd c hw0)
  refine x_go 796 rfl rfl ?_
  exact kk
set_option maxRecDepth 20000 in
theorem lw_12_v {v : Int32} {o : Nat → Int64} {fs1 fs2 : List Value} (hL : L ≤ 1024) (hlt : k + 2 ≤ L) (hw : ab_S (pg_G L xs) D 95 [.ref 0, .int (xs (k + 1)), .ref 619] h (some (.int 0)) h1) (hM1 : h1[572]? = some (.inr (5, fs1))) (hm : ab_S (pg_G L xs) D 164 [.ref 572, .int (xs (k + 1))] h1 (some (.int v)) h2) (hM2 : h2[572]? = some (.inr (5, fs2))) (ht : ab_S (pg_G L xs) D 103 [.ref 572] h2 (some (.int 0)) h2) (hO : h2[619]? = some (.inl (1, 1, .inr (.inl o)))) (ho : o 0 = v.toInt64) (kk : ab_W (pg_G L xs) (ab_X (pg_G L xs) D) 0 Q 796 [some (.ref 1000002), some (.ref 0), some (.ref 572), some (.ref 619), some (.int (Int32.ofNat k)), some (.int 0), some (.int v)] [] h2) : ab_W (pg_G L xs) (ab_X (pg_G L xs) D) 0 Q 652 [some (.ref 1000002), some (.ref 0), some (.ref 572), some (.ref 619), some (.int (Int32.ofNat k)), o5, o6] [] h := by
  refine x_ld 1 1 2 653 rfl rfl rfl rfl rfl ?_
  refine x_ld 0 1 2 654 rfl rfl rfl rfl rfl ?_
  refine x_ld 4 2 0 656 rfl rfl rfl rfl rfl ?_
  refine x_cst (.int 1) 1 657 rfl rfl rfl ?_
  refine x_bin (Int32.ofNat (k + 1)) 658 rfl rfl (i32_add k 1) rfl ?_
  refine x_kld (xs (k + 1)) 659 rfl rfl (i32_in (k + 1) L (by omega) (by omega)) (by rw [i32_nat (k + 1) (by omega)]) rfl ?_
  refine x_ld 3 1 2 660 rfl rfl rfl rfl rfl ?_
  refine x_cv 101 95 663 [.ref 0, .int (xs (k + 1)), .ref 619] rfl rfl rfl (Nat.le_of_ble_eq_true rfl) rfl rfl (Nat.le_of_ble_eq_true rfl) trivial (Nat.le_of_ble_eq_true rfl) hw rfl ?_
  refine x_st 5 2 0 665 [some (.ref 1000002), some (.ref 0), some (.ref 572), some (.ref 619), some (.int (Int32.ofNat k)), some (.int 0), o6] rfl rfl rfl (Nat.le_of_ble_eq_true rfl) rfl rfl ?_
  refine x_ld 2 1 2 666 rfl rfl rfl rfl rfl ?_
  refine x_ld 0 1 2 667 rfl rfl rfl rfl rfl ?_
  refine x_ld 4 2 0 669 rfl rfl rfl rfl rfl ?_
  refine x_cst (.int 1) 1 670 rfl rfl rfl ?_
  refine x_bin (Int32.ofNat (k + 1)) 671 rfl rfl (i32_add k 1) rfl ?_
  refine x_kld (xs (k + 1)) 672 rfl rfl (i32_in (k + 1) L (by omega) (by omega)) (by rw [i32_nat (k + 1) (by omega)]) rfl ?_
  refine x_cv 103 164 675 [.ref 572, .int (xs (k + 1))] rfl rfl rfl (Nat.le_of_ble_eq_true rfl) rfl rfl (Nat.le_of_ble_eq_true rfl) ⟨_, _, _, rfl, hM1⟩ (Nat.le_of_ble_eq_true rfl) hm rfl ?_
  refine x_st 6 2 0 677 [some (.ref 1000002), some (.ref 0), some (.ref 572), some (.ref 619), some (.int (Int32.ofNat k)), some (.int 0), some (.int v)] rfl rfl rfl (Nat.le_of_ble_eq_true rfl) rfl rfl ?_
  refine x_ld 2 1 2 678 rfl rfl rfl rfl rfl ?_
  refine x_cv 61 103 681 [.ref 572] rfl rfl rfl (Nat.le_of_ble_eq_true rfl) rfl rfl (Nat.le_of_ble_eq_true rfl) ⟨_, _, _, rfl, hM2⟩ (Nat.le_of_ble_eq_true rfl) ht rfl ?_
  refine x_ld 5 2 0 683 rfl rfl rfl rfl rfl ?_
  refine x_iceq 688 686 rfl rfl rfl (fun _ => ?_) (fun c => absurd rfl c)
  refine x_ld 5 2 0 690 rfl rfl rfl rfl rfl ?_
  refine x_ifne 705 693 rfl rfl rfl (fun c => absurd rfl c) (fun _ => ?_)
  refine x_ld 3 1 2 694 rfl rfl rfl rfl rfl ?_
  refine x_cst (.int 0) 1 695 rfl rfl rfl ?_
  refine x_lld (o 0) 696 rfl hO rfl (i32_in 0 1 (by decide) (by decide)) rfl rfl ?_
  refine x_ld 6 2 0 698 rfl rfl rfl rfl rfl ?_
  refine x_un (.long v.toInt64) 699 rfl rfl rfl ?_
  refine x_cmp 700 rfl rfl ?_
  refine x_ifeq 705 703 rfl rfl rfl (fun _ => ?_) (fun c => absurd (by rw [ho]; exact lg_same _) c)
  refine x_go 796 rfl rfl ?_
  exact kk
set_option maxRecDepth 20000 in
theorem lw_13_x {w v : Int32} {fs1 fs2 : List Value} (hL : L ≤ 1024) (hlt : k + 2 ≤ L) (hw : ab_S (pg_G L xs) D 97 [.ref 0, .ref 619] h (some (.int w)) h1) (hM1 : h1[572]? = some (.inr (5, fs1))) (hm : ab_S (pg_G L xs) D 165 [.ref 572] h1 (some (.int v)) h2) (hM2 : h2[572]? = some (.inr (5, fs2))) (ht : ab_S (pg_G L xs) D 103 [.ref 572] h2 (some (.int w)) h2) (hw0 : ¬ w = 0) (kk : ab_W (pg_G L xs) (ab_X (pg_G L xs) D) 0 Q 796 [some (.ref 1000002), some (.ref 0), some (.ref 572), some (.ref 619), some (.int (Int32.ofNat k)), some (.int w), some (.int v)] [] h2) : ab_W (pg_G L xs) (ab_X (pg_G L xs) D) 0 Q 708 [some (.ref 1000002), some (.ref 0), some (.ref 572), some (.ref 619), some (.int (Int32.ofNat k)), o5, o6] [] h := by
  refine x_ld 1 1 2 709 rfl rfl rfl rfl rfl ?_
  refine x_ld 3 1 2 710 rfl rfl rfl rfl rfl ?_
  refine x_cv 104 97 713 [.ref 0, .ref 619] rfl rfl rfl (Nat.le_of_ble_eq_true rfl) rfl rfl (Nat.le_of_ble_eq_true rfl) trivial (Nat.le_of_ble_eq_true rfl) hw rfl ?_
  refine x_st 5 2 0 715 [some (.ref 1000002), some (.ref 0), some (.ref 572), some (.ref 619), some (.int (Int32.ofNat k)), some (.int w), o6] rfl rfl rfl (Nat.le_of_ble_eq_true rfl) rfl rfl ?_
  refine x_ld 2 1 2 716 rfl rfl rfl rfl rfl ?_
  refine x_cv 107 165 719 [.ref 572] rfl rfl rfl (Nat.le_of_ble_eq_true rfl) rfl rfl (Nat.le_of_ble_eq_true rfl) ⟨_, _, _, rfl, hM1⟩ (Nat.le_of_ble_eq_true rfl) hm rfl ?_
  refine x_st 6 2 0 721 [some (.ref 1000002), some (.ref 0), some (.ref 572), some (.ref 619), some (.int (Int32.ofNat k)), some (.int w), some (.int v)] rfl rfl rfl (Nat.le_of_ble_eq_true rfl) rfl rfl ?_
  refine x_ld 2 1 2 722 rfl rfl rfl rfl rfl ?_
  refine x_cv 61 103 725 [.ref 572] rfl rfl rfl (Nat.le_of_ble_eq_true rfl) rfl rfl (Nat.le_of_ble_eq_true rfl) ⟨_, _, _, rfl, hM2⟩ (Nat.le_of_ble_eq_true rfl) ht rfl ?_
  refine x_ld 5 2 0 727 rfl rfl rfl rfl rfl ?_
  refine x_iceq 732 730 rfl rfl rfl (fun _ => ?_) (fun c => absurd rfl c)
  refine x_ld 5 2 0 734 rfl rfl rfl rfl rfl ?_
  refine x_ifne 749 737 rfl rfl rfl (fun _ => ?_) (fun c => absurd c hw0)
  refine x_go 796 rfl rfl ?_
  exact kk
set_option maxRecDepth 20000 in
theorem lw_13_v {v : Int32} {o : Nat → Int64} {fs1 fs2 : List Value} (hL : L ≤ 1024) (hlt : k + 2 ≤ L) (hw : ab_S (pg_G L xs) D 97 [.ref 0, .ref 619] h (some (.int 0)) h1) (hM1 : h1[572]? = some (.inr (5, fs1))) (hm : ab_S (pg_G L xs) D 165 [.ref 572] h1 (some (.int v)) h2) (hM2 : h2[572]? = some (.inr (5, fs2))) (ht : ab_S (pg_G L xs) D 103 [.ref 572] h2 (some (.int 0)) h2) (hO : h2[619]? = some (.inl (1, 1, .inr (.inl o)))) (ho : o 0 = v.toInt64) (kk : ab_W (pg_G L xs) (ab_X (pg_G L xs) D) 0 Q 796 [some (.ref 1000002), some (.ref 0), some (.ref 572), some (.ref 619), some (.int (Int32.ofNat k)), some (.int 0), some (.int v)] [] h2) : ab_W (pg_G L xs) (ab_X (pg_G L xs) D) 0 Q 708 [some (.ref 1000002), some (.ref 0), some (.ref 572), some (.ref 619), some (.int (Int32.ofNat k)), o5, o6] [] h := by
  refine x_ld 1 1 2 709 rfl rfl rfl rfl rfl ?_
  refine x_ld 3 1 2 710 rfl rfl rfl rfl rfl ?_
  refine x_cv 104 97 713 [.ref 0, .ref 619] rfl rfl rfl (Nat.le_of_ble_eq_true rfl) rfl rfl (Nat.le_of_ble_eq_true rfl) trivial (Nat.le_of_ble_eq_true rfl) hw rfl ?_
  refine x_st 5 2 0 715 [some (.ref 1000002), some (.ref 0), some (.ref 572), some (.ref 619), some (.int (Int32.ofNat k)), some (.int 0), o6] rfl rfl rfl (Nat.le_of_ble_eq_true rfl) rfl rfl ?_
  refine x_ld 2 1 2 716 rfl rfl rfl rfl rfl ?_
  refine x_cv 107 165 719 [.ref 572] rfl rfl rfl (Nat.le_of_ble_eq_true rfl) rfl rfl (Nat.le_of_ble_eq_true rfl) ⟨_, _, _, rfl, hM1⟩ (Nat.le_of_ble_eq_true rfl) hm rfl ?_
  refine x_st 6 2 0 721 [some (.ref 1000002), some (.ref 0), some (.ref 572), some (.ref 619), some (.int (Int32.ofNat k)), some (.int 0), some (.int v)] rfl rfl rfl (Nat.le_of_ble_eq_true rfl) rfl rfl ?_
  refine x_ld 2 1 2 722 rfl rfl rfl rfl rfl ?_
  refine x_cv 61 103 725 [.ref 572] rfl rfl rfl (Nat.le_of_ble_eq_true rfl) rfl rfl (Nat.le_of_ble_eq_true rfl) ⟨_, _, _, rfl, hM2⟩ (Nat.le_of_ble_eq_true rfl) ht rfl ?_
  refine x_ld 5 2 0 727 rfl rfl rfl rfl rfl ?_
  refine x_iceq 732 730 rfl rfl rfl (fun _ => ?_) (fun c => absurd rfl c)
  refine x_ld 5 2 0 734 rfl rfl rfl rfl rfl ?_
  refine x_ifne 749 737 rfl rfl rfl (fun c => absurd rfl c) (fun _ => ?_)
  refine x_ld 3 1 2 738 rfl rfl rfl rfl rfl ?_
  refine x_cst (.int 0) 1 739 rfl rfl rfl ?_
  refine x_lld (o 0) 740 rfl hO rfl (i32_in 0 1 (by decide) (by decide)) rfl rfl ?_
  refine x_ld 6 2 0 742 rfl rfl rfl rfl rfl ?_
  refine x_un (.long v.toInt64) 743 rfl rfl rfl ?_
  refine x_cmp 744 rfl rfl ?_
  refine x_ifeq 749 747 rfl rfl rfl (fun _ => ?_) (fun c => absurd (by rw [ho]; exact lg_same _) c)
  refine x_go 796 rfl rfl ?_
  exact kk
set_option maxRecDepth 20000 in
theorem lw_14_x {w v : Int32} {fs1 fs2 : List Value} (hL : L ≤ 1024) (hlt : k + 2 ≤ L) (hw : ab_S (pg_G L xs) D 99 [.ref 0, .ref 619] h (some (.int w)) h1) (hM1 : h1[572]? = some (.inr (5, fs1))) (hm : ab_S (pg_G L xs) D 166 [.ref 572] h1 (some (.int v)) h2) (hM2 : h2[572]? = some (.inr (5, fs2))) (ht : ab_S (pg_G L xs) D 103 [.ref 572] h2 (some (.int w)) h2) (hw0 : ¬ w = 0) (kk : ab_W (pg_G L xs) (ab_X (pg_G L xs) D) 0 Q 796 [some (.ref 1000002), some (.ref 0), some (.ref 572), some (.ref 619), some (.int (Int32.ofNat k)), some (.int w), some (.int v)] [] h2) : ab_W (pg_G L xs) (ab_X (pg_G L xs) D) 0 Q 752 [some (.ref 1000002), some (.ref 0), some (.ref 572), some (.ref 619), some (.int (Int32.ofNat k)), o5, o6] [] h := by
  refine x_ld 1 1 2 753 rfl rfl rfl rfl rfl ?_
  refine x_ld 3 1 2 754 rfl rfl rfl rfl rfl ?_
  refine x_cv 108 99 757 [.ref 0, .ref 619] rfl rfl rfl (Nat.le_of_ble_eq_true rfl) rfl rfl (Nat.le_of_ble_eq_true rfl) trivial (Nat.le_of_ble_eq_true rfl) hw rfl ?_
  refine x_st 5 2 0 759 [some (.ref 1000002), some (.ref 0), some (.ref 572), some (.ref 619), some (.int (Int32.ofNat k)), some (.int w), o6] rfl rfl rfl (Nat.le_of_ble_eq_true rfl) rfl rfl ?_
  refine x_ld 2 1 2 760 rfl rfl rfl rfl rfl ?_
  refine x_cv 110 166 763 [.ref 572] rfl rfl rfl (Nat.le_of_ble_eq_true rfl) rfl rfl (Nat.le_of_ble_eq_true rfl) ⟨_, _, _, rfl, hM1⟩ (Nat.le_of_ble_eq_true rfl) hm rfl ?_
  refine x_st 6 2 0 765 [some (.ref 1000002), some (.ref 0), some (.ref 572), some (.ref 619), some (.int (Int32.ofNat k)), some (.int w), some (.int v)] rfl rfl rfl (Nat.le_of_ble_eq_true rfl) rfl rfl ?_
  refine x_ld 2 1 2 766 rfl rfl rfl rfl rfl ?_
  refine x_cv 61 103 769 [.ref 572] rfl rfl rfl (Nat.le_of_ble_eq_true rfl) rfl rfl (Nat.le_of_ble_eq_true rfl) ⟨_, _, _, rfl, hM2⟩ (Nat.le_of_ble_eq_true rfl) ht rfl ?_
  refine x_ld 5 2 0 771 rfl rfl rfl rfl rfl ?_
  refine x_iceq 776 774 rfl rfl rfl (fun _ => ?_) (fun c => absurd rfl c)
  refine x_ld 5 2 0 778 rfl rfl rfl rfl rfl ?_
  refine x_ifne 793 781 rfl rfl rfl (fun _ => ?_) (fun c => absurd c hw0)
  refine x_go 796 rfl rfl ?_
  exact kk
set_option maxRecDepth 20000 in
theorem lw_14_v {v : Int32} {o : Nat → Int64} {fs1 fs2 : List Value} (hL : L ≤ 1024) (hlt : k + 2 ≤ L) (hw : ab_S (pg_G L xs) D 99 [.ref 0, .ref 619] h (some (.int 0)) h1) (hM1 : h1[572]? = some (.inr (5, fs1))) (hm : ab_S (pg_G L xs) D 166 [.ref 572] h1 (some (.int v)) h2) (hM2 : h2[572]? = some (.inr (5, fs2))) (ht : ab_S (pg_G L xs) D 103 [.ref 572] h2 (some (.int 0)) h2) (hO : h2[619]? = some (.inl (1, 1, .inr (.inl o)))) (ho : o 0 = v.toInt64) (kk : ab_W (pg_G L xs) (ab_X (pg_G L xs) D) 0 Q 796 [some (.ref 1000002), some (.ref 0), some (.ref 572), some (.ref 619), some (.int (Int32.ofNat k)), some (.int 0), some (.int v)] [] h2) : ab_W (pg_G L xs) (ab_X (pg_G L xs) D) 0 Q 752 [some (.ref 1000002), some (.ref 0), some (.ref 572), some (.ref 619), some (.int (Int32.ofNat k)), o5, o6] [] h := by
  refine x_ld 1 1 2 753 rfl rfl rfl rfl rfl ?_
  refine x_ld 3 1 2 754 rfl rfl rfl rfl rfl ?_
  refine x_cv 108 99 757 [.ref 0, .ref 619] rfl rfl rfl (Nat.le_of_ble_eq_true rfl) rfl rfl (Nat.le_of_ble_eq_true rfl) trivial (Nat.le_of_ble_eq_true rfl) hw rfl ?_
  refine x_st 5 2 0 759 [some (.ref 1000002), some (.ref 0), some (.ref 572), some (.ref 619), some (.int (Int32.ofNat k)), some (.int 0), o6] rfl rfl rfl (Nat.le_of_ble_eq_true rfl) rfl rfl ?_
  refine x_ld 2 1 2 760 rfl rfl rfl rfl rfl ?_
  refine x_cv 110 166 763 [.ref 572] rfl rfl rfl (Nat.le_of_ble_eq_true rfl) rfl rfl (Nat.le_of_ble_eq_true rfl) ⟨_, _, _, rfl, hM1⟩ (Nat.le_of_ble_eq_true rfl) hm rfl ?_
  refine x_st 6 2 0 765 [some (.ref 1000002), some (.ref 0), some (.ref 572), some (.ref 619), some (.int (Int32.ofNat k)), some (.int 0), some (.int v)] rfl rfl rfl (Nat.le_of_ble_eq_true rfl) rfl rfl ?_
  refine x_ld 2 1 2 766 rfl rfl rfl rfl rfl ?_
  refine x_cv 61 103 769 [.ref 572] rfl rfl rfl (Nat.le_of_ble_eq_true rfl) rfl rfl (Nat.le_of_ble_eq_true rfl) ⟨_, _, _, rfl, hM2⟩ (Nat.le_of_ble_eq_true rfl) ht rfl ?_
  refine x_ld 5 2 0 771 rfl rfl rfl rfl rfl ?_
  refine x_iceq 776 774 rfl rfl rfl (fun _ => ?_) (fun c => absurd rfl c)
  refine x_ld 5 2 0 778 rfl rfl rfl rfl rfl ?_
  refine x_ifne 793 781 rfl rfl rfl (fun c => absurd rfl c) (fun _ => ?_)
  refine x_ld 3 1 2 782 rfl rfl rfl rfl rfl ?_
  refine x_cst (.int 0) 1 783 rfl rfl rfl ?_
  refine x_lld (o 0) 784 rfl hO rfl (i32_in 0 1 (by decide) (by decide)) rfl rfl ?_
  refine x_ld 6 2 0 786 rfl rfl rfl rfl rfl ?_
  refine x_un (.long v.toInt64) 787 rfl rfl rfl ?_
  refine x_cmp 788 rfl rfl ?_
  refine x_ifeq 793 791 rfl rfl rfl (fun _ => ?_) (fun c => absurd (by rw [ho]; exact lg_same _) c)
  refine x_go 796 rfl rfl ?_
  exact kk
set_option maxRecDepth 20000 in
theorem lw_1 {v : Int32} {fs0 fs1 : List Value} (hL : L ≤ 1024) (hlt : k + 2 ≤ L) (hX : h[0]? = some (.inr (0, fs0))) (hw : ab_S (pg_G L xs) D 7 [.ref 0] h (some (.int v)) h1) (hM1 : h1[572]? = some (.inr (5, fs1))) (hm : ab_S (pg_G L xs) D 105 [.ref 572] h1 (some (.int v)) h2) (kk : ab_W (pg_G L xs) (ab_X (pg_G L xs) D) 0 Q 796 [some (.ref 1000002), some (.ref 0), some (.ref 572), some (.ref 619), some (.int (Int32.ofNat k)), o5, o6] [] h2) : ab_W (pg_G L xs) (ab_X (pg_G L xs) D) 0 Q 175 [some (.ref 1000002), some (.ref 0), some (.ref 572), some (.ref 619), some (.int (Int32.ofNat k)), o5, o6] [] h := by
  refine x_ld 1 1 2 176 rfl rfl rfl rfl rfl ?_
  refine x_cv 64 7 179 [.ref 0] rfl rfl rfl (Nat.le_of_ble_eq_true rfl) rfl rfl (Nat.le_of_ble_eq_true rfl) ⟨_, _, _, rfl, hX⟩ (Nat.le_of_ble_eq_true rfl) hw rfl ?_
  refine x_ld 2 1 2 180 rfl rfl rfl rfl rfl ?_
  refine x_cv 67 105 183 [.ref 572] rfl rfl rfl (Nat.le_of_ble_eq_true rfl) rfl rfl (Nat.le_of_ble_eq_true rfl) ⟨_, _, _, rfl, hM1⟩ (Nat.le_of_ble_eq_true rfl) hm rfl ?_
  refine x_iceq 796 186 rfl rfl rfl (fun _ => ?_) (fun c => absurd rfl c)
  exact kk
set_option maxRecDepth 20000 in
theorem lw_2 {v : Int32} {fs0 fs1 : List Value} (hL : L ≤ 1024) (hlt : k + 2 ≤ L) (hX : h[0]? = some (.inr (0, fs0))) (hw : ab_S (pg_G L xs) D 47 [.ref 0] h (some (.int v)) h1) (hM1 : h1[572]? = some (.inr (5, fs1))) (hm : ab_S (pg_G L xs) D 129 [.ref 572] h1 (some (.int v)) h2) (kk : ab_W (pg_G L xs) (ab_X (pg_G L xs) D) 0 Q 796 [some (.ref 1000002), some (.ref 0), some (.ref 572), some (.ref 619), some (.int (Int32.ofNat k)), o5, o6] [] h2) : ab_W (pg_G L xs) (ab_X (pg_G L xs) D) 0 Q 188 [some (.ref 1000002), some (.ref 0), some (.ref 572), some (.ref 619), some (.int (Int32.ofNat k)), o5, o6] [] h := by
  refine x_ld 1 1 2 189 rfl rfl rfl rfl rfl ?_
  refine x_cv 68 47 192 [.ref 0] rfl rfl rfl (Nat.le_of_ble_eq_true rfl) rfl rfl (Nat.le_of_ble_eq_true rfl) ⟨_, _, _, rfl, hX⟩ (Nat.le_of_ble_eq_true rfl) hw rfl ?_
  refine x_ld 2 1 2 193 rfl rfl rfl rfl rfl ?_
  refine x_cv 71 129 196 [.ref 572] rfl rfl rfl (Nat.le_of_ble_eq_true rfl) rfl rfl (Nat.le_of_ble_eq_true rfl) ⟨_, _, _, rfl, hM1⟩ (Nat.le_of_ble_eq_true rfl) hm rfl ?_
  refine x_iceq 796 199 rfl rfl rfl (fun _ => ?_) (fun c => absurd rfl c)
  exact kk
set_option maxRecDepth 20000 in
theorem lw_3 {v : Int32} {fs0 fs1 : List Value} (hL : L ≤ 1024) (hlt : k + 2 ≤ L) (hX : h[0]? = some (.inr (0, fs0))) (hw : ab_S (pg_G L xs) D 48 [.ref 0] h (some (.int v)) h1) (hM1 : h1[572]? = some (.inr (5, fs1))) (hm : ab_S (pg_G L xs) D 130 [.ref 572] h1 (some (.int v)) h2) (kk : ab_W (pg_G L xs) (ab_X (pg_G L xs) D) 0 Q 796 [some (.ref 1000002), some (.ref 0), some (.ref 572), some (.ref 619), some (.int (Int32.ofNat k)), o5, o6] [] h2) : ab_W (pg_G L xs) (ab_X (pg_G L xs) D) 0 Q 201 [some (.ref 1000002), some (.ref 0), some (.ref 572), some (.ref 619), some (.int (Int32.ofNat k)), o5, o6] [] h := by
  refine x_ld 1 1 2 202 rfl rfl rfl rfl rfl ?_
  refine x_cv 72 48 205 [.ref 0] rfl rfl rfl (Nat.le_of_ble_eq_true rfl) rfl rfl (Nat.le_of_ble_eq_true rfl) ⟨_, _, _, rfl, hX⟩ (Nat.le_of_ble_eq_true rfl) hw rfl ?_
  refine x_ld 2 1 2 206 rfl rfl rfl rfl rfl ?_
  refine x_cv 75 130 209 [.ref 572] rfl rfl rfl (Nat.le_of_ble_eq_true rfl) rfl rfl (Nat.le_of_ble_eq_true rfl) ⟨_, _, _, rfl, hM1⟩ (Nat.le_of_ble_eq_true rfl) hm rfl ?_
  refine x_iceq 796 212 rfl rfl rfl (fun _ => ?_) (fun c => absurd rfl c)
  exact kk
set_option maxRecDepth 20000 in
theorem lw_11 {v : Int32} {fs0 fs1 : List Value} (hL : L ≤ 1024) (hlt : k + 2 ≤ L) (hX : h[0]? = some (.inr (0, fs0))) (hw : ab_S (pg_G L xs) D 49 [.ref 0, .int (xs (k + 1))] h (some (.int v)) h1) (hM1 : h1[572]? = some (.inr (5, fs1))) (hm : ab_S (pg_G L xs) D 163 [.ref 572, .int (xs (k + 1))] h1 (some (.int v)) h2) (kk : ab_W (pg_G L xs) (ab_X (pg_G L xs) D) 0 Q 796 [some (.ref 1000002), some (.ref 0), some (.ref 572), some (.ref 619), some (.int (Int32.ofNat k)), o5, o6] [] h2) : ab_W (pg_G L xs) (ab_X (pg_G L xs) D) 0 Q 627 [some (.ref 1000002), some (.ref 0), some (.ref 572), some (.ref 619), some (.int (Int32.ofNat k)), o5, o6] [] h := by
  refine x_ld 1 1 2 628 rfl rfl rfl rfl rfl ?_
  refine x_ld 0 1 2 629 rfl rfl rfl rfl rfl ?_
  refine x_ld 4 2 0 631 rfl rfl rfl rfl rfl ?_
  refine x_cst (.int 1) 1 632 rfl rfl rfl ?_
  refine x_bin (Int32.ofNat (k + 1)) 633 rfl rfl (i32_add k 1) rfl ?_
  refine x_kld (xs (k + 1)) 634 rfl rfl (i32_in (k + 1) L (by omega) (by omega)) (by rw [i32_nat (k + 1) (by omega)]) rfl ?_
  refine x_cv 97 49 637 [.ref 0, .int (xs (k + 1))] rfl rfl rfl (Nat.le_of_ble_eq_true rfl) rfl rfl (Nat.le_of_ble_eq_true rfl) ⟨_, _, _, rfl, hX⟩ (Nat.le_of_ble_eq_true rfl) hw rfl ?_
  refine x_ld 2 1 2 638 rfl rfl rfl rfl rfl ?_
  refine x_ld 0 1 2 639 rfl rfl rfl rfl rfl ?_
  refine x_ld 4 2 0 641 rfl rfl rfl rfl rfl ?_
  refine x_cst (.int 1) 1 642 rfl rfl rfl ?_
  refine x_bin (Int32.ofNat (k + 1)) 643 rfl rfl (i32_add k 1) rfl ?_
  refine x_kld (xs (k + 1)) 644 rfl rfl (i32_in (k + 1) L (by omega) (by omega)) (by rw [i32_nat (k + 1) (by omega)]) rfl ?_
  refine x_cv 100 163 647 [.ref 572, .int (xs (k + 1))] rfl rfl rfl (Nat.le_of_ble_eq_true rfl) rfl rfl (Nat.le_of_ble_eq_true rfl) ⟨_, _, _, rfl, hM1⟩ (Nat.le_of_ble_eq_true rfl) hm rfl ?_
  refine x_iceq 796 650 rfl rfl rfl (fun _ => ?_) (fun c => absurd rfl c)
  exact kk
end Lw
