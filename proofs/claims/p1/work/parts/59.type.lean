/-! OURS. Bytes of an int; characters. -/
def byt (x k : Int32) : Int32 := (x.toUInt32 >>> (((8 : Int32) * k).toUInt32 &&& Int32.toUInt32 31)).toInt32 &&& 255
theorem bv_sh (x : BitVec 32) (n : Nat) (hn : n ≤ 24) : x.sshiftRight n &&& 255#32 = (x >>> n) &&& 255#32 := by
  apply BitVec.eq_of_getLsbD_eq
  intro i hi
  rw [BitVec.getLsbD_and, BitVec.getLsbD_and]
  have h8 : i < 8 ∨ (255#32).getLsbD i = false := by
    by_cases h : i < 8
    · exact Or.inl h
    · right
      revert h
      have : ∀ i, i < 32 → ¬ i < 8 → (255#32).getLsbD i = false := by decide
      exact this i hi
  rcases h8 with h8 | h8
  · rw [BitVec.getLsbD_sshiftRight, BitVec.getLsbD_ushiftRight]
    have e1 : decide (32 ≤ i) = false := decide_eq_false (by omega)
    rw [e1, if_pos (by omega)]
    rfl
  · rw [h8, Bool.and_false, Bool.and_false]
theorem byS_0 (x : Int32) : (x >>> ((0 : Int32) &&& 31)) &&& 255 = byt x 0 := Int32.toBitVec_inj.mp (bv_sh x.toBitVec 0 (by decide))
theorem byS_1 (x : Int32) : (x >>> ((8 : Int32) &&& 31)) &&& 255 = byt x 1 := Int32.toBitVec_inj.mp (bv_sh x.toBitVec 8 (by decide))
theorem byS_2 (x : Int32) : (x >>> ((16 : Int32) &&& 31)) &&& 255 = byt x 2 := Int32.toBitVec_inj.mp (bv_sh x.toBitVec 16 (by decide))
theorem byS_3 (x : Int32) : (x >>> ((24 : Int32) &&& 31)) &&& 255 = byt x 3 := Int32.toBitVec_inj.mp (bv_sh x.toBitVec 24 (by decide))
theorem i2c_id (v : Int32) (h1 : 32 ≤ v) (h2 : v ≤ 126) : (v.toUInt32 % 65536).toInt32 = v ∧ vp_nar .char v = v := by
  have e : ∃ n : Nat, n ≤ 126 ∧ v = Int32.ofNat n := by
    refine ⟨v.toNatClampNeg, ?_, ?_⟩
    · rw [Int32.toNatClampNeg]
      rw [Int32.le_iff_toInt_le] at h2
      have : (126 : Int32).toInt = 126 := rfl
      omega
    · apply Int32.toInt_inj.mp
      rw [Int32.le_iff_toInt_le] at h1 h2
      have a1 : (126 : Int32).toInt = 126 := rfl
      have a2 : (32 : Int32).toInt = 32 := rfl
      rw [Int32.toInt_ofNat_of_lt]
      · rw [Int32.toNatClampNeg]
        omega
      · rw [Int32.toNatClampNeg]
        omega
  obtain ⟨n, hn, rfl⟩ := e
  have : ∀ n, n ≤ 126 → ((Int32.ofNat n).toUInt32 % 65536).toInt32 = Int32.ofNat n ∧ vp_nar .char (Int32.ofNat n) = Int32.ofNat n := by decide +kernel
  exact this n hn
