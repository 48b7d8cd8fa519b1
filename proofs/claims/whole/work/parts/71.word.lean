/-! OURS. Words of 64 bits as functions. -/
def wn (f : Nat → Bool) : Nat → Nat
  | 0 => 0
  | n + 1 => 2 * wn (fun i => f (i + 1)) n + (f 0).toNat
theorem wn_bit (f : Nat → Bool) (n i : Nat) : (wn f n).testBit i = (decide (i < n) && f i) := by
  induction n generalizing f i with
  | zero => simp [wn]
  | succ n ih =>
    cases i with
    | zero => 
      have e : (wn f (n + 1)).testBit 0 = f 0 := by
        rw [Nat.testBit_zero, show wn f (n + 1) % 2 = (f 0).toNat by simp only [wn]; have := Bool.toNat_lt (f 0); omega]
        cases f 0 <;> rfl
      rw [e]; simp
    | succ i =>
      rw [Nat.testBit_succ, show wn f (n + 1) / 2 = wn (fun i => f (i + 1)) n by simp only [wn]; cases f 0 <;> simp <;> omega, ih]
      simp
def wd (f : Nat → Bool) : Int64 := Int64.ofBitVec (BitVec.ofNat 64 (wn f 64))
theorem wd_bit (f : Nat → Bool) (i : Nat) : (wd f).toBitVec.getLsbD i = (decide (i < 64) && f i) := by
  unfold wd
  rw [Int64.toBitVec_ofBitVec, BitVec.getLsbD_ofNat, wn_bit]
  simp
theorem i64_ext {x y : Int64} (h : ∀ i, i < 64 → x.toBitVec.getLsbD i = y.toBitVec.getLsbD i) : x = y := by
  apply Int64.toBitVec_inj.mp
  exact BitVec.eq_of_getLsbD_eq h
theorem wd_or (f g : Nat → Bool) : wd f ||| wd g = wd (fun i => f i || g i) := by
  apply i64_ext
  intro i hi
  rw [Int64.toBitVec_or, BitVec.getLsbD_or, wd_bit, wd_bit, wd_bit]
  simp [hi]
theorem wd_and (f g : Nat → Bool) : wd f &&& wd g = wd (fun i => f i && g i) := by
  apply i64_ext
  intro i hi
  rw [Int64.toBitVec_and, BitVec.getLsbD_and, wd_bit, wd_bit, wd_bit]
  simp [hi]
theorem wd_xor (f g : Nat → Bool) : wd f ^^^ wd g = wd (fun i => f i ^^ g i) := by
  apply i64_ext
  intro i hi
  rw [Int64.toBitVec_xor, BitVec.getLsbD_xor, wd_bit, wd_bit, wd_bit]
  simp [hi]
theorem wd_congr {f g : Nat → Bool} (h : ∀ i, i < 64 → f i = g i) : wd f = wd g := by
  apply i64_ext
  intro i hi
  rw [wd_bit, wd_bit, h i hi]
theorem wd_zero : wd (fun _ => false) = 0 := by
  apply i64_ext
  intro i hi
  rw [wd_bit]; simp
theorem wd_one : wd (fun i => i == 0) = 1 := by
  apply i64_ext
  intro i hi
  rw [wd_bit]
  cases i with
  | zero => rfl
  | succ i => simp [hi]
theorem wd_inj {f g : Nat → Bool} (h : wd f = wd g) {i : Nat} (hi : i < 64) : f i = g i := by
  have h1 := wd_bit f i
  rw [h, wd_bit] at h1
  simpa [hi] using h1.symm
theorem wd_eq_zero {f : Nat → Bool} : wd f = 0 ↔ ∀ i, i < 64 → f i = false := by
  constructor
  · intro h i hi
    rw [← wd_zero] at h
    exact wd_inj h hi
  · intro h
    rw [← wd_zero]
    exact wd_congr h
theorem wd_of (x : Int64) : wd (fun i => x.toBitVec.getLsbD i) = x := by
  apply i64_ext
  intro i hi
  rw [wd_bit]; simp [hi]

theorem i32_toInt {t : Int} (h0 : -2147483648 ≤ t) (h1 : t < 2147483648) : (Int32.ofInt t).toInt = t := Int32.toInt_ofInt_of_le h0 h1
/-- the bit's number in its word -/
theorem sh63 {t : Nat} (h : t < 2147483648) : ((Int32.ofInt (t : Int)).toInt64 &&& 63) = Int64.ofNat (t % 64) := by
  have e : (Int32.ofInt (t : Int)).toInt64 = Int64.ofNat t := by
    apply Int64.toInt_inj.mp
    rw [Int32.toInt_toInt64, i32_toInt (by omega) (by omega), Int64.toInt_ofNat_of_lt (by omega)]
  rw [e]
  apply Int64.toBitVec_inj.mp
  apply BitVec.eq_of_toNat_eq
  rw [Int64.toBitVec_and, BitVec.toNat_and, Int64.toBitVec_ofNat', Int64.toBitVec_ofNat', show (63 : Int64).toBitVec.toNat = 2 ^ 6 - 1 from rfl, Nat.and_two_pow_sub_one_eq_mod]
  simp only [BitVec.toNat_ofNat]
  omega
theorem smod64 {i : Nat} (h : i < 64) : ((Int64.ofNat i).toBitVec.smod 64).toNat = i := by
  rw [Int64.toBitVec_ofNat']
  have : ∀ i : Fin 64, ((BitVec.ofNat 64 i.1).smod 64).toNat = i.1 := by decide
  exact this ⟨i, h⟩
theorem wd_shr (f : Nat → Bool) {t : Nat} (h : t < 2147483648) : (wd f >>> ((Int32.ofInt (t : Int)).toInt64 &&& 63)) &&& 1 = wd (fun i => i == 0 && f (t % 64)) := by
  have ht : t % 64 < 64 := Nat.mod_lt _ (by omega)
  rw [sh63 h]
  apply i64_ext
  intro i hi
  rw [Int64.toBitVec_and, BitVec.getLsbD_and, Int64.toBitVec_shiftRight, BitVec.getLsbD_sshiftRight', smod64 ht, wd_bit, wd_bit, show (1 : Int64).toBitVec = 1#64 from rfl, BitVec.getLsbD_one]
  cases i with
  | zero => simp [ht]
  | succ i => simp
theorem wd_ushr (f : Nat → Bool) {t : Nat} (h : t < 2147483648) : (((wd f).toUInt64 >>> ((Int32.ofInt (t : Int)).toInt64.toUInt64 &&& Int64.toUInt64 63)).toInt64) = wd (fun i => decide (t % 64 + i < 64) && f (t % 64 + i)) := by
  have ht : t % 64 < 64 := Nat.mod_lt _ (by omega)
  rw [← Int64.toUInt64_and, sh63 h]
  apply i64_ext
  intro i hi
  rw [UInt64.toBitVec_toInt64, UInt64.toBitVec_shiftRight, wd_bit]
  rw [Int64.toBitVec_toUInt64, Int64.toBitVec_toUInt64, Int64.toBitVec_ofNat', BitVec.ushiftRight_eq', BitVec.getLsbD_ushiftRight, wd_bit]
  rw [show (BitVec.ofNat 64 (t % 64) % 64).toNat = t % 64 by rw [BitVec.toNat_umod]; simp]
  simp [hi]
theorem wd_shl {t : Nat} (h : t < 2147483648) : (1 : Int64) <<< ((Int32.ofInt (t : Int)).toInt64 &&& 63) = wd (fun i => i == t % 64) := by
  have ht : t % 64 < 64 := Nat.mod_lt _ (by omega)
  rw [sh63 h]
  apply i64_ext
  intro i hi
  rw [Int64.toBitVec_shiftLeft, BitVec.shiftLeft_eq', smod64 ht, BitVec.getLsbD_shiftLeft, wd_bit, show (1 : Int64).toBitVec = 1#64 from rfl, BitVec.getLsbD_one]
  by_cases h1 : i = t % 64
  · subst h1; simp [ht]
  · rw [show (i == t % 64) = false by simpa using h1]
    simp [hi]
    omega
