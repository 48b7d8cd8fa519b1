/-! OURS. Counting the bits of a word; its lowest bit. -/
def cnt (f : Nat → Bool) : Nat → Nat
  | 0 => 0
  | n + 1 => cnt f n + (f n).toNat
def pm (c : Nat) : Nat → Nat
  | 0 => 0
  | k + 1 => 256 * pm c k + c
theorem and256 {q r m c : Nat} (hr : r < 256) (hc : c < 256) : (256 * q + r) &&& (256 * m + c) = 256 * (q &&& m) + (r &&& c) := by
  have h : r &&& c < 2 ^ 8 := Nat.and_lt_two_pow _ hc
  apply Nat.eq_of_testBit_eq
  intro i
  rw [Nat.testBit_and, show (256 : Nat) = 2 ^ 8 from rfl, Nat.testBit_two_pow_mul_add _ hr, Nat.testBit_two_pow_mul_add _ hc, Nat.testBit_two_pow_mul_add _ h]
  split
  · rw [Nat.testBit_and]
  · rw [Nat.testBit_and]
def pp1 (k x : Nat) : Nat := x - ((x / 2) &&& pm 0x55 k)
def pp2 (k x : Nat) : Nat := (x &&& pm 0x33 k) + ((x / 4) &&& pm 0x33 k)
def pp3 (k x : Nat) : Nat := (x + x / 16) &&& pm 0x0f k
theorem and55 (a b : Nat) (ha : a < 2) (hb : b < 128) : (128 * a + b) &&& 0x55 = b &&& 0x55 := by
  have : ∀ a : Fin 2, ∀ b : Fin 128, (128 * a.1 + b.1) &&& 0x55 = b.1 &&& 0x55 := by decide
  exact this ⟨a, ha⟩ ⟨b, hb⟩
theorem and33 (a b : Nat) (ha : a < 4) (hb : b < 64) : (64 * a + b) &&& 0x33 = b &&& 0x33 := by
  have : ∀ a : Fin 4, ∀ b : Fin 64, (64 * a.1 + b.1) &&& 0x33 = b.1 &&& 0x33 := by decide
  exact this ⟨a, ha⟩ ⟨b, hb⟩
theorem and0f (a : Nat) : a &&& 0x0f = a % 16 := by
  rw [show (0x0f : Nat) = 2 ^ 4 - 1 from rfl, Nat.and_two_pow_sub_one_eq_mod]
theorem pp1_step (k q r : Nat) (hr : r < 256) : pp1 (k + 1) (256 * q + r) = 256 * pp1 k q + (r - ((r / 2) &&& 0x55)) := by
  unfold pp1
  simp only [pm]
  rw [show (256 * q + r) / 2 = 256 * (q / 2) + (128 * (q % 2) + r / 2) by omega, and256 (by omega) (by omega), and55 _ _ (by omega) (by omega)]
  have h1 : q / 2 &&& pm 0x55 k ≤ q / 2 := Nat.and_le_left
  have h2 : r / 2 &&& 0x55 ≤ r / 2 := Nat.and_le_left
  omega
theorem pp2_step (k q r : Nat) (hr : r < 256) : pp2 (k + 1) (256 * q + r) = 256 * pp2 k q + ((r &&& 0x33) + ((r / 4) &&& 0x33)) := by
  unfold pp2
  simp only [pm]
  rw [show (256 * q + r) / 4 = 256 * (q / 4) + (64 * (q % 4) + r / 4) by omega, and256 (by omega) (by omega), and256 (by omega) (by omega), and33 _ _ (by omega) (by omega)]
  omega
theorem pp3_step (k q r : Nat) (hr : r ≤ 68) (hq : q % 16 ≤ 4) : pp3 (k + 1) (256 * q + r) = 256 * pp3 k q + (r + r / 16) % 16 := by
  unfold pp3
  simp only [pm]
  rw [show 256 * q + r + (256 * q + r) / 16 = 256 * (q + q / 16) + (r + r / 16 + 16 * (q % 16)) by omega, and256 (by omega) (by omega), and0f]
  omega
def pb1 (r : Nat) : Nat := r - ((r / 2) &&& 0x55)
def pb2 (r : Nat) : Nat := (r &&& 0x33) + ((r / 4) &&& 0x33)
def pb3 (r : Nat) : Nat := (r + r / 16) % 16
def p8 (r : Nat) : Nat := r % 2 + r / 2 % 2 + r / 4 % 2 + r / 8 % 2 + r / 16 % 2 + r / 32 % 2 + r / 64 % 2 + r / 128 % 2
set_option maxRecDepth 4000 in
theorem pb_all : ∀ r : Fin 256, pb1 r.1 < 256 ∧ pb2 (pb1 r.1) ≤ 68 ∧ pb2 (pb1 r.1) % 16 ≤ 4 ∧ pb3 (pb2 (pb1 r.1)) = p8 r.1 ∧ p8 r.1 ≤ 8 := by decide
def pF (k x : Nat) : Nat := pp3 k (pp2 k (pp1 k x))
theorem pN (k x : Nat) (hx : x < 256 ^ k) : pp2 k (pp1 k x) % 16 ≤ 4 := by
  cases k with
  | zero =>
    have : x = 0 := by simpa using hx
    subst this; decide
  | succ k =>
    have h := pb_all ⟨x % 256, by omega⟩
    rw [show x = 256 * (x / 256) + x % 256 by omega, pp1_step _ _ _ (by omega)]
    have h1 : x % 256 - ((x % 256 / 2) &&& 0x55) < 256 := h.1
    rw [pp2_step _ _ _ h1]
    have h2 : ((x % 256 - ((x % 256 / 2) &&& 0x55)) &&& 0x33) + (((x % 256 - ((x % 256 / 2) &&& 0x55)) / 4) &&& 0x33) ≤ 68 := h.2.1
    have h3 : (((x % 256 - ((x % 256 / 2) &&& 0x55)) &&& 0x33) + (((x % 256 - ((x % 256 / 2) &&& 0x55)) / 4) &&& 0x33)) % 16 ≤ 4 := h.2.2.1
    omega
theorem pF_step (k x : Nat) (hx : x < 256 ^ (k + 1)) : pF (k + 1) x = 256 * pF k (x / 256) + p8 (x % 256) := by
  have h := pb_all ⟨x % 256, by omega⟩
  have hq : x / 256 < 256 ^ k := by rw [Nat.pow_succ] at hx; omega
  have hn := pN k (x / 256) hq
  unfold pF
  have e1 : pp1 (k + 1) x = 256 * pp1 k (x / 256) + pb1 (x % 256) := by
    have := pp1_step k (x / 256) (x % 256) (by omega)
    rw [show 256 * (x / 256) + x % 256 = x by omega] at this
    exact this
  have e2 : pp2 (k + 1) (256 * pp1 k (x / 256) + pb1 (x % 256)) = 256 * pp2 k (pp1 k (x / 256)) + pb2 (pb1 (x % 256)) := pp2_step _ _ _ h.1
  rw [e1, e2, pp3_step _ _ _ h.2.1 hn]
  show _ + pb3 _ = _
  rw [h.2.2.2.1]
def pS : Nat → Nat → Nat
  | 0, _ => 0
  | k + 1, x => pS k (x / 256) + p8 (x % 256)
theorem p8_le (r : Nat) : p8 r ≤ 8 := by unfold p8; omega
theorem popN1 (c0 c1 c2 c3 c4 c5 c6 c7 : Nat) (l0 : c0 ≤ 8) (l1 : c1 ≤ 8) (l2 : c2 ≤ 8) (l3 : c3 ≤ 8) (l4 : c4 ≤ 8) (l5 : c5 ≤ 8) (l6 : c6 ≤ 8) (l7 : c7 ≤ 8) (y y1 y2 y3 : Nat) (hy : y = c0 + 256 * c1 + 65536 * c2 + 16777216 * c3 + 4294967296 * c4 + 1099511627776 * c5 + 281474976710656 * c6 + 72057594037927936 * c7) (h1 : y1 = y + y / 256) (h2 : y2 = y1 + y1 / 65536) (h3 : y3 = y2 + y2 / 4294967296) : y3 < 18446744073709551616 ∧ y2 < 18446744073709551616 ∧ y1 < 18446744073709551616 ∧ y3 % 128 = c0 + c1 + c2 + c3 + c4 + c5 + c6 + c7 := by
  have e1 : y / 256 = c1 + 256 * c2 + 65536 * c3 + 16777216 * c4 + 4294967296 * c5 + 1099511627776 * c6 + 281474976710656 * c7 := by omega
  have f1 : y1 = (c0 + c1) + 256 * (c1 + c2) + 65536 * (c2 + c3) + 16777216 * (c3 + c4) + 4294967296 * (c4 + c5) + 1099511627776 * (c5 + c6) + 281474976710656 * (c6 + c7) + 72057594037927936 * c7 := by rw [h1, e1, hy]; omega
  clear h1 e1 hy
  have e2 : y1 / 65536 = (c2 + c3) + 256 * (c3 + c4) + 65536 * (c4 + c5) + 16777216 * (c5 + c6) + 4294967296 * (c6 + c7) + 1099511627776 * c7 := by omega
  have f2 : y2 = (c0 + c1 + c2 + c3) + 256 * (c1 + c2 + c3 + c4) + 65536 * (c2 + c3 + c4 + c5) + 16777216 * (c3 + c4 + c5 + c6) + 4294967296 * (c4 + c5 + c6 + c7) + 1099511627776 * (c5 + c6 + c7) + 281474976710656 * (c6 + c7) + 72057594037927936 * c7 := by rw [h2, e2, f1]; omega
  have g1 : y1 < 18446744073709551616 := by omega
  clear h2 e2 f1
  have e3 : y2 / 4294967296 = (c4 + c5 + c6 + c7) + 256 * (c5 + c6 + c7) + 65536 * (c6 + c7) + 16777216 * c7 := by omega
  have g2 : y2 < 18446744073709551616 := by omega
  rw [e3, f2] at h3
  clear e3 f2
  exact ⟨by omega, g2, g1, by omega⟩
theorem pF8 (x : Nat) (hx : x < 18446744073709551616) : ∃ c0 c1 c2 c3 c4 c5 c6 c7 : Nat, c0 ≤ 8 ∧ c1 ≤ 8 ∧ c2 ≤ 8 ∧ c3 ≤ 8 ∧ c4 ≤ 8 ∧ c5 ≤ 8 ∧ c6 ≤ 8 ∧ c7 ≤ 8 ∧ pF 8 x = c0 + 256 * c1 + 65536 * c2 + 16777216 * c3 + 4294967296 * c4 + 1099511627776 * c5 + 281474976710656 * c6 + 72057594037927936 * c7 ∧ pS 8 x = c0 + c1 + c2 + c3 + c4 + c5 + c6 + c7 := by
  have q1 : x / 256 < 256 ^ 7 := by omega
  have q2 : x / 256 / 256 < 256 ^ 6 := by omega
  have q3 : x / 256 / 256 / 256 < 256 ^ 5 := by omega
  have q4 : x / 256 / 256 / 256 / 256 < 256 ^ 4 := by omega
  have q5 : x / 256 / 256 / 256 / 256 / 256 < 256 ^ 3 := by omega
  have q6 : x / 256 / 256 / 256 / 256 / 256 / 256 < 256 ^ 2 := by omega
  have q7 : x / 256 / 256 / 256 / 256 / 256 / 256 / 256 < 256 ^ 1 := by omega
  have q8 : x / 256 / 256 / 256 / 256 / 256 / 256 / 256 / 256 = 0 := by omega
  refine ⟨p8 (x % 256), p8 (x / 256 % 256), p8 (x / 256 / 256 % 256), p8 (x / 256 / 256 / 256 % 256), p8 (x / 256 / 256 / 256 / 256 % 256), p8 (x / 256 / 256 / 256 / 256 / 256 % 256), p8 (x / 256 / 256 / 256 / 256 / 256 / 256 % 256), p8 (x / 256 / 256 / 256 / 256 / 256 / 256 / 256 % 256), p8_le _, p8_le _, p8_le _, p8_le _, p8_le _, p8_le _, p8_le _, p8_le _, ?_, ?_⟩
  · rw [pF_step 7 x (show x < 256 ^ 8 by omega), pF_step 6 _ q1, pF_step 5 _ q2, pF_step 4 _ q3, pF_step 3 _ q4, pF_step 2 _ q5, pF_step 1 _ q6, pF_step 0 _ q7, q8, show pF 0 0 = 0 from rfl]
    clear q1 q2 q3 q4 q5 q6 q7 q8 hx
    generalize p8 (x % 256) = c0
    generalize p8 (x / 256 % 256) = c1
    generalize p8 (x / 256 / 256 % 256) = c2
    generalize p8 (x / 256 / 256 / 256 % 256) = c3
    generalize p8 (x / 256 / 256 / 256 / 256 % 256) = c4
    generalize p8 (x / 256 / 256 / 256 / 256 / 256 % 256) = c5
    generalize p8 (x / 256 / 256 / 256 / 256 / 256 / 256 % 256) = c6
    generalize p8 (x / 256 / 256 / 256 / 256 / 256 / 256 / 256 % 256) = c7
    omega
  · simp only [pS]
    omega
theorem cnt_add (f : Nat → Bool) (n k : Nat) : cnt f (n + k) = cnt f n + cnt (fun i => f (n + i)) k := by
  induction k with
  | zero => rfl
  | succ k ih => rw [← Nat.add_assoc]; simp only [cnt]; rw [ih]; omega
theorem cnt_succ' (f : Nat → Bool) (n : Nat) : cnt f (n + 1) = (f 0).toNat + cnt (fun i => f (i + 1)) n := by
  rw [Nat.add_comm n 1, cnt_add]
  simp only [cnt]
  rw [Nat.zero_add]
  congr 2
  funext i
  rw [Nat.add_comm]
theorem wn_lt (f : Nat → Bool) (n : Nat) : wn f n < 2 ^ n := by
  induction n generalizing f with
  | zero => simp [wn]
  | succ n ih =>
    have := ih (fun i => f (i + 1))
    simp only [wn]
    rw [Nat.pow_succ]
    have h2 := Bool.toNat_lt (f 0)
    omega
theorem p8_bits (x0 x1 x2 x3 x4 x5 x6 x7 c0 c1 c2 c3 c4 c5 c6 c7 : Nat) (h0 : c0 < 2) (h1 : c1 < 2) (h2 : c2 < 2) (h3 : c3 < 2) (h4 : c4 < 2) (h5 : c5 < 2) (h6 : c6 < 2) (h7 : c7 < 2) (e7 : x7 = c7) (e6 : x6 = 2 * x7 + c6) (e5 : x5 = 2 * x6 + c5) (e4 : x4 = 2 * x5 + c4) (e3 : x3 = 2 * x4 + c3) (e2 : x2 = 2 * x3 + c2) (e1 : x1 = 2 * x2 + c1) (e0 : x0 = 2 * x1 + c0) : p8 x0 = c0 + c1 + c2 + c3 + c4 + c5 + c6 + c7 := by
  have d1 : x0 / 2 = x1 := by omega
  have d2 : x0 / 4 = x2 := by omega
  have d3 : x0 / 8 = x3 := by omega
  have d4 : x0 / 16 = x4 := by omega
  have d5 : x0 / 32 = x5 := by omega
  have d6 : x0 / 64 = x6 := by omega
  have d7 : x0 / 128 = x7 := by omega
  unfold p8
  rw [d1, d2, d3, d4, d5, d6, d7]
  clear d1 d2 d3 d4 d5 d6 d7
  rw [show x0 % 2 = c0 by omega, show x1 % 2 = c1 by omega, show x2 % 2 = c2 by omega, show x3 % 2 = c3 by omega, show x4 % 2 = c4 by omega, show x5 % 2 = c5 by omega, show x6 % 2 = c6 by omega, show x7 % 2 = c7 by omega]
theorem wn8 (f : Nat → Bool) : p8 (wn f 8) = cnt f 8 := by
  have h := p8_bits (wn f 8) (wn (fun i => f (i + 1)) 7) (wn (fun i => f (i + 2)) 6) (wn (fun i => f (i + 3)) 5) (wn (fun i => f (i + 4)) 4) (wn (fun i => f (i + 5)) 3) (wn (fun i => f (i + 6)) 2) (wn (fun i => f (i + 7)) 1) _ _ _ _ _ _ _ _ (Bool.toNat_lt (f 0)) (Bool.toNat_lt (f 1)) (Bool.toNat_lt (f 2)) (Bool.toNat_lt (f 3)) (Bool.toNat_lt (f 4)) (Bool.toNat_lt (f 5)) (Bool.toNat_lt (f 6)) (Bool.toNat_lt (f 7)) (Nat.zero_add _) rfl rfl rfl rfl rfl rfl rfl
  rw [h]
  simp only [cnt, Nat.zero_add]
theorem wn_split (f : Nat → Bool) (n k : Nat) : wn f (n + k) = wn f n + 2 ^ n * wn (fun i => f (n + i)) k := by
  induction n generalizing f with
  | zero => simp [wn]
  | succ n ih =>
    rw [show n + 1 + k = (n + k) + 1 by omega]
    simp only [wn]
    rw [ih]
    rw [show (fun i => f (n + i + 1)) = (fun i => f (n + 1 + i)) from funext (fun i => by rw [show n + i + 1 = n + 1 + i by omega]), Nat.mul_add, Nat.pow_succ, ← Nat.mul_assoc, Nat.mul_comm 2 (2 ^ n)]
    omega
theorem pS_cnt (k : Nat) (f : Nat → Bool) : pS k (wn f (8 * k)) = cnt f (8 * k) := by
  induction k generalizing f with
  | zero => rfl
  | succ k ih =>
    have h := wn_lt f 8
    rw [show 8 * (k + 1) = 8 + 8 * k by omega, wn_split, cnt_add, ← ih, ← wn8 f]
    simp only [pS]
    rw [show (wn f 8 + 2 ^ 8 * wn (fun i => f (8 + i)) (8 * k)) / 256 = wn (fun i => f (8 + i)) (8 * k) by omega, show (wn f 8 + 2 ^ 8 * wn (fun i => f (8 + i)) (8 * k)) % 256 = wn f 8 by omega]
    omega

/-- what the machine's counting of bits comes to -/
theorem popc (f : Nat → Bool) (x1 x2 x3 x4 x5 x6 : Int64) (e1 : x1 = wd f - ((((wd f).toUInt64 >>> ((Int32.ofInt 1).toInt64.toUInt64 &&& Int64.toUInt64 63)).toInt64) &&& 6148914691236517205)) (e2 : x2 = (x1 &&& 3689348814741910323) + (((x1.toUInt64 >>> ((Int32.ofInt 2).toInt64.toUInt64 &&& Int64.toUInt64 63)).toInt64) &&& 3689348814741910323)) (e3 : x3 = (x2 + (x2.toUInt64 >>> ((Int32.ofInt 4).toInt64.toUInt64 &&& Int64.toUInt64 63)).toInt64) &&& 1085102592571150095) (e4 : x4 = x3 + (x3.toUInt64 >>> ((Int32.ofInt 8).toInt64.toUInt64 &&& Int64.toUInt64 63)).toInt64) (e5 : x5 = x4 + (x4.toUInt64 >>> ((Int32.ofInt 16).toInt64.toUInt64 &&& Int64.toUInt64 63)).toInt64) (e6 : x6 = x5 + (x5.toUInt64 >>> ((Int32.ofInt 32).toInt64.toUInt64 &&& Int64.toUInt64 63)).toInt64) : x6.toInt32 &&& Int32.ofInt 127 = Int32.ofInt (cnt f 64 : Nat) := by
  have key : ∀ (x : Int64) (s : Nat), s < 64 → ((x.toUInt64 >>> ((Int32.ofInt (s : Int)).toInt64.toUInt64 &&& Int64.toUInt64 63)).toInt64).toBitVec.toNat = x.toBitVec.toNat / 2 ^ s := by
    intro x s hs
    rw [← Int64.toUInt64_and, sh63 (show s < 2147483648 by omega), UInt64.toBitVec_toInt64, UInt64.toBitVec_shiftRight, Int64.toBitVec_toUInt64, Int64.toBitVec_toUInt64, Int64.toBitVec_ofNat', BitVec.ushiftRight_eq', BitVec.toNat_ushiftRight, Nat.shiftRight_eq_div_pow]
    congr 2
    rw [BitVec.toNat_umod]
    simp
    omega
  have k1 := key (wd f) 1 (by omega)
  have k2 := key x1 2 (by omega)
  have k3 := key x2 4 (by omega)
  have k4 := key x3 8 (by omega)
  have k5 := key x4 16 (by omega)
  have k6 := key x5 32 (by omega)
  have hn : (wd f).toBitVec.toNat = wn f 64 := by
    unfold wd
    rw [Int64.toBitVec_ofBitVec, BitVec.toNat_ofNat, Nat.mod_eq_of_lt (wn_lt f 64)]
  have hx : wn f 64 < 18446744073709551616 := wn_lt f 64
  have n1 : x1.toBitVec.toNat = pp1 8 (wn f 64) := by
    rw [e1, Int64.toBitVec_sub, BitVec.toNat_sub, Int64.toBitVec_and, BitVec.toNat_and, hn]
    rw [show (((wd f).toUInt64 >>> ((Int32.ofInt 1).toInt64.toUInt64 &&& Int64.toUInt64 63)).toInt64).toBitVec.toNat = wn f 64 / 2 from k1.trans (by rw [hn])]
    rw [show (6148914691236517205 : Int64).toBitVec.toNat = pm 0x55 8 from rfl]
    unfold pp1
    have : wn f 64 / 2 &&& pm 0x55 8 ≤ wn f 64 / 2 := Nat.and_le_left
    omega
  have n2 : x2.toBitVec.toNat = pp2 8 (pp1 8 (wn f 64)) := by
    rw [e2, Int64.toBitVec_add, BitVec.toNat_add, Int64.toBitVec_and, BitVec.toNat_and, Int64.toBitVec_and, BitVec.toNat_and]
    rw [show ((x1.toUInt64 >>> ((Int32.ofInt 2).toInt64.toUInt64 &&& Int64.toUInt64 63)).toInt64).toBitVec.toNat = x1.toBitVec.toNat / 4 from k2, n1]
    rw [show (3689348814741910323 : Int64).toBitVec.toNat = pm 0x33 8 from rfl]
    unfold pp2
    have h1 : pp1 8 (wn f 64) &&& pm 0x33 8 ≤ pm 0x33 8 := Nat.and_le_right
    have h2 : pp1 8 (wn f 64) / 4 &&& pm 0x33 8 ≤ pm 0x33 8 := Nat.and_le_right
    rw [show pm 0x33 8 = 3689348814741910323 from rfl] at *
    omega
  have pb2 : pp2 8 (pp1 8 (wn f 64)) ≤ 7378697629483820646 := by
    unfold pp2
    have h1 : pp1 8 (wn f 64) &&& pm 0x33 8 ≤ pm 0x33 8 := Nat.and_le_right
    have h2 : pp1 8 (wn f 64) / 4 &&& pm 0x33 8 ≤ pm 0x33 8 := Nat.and_le_right
    rw [show pm 0x33 8 = 3689348814741910323 from rfl] at *
    omega
  have n3 : x3.toBitVec.toNat = pF 8 (wn f 64) := by
    rw [e3, Int64.toBitVec_and, BitVec.toNat_and, Int64.toBitVec_add, BitVec.toNat_add]
    rw [show ((x2.toUInt64 >>> ((Int32.ofInt 4).toInt64.toUInt64 &&& Int64.toUInt64 63)).toInt64).toBitVec.toNat = x2.toBitVec.toNat / 16 from k3, n2]
    rw [show (1085102592571150095 : Int64).toBitVec.toNat = pm 0x0f 8 from rfl]
    unfold pF pp3
    rw [Nat.mod_eq_of_lt (by omega)]
  obtain ⟨c0, c1, c2, c3, c4, c5, c6, c7, l0, l1, l2, l3, l4, l5, l6, l7, hp, hs⟩ := pF8 _ hx
  have hN := popN1 c0 c1 c2 c3 c4 c5 c6 c7 l0 l1 l2 l3 l4 l5 l6 l7 _ _ _ _ hp rfl rfl rfl
  rw [← hs, show (64 : Nat) = 8 * 8 from rfl, pS_cnt 8 f] at hN
  rw [show (8 * 8 : Nat) = 64 from rfl] at hN
  generalize pF 8 (wn f 64) = y at *
  have n4 : x4.toBitVec.toNat = y + y / 256 := by
    rw [e4, Int64.toBitVec_add, BitVec.toNat_add]
    rw [show ((x3.toUInt64 >>> ((Int32.ofInt 8).toInt64.toUInt64 &&& Int64.toUInt64 63)).toInt64).toBitVec.toNat = x3.toBitVec.toNat / 256 from k4, n3, Nat.mod_eq_of_lt hN.2.2.1]
  have n5 : x5.toBitVec.toNat = (y + y / 256) + (y + y / 256) / 65536 := by
    rw [e5, Int64.toBitVec_add, BitVec.toNat_add]
    rw [show ((x4.toUInt64 >>> ((Int32.ofInt 16).toInt64.toUInt64 &&& Int64.toUInt64 63)).toInt64).toBitVec.toNat = x4.toBitVec.toNat / 65536 from k5, n4, Nat.mod_eq_of_lt hN.2.1]
  have n6 : x6.toBitVec.toNat = ((y + y / 256) + (y + y / 256) / 65536) + ((y + y / 256) + (y + y / 256) / 65536) / 4294967296 := by
    rw [e6, Int64.toBitVec_add, BitVec.toNat_add]
    rw [show ((x5.toUInt64 >>> ((Int32.ofInt 32).toInt64.toUInt64 &&& Int64.toUInt64 63)).toInt64).toBitVec.toNat = x5.toBitVec.toNat / 4294967296 from k6, n5, Nat.mod_eq_of_lt hN.1]
  have hc : ((y + y / 256) + (y + y / 256) / 65536 + ((y + y / 256) + (y + y / 256) / 65536) / 4294967296) % 128 = cnt f 64 := hN.2.2.2
  rw [← n6] at hc
  rw [← hc]
  apply Int32.toBitVec_inj.mp
  apply BitVec.eq_of_toNat_eq
  rw [Int32.toBitVec_and, BitVec.toNat_and, Int64.toBitVec_toInt32, show (Int32.ofInt 127).toBitVec.toNat = 2 ^ 7 - 1 from rfl, Nat.and_two_pow_sub_one_eq_mod, BitVec.signExtend_eq_setWidth_of_le _ (by omega), BitVec.toNat_setWidth, Int32.toBitVec_ofInt, BitVec.toNat_ofInt]
  omega
theorem wd_low {f : Nat → Bool} {k : Nat} (hk : k < 64) (h1 : f k = true) (h2 : ∀ i, i < k → f i = false) : (wd f &&& -(wd f)) - 1 = wd (fun i => decide (i < k)) := by
  have e : wd f &&& -(wd f) = wd (fun i => i == k) := by
    apply i64_ext
    intro i hi
    rw [Int64.toBitVec_and, BitVec.getLsbD_and, Int64.toBitVec_neg, BitVec.getLsbD_neg, wd_bit, wd_bit]
    simp only [hi, decide_true, Bool.true_and]
    by_cases hik : i = k
    · subst hik
      rw [h1]
      have : decide (∃ j, j < i ∧ (wd f).toBitVec.getLsbD j = true) = false := by
        apply decide_eq_false
        rintro ⟨j, hj, hb⟩
        rw [wd_bit, h2 j hj] at hb
        simp at hb
      rw [this]; simp
    · rw [show (i == k) = false by simpa using hik]
      by_cases hl : i < k
      · rw [h2 i hl]; simp
      · have : decide (∃ j, j < i ∧ (wd f).toBitVec.getLsbD j = true) = true := by
          apply decide_eq_true
          exact ⟨k, by omega, by rw [wd_bit, h1]; simp [hk]⟩
        rw [this]
        cases f i <;> rfl
  rw [e]
  have n1 : (wd (fun i => i == k)).toBitVec.toNat = 2 ^ k := by
    apply Nat.eq_of_testBit_eq
    intro i
    rw [BitVec.testBit_toNat, wd_bit, Nat.testBit_two_pow]
    by_cases hik : i = k
    · subst hik; simp [hk]
    · rw [show (i == k) = false by simpa using hik]; simp; omega
  have hp : 2 ^ k < 2 ^ 64 := Nat.pow_lt_pow_right (by omega) hk
  have hq : 0 < 2 ^ k := Nat.pow_pos (by omega)
  apply Int64.toBitVec_inj.mp
  apply BitVec.eq_of_toNat_eq
  rw [Int64.toBitVec_sub, BitVec.toNat_sub, n1, show (1 : Int64).toBitVec.toNat = 1 from rfl]
  apply Nat.eq_of_testBit_eq
  intro i
  rw [BitVec.testBit_toNat, wd_bit, show (2 ^ 64 - 1 + 2 ^ k) % 2 ^ 64 = 2 ^ k - 1 by omega, Nat.testBit_two_pow_sub_one]
  by_cases h : i < k
  · simp [h]; omega
  · simp [h]
theorem cnt_lt (k n : Nat) (h : k ≤ n) : cnt (fun i => decide (i < k)) n = k := by
  induction n with
  | zero => simp only [cnt]; omega
  | succ n ih =>
    simp only [cnt]
    rcases Nat.lt_or_ge n k with h1 | h1
    · have e : k = n + 1 := by omega
      subst e
      have : ∀ m, m ≤ n + 1 → cnt (fun i => decide (i < n + 1)) m = m := by
        intro m
        induction m with
        | zero => intro _; rfl
        | succ m ihm =>
          intro hm
          simp only [cnt]
          rw [ihm (by omega), decide_eq_true (by omega)]; rfl
      rw [this n (by omega), decide_eq_true (by omega)]; rfl
    · rw [ih h1, decide_eq_false (by omega)]; rfl
