/-! OURS. More steps over memory: reads behind writes, calls, tables, copies, bits. -/
section Rd
variable {M : mm} {a b : Nat} {k j x : Int}
theorem rd_eq : (sI M a k x).1 a k = x := by unfold sI; simp
theorem rd_na (h : b ≠ a) : (sI M a k x).1 b j = M.1 b j := by unfold sI; simp [h]
theorem rd_nk (h : j ≠ k) : (sI M a k x).1 b j = M.1 b j := by unfold sI; simp [h]
theorem rd_ra {f : Int → Int} (h : b ≠ a) : (rI M a f).1 b j = M.1 b j := by rw [rI_ne h]
end Rd
section RdR
variable {M : mm} {a b k j x : Nat}
theorem rdR_eq : (sR M a k x).2.2 a k = x := by unfold sR; simp
theorem rdR_na (h : b ≠ a) : (sR M a k x).2.2 b j = M.2.2 b j := by unfold sR; simp [h]
theorem rdR_nk (h : j ≠ k) : (sR M a k x).2.2 b j = M.2.2 b j := by unfold sR; simp [h]
end RdR
/-- a call that ends with an answer and a memory of which Φ holds -/
def ab_Z (G : ab_G) (d jj : Nat) (as : List Value) (M : mm) (es : ab_H) (F : Option Value → mm → Prop) : Prop := ab_X G d jj as (hp M ++ es) (fun r h' => ∃ v M', r = .inl v ∧ h' = hp M' ++ es ∧ F v M')
theorem ab_Z_of {G : ab_G} {d jj : Nat} {as : List Value} {M M' : mm} {es : ab_H} {v : Option Value} {F : Option Value → mm → Prop} (h : ab_S G d jj as (hp M ++ es) v (hp M' ++ es)) (hF : F v M') : ab_Z G d jj as M es F := ab_X_mono d _ _ _ _ _ (fun _ _ e => ⟨v, M', e.1, e.2, hF⟩) h
theorem x_ce {G : ab_G} {d j : Nat} {Q : ab_Q} {pc : Nat} {ls : ab_L} {i : Instr} {stk st : List Value} {M : mm} {es : ab_H} {F : Option Value → mm → Prop} (idx jj pc' : Nat) (as : List Value) (hf : ab_f G j pc = some i) (hi : ab_iv i = some idx) (hl : ab_lm G j idx = some jj) (hj : jj < 1000000) (hst : stk = as.reverse ++ st) (hn : as.length = ab_na G jj) (hin : (ab_in as).length ≤ ab_n G jj) (hr : ab_rv G jj as (hp M ++ es)) (hs : (st.map (fun v => v.category)).sum ≤ 16) (hc : ab_Z G d jj as M es F) (hq : pc + 3 = pc') (k : ∀ v M', F v M' → ab_W G (ab_X G d) j Q pc' ls (v.toList ++ st) (hp M' ++ es)) : ab_W G (ab_X G d) j Q pc ls stk (hp M ++ es) :=
  x_cl idx jj pc' as _ hf hi hl hj hst hn hin hr hs hc hq (fun r h' e => by obtain ⟨v, M', rfl, rfl, hF⟩ := e; exact k v M' hF)
section Zm
variable {L : Nat} {xs : Nat → Int32} {E : ab_E} {j : Nat} {Q : ab_Q} {pc : Nat} {ls : ab_L} {st : List Value} {h : ab_H}
theorem z_max {x y : Int} (idx pc' : Nat) (hf : ab_f (pg_G L xs) j pc = some (.invokestatic idx)) (hl : ab_lm (pg_G L xs) j idx = some 1000002) (hs : (st.map (fun v => v.category)).sum ≤ 16) (hx : rg x) (hy : rg y) (hq : pc + 3 = pc') (k : ab_W (pg_G L xs) E j Q pc' ls (zi (max x y) :: st) h) : ab_W (pg_G L xs) E j Q pc ls (zi y :: zi x :: st) h := by
  refine x_maxv (Int32.ofInt (max x y)) idx pc' hf hl hs ?_ hq k
  by_cases c : x < y
  · rw [if_pos ((lt32 hx hy).mpr c), Int.max_eq_right (by omega)]
  · rw [if_neg (fun e => c ((lt32 hx hy).mp e)), Int.max_eq_left (by omega)]
theorem z_min {x y : Int} (idx pc' : Nat) (hf : ab_f (pg_G L xs) j pc = some (.invokestatic idx)) (hl : ab_lm (pg_G L xs) j idx = some 1000003) (hs : (st.map (fun v => v.category)).sum ≤ 16) (hx : rg x) (hy : rg y) (hq : pc + 3 = pc') (k : ab_W (pg_G L xs) E j Q pc' ls (zi (min x y) :: st) h) : ab_W (pg_G L xs) E j Q pc ls (zi y :: zi x :: st) h := by
  refine x_minv (Int32.ofInt (min x y)) idx pc' hf hl hs ?_ hq k
  by_cases c : y < x
  · rw [if_pos ((lt32 hy hx).mpr c), Int.min_eq_right (by omega)]
  · rw [if_neg (fun e => c ((lt32 hy hx).mp e)), Int.min_eq_left (by omega)]
theorem st_tab : ∀ i : Fin 8, pg_starts.getD i.1 0 = Int32.ofInt (tx_st i.1 : Nat) ∧ m_before i.1 = Int32.ofInt (tx_st i.1 : Nat) := by decide
theorem pw_tab : ∀ i : Fin 7, pg_powers.getD i.1 0 = Int32.ofInt ((3 ^ i.1 : Nat) : Int) ∧ m_powers i.1 = Int32.ofInt ((3 ^ i.1 : Nat) : Int) := by decide
theorem z_st {z : Int} (i pc' : Nat) (hf : ab_f (pg_G L xs) j pc = some .iaload) (hz : z = i) (hi : i ≤ 7) (hq : pc + 1 = pc') (k : ab_W (pg_G L xs) E j Q pc' ls (zi (tx_st i : Nat) :: st) h) : ab_W (pg_G L xs) E j Q pc ls (zi z :: .ref 1000000 :: st) h := by
  subst hz
  refine x_kld (n := 8) (xs := fun k => pg_starts.getD k 0) (Int32.ofInt (tx_st i : Nat)) pc' hf rfl (in32 (by omega) (by omega) (by decide)) ?_ hq k
  rw [nat32 (by omega) (by omega)]
  exact (st_tab ⟨i, by omega⟩).1
theorem z_pw {z : Int} (i pc' : Nat) (hf : ab_f (pg_G L xs) j pc = some .iaload) (hz : z = i) (hi : i ≤ 6) (hq : pc + 1 = pc') (k : ab_W (pg_G L xs) E j Q pc' ls (zi ((3 ^ i : Nat) : Int) :: st) h) : ab_W (pg_G L xs) E j Q pc ls (zi z :: .ref 1000001 :: st) h := by
  subst hz
  refine x_kld (n := 7) (xs := fun k => pg_powers.getD k 0) (Int32.ofInt ((3 ^ i : Nat) : Int)) pc' hf rfl (in32 (by omega) (by omega) (by decide)) ?_ hq k
  rw [nat32 (by omega) (by omega)]
  exact (pw_tab ⟨i, by omega⟩).1
variable {M : mm} {es : ab_H}
theorem z_mst {z : Int} (i pc' : Nat) (hf : ab_f (pg_G L xs) j pc = some .iaload) (hz : z = i) (hi : i ≤ 7) (hq : pc + 1 = pc') (k : ab_W (pg_G L xs) E j Q pc' ls (zi (tx_st i : Nat) :: st) (hp M ++ es)) : ab_W (pg_G L xs) E j Q pc ls (zi z :: .ref 573 :: st) (hp M ++ es) := by
  subst hz
  refine x_ild (Int32.ofInt (tx_st i : Nat)) pc' hf o_573 rfl (in32 (by omega) (by omega) (by decide)) ?_ hq k
  rw [nat32 (by omega) (by omega)]
  exact (st_tab ⟨i, by omega⟩).2
theorem z_mpw {z : Int} (i pc' : Nat) (hf : ab_f (pg_G L xs) j pc = some .iaload) (hz : z = i) (hi : i ≤ 6) (hq : pc + 1 = pc') (k : ab_W (pg_G L xs) E j Q pc' ls (zi ((3 ^ i : Nat) : Int) :: st) (hp M ++ es)) : ab_W (pg_G L xs) E j Q pc ls (zi z :: .ref 574 :: st) (hp M ++ es) := by
  subst hz
  refine x_ild (Int32.ofInt ((3 ^ i : Nat) : Int)) pc' hf o_574 rfl (in32 (by omega) (by omega) (by decide)) ?_ hq k
  rw [nat32 (by omega) (by omega)]
  exact (pw_tab ⟨i, by omega⟩).2
/-- a set copied -/
def cpB (A B : Int → Bool) : Int → Bool := fun j => if 0 ≤ j ∧ j < 1152 then A j else B j
theorem z_cpl {a b : Nat} (idx pc' : Nat) (hf : ab_f (pg_G L xs) j pc = some (.invokestatic idx)) (hl : ab_lm (pg_G L xs) j idx = some 1000001) (ha : isL a 18) (hb : isL b 18) (hs : (st.map (fun v => v.category)).sum ≤ 16) (hq : pc + 3 = pc') (k : ab_W (pg_G L xs) E j Q pc' ls st (hp (rB M b (cpB (M.2.1 a) (M.2.1 b))) ++ es)) : ab_W (pg_G L xs) E j Q pc ls (zi 18 :: zi 0 :: .ref b :: zi 0 :: .ref a :: st) (hp M ++ es) := by
  refine x_cpl idx pc' hf hl (hp_ob ha.1 (ha.2.2 _ _ _)) (hp_ob hb.1 (hb.2.2 _ _ _)) rfl (by decide) (by decide) (by decide) (by decide) (by decide) hs hq ?_
  rw [hp_rB (M := M) (es := es) (f := cpB (M.2.1 a) (M.2.1 b)) hb.1 ?_]
  · exact k
  · rw [hb.2.2]
    refine congrArg (fun F : Nat → Int64 => (.inl (1, 18, .inr (.inl F)) : ab_O)) (funext fun q => ?_)
    unfold va_cpy
    rw [show (Int32.ofInt 0).toNatClampNeg = 0 from rfl, show (Int32.ofInt 18).toNatClampNeg = 18 from rfl]
    by_cases c : q < 18
    · rw [if_pos (by omega), show 0 + (q - 0) = q by omega]
      apply wd_congr
      intro i hi
      unfold cpB
      rw [if_pos (by omega)]
    · rw [if_neg (by omega)]
      apply wd_congr
      intro i hi
      unfold cpB
      rw [if_neg (by omega)]
end Zm
/-- a boolean as an int -/
def bz (b : Bool) : Int := bif b then 1 else 0
theorem bit_u {B : Int → Bool} {t : Int} (h0 : 0 ≤ t) (h1 : t < 2147483648) : ((((wd (fun i => B (64 * (t / 64) + (i : Int)))).toUInt64 >>> ((Int32.ofInt t).toInt64.toUInt64 &&& Int64.toUInt64 63)).toInt64) &&& 1) = bif B t then 1 else 0 := by
  obtain ⟨n, rfl⟩ := Int.eq_ofNat_of_zero_le h0
  have h2 : n < 2147483648 := by omega
  have h3 := wd_ushr (fun i => B (64 * ((n : Int) / 64) + (i : Int))) h2
  rw [h3, ← wd_one, wd_and]
  cases hb : B n with
  | true =>
    rw [cond_true]
    apply wd_congr
    intro i hi
    cases i with
    | zero => simp only [Nat.add_zero]; rw [show (64 * ((n : Int) / 64) + ((n % 64 : Nat) : Int)) = n by omega, hb]; simp; omega
    | succ i => simp
  | false =>
    rw [cond_false, ← wd_zero]
    apply wd_congr
    intro i hi
    cases i with
    | zero => simp only [Nat.add_zero]; rw [show (64 * ((n : Int) / 64) + ((n % 64 : Nat) : Int)) = n by omega, hb]; simp
    | succ i => simp
theorem bit_s {B : Int → Bool} {z t : Int} (h0 : 0 ≤ t) (h1 : t < 64) : (wd (fun i => B (z + (i : Int))) >>> ((Int32.ofInt t).toInt64 &&& 63)) &&& 1 = bif B (z + t) then 1 else 0 := by
  obtain ⟨n, rfl⟩ := Int.eq_ofNat_of_zero_le h0
  have h3 := wd_shr (fun i => B (z + (i : Int))) (t := n) (by omega)
  rw [h3, show n % 64 = n by omega]
  cases hb : B (z + n) with
  | true =>
    rw [cond_true, ← wd_one]
    apply wd_congr
    intro i hi
    simp
  | false =>
    rw [cond_false, ← wd_zero]
    apply wd_congr
    intro i hi
    simp
theorem or_one {f : Nat → Bool} {t : Int} (h0 : 0 ≤ t) (h1 : t < 2147483648) : wd f ||| (1 <<< ((Int32.ofInt t).toInt64 &&& 63)) = wd (fun i => f i || decide ((i : Int) = t % 64)) := by
  obtain ⟨n, rfl⟩ := Int.eq_ofNat_of_zero_le h0
  rw [wd_shl (t := n) (by omega), wd_or]
  apply wd_congr
  intro i hi
  congr 1
  by_cases c : i = n % 64
  · rw [decide_eq_true (by omega)]; simpa using c
  · rw [decide_eq_false (by omega)]; simpa using c
/-- a text joined to a set -/
theorem upw_add (B : Int → Bool) (t : Int) : upw B (t / 64) (fun i => B (64 * (t / 64) + (i : Int)) || decide ((i : Int) = t % 64)) = fun j => B j || decide (j = t) := by
  funext j
  unfold upw
  split
  · show (B (64 * (t / 64) + ((j - 64 * (t / 64)).toNat : Int)) || decide (((j - 64 * (t / 64)).toNat : Int) = t % 64)) = _
    rw [show 64 * (t / 64) + ((j - 64 * (t / 64)).toNat : Int) = j by omega]
    congr 1
    by_cases c : j = t
    · rw [decide_eq_true c, decide_eq_true (by omega)]
    · rw [decide_eq_false c, decide_eq_false (by omega)]
  · rw [decide_eq_false (by omega), Bool.or_false]
