/-! OURS. becomeAtom; the constructor of Program. -/
theorem set_id {h : ab_H} {a : Nat} {o : ab_O} (e : h[a]? = some o) : h.set a o = h := by
  apply List.ext_getElem?
  intro i
  rw [List.getElem?_set]
  split
  · rename_i hi
    subst hi
    rw [e, if_pos (List.getElem?_eq_some_iff.mp e).1]
  · rfl
theorem set_at {h : ab_H} {a : Nat} {o o' : ab_O} (e : h[a]? = some o) : (h.set a o')[a]? = some o' := by
  rw [List.getElem?_set, if_pos rfl, if_pos (List.getElem?_eq_some_iff.mp e).1]
theorem set_ne {h : ab_H} {a b : Nat} {o' : ab_O} (e : a ≠ b) : (h.set a o')[b]? = h[b]? := by
  rw [List.getElem?_set, if_neg e]
section Vx
variable {G : ab_G} {E : ab_E} {j : Nat} {Q : ab_Q} {pc : Nat} {ls : ab_L} {st : List Value} {h : ab_H}
theorem v_put {o : ab_O} {a : Nat} {fs : List Value} {v : Value} {ty : FieldType} {ci : Nat} (ha : h[a]? = some o) (idx f pc' : Nat) (fs' : List Value) (hf : ab_f G j pc = some (.putfield idx)) (hl : ab_lf G j idx = some (ci, f)) (hk : f < fs.length) (ht : ab_tf G ci f = some ty) (hn : narrow ty v = v) (hfi : fits ty v = true) (he : fs.set f v = fs') (hp : pc + 3 = pc') (k : ab_W G E j Q pc' ls st (h.set a (.inr (ci, fs')))) : ab_W G E j Q pc ls (v :: .ref a :: st) (h.set a (.inr (ci, fs))) :=
  x_put idx ci f pc' hf hl (set_at ha) hk ht hn hfi _ (by rw [List.set_set, he]) hp k
theorem v_get {o : ab_O} {a : Nat} {fs : List Value} {v : Value} {ci : Nat} (ha : h[a]? = some o) (idx f pc' : Nat) (hf : ab_f G j pc = some (.getfield idx)) (hl : ab_lf G j idx = some (ci, f)) (hv : fs[f]? = some v) (hp : pc + 3 = pc') (k : ab_W G E j Q pc' ls (v :: st) (h.set a (.inr (ci, fs)))) : ab_W G E j Q pc ls (.ref a :: st) (h.set a (.inr (ci, fs))) :=
  x_get idx ci f pc' hf hl (set_at ha) hv hp k
end Vx
section Ct
variable {L : Nat} {xs : Nat → Int32}
theorem k_6 (d : Nat) {h : ab_H} {a : Nat} {x y : Int32} {f0 f1 f2 f3 f4 f5 f6 f7 f8 f9 f10 f11 f12 f13 : Value} (ha : h[a]? = some (.inr (2, [f0, f1, f2, f3, f4, f5, f6, f7, f8, f9, f10, f11, f12, f13]))) : ab_S (pg_G L xs) (d + 1) 6 [.ref a, .int x, .int y] h none (h.set a (.inr (2, [.int x, f1, .int y, .ref a, .ref a, f5, f6, f7, f8, f9, f10, f11, f12, f13]))) := by
  show ab_W (pg_G L xs) (ab_X (pg_G L xs) d) 6 _ 0 [some (.ref a), some (.int x), some (.int y)] [] h
  rw [← set_id ha]
  refine x_ld 0 1 2 1 rfl rfl rfl rfl rfl ?_
  refine x_ld 1 1 0 2 rfl rfl rfl rfl rfl ?_
  refine v_put ha 9 0 5 [.int x, f1, f2, f3, f4, f5, f6, f7, f8, f9, f10, f11, f12, f13] rfl rfl (Nat.le_of_ble_eq_true rfl) rfl rfl rfl rfl rfl ?_
  refine x_ld 0 1 2 6 rfl rfl rfl rfl rfl ?_
  refine x_ld 2 1 0 7 rfl rfl rfl rfl rfl ?_
  refine v_put ha 18 2 10 [.int x, f1, .int y, f3, f4, f5, f6, f7, f8, f9, f10, f11, f12, f13] rfl rfl (Nat.le_of_ble_eq_true rfl) rfl rfl rfl rfl rfl ?_
  refine x_ld 0 1 2 11 rfl rfl rfl rfl rfl ?_
  refine x_ld 0 1 2 12 rfl rfl rfl rfl rfl ?_
  refine v_put ha 53 3 15 [.int x, f1, .int y, .ref a, f4, f5, f6, f7, f8, f9, f10, f11, f12, f13] rfl rfl (Nat.le_of_ble_eq_true rfl) rfl rfl rfl rfl rfl ?_
  refine x_ld 0 1 2 16 rfl rfl rfl rfl rfl ?_
  refine x_ld 0 1 2 17 rfl rfl rfl rfl rfl ?_
  refine v_put ha 57 4 20 [.int x, f1, .int y, .ref a, .ref a, f5, f6, f7, f8, f9, f10, f11, f12, f13] rfl rfl (Nat.le_of_ble_eq_true rfl) rfl rfl rfl rfl rfl ?_
  refine x_rtv rfl rfl ⟨rfl, ?_⟩
  rw [set_id ha]
/-- a part of a new program -/
def b_part (n : Nat) : ab_H := .inr (2, [.int 0, .int 0, .int 0, .ref n, .ref n, .ref (n + 1), .ref (n + 3), .int 0, .int (-1), .ref (n + 5), .ref (n + 6), .ref (n + 7), .ref (n + 8), .int 0]) :: (b_set (n + 1) ++ b_set (n + 3) ++ [.inl (0, 6, .inl (fun _ => 0)), .inl (0, 6, .inl (fun _ => 0)), .inl (0, 6, .inl (fun _ => 0)), .inl (0, 6, .inl (fun _ => 0))])
def b_parts (n i : Nat) : ab_H := (List.range i).flatMap (fun k => b_part (n + 9 * k))
def a_parts (n i : Nat) : Nat → Option Nat := fun k => if k < i then some (n + 9 * k) else none
def b_prog (n : Nat) : ab_H := .inr (3, [.ref (n + 1), .int 0, .int 0, .ref (n + 2), .int 0, .ref (n + 3)]) :: .inl (2, 16, .inl (fun _ => 0)) :: .inl (3, 31, .inr (.inr (.inr (.inr (a_parts (n + 3) 31))))) :: b_parts (n + 3) 31
theorem b_parts_succ (n i : Nat) : b_parts n (i + 1) = b_parts n i ++ b_part (n + 9 * i) := by
  unfold b_parts
  rw [List.range_succ, List.flatMap_append]
  simp
theorem b_part_len (n : Nat) : (b_part n).length = 9 := rfl
theorem b_parts_len (n i : Nat) : (b_parts n i).length = 9 * i := by
  induction i with
  | zero => rfl
  | succ i ih => rw [b_parts_succ, List.length_append, ih, b_part_len]; omega
theorem b_parts_wt (n i : Nat) : ab_wt (pg_G L xs) (b_parts n i) = 76 * i := by
  induction i with
  | zero => rfl
  | succ i ih =>
    rw [b_parts_succ, ab_wt_app, ih]
    show 76 * i + 76 = _
    omega
theorem a_parts_succ (n i : Nat) : va_up (a_parts n i) i (some (n + 9 * i)) = a_parts n (i + 1) := by
  funext k
  unfold va_up a_parts
  by_cases h : k = i
  · subst h
    rw [if_pos rfl, if_pos (by omega)]
  · rw [if_neg h]
    by_cases h2 : k < i
    · rw [if_pos h2, if_pos (by omega)]
    · rw [if_neg h2, if_neg (by omega)]
theorem i32_nat (i : Nat) (h : i < 2147483648) : (Int32.ofNat i).toNatClampNeg = i := by
  rw [Int32.toNatClampNeg, Int32.toInt_ofNat_of_lt h]
  rfl
theorem i32_in (i n : Nat) (h : i < n) (hn : n < 2147483648) : vp_in (Int32.ofNat i) n := by
  intro e
  rcases e with e | e
  · rw [Int32.lt_iff_toInt_lt, Int32.toInt_ofNat_of_lt (by omega)] at e
    have : (0 : Int32).toInt = 0 := rfl
    omega
  · rw [i32_nat i (by omega)] at e
    omega
theorem i32_le (i n : Nat) (hi : i < 2147483648) (hn : n < 2147483648) : Int32.ofNat n ≤ Int32.ofNat i ↔ n ≤ i := by
  rw [Int32.le_iff_toInt_le, Int32.toInt_ofNat_of_lt hi, Int32.toInt_ofNat_of_lt hn]
  omega
theorem i32_add (i n : Nat) : Int32.ofNat i + Int32.ofNat n = Int32.ofNat (i + n) := by
  rw [Int32.ofNat_add]
end Ct
