/-! OURS, printed by wip/tools/gen80.py: memory (ints, bits, references by object and place), the heap it renders, reads and writes. -/
abbrev zi (x : Int) : Value := .int (Int32.ofInt x)
abbrev mm : Type := (Nat → Int → Int) × (Nat → Int → Bool) × (Nat → Nat → Nat)
abbrev oI (n : Nat) (I : Int → Int) : ab_O := .inl (0, n, .inl (fun k => Int32.ofInt (I k)))
abbrev oC (n : Nat) (I : Int → Int) : ab_O := .inl (2, n, .inl (fun k => Int32.ofInt (I k)))
abbrev oL (n : Nat) (B : Int → Bool) : ab_O := .inl (1, n, .inr (.inl (fun k => wd (fun i => B (64 * (k : Int) + (i : Int))))))
/-- an object of a part's block -/
def rnQ (p : Nat) (I : Int → Int) (B : Int → Bool) (R : Nat → Nat) : Nat → ab_O
  | 0 => .inr (2, [zi (I 0), zi (I 1), zi (I 2), .ref (R 3), .ref (R 4), .ref (p + 1), .ref (p + 3), zi (I 7), zi (I 8), .ref (p + 5), .ref (p + 6), .ref (p + 7), .ref (p + 8), zi (I 13)])
  | 1 => .inr (4, [.ref (p + 2)])
  | 2 => oL 18 B
  | 3 => .inr (4, [.ref (p + 4)])
  | 4 => oL 18 B
  | _ => oI 6 I
def rnP (n : Nat) (I : Int → Int) (B : Int → Bool) (R : Nat → Nat) (i : Nat) : ab_O :=
  if i = 0 then .inr (3, [.ref (n + 1), zi (I 1), zi (I 2), .ref (n + 2), zi (I 4), .ref (R 5)])
  else if i = 1 then oC 16 I
  else if i = 2 then .inl (3, 31, .inr (.inr (.inr (.inr (a_parts (n + 3) 31)))))
  else rnQ (n + 3 + 9 * ((i - 3) / 9)) I B R ((i - 3) % 9)
def rnM (I : Int → Int) (B : Int → Bool) : Nat → ab_O
  | 0 => .inr (5, [.ref 573, .ref 574, zi (I 2), .ref 575, zi (I 4), zi (I 5), zi (I 6), .ref 576, .ref 577, .ref 578, .ref 579, .ref 580, .ref 581, zi (I 13), .ref 582, .ref 583, .ref 584, .ref 585, .ref 586, .ref 587, .ref 588, .ref 589, .ref 590, zi (I 23), .ref 591, .ref 592, .ref 593, zi (I 27), zi (I 28), zi (I 29), zi (I 30), zi (I 31), zi (I 32), .ref 594, zi (I 34), zi (I 35), .ref 595, .ref 596, .ref 597, .ref 598, zi (I 40), zi (I 41), .ref 599, .ref 600, .ref 601, .ref 602, .ref 603, zi (I 47), .ref 604, .ref 605, .ref 606, .ref 607, zi (I 52), zi (I 53), .ref 608, .ref 609, .ref 610, .ref 611, .ref 612, zi (I 59), .ref 613, .ref 614, .ref 615, zi (I 63), .ref 616, .ref 617, .ref 618, zi (I 67)])
  | 1 => .inl (0, 8, .inl m_before)
  | 2 => .inl (0, 7, .inl m_powers)
  | 3 => oI 16 I
  | 4 => oI 32 I
  | 5 => oI 32 I
  | 6 => oI 32 I
  | 7 => oI 32 I
  | 8 => oL 576 B
  | 9 => oL 576 B
  | 10 => oI 32 I
  | 11 => oI 32 I
  | 12 => oI 32 I
  | 13 => oI 32 I
  | 14 => oI 32 I
  | 15 => oL 576 B
  | 16 => oL 576 B
  | 17 => oI 1093 I
  | 18 => oI 32 I
  | 19 => oI 32 I
  | 20 => oI 32 I
  | 21 => oI 32 I
  | 22 => oL 18 B
  | 23 => oI 6 I
  | 24 => oI 6 I
  | 25 => oI 6 I
  | 26 => oI 256 I
  | 27 => oI 256 I
  | 28 => oI 256 I
  | 29 => oI 256 I
  | 30 => oI 256 I
  | 31 => oI 256 I
  | 32 => oI 256 I
  | 33 => oI 256 I
  | 34 => oI 256 I
  | 35 => oI 256 I
  | 36 => oI 256 I
  | 37 => oI 256 I
  | 38 => oI 256 I
  | 39 => oI 256 I
  | 40 => oI 256 I
  | 41 => oI 6 I
  | 42 => oI 6 I
  | 43 => oI 6 I
  | 44 => oI 6 I
  | 45 => oI 6 I
  | 46 => oI 6 I
  | _ => .inr (5, [])
def rn (I : Int → Int) (B : Int → Bool) (R : Nat → Nat) (a : Nat) : ab_O :=
  if a < 5 then (match a with
    | 0 => .inr (0, [.ref 1, zi (I 1), .ref 2, .ref (R 3), .ref (R 4), zi (I 5), zi (I 6), zi (I 7), zi (I 8), .ref 569, zi (I 10), .ref 570, zi (I 12)])
    | 1 => oC 16 I
    | 2 => .inr (1, [.ref 3, .ref 4, zi (I 2), zi (I 3)])
    | _ => oI 1093 I)
  else if a < 287 then rnP 5 I B R (a - 5)
  else if a < 569 then rnP 287 I B R (a - 287)
  else if a < 572 then (match a - 569 with
    | 0 => oI 6 I
    | 1 => .inr (4, [.ref 571])
    | _ => oL 18 B)
  else rnM I B (a - 572)
def ob (M : mm) (a : Nat) : ab_O := rn (M.1 a) (M.2.1 a) (M.2.2 a) a
/-- how many objects; not to be unfolded -/
noncomputable def hpN : Nat := Classical.choose (⟨619, rfl⟩ : ∃ n : Nat, n = 619)
theorem hpN_eq : hpN = 619 := Classical.choose_spec (⟨619, rfl⟩ : ∃ n : Nat, n = 619)
noncomputable def hp (M : mm) : ab_H := (List.range hpN).map (ob M)
theorem hp_len (M : mm) : (hp M).length = 619 := by unfold hp; rw [List.length_map, List.length_range, hpN_eq]
theorem hp_at (M : mm) (es : ab_H) {a : Nat} (h : a < 619) : (hp M ++ es)[a]? = some (ob M a) := by
  rw [List.getElem?_append_left (by rw [hp_len]; exact h)]
  unfold hp
  rw [List.getElem?_map, List.getElem?_range (by rw [hpN_eq]; exact h)]
  rfl
theorem hp_set {M M' : mm} {es : ab_H} {a : Nat} {o : ab_O} (h : a < 619) (e : ob M' a = o) (hn : ∀ b, b ≠ a → ob M' b = ob M b) : (hp M ++ es).set a o = hp M' ++ es := by
  apply List.ext_getElem?
  intro i
  rw [List.getElem?_set]
  split
  · rename_i hi
    subst hi
    rw [hp_at M' es h, e, if_pos (by rw [List.length_append, hp_len]; omega)]
  · rename_i hi
    rcases Nat.lt_or_ge i 619 with h1 | h1
    · rw [hp_at M es h1, hp_at M' es h1, hn i (fun e => hi e.symm)]
    · rw [List.getElem?_append_right (by rw [hp_len]; exact h1), List.getElem?_append_right (by rw [hp_len]; exact h1), hp_len, hp_len]
/-- writes -/
def sI (M : mm) (a : Nat) (k x : Int) : mm := (fun b j => if b = a ∧ j = k then x else M.1 b j, M.2.1, M.2.2)
def sB (M : mm) (a : Nat) (k : Int) (x : Bool) : mm := (M.1, fun b j => if b = a ∧ j = k then x else M.2.1 b j, M.2.2)
def sR (M : mm) (a k x : Nat) : mm := (M.1, M.2.1, fun b j => if b = a ∧ j = k then x else M.2.2 b j)
/-- a row of ints, of bits, as a whole -/
def rI (M : mm) (a : Nat) (f : Int → Int) : mm := (fun b => if b = a then f else M.1 b, M.2.1, M.2.2)
def rB (M : mm) (a : Nat) (f : Int → Bool) : mm := (M.1, fun b => if b = a then f else M.2.1 b, M.2.2)
def upi (I : Int → Int) (k x : Int) : Int → Int := fun j => if j = k then x else I j
def upr (R : Nat → Nat) (k x : Nat) : Nat → Nat := fun j => if j = k then x else R j
theorem sI_at (M : mm) (a : Nat) (k x : Int) : (sI M a k x).1 a = upi (M.1 a) k x := by
  funext j; unfold sI upi; simp
theorem sI_ne {M : mm} {a b : Nat} {k x : Int} (h : b ≠ a) : (sI M a k x).1 b = M.1 b := by
  funext j; unfold sI; simp [h]
theorem sR_at (M : mm) (a k x : Nat) : (sR M a k x).2.2 a = upr (M.2.2 a) k x := by
  funext j; unfold sR upr; simp
theorem sR_ne {M : mm} {a b k x : Nat} (h : b ≠ a) : (sR M a k x).2.2 b = M.2.2 b := by
  funext j; unfold sR; simp [h]
theorem rI_at (M : mm) (a : Nat) (f : Int → Int) : (rI M a f).1 a = f := by unfold rI; simp
theorem rI_ne {M : mm} {a b : Nat} {f : Int → Int} (h : b ≠ a) : (rI M a f).1 b = M.1 b := by unfold rI; simp [h]
theorem rB_at (M : mm) (a : Nat) (f : Int → Bool) : (rB M a f).2.1 a = f := by unfold rB; simp
theorem rB_ne {M : mm} {a b : Nat} {f : Int → Bool} (h : b ≠ a) : (rB M a f).2.1 b = M.2.1 b := by unfold rB; simp [h]
theorem hp_sI {M : mm} {es : ab_H} {a : Nat} {k x : Int} {o : ab_O} (h : a < 619) (e : rn (upi (M.1 a) k x) (M.2.1 a) (M.2.2 a) a = o) : (hp M ++ es).set a o = hp (sI M a k x) ++ es := by
  apply hp_set h
  · rw [← e]; unfold ob; rw [sI_at]; rfl
  · intro b hb; unfold ob; rw [sI_ne hb]; rfl
theorem hp_sR {M : mm} {es : ab_H} {a k x : Nat} {o : ab_O} (h : a < 619) (e : rn (M.1 a) (M.2.1 a) (upr (M.2.2 a) k x) a = o) : (hp M ++ es).set a o = hp (sR M a k x) ++ es := by
  apply hp_set h
  · rw [← e]; unfold ob; rw [sR_at]; rfl
  · intro b hb; unfold ob; rw [sR_ne hb]; rfl
theorem hp_rI {M : mm} {es : ab_H} {a : Nat} {f : Int → Int} {o : ab_O} (h : a < 619) (e : rn f (M.2.1 a) (M.2.2 a) a = o) : (hp M ++ es).set a o = hp (rI M a f) ++ es := by
  apply hp_set h
  · rw [← e]; unfold ob; rw [rI_at]; rfl
  · intro b hb; unfold ob; rw [rI_ne hb]; rfl
theorem hp_rB {M : mm} {es : ab_H} {a : Nat} {f : Int → Bool} {o : ab_O} (h : a < 619) (e : rn (M.1 a) f (M.2.2 a) a = o) : (hp M ++ es).set a o = hp (rB M a f) ++ es := by
  apply hp_set h
  · rw [← e]; unfold ob; rw [rB_at]; rfl
  · intro b hb; unfold ob; rw [rB_ne hb]; rfl
/-- where parts stand -/
def isP (p : Nat) : Prop := ∃ k, k < 31 ∧ (p = 8 + 9 * k ∨ p = 290 + 9 * k)
theorem isP_lt {p : Nat} (h : isP p) : p + 8 < 619 := by
  obtain ⟨k, hk, e⟩ := h
  omega
theorem rn_Q {p : Nat} (h : isP p) (I : Int → Int) (B : Int → Bool) (R : Nat → Nat) (m : Nat) (hm : m < 9) : rn I B R (p + m) = rnQ p I B R m := by
  obtain ⟨k, hk, e⟩ := h
  unfold rn
  rcases e with e | e
  · subst e
    rw [if_neg (by omega), if_pos (by omega)]
    unfold rnP
    rw [if_neg (by omega), if_neg (by omega), if_neg (by omega), show (8 + 9 * k + m - 5 - 3) / 9 = k by omega, show (8 + 9 * k + m - 5 - 3) % 9 = m by omega]
  · subst e
    rw [if_neg (by omega), if_neg (by omega), if_pos (by omega)]
    unfold rnP
    rw [if_neg (by omega), if_neg (by omega), if_neg (by omega), show (290 + 9 * k + m - 287 - 3) / 9 = k by omega, show (290 + 9 * k + m - 287 - 3) % 9 = m by omega]
