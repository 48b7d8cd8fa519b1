/-! OURS, printed by wip/tools/gen60.py: type, in the class and in the reference. -/
theorem nz32 {v : Int32} (h : 32 ≤ v) : ¬ v = 0 := by
  intro e
  subst e
  exact absurd h (by decide)
/-- c characters are typed, all of them good -/
def okc (x : Int32) (c : Nat) : Prop := (∀ k, k < c → 32 ≤ byt x (Int32.ofNat k) ∧ byt x (Int32.ofNat k) ≤ 126) ∧ (c < 4 → byt x (Int32.ofNat c) = 0)
/-- the character at c is a bad one, those before it are good -/
def bdc (x : Int32) (c : Nat) : Prop := (∀ k, k < c → 32 ≤ byt x (Int32.ofNat k) ∧ byt x (Int32.ofNat k) ≤ 126) ∧ ¬ byt x (Int32.ofNat c) = 0 ∧ (byt x (Int32.ofNat c) < 32 ∨ ¬ byt x (Int32.ofNat c) < 32 ∧ ¬ byt x (Int32.ofNat c) ≤ 126)
theorem ok_or_bad (x : Int32) : (∃ c, c ≤ 4 ∧ okc x c) ∨ ∃ c, c < 4 ∧ bdc x c := by
  have st : ∀ c, c ≤ 4 → (∀ k, k < c → 32 ≤ byt x (Int32.ofNat k) ∧ byt x (Int32.ofNat k) ≤ 126) ∨ (∃ c, c ≤ 4 ∧ okc x c) ∨ ∃ c, c < 4 ∧ bdc x c := by
    intro c
    induction c with
    | zero => intro _; exact Or.inl (fun k hk => absurd hk (Nat.not_lt_zero k))
    | succ c ih =>
      intro hc
      rcases ih (by omega) with h | h
      · by_cases h0 : byt x (Int32.ofNat c) = 0
        · exact Or.inr (Or.inl ⟨c, by omega, h, fun _ => h0⟩)
        · by_cases h1 : byt x (Int32.ofNat c) < 32
          · exact Or.inr (Or.inr ⟨c, by omega, h, h0, Or.inl h1⟩)
          · by_cases h2 : byt x (Int32.ofNat c) ≤ 126
            · left
              intro k hk
              by_cases e : k = c
              · subst e; exact ⟨Int32.not_lt.mp h1, h2⟩
              · exact h k (by omega)
            · exact Or.inr (Or.inr ⟨c, by omega, h, h0, Or.inr ⟨h1, h2⟩⟩)
      · exact Or.inr h
  rcases st 4 (by omega) with h | h
  · exact Or.inl ⟨4, by omega, h, fun z => absurd z (by omega)⟩
  · exact h
def ups (g : Nat → Int32) (n : Nat) (x : Int32) : Nat → Nat → Int32
  | 0 => g
  | c + 1 => upd (ups g n x c) (n + c) (byt x (Int32.ofNat c))
section Ty
variable {L : Nat} {xs : Nat → Int32}
theorem fs_id {fs : List Value} {k : Nat} {v : Value} (e : fs[k]? = some v) : fs.set k v = fs := by
  apply List.ext_getElem?
  intro i
  rw [List.getElem?_set]
  split
  · rename_i hi
    subst hi
    rw [e, if_pos (List.getElem?_eq_some_iff.mp e).1]
  · rfl
theorem c_52 (d : Nat) {h : ab_H} {x k : Int32} : ab_S (pg_G L xs) (d + 1) 52 [.int x, .int k] h (some (.int (byt x k))) h := by
  show ab_W (pg_G L xs) (ab_X (pg_G L xs) d) 52 _ 0 [some (.int x), some (.int k)] [] h
  refine x_ld 0 1 0 1 rfl rfl rfl rfl rfl ?_
  refine x_cst (.int 8) 2 3 rfl rfl rfl ?_
  refine x_ld 1 1 0 4 rfl rfl rfl rfl rfl ?_
  refine x_bin (8 * k) 5 rfl rfl rfl rfl ?_
  refine x_bin ((x.toUInt32 >>> ((8 * k).toUInt32 &&& Int32.toUInt32 31)).toInt32) 6 rfl rfl rfl rfl ?_
  refine x_cst (.int 255) 3 9 rfl rfl rfl ?_
  refine x_bin (((x.toUInt32 >>> ((8 * k).toUInt32 &&& Int32.toUInt32 31)).toInt32) &&& 255) 10 rfl rfl rfl rfl ?_
  refine x_ret rfl rfl rfl rfl ?_
  exact ⟨rfl, rfl⟩
theorem t51_0 (d : Nat) {h : ab_H} {a ln n : Nat} {x : Int32} {g : Nat → Int32} {f2 f3 f4 f5 f6 f7 f8 f9 f10 f11 f12 : Value} (ha : h[a]? = some (.inr (0, [.ref ln, .int (Int32.ofNat n), f2, f3, f4, f5, f6, f7, f8, f9, f10, f11, f12]))) (hl : h[ln]? = some (.inl (2, 16, .inl g))) (hne : ln ≠ a) (hn : n ≤ 16) (H : okc x 0) (hf : n + 0 ≤ 16) : ab_S (pg_G L xs) (d + 2) 51 [.ref a, .int x] h (some (.int 1)) ((h.set ln (.inl (2, 16, .inl (ups g n x 0)))).set a (.inr (0, [.ref ln, .int (Int32.ofNat (n + 0)), f2, f3, f4, f5, f6, f7, f8, f9, f10, f11, f12]))) := by
  show ab_W (pg_G L xs) (ab_X (pg_G L xs) (d + 1)) 51 _ 0 [some (.ref a), some (.int x), none, none] [] h
  have Z := H.2 (by decide)
  refine x_cst (.int 0) 1 1 rfl rfl rfl ?_
  refine x_st 2 1 0 2 [some (.ref a), some (.int x), some (.int 0), none] rfl rfl rfl (Nat.le_of_ble_eq_true rfl) rfl rfl ?_
  refine x_ld 2 1 0 3 rfl rfl rfl rfl rfl ?_
  refine x_cst (.int 4) 1 4 rfl rfl rfl ?_
  refine x_icge 49 7 rfl rfl rfl (fun c => absurd c (by decide)) (fun _ => ?_)
  refine x_ld 1 1 0 8 rfl rfl rfl rfl rfl ?_
  refine x_ld 2 1 0 9 rfl rfl rfl rfl rfl ?_
  refine x_cv 64 52 12 [.int x, .int 0] rfl rfl rfl (Nat.le_of_ble_eq_true rfl) rfl rfl (Nat.le_of_ble_eq_true rfl) trivial (Nat.le_of_ble_eq_true rfl) (c_52 (L := L) (xs := xs) d) rfl ?_
  refine x_ifeq 49 15 rfl rfl rfl (fun _ => ?_) (fun c => absurd Z c)
  refine x_ld 0 1 2 50 rfl rfl rfl rfl rfl ?_
  refine x_get 13 0 1 53 rfl rfl ha rfl rfl ?_
  refine x_ld 2 1 0 54 rfl rfl rfl rfl rfl ?_
  refine x_bin (Int32.ofNat (n + 0)) 55 rfl rfl (i32_add n 0) rfl ?_
  refine x_cst (.int 16) 2 57 rfl rfl rfl ?_
  refine x_icle 62 60 rfl rfl rfl (fun _ => ?_) (fun c => absurd ((i32_le 16 (n + 0) (by decide) (by omega)).mpr hf) c)
  refine x_cst (.int 0) 1 63 rfl rfl rfl ?_
  refine x_st 3 1 0 64 [some (.ref a), some (.int x), some (.int 0), some (.int 0)] rfl rfl rfl (Nat.le_of_ble_eq_true rfl) rfl rfl ?_
  refine x_ld 3 1 0 65 rfl rfl rfl rfl rfl ?_
  refine x_ld 2 1 0 66 rfl rfl rfl rfl rfl ?_
  refine x_icge 92 69 rfl rfl rfl (fun _ => ?_) (fun c => absurd (by decide) c)
  refine x_ld 0 1 2 93 rfl rfl rfl rfl rfl ?_
  refine x_dup 94 rfl rfl rfl ?_
  refine x_get 13 0 1 97 rfl rfl ha rfl rfl ?_
  refine x_ld 2 1 0 98 rfl rfl rfl rfl rfl ?_
  refine x_bin (Int32.ofNat (n + 0)) 99 rfl rfl (i32_add n 0) rfl ?_
  refine x_put 13 0 1 102 rfl rfl ha (Nat.le_of_ble_eq_true rfl) rfl rfl rfl _ rfl rfl ?_
  refine x_cst (.int 1) 1 103 rfl rfl rfl ?_
  refine x_ret rfl rfl rfl rfl ?_
  exact ⟨rfl, by show _ = (h.set ln _).set a _; rw [show h.set ln (.inl (2, 16, .inl (ups g n x 0))) = h from set_id hl]; rfl⟩
theorem f51_0 (d : Nat) {h : ab_H} {a ln n : Nat} {x : Int32} {g : Nat → Int32} {f2 f3 f4 f5 f6 f7 f8 f9 f10 f11 f12 : Value} (ha : h[a]? = some (.inr (0, [.ref ln, .int (Int32.ofNat n), f2, f3, f4, f5, f6, f7, f8, f9, f10, f11, f12]))) (hl : h[ln]? = some (.inl (2, 16, .inl g))) (hne : ln ≠ a) (hn : n ≤ 16) (H : okc x 0) (hf : ¬ n + 0 ≤ 16) : ab_S (pg_G L xs) (d + 2) 51 [.ref a, .int x] h (some (.int 0)) h := by
  show ab_W (pg_G L xs) (ab_X (pg_G L xs) (d + 1)) 51 _ 0 [some (.ref a), some (.int x), none, none] [] h
  have Z := H.2 (by decide)
  refine x_cst (.int 0) 1 1 rfl rfl rfl ?_
  refine x_st 2 1 0 2 [some (.ref a), some (.int x), some (.int 0), none] rfl rfl rfl (Nat.le_of_ble_eq_true rfl) rfl rfl ?_
  refine x_ld 2 1 0 3 rfl rfl rfl rfl rfl ?_
  refine x_cst (.int 4) 1 4 rfl rfl rfl ?_
  refine x_icge 49 7 rfl rfl rfl (fun c => absurd c (by decide)) (fun _ => ?_)
  refine x_ld 1 1 0 8 rfl rfl rfl rfl rfl ?_
  refine x_ld 2 1 0 9 rfl rfl rfl rfl rfl ?_
  refine x_cv 64 52 12 [.int x, .int 0] rfl rfl rfl (Nat.le_of_ble_eq_true rfl) rfl rfl (Nat.le_of_ble_eq_true rfl) trivial (Nat.le_of_ble_eq_true rfl) (c_52 (L := L) (xs := xs) d) rfl ?_
  refine x_ifeq 49 15 rfl rfl rfl (fun _ => ?_) (fun c => absurd Z c)
  refine x_ld 0 1 2 50 rfl rfl rfl rfl rfl ?_
  refine x_get 13 0 1 53 rfl rfl ha rfl rfl ?_
  refine x_ld 2 1 0 54 rfl rfl rfl rfl rfl ?_
  refine x_bin (Int32.ofNat (n + 0)) 55 rfl rfl (i32_add n 0) rfl ?_
  refine x_cst (.int 16) 2 57 rfl rfl rfl ?_
  refine x_icle 62 60 rfl rfl rfl (fun c => absurd c (fun z => absurd ((i32_le 16 (n + 0) (by decide) (by omega)).mp z) (by omega))) (fun _ => ?_)
  refine x_cst (.int 0) 1 61 rfl rfl rfl ?_
  refine x_ret rfl rfl rfl rfl ?_
  exact ⟨rfl, rfl⟩
theorem b51_0 (d : Nat) {h : ab_H} {a ln n : Nat} {x : Int32} {g : Nat → Int32} {f2 f3 f4 f5 f6 f7 f8 f9 f10 f11 f12 : Value} (ha : h[a]? = some (.inr (0, [.ref ln, .int (Int32.ofNat n), f2, f3, f4, f5, f6, f7, f8, f9, f10, f11, f12]))) (hl : h[ln]? = some (.inl (2, 16, .inl g))) (hne : ln ≠ a) (hn : n ≤ 16) (H : bdc x 0) (h1 : h.length + 1 ≤ 600000) (h2 : ab_wt (pg_G L xs) h + 6 ≤ 7000000) : ab_X (pg_G L xs) (d + 2) 51 [.ref a, .int x] h (fun r h' => r = .inr h.length ∧ h' = h ++ [.inr (6, [])]) := by
  show ab_W (pg_G L xs) (ab_X (pg_G L xs) (d + 1)) 51 _ 0 [some (.ref a), some (.int x), none, none] [] h
  obtain ⟨-, B0, B1 | ⟨B1, B2⟩⟩ := H
  · refine x_cst (.int 0) 1 1 rfl rfl rfl ?_
    refine x_st 2 1 0 2 [some (.ref a), some (.int x), some (.int 0), none] rfl rfl rfl (Nat.le_of_ble_eq_true rfl) rfl rfl ?_
    refine x_ld 2 1 0 3 rfl rfl rfl rfl rfl ?_
    refine x_cst (.int 4) 1 4 rfl rfl rfl ?_
    refine x_icge 49 7 rfl rfl rfl (fun c => absurd c (by decide)) (fun _ => ?_)
    refine x_ld 1 1 0 8 rfl rfl rfl rfl rfl ?_
    refine x_ld 2 1 0 9 rfl rfl rfl rfl rfl ?_
    refine x_cv 64 52 12 [.int x, .int 0] rfl rfl rfl (Nat.le_of_ble_eq_true rfl) rfl rfl (Nat.le_of_ble_eq_true rfl) trivial (Nat.le_of_ble_eq_true rfl) (c_52 (L := L) (xs := xs) d) rfl ?_
    refine x_ifeq 49 15 rfl rfl rfl (fun c => absurd c B0) (fun _ => ?_)
    refine x_ld 1 1 0 16 rfl rfl rfl rfl rfl ?_
    refine x_ld 2 1 0 17 rfl rfl rfl rfl rfl ?_
    refine x_cv 64 52 20 [.int x, .int 0] rfl rfl rfl (Nat.le_of_ble_eq_true rfl) rfl rfl (Nat.le_of_ble_eq_true rfl) trivial (Nat.le_of_ble_eq_true rfl) (c_52 (L := L) (xs := xs) d) rfl ?_
    refine x_st 3 1 0 21 [some (.ref a), some (.int x), some (.int 0), some (.int (byt x 0))] rfl rfl rfl (Nat.le_of_ble_eq_true rfl) rfl rfl ?_
    refine x_ld 3 1 0 22 rfl rfl rfl rfl rfl ?_
    refine x_cst (.int 32) 2 24 rfl rfl rfl ?_
    refine x_iclt 33 27 rfl rfl rfl (fun _ => ?_) (fun c => absurd B1 c)
    refine x_thr 68 6 70 72 rfl rfl rfl rfl rfl rfl rfl rfl h1 h2 (Nat.le_of_ble_eq_true rfl) ?_
    exact ⟨rfl, rfl⟩
  · refine x_cst (.int 0) 1 1 rfl rfl rfl ?_
    refine x_st 2 1 0 2 [some (.ref a), some (.int x), some (.int 0), none] rfl rfl rfl (Nat.le_of_ble_eq_true rfl) rfl rfl ?_
    refine x_ld 2 1 0 3 rfl rfl rfl rfl rfl ?_
    refine x_cst (.int 4) 1 4 rfl rfl rfl ?_
    refine x_icge 49 7 rfl rfl rfl (fun c => absurd c (by decide)) (fun _ => ?_)
    refine x_ld 1 1 0 8 rfl rfl rfl rfl rfl ?_
    refine x_ld 2 1 0 9 rfl rfl rfl rfl rfl ?_
    refine x_cv 64 52 12 [.int x, .int 0] rfl rfl rfl (Nat.le_of_ble_eq_true rfl) rfl rfl (Nat.le_of_ble_eq_true rfl) trivial (Nat.le_of_ble_eq_true rfl) (c_52 (L := L) (xs := xs) d) rfl ?_
    refine x_ifeq 49 15 rfl rfl rfl (fun c => absurd c B0) (fun _ => ?_)
    refine x_ld 1 1 0 16 rfl rfl rfl rfl rfl ?_
    refine x_ld 2 1 0 17 rfl rfl rfl rfl rfl ?_
    refine x_cv 64 52 20 [.int x, .int 0] rfl rfl rfl (Nat.le_of_ble_eq_true rfl) rfl rfl (Nat.le_of_ble_eq_true rfl) trivial (Nat.le_of_ble_eq_true rfl) (c_52 (L := L) (xs := xs) d) rfl ?_
    refine x_st 3 1 0 21 [some (.ref a), some (.int x), some (.int 0), some (.int (byt x 0))] rfl rfl rfl (Nat.le_of_ble_eq_true rfl) rfl rfl ?_
    refine x_ld 3 1 0 22 rfl rfl rfl rfl rfl ?_
    refine x_cst (.int 32) 2 24 rfl rfl rfl ?_
    refine x_iclt 33 27 rfl rfl rfl (fun c => absurd c B1) (fun _ => ?_)
    refine x_ld 3 1 0 28 rfl rfl rfl rfl rfl ?_
    refine x_cst (.int 126) 2 30 rfl rfl rfl ?_
    refine x_icle 43 33 rfl rfl rfl (fun c => absurd c B2) (fun _ => ?_)
    refine x_thr 68 6 70 72 rfl rfl rfl rfl rfl rfl rfl rfl h1 h2 (Nat.le_of_ble_eq_true rfl) ?_
    exact ⟨rfl, rfl⟩
theorem t51_1 (d : Nat) {h : ab_H} {a ln n : Nat} {x : Int32} {g : Nat → Int32} {f2 f3 f4 f5 f6 f7 f8 f9 f10 f11 f12 : Value} (ha : h[a]? = some (.inr (0, [.ref ln, .int (Int32.ofNat n), f2, f3, f4, f5, f6, f7, f8, f9, f10, f11, f12]))) (hl : h[ln]? = some (.inl (2, 16, .inl g))) (hne : ln ≠ a) (hn : n ≤ 16) (H : okc x 1) (hf : n + 1 ≤ 16) : ab_S (pg_G L xs) (d + 2) 51 [.ref a, .int x] h (some (.int 1)) ((h.set ln (.inl (2, 16, .inl (ups g n x 1)))).set a (.inr (0, [.ref ln, .int (Int32.ofNat (n + 1)), f2, f3, f4, f5, f6, f7, f8, f9, f10, f11, f12]))) := by
  show ab_W (pg_G L xs) (ab_X (pg_G L xs) (d + 1)) 51 _ 0 [some (.ref a), some (.int x), none, none] [] h
  have K0 : 32 ≤ byt x 0 ∧ byt x 0 ≤ 126 := H.1 0 (by decide)
  have Z := H.2 (by decide)
  refine x_cst (.int 0) 1 1 rfl rfl rfl ?_
  refine x_st 2 1 0 2 [some (.ref a), some (.int x), some (.int 0), none] rfl rfl rfl (Nat.le_of_ble_eq_true rfl) rfl rfl ?_
  refine x_ld 2 1 0 3 rfl rfl rfl rfl rfl ?_
  refine x_cst (.int 4) 1 4 rfl rfl rfl ?_
  refine x_icge 49 7 rfl rfl rfl (fun c => absurd c (by decide)) (fun _ => ?_)
  refine x_ld 1 1 0 8 rfl rfl rfl rfl rfl ?_
  refine x_ld 2 1 0 9 rfl rfl rfl rfl rfl ?_
  refine x_cv 64 52 12 [.int x, .int 0] rfl rfl rfl (Nat.le_of_ble_eq_true rfl) rfl rfl (Nat.le_of_ble_eq_true rfl) trivial (Nat.le_of_ble_eq_true rfl) (c_52 (L := L) (xs := xs) d) rfl ?_
  refine x_ifeq 49 15 rfl rfl rfl (fun c => absurd c (nz32 K0.1)) (fun _ => ?_)
  refine x_ld 1 1 0 16 rfl rfl rfl rfl rfl ?_
  refine x_ld 2 1 0 17 rfl rfl rfl rfl rfl ?_
  refine x_cv 64 52 20 [.int x, .int 0] rfl rfl rfl (Nat.le_of_ble_eq_true rfl) rfl rfl (Nat.le_of_ble_eq_true rfl) trivial (Nat.le_of_ble_eq_true rfl) (c_52 (L := L) (xs := xs) d) rfl ?_
  refine x_st 3 1 0 21 [some (.ref a), some (.int x), some (.int 0), some (.int (byt x 0))] rfl rfl rfl (Nat.le_of_ble_eq_true rfl) rfl rfl ?_
  refine x_ld 3 1 0 22 rfl rfl rfl rfl rfl ?_
  refine x_cst (.int 32) 2 24 rfl rfl rfl ?_
  refine x_iclt 33 27 rfl rfl rfl (fun c => absurd c (Int32.not_lt.mpr K0.1)) (fun _ => ?_)
  refine x_ld 3 1 0 28 rfl rfl rfl rfl rfl ?_
  refine x_cst (.int 126) 2 30 rfl rfl rfl ?_
  refine x_icle 43 33 rfl rfl rfl (fun _ => ?_) (fun c => absurd K0.2 c)
  refine x_inc 2 1 1 46 [some (.ref a), some (.int x), some (.int 1), some (.int (byt x 0))] rfl rfl (Nat.le_of_ble_eq_true rfl) rfl rfl rfl ?_
  refine x_go 2 rfl rfl ?_
  refine x_ld 2 1 0 3 rfl rfl rfl rfl rfl ?_
  refine x_cst (.int 4) 1 4 rfl rfl rfl ?_
  refine x_icge 49 7 rfl rfl rfl (fun c => absurd c (by decide)) (fun _ => ?_)
  refine x_ld 1 1 0 8 rfl rfl rfl rfl rfl ?_
  refine x_ld 2 1 0 9 rfl rfl rfl rfl rfl ?_
  refine x_cv 64 52 12 [.int x, .int 1] rfl rfl rfl (Nat.le_of_ble_eq_true rfl) rfl rfl (Nat.le_of_ble_eq_true rfl) trivial (Nat.le_of_ble_eq_true rfl) (c_52 (L := L) (xs := xs) d) rfl ?_
  refine x_ifeq 49 15 rfl rfl rfl (fun _ => ?_) (fun c => absurd Z c)
  refine x_ld 0 1 2 50 rfl rfl rfl rfl rfl ?_
  refine x_get 13 0 1 53 rfl rfl ha rfl rfl ?_
  refine x_ld 2 1 0 54 rfl rfl rfl rfl rfl ?_
  refine x_bin (Int32.ofNat (n + 1)) 55 rfl rfl (i32_add n 1) rfl ?_
  refine x_cst (.int 16) 2 57 rfl rfl rfl ?_
  refine x_icle 62 60 rfl rfl rfl (fun _ => ?_) (fun c => absurd ((i32_le 16 (n + 1) (by decide) (by omega)).mpr hf) c)
  refine x_cst (.int 0) 1 63 rfl rfl rfl ?_
  refine x_st 3 1 0 64 [some (.ref a), some (.int x), some (.int 1), some (.int 0)] rfl rfl rfl (Nat.le_of_ble_eq_true rfl) rfl rfl ?_
  refine x_ld 3 1 0 65 rfl rfl rfl rfl rfl ?_
  refine x_ld 2 1 0 66 rfl rfl rfl rfl rfl ?_
  refine x_icge 92 69 rfl rfl rfl (fun c => absurd c (by decide)) (fun _ => ?_)
  refine x_ld 0 1 2 70 rfl rfl rfl rfl rfl ?_
  refine x_get 9 0 0 73 rfl rfl ha rfl rfl ?_
  refine x_ld 0 1 2 74 rfl rfl rfl rfl rfl ?_
  refine x_get 13 0 1 77 rfl rfl ha rfl rfl ?_
  refine x_ld 3 1 0 78 rfl rfl rfl rfl rfl ?_
  refine x_bin (Int32.ofNat (n + 0)) 79 rfl rfl (i32_add n 0) rfl ?_
  refine x_ld 1 1 0 80 rfl rfl rfl rfl rfl ?_
  refine x_ld 3 1 0 81 rfl rfl rfl rfl rfl ?_
  refine x_cv 64 52 84 [.int x, .int 0] rfl rfl rfl (Nat.le_of_ble_eq_true rfl) rfl rfl (Nat.le_of_ble_eq_true rfl) trivial (Nat.le_of_ble_eq_true rfl) (c_52 (L := L) (xs := xs) d) rfl ?_
  refine x_un (.int ((byt x 0).toUInt32 % 65536).toInt32) 85 rfl rfl rfl ?_
  refine x_cts 86 rfl hl rfl (i32_in (n + 0) 16 (by omega) (by decide)) _ (by rw [i32_nat (n + 0) (by omega), (i2c_id _ K0.1 K0.2).1, (i2c_id _ K0.1 K0.2).2]) rfl ?_
  refine x_inc 3 1 1 89 [some (.ref a), some (.int x), some (.int 1), some (.int 1)] rfl rfl (Nat.le_of_ble_eq_true rfl) rfl rfl rfl ?_
  refine x_go 64 rfl rfl ?_
  refine x_ld 3 1 0 65 rfl rfl rfl rfl rfl ?_
  refine x_ld 2 1 0 66 rfl rfl rfl rfl rfl ?_
  refine x_icge 92 69 rfl rfl rfl (fun _ => ?_) (fun c => absurd (by decide) c)
  refine x_ld 0 1 2 93 rfl rfl rfl rfl rfl ?_
  refine x_dup 94 rfl rfl rfl ?_
  refine x_get 13 0 1 97 rfl rfl ((set_ne hne).trans ha) rfl rfl ?_
  refine x_ld 2 1 0 98 rfl rfl rfl rfl rfl ?_
  refine x_bin (Int32.ofNat (n + 1)) 99 rfl rfl (i32_add n 1) rfl ?_
  refine x_put 13 0 1 102 rfl rfl ((set_ne hne).trans ha) (Nat.le_of_ble_eq_true rfl) rfl rfl rfl _ rfl rfl ?_
  refine x_cst (.int 1) 1 103 rfl rfl rfl ?_
  refine x_ret rfl rfl rfl rfl ?_
  exact ⟨rfl, rfl⟩
theorem f51_1 (d : Nat) {h : ab_H} {a ln n : Nat} {x : Int32} {g : Nat → Int32} {f2 f3 f4 f5 f6 f7 f8 f9 f10 f11 f12 : Value} (ha : h[a]? = some (.inr (0, [.ref ln, .int (Int32.ofNat n), f2, f3, f4, f5, f6, f7, f8, f9, f10, f11, f12]))) (hl : h[ln]? = some (.inl (2, 16, .inl g))) (hne : ln ≠ a) (hn : n ≤ 16) (H : okc x 1) (hf : ¬ n + 1 ≤ 16) : ab_S (pg_G L xs) (d + 2) 51 [.ref a, .int x] h (some (.int 0)) h := by
  show ab_W (pg_G L xs) (ab_X (pg_G L xs) (d + 1)) 51 _ 0 [some (.ref a), some (.int x), none, none] [] h
  have K0 : 32 ≤ byt x 0 ∧ byt x 0 ≤ 126 := H.1 0 (by decide)
  have Z := H.2 (by decide)
  refine x_cst (.int 0) 1 1 rfl rfl rfl ?_
  refine x_st 2 1 0 2 [some (.ref a), some (.int x), some (.int 0), none] rfl rfl rfl (Nat.le_of_ble_eq_true rfl) rfl rfl ?_
  refine x_ld 2 1 0 3 rfl rfl rfl rfl rfl ?_
  refine x_cst (.int 4) 1 4 rfl rfl rfl ?_
  refine x_icge 49 7 rfl rfl rfl (fun c => absurd c (by decide)) (fun _ => ?_)
  refine x_ld 1 1 0 8 rfl rfl rfl rfl rfl ?_
  refine x_ld 2 1 0 9 rfl rfl rfl rfl rfl ?_
  refine x_cv 64 52 12 [.int x, .int 0] rfl rfl rfl (Nat.le_of_ble_eq_true rfl) rfl rfl (Nat.le_of_ble_eq_true rfl) trivial (Nat.le_of_ble_eq_true rfl) (c_52 (L := L) (xs := xs) d) rfl ?_
  refine x_ifeq 49 15 rfl rfl rfl (fun c => absurd c (nz32 K0.1)) (fun _ => ?_)
  refine x_ld 1 1 0 16 rfl rfl rfl rfl rfl ?_
  refine x_ld 2 1 0 17 rfl rfl rfl rfl rfl ?_
  refine x_cv 64 52 20 [.int x, .int 0] rfl rfl rfl (Nat.le_of_ble_eq_true rfl) rfl rfl (Nat.le_of_ble_eq_true rfl) trivial (Nat.le_of_ble_eq_true rfl) (c_52 (L := L) (xs := xs) d) rfl ?_
  refine x_st 3 1 0 21 [some (.ref a), some (.int x), some (.int 0), some (.int (byt x 0))] rfl rfl rfl (Nat.le_of_ble_eq_true rfl) rfl rfl ?_
  refine x_ld 3 1 0 22 rfl rfl rfl rfl rfl ?_
  refine x_cst (.int 32) 2 24 rfl rfl rfl ?_
  refine x_iclt 33 27 rfl rfl rfl (fun c => absurd c (Int32.not_lt.mpr K0.1)) (fun _ => ?_)
  refine x_ld 3 1 0 28 rfl rfl rfl rfl rfl ?_
  refine x_cst (.int 126) 2 30 rfl rfl rfl ?_
  refine x_icle 43 33 rfl rfl rfl (fun _ => ?_) (fun c => absurd K0.2 c)
  refine x_inc 2 1 1 46 [some (.ref a), some (.int x), some (.int 1), some (.int (byt x 0))] rfl rfl (Nat.le_of_ble_eq_true rfl) rfl rfl rfl ?_
  refine x_go 2 rfl rfl ?_
  refine x_ld 2 1 0 3 rfl rfl rfl rfl rfl ?_
  refine x_cst (.int 4) 1 4 rfl rfl rfl ?_
  refine x_icge 49 7 rfl rfl rfl (fun c => absurd c (by decide)) (fun _ => ?_)
  refine x_ld 1 1 0 8 rfl rfl rfl rfl rfl ?_
  refine x_ld 2 1 0 9 rfl rfl rfl rfl rfl ?_
  refine x_cv 64 52 12 [.int x, .int 1] rfl rfl rfl (Nat.le_of_ble_eq_true rfl) rfl rfl (Nat.le_of_ble_eq_true rfl) trivial (Nat.le_of_ble_eq_true rfl) (c_52 (L := L) (xs := xs) d) rfl ?_
  refine x_ifeq 49 15 rfl rfl rfl (fun _ => ?_) (fun c => absurd Z c)
  refine x_ld 0 1 2 50 rfl rfl rfl rfl rfl ?_
  refine x_get 13 0 1 53 rfl rfl ha rfl rfl ?_
  refine x_ld 2 1 0 54 rfl rfl rfl rfl rfl ?_
  refine x_bin (Int32.ofNat (n + 1)) 55 rfl rfl (i32_add n 1) rfl ?_
  refine x_cst (.int 16) 2 57 rfl rfl rfl ?_
  refine x_icle 62 60 rfl rfl rfl (fun c => absurd c (fun z => absurd ((i32_le 16 (n + 1) (by decide) (by omega)).mp z) (by omega))) (fun _ => ?_)
  refine x_cst (.int 0) 1 61 rfl rfl rfl ?_
  refine x_ret rfl rfl rfl rfl ?_
  exact ⟨rfl, rfl⟩
theorem b51_1 (d : Nat) {h : ab_H} {a ln n : Nat} {x : Int32} {g : Nat → Int32} {f2 f3 f4 f5 f6 f7 f8 f9 f10 f11 f12 : Value} (ha : h[a]? = some (.inr (0, [.ref ln, .int (Int32.ofNat n), f2, f3, f4, f5, f6, f7, f8, f9, f10, f11, f12]))) (hl : h[ln]? = some (.inl (2, 16, .inl g))) (hne : ln ≠ a) (hn : n ≤ 16) (H : bdc x 1) (h1 : h.length + 1 ≤ 600000) (h2 : ab_wt (pg_G L xs) h + 6 ≤ 7000000) : ab_X (pg_G L xs) (d + 2) 51 [.ref a, .int x] h (fun r h' => r = .inr h.length ∧ h' = h ++ [.inr (6, [])]) := by
  show ab_W (pg_G L xs) (ab_X (pg_G L xs) (d + 1)) 51 _ 0 [some (.ref a), some (.int x), none, none] [] h
  have K0 : 32 ≤ byt x 0 ∧ byt x 0 ≤ 126 := H.1 0 (by decide)
  obtain ⟨-, B0, B1 | ⟨B1, B2⟩⟩ := H
  · refine x_cst (.int 0) 1 1 rfl rfl rfl ?_
    refine x_st 2 1 0 2 [some (.ref a), some (.int x), some (.int 0), none] rfl rfl rfl (Nat.le_of_ble_eq_true rfl) rfl rfl ?_
    refine x_ld 2 1 0 3 rfl rfl rfl rfl rfl ?_
    refine x_cst (.int 4) 1 4 rfl rfl rfl ?_
    refine x_icge 49 7 rfl rfl rfl (fun c => absurd c (by decide)) (fun _ => ?_)
    refine x_ld 1 1 0 8 rfl rfl rfl rfl rfl ?_
    refine x_ld 2 1 0 9 rfl rfl rfl rfl rfl ?_
    refine x_cv 64 52 12 [.int x, .int 0] rfl rfl rfl (Nat.le_of_ble_eq_true rfl) rfl rfl (Nat.le_of_ble_eq_true rfl) trivial (Nat.le_of_ble_eq_true rfl) (c_52 (L := L) (xs := xs) d) rfl ?_
    refine x_ifeq 49 15 rfl rfl rfl (fun c => absurd c (nz32 K0.1)) (fun _ => ?_)
    refine x_ld 1 1 0 16 rfl rfl rfl rfl rfl ?_
    refine x_ld 2 1 0 17 rfl rfl rfl rfl rfl ?_
    refine x_cv 64 52 20 [.int x, .int 0] rfl rfl rfl (Nat.le_of_ble_eq_true rfl) rfl rfl (Nat.le_of_ble_eq_true rfl) trivial (Nat.le_of_ble_eq_true rfl) (c_52 (L := L) (xs := xs) d) rfl ?_
    refine x_st 3 1 0 21 [some (.ref a), some (.int x), some (.int 0), some (.int (byt x 0))] rfl rfl rfl (Nat.le_of_ble_eq_true rfl) rfl rfl ?_
    refine x_ld 3 1 0 22 rfl rfl rfl rfl rfl ?_
    refine x_cst (.int 32) 2 24 rfl rfl rfl ?_
    refine x_iclt 33 27 rfl rfl rfl (fun c => absurd c (Int32.not_lt.mpr K0.1)) (fun _ => ?_)
    refine x_ld 3 1 0 28 rfl rfl rfl rfl rfl ?_
    refine x_cst (.int 126) 2 30 rfl rfl rfl ?_
    refine x_icle 43 33 rfl rfl rfl (fun _ => ?_) (fun c => absurd K0.2 c)
    refine x_inc 2 1 1 46 [some (.ref a), some (.int x), some (.int 1), some (.int (byt x 0))] rfl rfl (Nat.le_of_ble_eq_true rfl) rfl rfl rfl ?_
    refine x_go 2 rfl rfl ?_
    refine x_ld 2 1 0 3 rfl rfl rfl rfl rfl ?_
    refine x_cst (.int 4) 1 4 rfl rfl rfl ?_
    refine x_icge 49 7 rfl rfl rfl (fun c => absurd c (by decide)) (fun _ => ?_)
    refine x_ld 1 1 0 8 rfl rfl rfl rfl rfl ?_
    refine x_ld 2 1 0 9 rfl rfl rfl rfl rfl ?_
    refine x_cv 64 52 12 [.int x, .int 1] rfl rfl rfl (Nat.le_of_ble_eq_true rfl) rfl rfl (Nat.le_of_ble_eq_true rfl) trivial (Nat.le_of_ble_eq_true rfl) (c_52 (L := L) (xs := xs) d) rfl ?_
    refine x_ifeq 49 15 rfl rfl rfl (fun c => absurd c B0) (fun _ => ?_)
    refine x_ld 1 1 0 16 rfl rfl rfl rfl rfl ?_
    refine x_ld 2 1 0 17 rfl rfl rfl rfl rfl ?_
    refine x_cv 64 52 20 [.int x, .int 1] rfl rfl rfl (Nat.le_of_ble_eq_true rfl) rfl rfl (Nat.le_of_ble_eq_true rfl) trivial (Nat.le_of_ble_eq_true rfl) (c_52 (L := L) (xs := xs) d) rfl ?_
    refine x_st 3 1 0 21 [some (.ref a), some (.int x), some (.int 1), some (.int (byt x 1))] rfl rfl rfl (Nat.le_of_ble_eq_true rfl) rfl rfl ?_
    refine x_ld 3 1 0 22 rfl rfl rfl rfl rfl ?_
    refine x_cst (.int 32) 2 24 rfl rfl rfl ?_
    refine x_iclt 33 27 rfl rfl rfl (fun _ => ?_) (fun c => absurd B1 c)
    refine x_thr 68 6 70 72 rfl rfl rfl rfl rfl rfl rfl rfl h1 h2 (Nat.le_of_ble_eq_true rfl) ?_
    exact ⟨rfl, rfl⟩
  · refine x_cst (.int 0) 1 1 rfl rfl rfl ?_
    refine x_st 2 1 0 2 [some (.ref a), some (.int x), some (.int 0), none] rfl rfl rfl (Nat.le_of_ble_eq_true rfl) rfl rfl ?_
    refine x_ld 2 1 0 3 rfl rfl rfl rfl rfl ?_
    refine x_cst (.int 4) 1 4 rfl rfl rfl ?_
    refine x_icge 49 7 rfl rfl rfl (fun c => absurd c (by decide)) (fun _ => ?_)
    refine x_ld 1 1 0 8 rfl rfl rfl rfl rfl ?_
    refine x_ld 2 1 0 9 rfl rfl rfl rfl rfl ?_
    refine x_cv 64 52 12 [.int x, .int 0] rfl rfl rfl (Nat.le_of_ble_eq_true rfl) rfl rfl (Nat.le_of_ble_eq_true rfl) trivial (Nat.le_of_ble_eq_true rfl) (c_52 (L := L) (xs := xs) d) rfl ?_
    refine x_ifeq 49 15 rfl rfl rfl (fun c => absurd c (nz32 K0.1)) (fun _ => ?_)
    refine x_ld 1 1 0 16 rfl rfl rfl rfl rfl ?_
    refine x_ld 2 1 0 17 rfl rfl rfl rfl rfl ?_
    refine x_cv 64 52 20 [.int x, .int 0] rfl rfl rfl (Nat.le_of_ble_eq_true rfl) rfl rfl (Nat.le_of_ble_eq_true rfl) trivial (Nat.le_of_ble_eq_true rfl) (c_52 (L := L) (xs := xs) d) rfl ?_
    refine x_st 3 1 0 21 [some (.ref a), some (.int x), some (.int 0), some (.int (byt x 0))] rfl rfl rfl (Nat.le_of_ble_eq_true rfl) rfl rfl ?_
    refine x_ld 3 1 0 22 rfl rfl rfl rfl rfl ?_
    refine x_cst (.int 32) 2 24 rfl rfl rfl ?_
    refine x_iclt 33 27 rfl rfl rfl (fun c => absurd c (Int32.not_lt.mpr K0.1)) (fun _ => ?_)
    refine x_ld 3 1 0 28 rfl rfl rfl rfl rfl ?_
    refine x_cst (.int 126) 2 30 rfl rfl rfl ?_
    refine x_icle 43 33 rfl rfl rfl (fun _ => ?_) (fun c => absurd K0.2 c)
    refine x_inc 2 1 1 46 [some (.ref a), some (.int x), some (.int 1), some (.int (byt x 0))] rfl rfl (Nat.le_of_ble_eq_true rfl) rfl rfl rfl ?_
    refine x_go 2 rfl rfl ?_
    refine x_ld 2 1 0 3 rfl rfl rfl rfl rfl ?_
    refine x_cst (.int 4) 1 4 rfl rfl rfl ?_
    refine x_icge 49 7 rfl rfl rfl (fun c => absurd c (by decide)) (fun _ => ?_)
    refine x_ld 1 1 0 8 rfl rfl rfl rfl rfl ?_
    refine x_ld 2 1 0 9 rfl rfl rfl rfl rfl ?_
    refine x_cv 64 52 12 [.int x, .int 1] rfl rfl rfl (Nat.le_of_ble_eq_true rfl) rfl rfl (Nat.le_of_ble_eq_true rfl) trivial (Nat.le_of_ble_eq_true rfl) (c_52 (L := L) (xs := xs) d) rfl ?_
    refine x_ifeq 49 15 rfl rfl rfl (fun c => absurd c B0) (fun _ => ?_)
    refine x_ld 1 1 0 16 rfl rfl rfl rfl rfl ?_
    refine x_ld 2 1 0 17 rfl rfl rfl rfl rfl ?_
    refine x_cv 64 52 20 [.int x, .int 1] rfl rfl rfl (Nat.le_of_ble_eq_true rfl) rfl rfl (Nat.le_of_ble_eq_true rfl) trivial (Nat.le_of_ble_eq_true rfl) (c_52 (L := L) (xs := xs) d) rfl ?_
    refine x_st 3 1 0 21 [some (.ref a), some (.int x), some (.int 1), some (.int (byt x 1))] rfl rfl rfl (Nat.le_of_ble_eq_true rfl) rfl rfl ?_
    refine x_ld 3 1 0 22 rfl rfl rfl rfl rfl ?_
    refine x_cst (.int 32) 2 24 rfl rfl rfl ?_
    refine x_iclt 33 27 rfl rfl rfl (fun c => absurd c B1) (fun _ => ?_)
    refine x_ld 3 1 0 28 rfl rfl rfl rfl rfl ?_
    refine x_cst (.int 126) 2 30 rfl rfl rfl ?_
    refine x_icle 43 33 rfl rfl rfl (fun c => absurd c B2) (fun _ => ?_)
    refine x_thr 68 6 70 72 rfl rfl rfl rfl rfl rfl rfl rfl h1 h2 (Nat.le_of_ble_eq_true rfl) ?_
    exact ⟨rfl, rfl⟩
theorem t51_2 (d : Nat) {h : ab_H} {a ln n : Nat} {x : Int32} {g : Nat → Int32} {f2 f3 f4 f5 f6 f7 f8 f9 f10 f11 f12 : Value} (ha : h[a]? = some (.inr (0, [.ref ln, .int (Int32.ofNat n), f2, f3, f4, f5, f6, f7, f8, f9, f10, f11, f12]))) (hl : h[ln]? = some (.inl (2, 16, .inl g))) (hne : ln ≠ a) (hn : n ≤ 16) (H : okc x 2) (hf : n + 2 ≤ 16) : ab_S (pg_G L xs) (d + 2) 51 [.ref a, .int x] h (some (.int 1)) ((h.set ln (.inl (2, 16, .inl (ups g n x 2)))).set a (.inr (0, [.ref ln, .int (Int32.ofNat (n + 2)), f2, f3, f4, f5, f6, f7, f8, f9, f10, f11, f12]))) := by
  show ab_W (pg_G L xs) (ab_X (pg_G L xs) (d + 1)) 51 _ 0 [some (.ref a), some (.int x), none, none] [] h
  have K0 : 32 ≤ byt x 0 ∧ byt x 0 ≤ 126 := H.1 0 (by decide)
  have K1 : 32 ≤ byt x 1 ∧ byt x 1 ≤ 126 := H.1 1 (by decide)
  have Z := H.2 (by decide)
  refine x_cst (.int 0) 1 1 rfl rfl rfl ?_
  refine x_st 2 1 0 2 [some (.ref a), some (.int x), some (.int 0), none] rfl rfl rfl (Nat.le_of_ble_eq_true rfl) rfl rfl ?_
  refine x_ld 2 1 0 3 rfl rfl rfl rfl rfl ?_
  refine x_cst (.int 4) 1 4 rfl rfl rfl ?_
  refine x_icge 49 7 rfl rfl rfl (fun c => absurd c (by decide)) (fun _ => ?_)
  refine x_ld 1 1 0 8 rfl rfl rfl rfl rfl ?_
  refine x_ld 2 1 0 9 rfl rfl rfl rfl rfl ?_
  refine x_cv 64 52 12 [.int x, .int 0] rfl rfl rfl (Nat.le_of_ble_eq_true rfl) rfl rfl (Nat.le_of_ble_eq_true rfl) trivial (Nat.le_of_ble_eq_true rfl) (c_52 (L := L) (xs := xs) d) rfl ?_
  refine x_ifeq 49 15 rfl rfl rfl (fun c => absurd c (nz32 K0.1)) (fun _ => ?_)
  refine x_ld 1 1 0 16 rfl rfl rfl rfl rfl ?_
  refine x_ld 2 1 0 17 rfl rfl rfl rfl rfl ?_
  refine x_cv 64 52 20 [.int x, .int 0] rfl rfl rfl (Nat.le_of_ble_eq_true rfl) rfl rfl (Nat.le_of_ble_eq_true rfl) trivial (Nat.le_of_ble_eq_true rfl) (c_52 (L := L) (xs := xs) d) rfl ?_
  refine x_st 3 1 0 21 [some (.ref a), some (.int x), some (.int 0), some (.int (byt x 0))] rfl rfl rfl (Nat.le_of_ble_eq_true rfl) rfl rfl ?_
  refine x_ld 3 1 0 22 rfl rfl rfl rfl rfl ?_
  refine x_cst (.int 32) 2 24 rfl rfl rfl ?_
  refine x_iclt 33 27 rfl rfl rfl (fun c => absurd c (Int32.not_lt.mpr K0.1)) (fun _ => ?_)
  refine x_ld 3 1 0 28 rfl rfl rfl rfl rfl ?_
  refine x_cst (.int 126) 2 30 rfl rfl rfl ?_
  refine x_icle 43 33 rfl rfl rfl (fun _ => ?_) (fun c => absurd K0.2 c)
  refine x_inc 2 1 1 46 [some (.ref a), some (.int x), some (.int 1), some (.int (byt x 0))] rfl rfl (Nat.le_of_ble_eq_true rfl) rfl rfl rfl ?_
  refine x_go 2 rfl rfl ?_
  refine x_ld 2 1 0 3 rfl rfl rfl rfl rfl ?_
  refine x_cst (.int 4) 1 4 rfl rfl rfl ?_
  refine x_icge 49 7 rfl rfl rfl (fun c => absurd c (by decide)) (fun _ => ?_)
  refine x_ld 1 1 0 8 rfl rfl rfl rfl rfl ?_
  refine x_ld 2 1 0 9 rfl rfl rfl rfl rfl ?_
  refine x_cv 64 52 12 [.int x, .int 1] rfl rfl rfl (Nat.le_of_ble_eq_true rfl) rfl rfl (Nat.le_of_ble_eq_true rfl) trivial (Nat.le_of_ble_eq_true rfl) (c_52 (L := L) (xs := xs) d) rfl ?_
  refine x_ifeq 49 15 rfl rfl rfl (fun c => absurd c (nz32 K1.1)) (fun _ => ?_)
  refine x_ld 1 1 0 16 rfl rfl rfl rfl rfl ?_
  refine x_ld 2 1 0 17 rfl rfl rfl rfl rfl ?_
  refine x_cv 64 52 20 [.int x, .int 1] rfl rfl rfl (Nat.le_of_ble_eq_true rfl) rfl rfl (Nat.le_of_ble_eq_true rfl) trivial (Nat.le_of_ble_eq_true rfl) (c_52 (L := L) (xs := xs) d) rfl ?_
  refine x_st 3 1 0 21 [some (.ref a), some (.int x), some (.int 1), some (.int (byt x 1))] rfl rfl rfl (Nat.le_of_ble_eq_true rfl) rfl rfl ?_
  refine x_ld 3 1 0 22 rfl rfl rfl rfl rfl ?_
  refine x_cst (.int 32) 2 24 rfl rfl rfl ?_
  refine x_iclt 33 27 rfl rfl rfl (fun c => absurd c (Int32.not_lt.mpr K1.1)) (fun _ => ?_)
  refine x_ld 3 1 0 28 rfl rfl rfl rfl rfl ?_
  refine x_cst (.int 126) 2 30 rfl rfl rfl ?_
  refine x_icle 43 33 rfl rfl rfl (fun _ => ?_) (fun c => absurd K1.2 c)
  refine x_inc 2 1 1 46 [some (.ref a), some (.int x), some (.int 2), some (.int (byt x 1))] rfl rfl (Nat.le_of_ble_eq_true rfl) rfl rfl rfl ?_
  refine x_go 2 rfl rfl ?_
  refine x_ld 2 1 0 3 rfl rfl rfl rfl rfl ?_
  refine x_cst (.int 4) 1 4 rfl rfl rfl ?_
  refine x_icge 49 7 rfl rfl rfl (fun c => absurd c (by decide)) (fun _ => ?_)
  refine x_ld 1 1 0 8 rfl rfl rfl rfl rfl ?_
  refine x_ld 2 1 0 9 rfl rfl rfl rfl rfl ?_
  refine x_cv 64 52 12 [.int x, .int 2] rfl rfl rfl (Nat.le_of_ble_eq_true rfl) rfl rfl (Nat.le_of_ble_eq_true rfl) trivial (Nat.le_of_ble_eq_true rfl) (c_52 (L := L) (xs := xs) d) rfl ?_
  refine x_ifeq 49 15 rfl rfl rfl (fun _ => ?_) (fun c => absurd Z c)
  refine x_ld 0 1 2 50 rfl rfl rfl rfl rfl ?_
  refine x_get 13 0 1 53 rfl rfl ha rfl rfl ?_
  refine x_ld 2 1 0 54 rfl rfl rfl rfl rfl ?_
  refine x_bin (Int32.ofNat (n + 2)) 55 rfl rfl (i32_add n 2) rfl ?_
  refine x_cst (.int 16) 2 57 rfl rfl rfl ?_
  refine x_icle 62 60 rfl rfl rfl (fun _ => ?_) (fun c => absurd ((i32_le 16 (n + 2) (by decide) (by omega)).mpr hf) c)
  refine x_cst (.int 0) 1 63 rfl rfl rfl ?_
  refine x_st 3 1 0 64 [some (.ref a), some (.int x), some (.int 2), some (.int 0)] rfl rfl rfl (Nat.le_of_ble_eq_true rfl) rfl rfl ?_
  refine x_ld 3 1 0 65 rfl rfl rfl rfl rfl ?_
  refine x_ld 2 1 0 66 rfl rfl rfl rfl rfl ?_
  refine x_icge 92 69 rfl rfl rfl (fun c => absurd c (by decide)) (fun _ => ?_)
  refine x_ld 0 1 2 70 rfl rfl rfl rfl rfl ?_
  refine x_get 9 0 0 73 rfl rfl ha rfl rfl ?_
  refine x_ld 0 1 2 74 rfl rfl rfl rfl rfl ?_
  refine x_get 13 0 1 77 rfl rfl ha rfl rfl ?_
  refine x_ld 3 1 0 78 rfl rfl rfl rfl rfl ?_
  refine x_bin (Int32.ofNat (n + 0)) 79 rfl rfl (i32_add n 0) rfl ?_
  refine x_ld 1 1 0 80 rfl rfl rfl rfl rfl ?_
  refine x_ld 3 1 0 81 rfl rfl rfl rfl rfl ?_
  refine x_cv 64 52 84 [.int x, .int 0] rfl rfl rfl (Nat.le_of_ble_eq_true rfl) rfl rfl (Nat.le_of_ble_eq_true rfl) trivial (Nat.le_of_ble_eq_true rfl) (c_52 (L := L) (xs := xs) d) rfl ?_
  refine x_un (.int ((byt x 0).toUInt32 % 65536).toInt32) 85 rfl rfl rfl ?_
  refine x_cts 86 rfl hl rfl (i32_in (n + 0) 16 (by omega) (by decide)) _ (by rw [i32_nat (n + 0) (by omega), (i2c_id _ K0.1 K0.2).1, (i2c_id _ K0.1 K0.2).2]) rfl ?_
  refine x_inc 3 1 1 89 [some (.ref a), some (.int x), some (.int 2), some (.int 1)] rfl rfl (Nat.le_of_ble_eq_true rfl) rfl rfl rfl ?_
  refine x_go 64 rfl rfl ?_
  refine x_ld 3 1 0 65 rfl rfl rfl rfl rfl ?_
  refine x_ld 2 1 0 66 rfl rfl rfl rfl rfl ?_
  refine x_icge 92 69 rfl rfl rfl (fun c => absurd c (by decide)) (fun _ => ?_)
  refine x_ld 0 1 2 70 rfl rfl rfl rfl rfl ?_
  refine x_get 9 0 0 73 rfl rfl ((set_ne hne).trans ha) rfl rfl ?_
  refine x_ld 0 1 2 74 rfl rfl rfl rfl rfl ?_
  refine x_get 13 0 1 77 rfl rfl ((set_ne hne).trans ha) rfl rfl ?_
  refine x_ld 3 1 0 78 rfl rfl rfl rfl rfl ?_
  refine x_bin (Int32.ofNat (n + 1)) 79 rfl rfl (i32_add n 1) rfl ?_
  refine x_ld 1 1 0 80 rfl rfl rfl rfl rfl ?_
  refine x_ld 3 1 0 81 rfl rfl rfl rfl rfl ?_
  refine x_cv 64 52 84 [.int x, .int 1] rfl rfl rfl (Nat.le_of_ble_eq_true rfl) rfl rfl (Nat.le_of_ble_eq_true rfl) trivial (Nat.le_of_ble_eq_true rfl) (c_52 (L := L) (xs := xs) d) rfl ?_
  refine x_un (.int ((byt x 1).toUInt32 % 65536).toInt32) 85 rfl rfl rfl ?_
  refine x_cts 86 rfl (set_at hl) rfl (i32_in (n + 1) 16 (by omega) (by decide)) _ (by rw [i32_nat (n + 1) (by omega), (i2c_id _ K1.1 K1.2).1, (i2c_id _ K1.1 K1.2).2]) rfl ?_
  refine x_inc 3 1 1 89 [some (.ref a), some (.int x), some (.int 2), some (.int 2)] rfl rfl (Nat.le_of_ble_eq_true rfl) rfl rfl rfl ?_
  refine x_go 64 rfl rfl ?_
  refine x_ld 3 1 0 65 rfl rfl rfl rfl rfl ?_
  refine x_ld 2 1 0 66 rfl rfl rfl rfl rfl ?_
  refine x_icge 92 69 rfl rfl rfl (fun _ => ?_) (fun c => absurd (by decide) c)
  refine x_ld 0 1 2 93 rfl rfl rfl rfl rfl ?_
  refine x_dup 94 rfl rfl rfl ?_
  refine x_get 13 0 1 97 rfl rfl ((set_ne hne).trans ((set_ne hne).trans ha)) rfl rfl ?_
  refine x_ld 2 1 0 98 rfl rfl rfl rfl rfl ?_
  refine x_bin (Int32.ofNat (n + 2)) 99 rfl rfl (i32_add n 2) rfl ?_
  refine x_put 13 0 1 102 rfl rfl ((set_ne hne).trans ((set_ne hne).trans ha)) (Nat.le_of_ble_eq_true rfl) rfl rfl rfl _ rfl rfl ?_
  refine x_cst (.int 1) 1 103 rfl rfl rfl ?_
  refine x_ret rfl rfl rfl rfl ?_
  exact ⟨rfl, by simp only [List.set_set]; rfl⟩
theorem f51_2 (d : Nat) {h : ab_H} {a ln n : Nat} {x : Int32} {g : Nat → Int32} {f2 f3 f4 f5 f6 f7 f8 f9 f10 f11 f12 : Value} (ha : h[a]? = some (.inr (0, [.ref ln, .int (Int32.ofNat n), f2, f3, f4, f5, f6, f7, f8, f9, f10, f11, f12]))) (hl : h[ln]? = some (.inl (2, 16, .inl g))) (hne : ln ≠ a) (hn : n ≤ 16) (H : okc x 2) (hf : ¬ n + 2 ≤ 16) : ab_S (pg_G L xs) (d + 2) 51 [.ref a, .int x] h (some (.int 0)) h := by
  show ab_W (pg_G L xs) (ab_X (pg_G L xs) (d + 1)) 51 _ 0 [some (.ref a), some (.int x), none, none] [] h
  have K0 : 32 ≤ byt x 0 ∧ byt x 0 ≤ 126 := H.1 0 (by decide)
  have K1 : 32 ≤ byt x 1 ∧ byt x 1 ≤ 126 := H.1 1 (by decide)
  have Z := H.2 (by decide)
  refine x_cst (.int 0) 1 1 rfl rfl rfl ?_
  refine x_st 2 1 0 2 [some (.ref a), some (.int x), some (.int 0), none] rfl rfl rfl (Nat.le_of_ble_eq_true rfl) rfl rfl ?_
  refine x_ld 2 1 0 3 rfl rfl rfl rfl rfl ?_
  refine x_cst (.int 4) 1 4 rfl rfl rfl ?_
  refine x_icge 49 7 rfl rfl rfl (fun c => absurd c (by decide)) (fun _ => ?_)
  refine x_ld 1 1 0 8 rfl rfl rfl rfl rfl ?_
  refine x_ld 2 1 0 9 rfl rfl rfl rfl rfl ?_
  refine x_cv 64 52 12 [.int x, .int 0] rfl rfl rfl (Nat.le_of_ble_eq_true rfl) rfl rfl (Nat.le_of_ble_eq_true rfl) trivial (Nat.le_of_ble_eq_true rfl) (c_52 (L := L) (xs := xs) d) rfl ?_
  refine x_ifeq 49 15 rfl rfl rfl (fun c => absurd c (nz32 K0.1)) (fun _ => ?_)
  refine x_ld 1 1 0 16 rfl rfl rfl rfl rfl ?_
  refine x_ld 2 1 0 17 rfl rfl rfl rfl rfl ?_
  refine x_cv 64 52 20 [.int x, .int 0] rfl rfl rfl (Nat.le_of_ble_eq_true rfl) rfl rfl (Nat.le_of_ble_eq_true rfl) trivial (Nat.le_of_ble_eq_true rfl) (c_52 (L := L) (xs := xs) d) rfl ?_
  refine x_st 3 1 0 21 [some (.ref a), some (.int x), some (.int 0), some (.int (byt x 0))] rfl rfl rfl (Nat.le_of_ble_eq_true rfl) rfl rfl ?_
  refine x_ld 3 1 0 22 rfl rfl rfl rfl rfl ?_
  refine x_cst (.int 32) 2 24 rfl rfl rfl ?_
  refine x_iclt 33 27 rfl rfl rfl (fun c => absurd c (Int32.not_lt.mpr K0.1)) (fun _ => ?_)
  refine x_ld 3 1 0 28 rfl rfl rfl rfl rfl ?_
  refine x_cst (.int 126) 2 30 rfl rfl rfl ?_
  refine x_icle 43 33 rfl rfl rfl (fun _ => ?_) (fun c => absurd K0.2 c)
  refine x_inc 2 1 1 46 [some (.ref a), some (.int x), some (.int 1), some (.int (byt x 0))] rfl rfl (Nat.le_of_ble_eq_true rfl) rfl rfl rfl ?_
  refine x_go 2 rfl rfl ?_
  refine x_ld 2 1 0 3 rfl rfl rfl rfl rfl ?_
  refine x_cst (.int 4) 1 4 rfl rfl rfl ?_
  refine x_icge 49 7 rfl rfl rfl (fun c => absurd c (by decide)) (fun _ => ?_)
  refine x_ld 1 1 0 8 rfl rfl rfl rfl rfl ?_
  refine x_ld 2 1 0 9 rfl rfl rfl rfl rfl ?_
  refine x_cv 64 52 12 [.int x, .int 1] rfl rfl rfl (Nat.le_of_ble_eq_true rfl) rfl rfl (Nat.le_of_ble_eq_true rfl) trivial (Nat.le_of_ble_eq_true rfl) (c_52 (L := L) (xs := xs) d) rfl ?_
  refine x_ifeq 49 15 rfl rfl rfl (fun c => absurd c (nz32 K1.1)) (fun _ => ?_)
  refine x_ld 1 1 0 16 rfl rfl rfl rfl rfl ?_
  refine x_ld 2 1 0 17 rfl rfl rfl rfl rfl ?_
  refine x_cv 64 52 20 [.int x, .int 1] rfl rfl rfl (Nat.le_of_ble_eq_true rfl) rfl rfl (Nat.le_of_ble_eq_true rfl) trivial (Nat.le_of_ble_eq_true rfl) (c_52 (L := L) (xs := xs) d) rfl ?_
  refine x_st 3 1 0 21 [some (.ref a), some (.int x), some (.int 1), some (.int (byt x 1))] rfl rfl rfl (Nat.le_of_ble_eq_true rfl) rfl rfl ?_
  refine x_ld 3 1 0 22 rfl rfl rfl rfl rfl ?_
  refine x_cst (.int 32) 2 24 rfl rfl rfl ?_
  refine x_iclt 33 27 rfl rfl rfl (fun c => absurd c (Int32.not_lt.mpr K1.1)) (fun _ => ?_)
  refine x_ld 3 1 0 28 rfl rfl rfl rfl rfl ?_
  refine x_cst (.int 126) 2 30 rfl rfl rfl ?_
  refine x_icle 43 33 rfl rfl rfl (fun _ => ?_) (fun c => absurd K1.2 c)
  refine x_inc 2 1 1 46 [some (.ref a), some (.int x), some (.int 2), some (.int (byt x 1))] rfl rfl (Nat.le_of_ble_eq_true rfl) rfl rfl rfl ?_
  refine x_go 2 rfl rfl ?_
  refine x_ld 2 1 0 3 rfl rfl rfl rfl rfl ?_
  refine x_cst (.int 4) 1 4 rfl rfl rfl ?_
  refine x_icge 49 7 rfl rfl rfl (fun c => absurd c (by decide)) (fun _ => ?_)
  refine x_ld 1 1 0 8 rfl rfl rfl rfl rfl ?_
  refine x_ld 2 1 0 9 rfl rfl rfl rfl rfl ?_
  refine x_cv 64 52 12 [.int x, .int 2] rfl rfl rfl (Nat.le_of_ble_eq_true rfl) rfl rfl (Nat.le_of_ble_eq_true rfl) trivial (Nat.le_of_ble_eq_true rfl) (c_52 (L := L) (xs := xs) d) rfl ?_
  refine x_ifeq 49 15 rfl rfl rfl (fun _ => ?_) (fun c => absurd Z c)
  refine x_ld 0 1 2 50 rfl rfl rfl rfl rfl ?_
  refine x_get 13 0 1 53 rfl rfl ha rfl rfl ?_
  refine x_ld 2 1 0 54 rfl rfl rfl rfl rfl ?_
  refine x_bin (Int32.ofNat (n + 2)) 55 rfl rfl (i32_add n 2) rfl ?_
  refine x_cst (.int 16) 2 57 rfl rfl rfl ?_
  refine x_icle 62 60 rfl rfl rfl (fun c => absurd c (fun z => absurd ((i32_le 16 (n + 2) (by decide) (by omega)).mp z) (by omega))) (fun _ => ?_)
  refine x_cst (.int 0) 1 61 rfl rfl rfl ?_
  refine x_ret rfl rfl rfl rfl ?_
  exact ⟨rfl, rfl⟩
theorem b51_2 (d : Nat) {h : ab_H} {a ln n : Nat} {x : Int32} {g : Nat → Int32} {f2 f3 f4 f5 f6 f7 f8 f9 f10 f11 f12 : Value} (ha : h[a]? = some (.inr (0, [.ref ln, .int (Int32.ofNat n), f2, f3, f4, f5, f6, f7, f8, f9, f10, f11, f12]))) (hl : h[ln]? = some (.inl (2, 16, .inl g))) (hne : ln ≠ a) (hn : n ≤ 16) (H : bdc x 2) (h1 : h.length + 1 ≤ 600000) (h2 : ab_wt (pg_G L xs) h + 6 ≤ 7000000) : ab_X (pg_G L xs) (d + 2) 51 [.ref a, .int x] h (fun r h' => r = .inr h.length ∧ h' = h ++ [.inr (6, [])]) := by
  show ab_W (pg_G L xs) (ab_X (pg_G L xs) (d + 1)) 51 _ 0 [some (.ref a), some (.int x), none, none] [] h
  have K0 : 32 ≤ byt x 0 ∧ byt x 0 ≤ 126 := H.1 0 (by decide)
  have K1 : 32 ≤ byt x 1 ∧ byt x 1 ≤ 126 := H.1 1 (by decide)
  obtain ⟨-, B0, B1 | ⟨B1, B2⟩⟩ := H
  · refine x_cst (.int 0) 1 1 rfl rfl rfl ?_
    refine x_st 2 1 0 2 [some (.ref a), some (.int x), some (.int 0), none] rfl rfl rfl (Nat.le_of_ble_eq_true rfl) rfl rfl ?_
    refine x_ld 2 1 0 3 rfl rfl rfl rfl rfl ?_
    refine x_cst (.int 4) 1 4 rfl rfl rfl ?_
    refine x_icge 49 7 rfl rfl rfl (fun c => absurd c (by decide)) (fun _ => ?_)
    refine x_ld 1 1 0 8 rfl rfl rfl rfl rfl ?_
    refine x_ld 2 1 0 9 rfl rfl rfl rfl rfl ?_
    refine x_cv 64 52 12 [.int x, .int 0] rfl rfl rfl (Nat.le_of_ble_eq_true rfl) rfl rfl (Nat.le_of_ble_eq_true rfl) trivial (Nat.le_of_ble_eq_true rfl) (c_52 (L := L) (xs := xs) d) rfl ?_
    refine x_ifeq 49 15 rfl rfl rfl (fun c => absurd c (nz32 K0.1)) (fun _ => ?_)
    refine x_ld 1 1 0 16 rfl rfl rfl rfl rfl ?_
    refine x_ld 2 1 0 17 rfl rfl rfl rfl rfl ?_
    refine x_cv 64 52 20 [.int x, .int 0] rfl rfl rfl (Nat.le_of_ble_eq_true rfl) rfl rfl (Nat.le_of_ble_eq_true rfl) trivial (Nat.le_of_ble_eq_true rfl) (c_52 (L := L) (xs := xs) d) rfl ?_
    refine x_st 3 1 0 21 [some (.ref a), some (.int x), some (.int 0), some (.int (byt x 0))] rfl rfl rfl (Nat.le_of_ble_eq_true rfl) rfl rfl ?_
    refine x_ld 3 1 0 22 rfl rfl rfl rfl rfl ?_
    refine x_cst (.int 32) 2 24 rfl rfl rfl ?_
    refine x_iclt 33 27 rfl rfl rfl (fun c => absurd c (Int32.not_lt.mpr K0.1)) (fun _ => ?_)
    refine x_ld 3 1 0 28 rfl rfl rfl rfl rfl ?_
    refine x_cst (.int 126) 2 30 rfl rfl rfl ?_
    refine x_icle 43 33 rfl rfl rfl (fun _ => ?_) (fun c => absurd K0.2 c)
    refine x_inc 2 1 1 46 [some (.ref a), some (.int x), some (.int 1), some (.int (byt x 0))] rfl rfl (Nat.le_of_ble_eq_true rfl) rfl rfl rfl ?_
    refine x_go 2 rfl rfl ?_
    refine x_ld 2 1 0 3 rfl rfl rfl rfl rfl ?_
    refine x_cst (.int 4) 1 4 rfl rfl rfl ?_
    refine x_icge 49 7 rfl rfl rfl (fun c => absurd c (by decide)) (fun _ => ?_)
    refine x_ld 1 1 0 8 rfl rfl rfl rfl rfl ?_
    refine x_ld 2 1 0 9 rfl rfl rfl rfl rfl ?_
    refine x_cv 64 52 12 [.int x, .int 1] rfl rfl rfl (Nat.le_of_ble_eq_true rfl) rfl rfl (Nat.le_of_ble_eq_true rfl) trivial (Nat.le_of_ble_eq_true rfl) (c_52 (L := L) (xs := xs) d) rfl ?_
    refine x_ifeq 49 15 rfl rfl rfl (fun c => absurd c (nz32 K1.1)) (fun _ => ?_)
    refine x_ld 1 1 0 16 rfl rfl rfl rfl rfl ?_
    refine x_ld 2 1 0 17 rfl rfl rfl rfl rfl ?_
    refine x_cv 64 52 20 [.int x, .int 1] rfl rfl rfl (Nat.le_of_ble_eq_true rfl) rfl rfl (Nat.le_of_ble_eq_true rfl) trivial (Nat.le_of_ble_eq_true rfl) (c_52 (L := L) (xs := xs) d) rfl ?_
    refine x_st 3 1 0 21 [some (.ref a), some (.int x), some (.int 1), some (.int (byt x 1))] rfl rfl rfl (Nat.le_of_ble_eq_true rfl) rfl rfl ?_
    refine x_ld 3 1 0 22 rfl rfl rfl rfl rfl ?_
    refine x_cst (.int 32) 2 24 rfl rfl rfl ?_
    refine x_iclt 33 27 rfl rfl rfl (fun c => absurd c (Int32.not_lt.mpr K1.1)) (fun _ => ?_)
    refine x_ld 3 1 0 28 rfl rfl rfl rfl rfl ?_
    refine x_cst (.int 126) 2 30 rfl rfl rfl ?_
    refine x_icle 43 33 rfl rfl rfl (fun _ => ?_) (fun c => absurd K1.2 c)
    refine x_inc 2 1 1 46 [some (.ref a), some (.int x), some (.int 2), some (.int (byt x 1))] rfl rfl (Nat.le_of_ble_eq_true rfl) rfl rfl rfl ?_
    refine x_go 2 rfl rfl ?_
    refine x_ld 2 1 0 3 rfl rfl rfl rfl rfl ?_
    refine x_cst (.int 4) 1 4 rfl rfl rfl ?_
    refine x_icge 49 7 rfl rfl rfl (fun c => absurd c (by decide)) (fun _ => ?_)
    refine x_ld 1 1 0 8 rfl rfl rfl rfl rfl ?_
    refine x_ld 2 1 0 9 rfl rfl rfl rfl rfl ?_
    refine x_cv 64 52 12 [.int x, .int 2] rfl rfl rfl (Nat.le_of_ble_eq_true rfl) rfl rfl (Nat.le_of_ble_eq_true rfl) trivial (Nat.le_of_ble_eq_true rfl) (c_52 (L := L) (xs := xs) d) rfl ?_
    refine x_ifeq 49 15 rfl rfl rfl (fun c => absurd c B0) (fun _ => ?_)
    refine x_ld 1 1 0 16 rfl rfl rfl rfl rfl ?_
    refine x_ld 2 1 0 17 rfl rfl rfl rfl rfl ?_
    refine x_cv 64 52 20 [.int x, .int 2] rfl rfl rfl (Nat.le_of_ble_eq_true rfl) rfl rfl (Nat.le_of_ble_eq_true rfl) trivial (Nat.le_of_ble_eq_true rfl) (c_52 (L := L) (xs := xs) d) rfl ?_
    refine x_st 3 1 0 21 [some (.ref a), some (.int x), some (.int 2), some (.int (byt x 2))] rfl rfl rfl (Nat.le_of_ble_eq_true rfl) rfl rfl ?_
    refine x_ld 3 1 0 22 rfl rfl rfl rfl rfl ?_
    refine x_cst (.int 32) 2 24 rfl rfl rfl ?_
    refine x_iclt 33 27 rfl rfl rfl (fun _ => ?_) (fun c => absurd B1 c)
    refine x_thr 68 6 70 72 rfl rfl rfl rfl rfl rfl rfl rfl h1 h2 (Nat.le_of_ble_eq_true rfl) ?_
    exact ⟨rfl, rfl⟩
  · refine x_cst (.int 0) 1 1 rfl rfl rfl ?_
    refine x_st 2 1 0 2 [some (.ref a), some (.int x), some (.int 0), none] rfl rfl rfl (Nat.le_of_ble_eq_true rfl) rfl rfl ?_
    refine x_ld 2 1 0 3 rfl rfl rfl rfl rfl ?_
    refine x_cst (.int 4) 1 4 rfl rfl rfl ?_
    refine x_icge 49 7 rfl rfl rfl (fun c => absurd c (by decide)) (fun _ => ?_)
    refine x_ld 1 1 0 8 rfl rfl rfl rfl rfl ?_
    refine x_ld 2 1 0 9 rfl rfl rfl rfl rfl ?_
    refine x_cv 64 52 12 [.int x, .int 0] rfl rfl rfl (Nat.le_of_ble_eq_true rfl) rfl rfl (Nat.le_of_ble_eq_true rfl) trivial (Nat.le_of_ble_eq_true rfl) (c_52 (L := L) (xs := xs) d) rfl ?_
    refine x_ifeq 49 15 rfl rfl rfl (fun c => absurd c (nz32 K0.1)) (fun _ => ?_)
    refine x_ld 1 1 0 16 rfl rfl rfl rfl rfl ?_
    refine x_ld 2 1 0 17 rfl rfl rfl rfl rfl ?_
    refine x_cv 64 52 20 [.int x, .int 0] rfl rfl rfl (Nat.le_of_ble_eq_true rfl) rfl rfl (Nat.le_of_ble_eq_true rfl) trivial (Nat.le_of_ble_eq_true rfl) (c_52 (L := L) (xs := xs) d) rfl ?_
    refine x_st 3 1 0 21 [some (.ref a), some (.int x), some (.int 0), some (.int (byt x 0))] rfl rfl rfl (Nat.le_of_ble_eq_true rfl) rfl rfl ?_
    refine x_ld 3 1 0 22 rfl rfl rfl rfl rfl ?_
    refine x_cst (.int 32) 2 24 rfl rfl rfl ?_
    refine x_iclt 33 27 rfl rfl rfl (fun c => absurd c (Int32.not_lt.mpr K0.1)) (fun _ => ?_)
    refine x_ld 3 1 0 28 rfl rfl rfl rfl rfl ?_
    refine x_cst (.int 126) 2 30 rfl rfl rfl ?_
    refine x_icle 43 33 rfl rfl rfl (fun _ => ?_) (fun c => absurd K0.2 c)
    refine x_inc 2 1 1 46 [some (.ref a), some (.int x), some (.int 1), some (.int (byt x 0))] rfl rfl (Nat.le_of_ble_eq_true rfl) rfl rfl rfl ?_
    refine x_go 2 rfl rfl ?_
    refine x_ld 2 1 0 3 rfl rfl rfl rfl rfl ?_
    refine x_cst (.int 4) 1 4 rfl rfl rfl ?_
    refine x_icge 49 7 rfl rfl rfl (fun c => absurd c (by decide)) (fun _ => ?_)
    refine x_ld 1 1 0 8 rfl rfl rfl rfl rfl ?_
    refine x_ld 2 1 0 9 rfl rfl rfl rfl rfl ?_
    refine x_cv 64 52 12 [.int x, .int 1] rfl rfl rfl (Nat.le_of_ble_eq_true rfl) rfl rfl (Nat.le_of_ble_eq_true rfl) trivial (Nat.le_of_ble_eq_true rfl) (c_52 (L := L) (xs := xs) d) rfl ?_
    refine x_ifeq 49 15 rfl rfl rfl (fun c => absurd c (nz32 K1.1)) (fun _ => ?_)
    refine x_ld 1 1 0 16 rfl rfl rfl rfl rfl ?_
    refine x_ld 2 1 0 17 rfl rfl rfl rfl rfl ?_
    refine x_cv 64 52 20 [.int x, .int 1] rfl rfl rfl (Nat.le_of_ble_eq_true rfl) rfl rfl (Nat.le_of_ble_eq_true rfl) trivial (Nat.le_of_ble_eq_true rfl) (c_52 (L := L) (xs := xs) d) rfl ?_
    refine x_st 3 1 0 21 [some (.ref a), some (.int x), some (.int 1), some (.int (byt x 1))] rfl rfl rfl (Nat.le_of_ble_eq_true rfl) rfl rfl ?_
    refine x_ld 3 1 0 22 rfl rfl rfl rfl rfl ?_
    refine x_cst (.int 32) 2 24 rfl rfl rfl ?_
    refine x_iclt 33 27 rfl rfl rfl (fun c => absurd c (Int32.not_lt.mpr K1.1)) (fun _ => ?_)
    refine x_ld 3 1 0 28 rfl rfl rfl rfl rfl ?_
    refine x_cst (.int 126) 2 30 rfl rfl rfl ?_
    refine x_icle 43 33 rfl rfl rfl (fun _ => ?_) (fun c => absurd K1.2 c)
    refine x_inc 2 1 1 46 [some (.ref a), some (.int x), some (.int 2), some (.int (byt x 1))] rfl rfl (Nat.le_of_ble_eq_true rfl) rfl rfl rfl ?_
    refine x_go 2 rfl rfl ?_
    refine x_ld 2 1 0 3 rfl rfl rfl rfl rfl ?_
    refine x_cst (.int 4) 1 4 rfl rfl rfl ?_
    refine x_icge 49 7 rfl rfl rfl (fun c => absurd c (by decide)) (fun _ => ?_)
    refine x_ld 1 1 0 8 rfl rfl rfl rfl rfl ?_
    refine x_ld 2 1 0 9 rfl rfl rfl rfl rfl ?_
    refine x_cv 64 52 12 [.int x, .int 2] rfl rfl rfl (Nat.le_of_ble_eq_true rfl) rfl rfl (Nat.le_of_ble_eq_true rfl) trivial (Nat.le_of_ble_eq_true rfl) (c_52 (L := L) (xs := xs) d) rfl ?_
    refine x_ifeq 49 15 rfl rfl rfl (fun c => absurd c B0) (fun _ => ?_)
    refine x_ld 1 1 0 16 rfl rfl rfl rfl rfl ?_
    refine x_ld 2 1 0 17 rfl rfl rfl rfl rfl ?_
    refine x_cv 64 52 20 [.int x, .int 2] rfl rfl rfl (Nat.le_of_ble_eq_true rfl) rfl rfl (Nat.le_of_ble_eq_true rfl) trivial (Nat.le_of_ble_eq_true rfl) (c_52 (L := L) (xs := xs) d) rfl ?_
    refine x_st 3 1 0 21 [some (.ref a), some (.int x), some (.int 2), some (.int (byt x 2))] rfl rfl rfl (Nat.le_of_ble_eq_true rfl) rfl rfl ?_
    refine x_ld 3 1 0 22 rfl rfl rfl rfl rfl ?_
    refine x_cst (.int 32) 2 24 rfl rfl rfl ?_
    refine x_iclt 33 27 rfl rfl rfl (fun c => absurd c B1) (fun _ => ?_)
    refine x_ld 3 1 0 28 rfl rfl rfl rfl rfl ?_
    refine x_cst (.int 126) 2 30 rfl rfl rfl ?_
    refine x_icle 43 33 rfl rfl rfl (fun c => absurd c B2) (fun _ => ?_)
    refine x_thr 68 6 70 72 rfl rfl rfl rfl rfl rfl rfl rfl h1 h2 (Nat.le_of_ble_eq_true rfl) ?_
    exact ⟨rfl, rfl⟩
theorem t51_3 (d : Nat) {h : ab_H} {a ln n : Nat} {x : Int32} {g : Nat → Int32} {f2 f3 f4 f5 f6 f7 f8 f9 f10 f11 f12 : Value} (ha : h[a]? = some (.inr (0, [.ref ln, .int (Int32.ofNat n), f2, f3, f4, f5, f6, f7, f8, f9, f10, f11, f12]))) (hl : h[ln]? = some (.inl (2, 16, .inl g))) (hne : ln ≠ a) (hn : n ≤ 16) (H : okc x 3) (hf : n + 3 ≤ 16) : ab_S (pg_G L xs) (d + 2) 51 [.ref a, .int x] h (some (.int 1)) ((h.set ln (.inl (2, 16, .inl (ups g n x 3)))).set a (.inr (0, [.ref ln, .int (Int32.ofNat (n + 3)), f2, f3, f4, f5, f6, f7, f8, f9, f10, f11, f12]))) := by
  show ab_W (pg_G L xs) (ab_X (pg_G L xs) (d + 1)) 51 _ 0 [some (.ref a), some (.int x), none, none] [] h
  have K0 : 32 ≤ byt x 0 ∧ byt x 0 ≤ 126 := H.1 0 (by decide)
  have K1 : 32 ≤ byt x 1 ∧ byt x 1 ≤ 126 := H.1 1 (by decide)
  have K2 : 32 ≤ byt x 2 ∧ byt x 2 ≤ 126 := H.1 2 (by decide)
  have Z := H.2 (by decide)
  refine x_cst (.int 0) 1 1 rfl rfl rfl ?_
  refine x_st 2 1 0 2 [some (.ref a), some (.int x), some (.int 0), none] rfl rfl rfl (Nat.le_of_ble_eq_true rfl) rfl rfl ?_
  refine x_ld 2 1 0 3 rfl rfl rfl rfl rfl ?_
  refine x_cst (.int 4) 1 4 rfl rfl rfl ?_
  refine x_icge 49 7 rfl rfl rfl (fun c => absurd c (by decide)) (fun _ => ?_)
  refine x_ld 1 1 0 8 rfl rfl rfl rfl rfl ?_
  refine x_ld 2 1 0 9 rfl rfl rfl rfl rfl ?_
  refine x_cv 64 52 12 [.int x, .int 0] rfl rfl rfl (Nat.le_of_ble_eq_true rfl) rfl rfl (Nat.le_of_ble_eq_true rfl) trivial (Nat.le_of_ble_eq_true rfl) (c_52 (L := L) (xs := xs) d) rfl ?_
  refine x_ifeq 49 15 rfl rfl rfl (fun c => absurd c (nz32 K0.1)) (fun _ => ?_)
  refine x_ld 1 1 0 16 rfl rfl rfl rfl rfl ?_
  refine x_ld 2 1 0 17 rfl rfl rfl rfl rfl ?_
  refine x_cv 64 52 20 [.int x, .int 0] rfl rfl rfl (Nat.le_of_ble_eq_true rfl) rfl rfl (Nat.le_of_ble_eq_true rfl) trivial (Nat.le_of_ble_eq_true rfl) (c_52 (L := L) (xs := xs) d) rfl ?_
  refine x_st 3 1 0 21 [some (.ref a), some (.int x), some (.int 0), some (.int (byt x 0))] rfl rfl rfl (Nat.le_of_ble_eq_true rfl) rfl rfl ?_
  refine x_ld 3 1 0 22 rfl rfl rfl rfl rfl ?_
  refine x_cst (.int 32) 2 24 rfl rfl rfl ?_
  refine x_iclt 33 27 rfl rfl rfl (fun c => absurd c (Int32.not_lt.mpr K0.1)) (fun _ => ?_)
  refine x_ld 3 1 0 28 rfl rfl rfl rfl rfl ?_
  refine x_cst (.int 126) 2 30 rfl rfl rfl ?_
  refine x_icle 43 33 rfl rfl rfl (fun _ => ?_) (fun c => absurd K0.2 c)
  refine x_inc 2 1 1 46 [some (.ref a), some (.int x), some (.int 1), some (.int (byt x 0))] rfl rfl (Nat.le_of_ble_eq_true rfl) rfl rfl rfl ?_
  refine x_go 2 rfl rfl ?_
  refine x_ld 2 1 0 3 rfl rfl rfl rfl rfl ?_
  refine x_cst (.int 4) 1 4 rfl rfl rfl ?_
  refine x_icge 49 7 rfl rfl rfl (fun c => absurd c (by decide)) (fun _ => ?_)
  refine x_ld 1 1 0 8 rfl rfl rfl rfl rfl ?_
  refine x_ld 2 1 0 9 rfl rfl rfl rfl rfl ?_
  refine x_cv 64 52 12 [.int x, .int 1] rfl rfl rfl (Nat.le_of_ble_eq_true rfl) rfl rfl (Nat.le_of_ble_eq_true rfl) trivial (Nat.le_of_ble_eq_true rfl) (c_52 (L := L) (xs := xs) d) rfl ?_
  refine x_ifeq 49 15 rfl rfl rfl (fun c => absurd c (nz32 K1.1)) (fun _ => ?_)
  refine x_ld 1 1 0 16 rfl rfl rfl rfl rfl ?_
  refine x_ld 2 1 0 17 rfl rfl rfl rfl rfl ?_
  refine x_cv 64 52 20 [.int x, .int 1] rfl rfl rfl (Nat.le_of_ble_eq_true rfl) rfl rfl (Nat.le_of_ble_eq_true rfl) trivial (Nat.le_of_ble_eq_true rfl) (c_52 (L := L) (xs := xs) d) rfl ?_
  refine x_st 3 1 0 21 [some (.ref a), some (.int x), some (.int 1), some (.int (byt x 1))] rfl rfl rfl (Nat.le_of_ble_eq_true rfl) rfl rfl ?_
  refine x_ld 3 1 0 22 rfl rfl rfl rfl rfl ?_
  refine x_cst (.int 32) 2 24 rfl rfl rfl ?_
  refine x_iclt 33 27 rfl rfl rfl (fun c => absurd c (Int32.not_lt.mpr K1.1)) (fun _ => ?_)
  refine x_ld 3 1 0 28 rfl rfl rfl rfl rfl ?_
  refine x_cst (.int 126) 2 30 rfl rfl rfl ?_
  refine x_icle 43 33 rfl rfl rfl (fun _ => ?_) (fun c => absurd K1.2 c)
  refine x_inc 2 1 1 46 [some (.ref a), some (.int x), some (.int 2), some (.int (byt x 1))] rfl rfl (Nat.le_of_ble_eq_true rfl) rfl rfl rfl ?_
  refine x_go 2 rfl rfl ?_
  refine x_ld 2 1 0 3 rfl rfl rfl rfl rfl ?_
  refine x_cst (.int 4) 1 4 rfl rfl rfl ?_
  refine x_icge 49 7 rfl rfl rfl (fun c => absurd c (by decide)) (fun _ => ?_)
  refine x_ld 1 1 0 8 rfl rfl rfl rfl rfl ?_
  refine x_ld 2 1 0 9 rfl rfl rfl rfl rfl ?_
  refine x_cv 64 52 12 [.int x, .int 2] rfl rfl rfl (Nat.le_of_ble_eq_true rfl) rfl rfl (Nat.le_of_ble_eq_true rfl) trivial (Nat.le_of_ble_eq_true rfl) (c_52 (L := L) (xs := xs) d) rfl ?_
  refine x_ifeq 49 15 rfl rfl rfl (fun c => absurd c (nz32 K2.1)) (fun _ => ?_)
  refine x_ld 1 1 0 16 rfl rfl rfl rfl rfl ?_
  refine x_ld 2 1 0 17 rfl rfl rfl rfl rfl ?_
  refine x_cv 64 52 20 [.int x, .int 2] rfl rfl rfl (Nat.le_of_ble_eq_true rfl) rfl rfl (Nat.le_of_ble_eq_true rfl) trivial (Nat.le_of_ble_eq_true rfl) (c_52 (L := L) (xs := xs) d) rfl ?_
  refine x_st 3 1 0 21 [some (.ref a), some (.int x), some (.int 2), some (.int (byt x 2))] rfl rfl rfl (Nat.le_of_ble_eq_true rfl) rfl rfl ?_
  refine x_ld 3 1 0 22 rfl rfl rfl rfl rfl ?_
  refine x_cst (.int 32) 2 24 rfl rfl rfl ?_
  refine x_iclt 33 27 rfl rfl rfl (fun c => absurd c (Int32.not_lt.mpr K2.1)) (fun _ => ?_)
  refine x_ld 3 1 0 28 rfl rfl rfl rfl rfl ?_
  refine x_cst (.int 126) 2 30 rfl rfl rfl ?_
  refine x_icle 43 33 rfl rfl rfl (fun _ => ?_) (fun c => absurd K2.2 c)
  refine x_inc 2 1 1 46 [some (.ref a), some (.int x), some (.int 3), some (.int (byt x 2))] rfl rfl (Nat.le_of_ble_eq_true rfl) rfl rfl rfl ?_
  refine x_go 2 rfl rfl ?_
  refine x_ld 2 1 0 3 rfl rfl rfl rfl rfl ?_
  refine x_cst (.int 4) 1 4 rfl rfl rfl ?_
  refine x_icge 49 7 rfl rfl rfl (fun c => absurd c (by decide)) (fun _ => ?_)
  refine x_ld 1 1 0 8 rfl rfl rfl rfl rfl ?_
  refine x_ld 2 1 0 9 rfl rfl rfl rfl rfl ?_
  refine x_cv 64 52 12 [.int x, .int 3] rfl rfl rfl (Nat.le_of_ble_eq_true rfl) rfl rfl (Nat.le_of_ble_eq_true rfl) trivial (Nat.le_of_ble_eq_true rfl) (c_52 (L := L) (xs := xs) d) rfl ?_
  refine x_ifeq 49 15 rfl rfl rfl (fun _ => ?_) (fun c => absurd Z c)
  refine x_ld 0 1 2 50 rfl rfl rfl rfl rfl ?_
  refine x_get 13 0 1 53 rfl rfl ha rfl rfl ?_
  refine x_ld 2 1 0 54 rfl rfl rfl rfl rfl ?_
  refine x_bin (Int32.ofNat (n + 3)) 55 rfl rfl (i32_add n 3) rfl ?_
  refine x_cst (.int 16) 2 57 rfl rfl rfl ?_
  refine x_icle 62 60 rfl rfl rfl (fun _ => ?_) (fun c => absurd ((i32_le 16 (n + 3) (by decide) (by omega)).mpr hf) c)
  refine x_cst (.int 0) 1 63 rfl rfl rfl ?_
  refine x_st 3 1 0 64 [some (.ref a), some (.int x), some (.int 3), some (.int 0)] rfl rfl rfl (Nat.le_of_ble_eq_true rfl) rfl rfl ?_
  refine x_ld 3 1 0 65 rfl rfl rfl rfl rfl ?_
  refine x_ld 2 1 0 66 rfl rfl rfl rfl rfl ?_
  refine x_icge 92 69 rfl rfl rfl (fun c => absurd c (by decide)) (fun _ => ?_)
  refine x_ld 0 1 2 70 rfl rfl rfl rfl rfl ?_
  refine x_get 9 0 0 73 rfl rfl ha rfl rfl ?_
  refine x_ld 0 1 2 74 rfl rfl rfl rfl rfl ?_
  refine x_get 13 0 1 77 rfl rfl ha rfl rfl ?_
  refine x_ld 3 1 0 78 rfl rfl rfl rfl rfl ?_
  refine x_bin (Int32.ofNat (n + 0)) 79 rfl rfl (i32_add n 0) rfl ?_
  refine x_ld 1 1 0 80 rfl rfl rfl rfl rfl ?_
  refine x_ld 3 1 0 81 rfl rfl rfl rfl rfl ?_
  refine x_cv 64 52 84 [.int x, .int 0] rfl rfl rfl (Nat.le_of_ble_eq_true rfl) rfl rfl (Nat.le_of_ble_eq_true rfl) trivial (Nat.le_of_ble_eq_true rfl) (c_52 (L := L) (xs := xs) d) rfl ?_
  refine x_un (.int ((byt x 0).toUInt32 % 65536).toInt32) 85 rfl rfl rfl ?_
  refine x_cts 86 rfl hl rfl (i32_in (n + 0) 16 (by omega) (by decide)) _ (by rw [i32_nat (n + 0) (by omega), (i2c_id _ K0.1 K0.2).1, (i2c_id _ K0.1 K0.2).2]) rfl ?_
  refine x_inc 3 1 1 89 [some (.ref a), some (.int x), some (.int 3), some (.int 1)] rfl rfl (Nat.le_of_ble_eq_true rfl) rfl rfl rfl ?_
  refine x_go 64 rfl rfl ?_
  refine x_ld 3 1 0 65 rfl rfl rfl rfl rfl ?_
  refine x_ld 2 1 0 66 rfl rfl rfl rfl rfl ?_
  refine x_icge 92 69 rfl rfl rfl (fun c => absurd c (by decide)) (fun _ => ?_)
  refine x_ld 0 1 2 70 rfl rfl rfl rfl rfl ?_
  refine x_get 9 0 0 73 rfl rfl ((set_ne hne).trans ha) rfl rfl ?_
  refine x_ld 0 1 2 74 rfl rfl rfl rfl rfl ?_
  refine x_get 13 0 1 77 rfl rfl ((set_ne hne).trans ha) rfl rfl ?_
  refine x_ld 3 1 0 78 rfl rfl rfl rfl rfl ?_
  refine x_bin (Int32.ofNat (n + 1)) 79 rfl rfl (i32_add n 1) rfl ?_
  refine x_ld 1 1 0 80 rfl rfl rfl rfl rfl ?_
  refine x_ld 3 1 0 81 rfl rfl rfl rfl rfl ?_
  refine x_cv 64 52 84 [.int x, .int 1] rfl rfl rfl (Nat.le_of_ble_eq_true rfl) rfl rfl (Nat.le_of_ble_eq_true rfl) trivial (Nat.le_of_ble_eq_true rfl) (c_52 (L := L) (xs := xs) d) rfl ?_
  refine x_un (.int ((byt x 1).toUInt32 % 65536).toInt32) 85 rfl rfl rfl ?_
  refine x_cts 86 rfl (set_at hl) rfl (i32_in (n + 1) 16 (by omega) (by decide)) _ (by rw [i32_nat (n + 1) (by omega), (i2c_id _ K1.1 K1.2).1, (i2c_id _ K1.1 K1.2).2]) rfl ?_
  refine x_inc 3 1 1 89 [some (.ref a), some (.int x), some (.int 3), some (.int 2)] rfl rfl (Nat.le_of_ble_eq_true rfl) rfl rfl rfl ?_
  refine x_go 64 rfl rfl ?_
  refine x_ld 3 1 0 65 rfl rfl rfl rfl rfl ?_
  refine x_ld 2 1 0 66 rfl rfl rfl rfl rfl ?_
  refine x_icge 92 69 rfl rfl rfl (fun c => absurd c (by decide)) (fun _ => ?_)
  refine x_ld 0 1 2 70 rfl rfl rfl rfl rfl ?_
  refine x_get 9 0 0 73 rfl rfl ((set_ne hne).trans ((set_ne hne).trans ha)) rfl rfl ?_
  refine x_ld 0 1 2 74 rfl rfl rfl rfl rfl ?_
  refine x_get 13 0 1 77 rfl rfl ((set_ne hne).trans ((set_ne hne).trans ha)) rfl rfl ?_
  refine x_ld 3 1 0 78 rfl rfl rfl rfl rfl ?_
  refine x_bin (Int32.ofNat (n + 2)) 79 rfl rfl (i32_add n 2) rfl ?_
  refine x_ld 1 1 0 80 rfl rfl rfl rfl rfl ?_
  refine x_ld 3 1 0 81 rfl rfl rfl rfl rfl ?_
  refine x_cv 64 52 84 [.int x, .int 2] rfl rfl rfl (Nat.le_of_ble_eq_true rfl) rfl rfl (Nat.le_of_ble_eq_true rfl) trivial (Nat.le_of_ble_eq_true rfl) (c_52 (L := L) (xs := xs) d) rfl ?_
  refine x_un (.int ((byt x 2).toUInt32 % 65536).toInt32) 85 rfl rfl rfl ?_
  refine x_cts 86 rfl (set_at (set_at hl)) rfl (i32_in (n + 2) 16 (by omega) (by decide)) _ (by rw [i32_nat (n + 2) (by omega), (i2c_id _ K2.1 K2.2).1, (i2c_id _ K2.1 K2.2).2]) rfl ?_
  refine x_inc 3 1 1 89 [some (.ref a), some (.int x), some (.int 3), some (.int 3)] rfl rfl (Nat.le_of_ble_eq_true rfl) rfl rfl rfl ?_
  refine x_go 64 rfl rfl ?_
  refine x_ld 3 1 0 65 rfl rfl rfl rfl rfl ?_
  refine x_ld 2 1 0 66 rfl rfl rfl rfl rfl ?_
  refine x_icge 92 69 rfl rfl rfl (fun _ => ?_) (fun c => absurd (by decide) c)
  refine x_ld 0 1 2 93 rfl rfl rfl rfl rfl ?_
  refine x_dup 94 rfl rfl rfl ?_
  refine x_get 13 0 1 97 rfl rfl ((set_ne hne).trans ((set_ne hne).trans ((set_ne hne).trans ha))) rfl rfl ?_
  refine x_ld 2 1 0 98 rfl rfl rfl rfl rfl ?_
  refine x_bin (Int32.ofNat (n + 3)) 99 rfl rfl (i32_add n 3) rfl ?_
  refine x_put 13 0 1 102 rfl rfl ((set_ne hne).trans ((set_ne hne).trans ((set_ne hne).trans ha))) (Nat.le_of_ble_eq_true rfl) rfl rfl rfl _ rfl rfl ?_
  refine x_cst (.int 1) 1 103 rfl rfl rfl ?_
  refine x_ret rfl rfl rfl rfl ?_
  exact ⟨rfl, by simp only [List.set_set]; rfl⟩
theorem f51_3 (d : Nat) {h : ab_H} {a ln n : Nat} {x : Int32} {g : Nat → Int32} {f2 f3 f4 f5 f6 f7 f8 f9 f10 f11 f12 : Value} (ha : h[a]? = some (.inr (0, [.ref ln, .int (Int32.ofNat n), f2, f3, f4, f5, f6, f7, f8, f9, f10, f11, f12]))) (hl : h[ln]? = some (.inl (2, 16, .inl g))) (hne : ln ≠ a) (hn : n ≤ 16) (H : okc x 3) (hf : ¬ n + 3 ≤ 16) : ab_S (pg_G L xs) (d + 2) 51 [.ref a, .int x] h (some (.int 0)) h := by
  show ab_W (pg_G L xs) (ab_X (pg_G L xs) (d + 1)) 51 _ 0 [some (.ref a), some (.int x), none, none] [] h
  have K0 : 32 ≤ byt x 0 ∧ byt x 0 ≤ 126 := H.1 0 (by decide)
  have K1 : 32 ≤ byt x 1 ∧ byt x 1 ≤ 126 := H.1 1 (by decide)
  have K2 : 32 ≤ byt x 2 ∧ byt x 2 ≤ 126 := H.1 2 (by decide)
  have Z := H.2 (by decide)
  refine x_cst (.int 0) 1 1 rfl rfl rfl ?_
  refine x_st 2 1 0 2 [some (.ref a), some (.int x), some (.int 0), none] rfl rfl rfl (Nat.le_of_ble_eq_true rfl) rfl rfl ?_
  refine x_ld 2 1 0 3 rfl rfl rfl rfl rfl ?_
  refine x_cst (.int 4) 1 4 rfl rfl rfl ?_
  refine x_icge 49 7 rfl rfl rfl (fun c => absurd c (by decide)) (fun _ => ?_)
  refine x_ld 1 1 0 8 rfl rfl rfl rfl rfl ?_
  refine x_ld 2 1 0 9 rfl rfl rfl rfl rfl ?_
  refine x_cv 64 52 12 [.int x, .int 0] rfl rfl rfl (Nat.le_of_ble_eq_true rfl) rfl rfl (Nat.le_of_ble_eq_true rfl) trivial (Nat.le_of_ble_eq_true rfl) (c_52 (L := L) (xs := xs) d) rfl ?_
  refine x_ifeq 49 15 rfl rfl rfl (fun c => absurd c (nz32 K0.1)) (fun _ => ?_)
  refine x_ld 1 1 0 16 rfl rfl rfl rfl rfl ?_
  refine x_ld 2 1 0 17 rfl rfl rfl rfl rfl ?_
  refine x_cv 64 52 20 [.int x, .int 0] rfl rfl rfl (Nat.le_of_ble_eq_true rfl) rfl rfl (Nat.le_of_ble_eq_true rfl) trivial (Nat.le_of_ble_eq_true rfl) (c_52 (L := L) (xs := xs) d) rfl ?_
  refine x_st 3 1 0 21 [some (.ref a), some (.int x), some (.int 0), some (.int (byt x 0))] rfl rfl rfl (Nat.le_of_ble_eq_true rfl) rfl rfl ?_
  refine x_ld 3 1 0 22 rfl rfl rfl rfl rfl ?_
  refine x_cst (.int 32) 2 24 rfl rfl rfl ?_
  refine x_iclt 33 27 rfl rfl rfl (fun c => absurd c (Int32.not_lt.mpr K0.1)) (fun _ => ?_)
  refine x_ld 3 1 0 28 rfl rfl rfl rfl rfl ?_
  refine x_cst (.int 126) 2 30 rfl rfl rfl ?_
  refine x_icle 43 33 rfl rfl rfl (fun _ => ?_) (fun c => absurd K0.2 c)
  refine x_inc 2 1 1 46 [some (.ref a), some (.int x), some (.int 1), some (.int (byt x 0))] rfl rfl (Nat.le_of_ble_eq_true rfl) rfl rfl rfl ?_
  refine x_go 2 rfl rfl ?_
  refine x_ld 2 1 0 3 rfl rfl rfl rfl rfl ?_
  refine x_cst (.int 4) 1 4 rfl rfl rfl ?_
  refine x_icge 49 7 rfl rfl rfl (fun c => absurd c (by decide)) (fun _ => ?_)
  refine x_ld 1 1 0 8 rfl rfl rfl rfl rfl ?_
  refine x_ld 2 1 0 9 rfl rfl rfl rfl rfl ?_
  refine x_cv 64 52 12 [.int x, .int 1] rfl rfl rfl (Nat.le_of_ble_eq_true rfl) rfl rfl (Nat.le_of_ble_eq_true rfl) trivial (Nat.le_of_ble_eq_true rfl) (c_52 (L := L) (xs := xs) d) rfl ?_
  refine x_ifeq 49 15 rfl rfl rfl (fun c => absurd c (nz32 K1.1)) (fun _ => ?_)
  refine x_ld 1 1 0 16 rfl rfl rfl rfl rfl ?_
  refine x_ld 2 1 0 17 rfl rfl rfl rfl rfl ?_
  refine x_cv 64 52 20 [.int x, .int 1] rfl rfl rfl (Nat.le_of_ble_eq_true rfl) rfl rfl (Nat.le_of_ble_eq_true rfl) trivial (Nat.le_of_ble_eq_true rfl) (c_52 (L := L) (xs := xs) d) rfl ?_
  refine x_st 3 1 0 21 [some (.ref a), some (.int x), some (.int 1), some (.int (byt x 1))] rfl rfl rfl (Nat.le_of_ble_eq_true rfl) rfl rfl ?_
  refine x_ld 3 1 0 22 rfl rfl rfl rfl rfl ?_
  refine x_cst (.int 32) 2 24 rfl rfl rfl ?_
  refine x_iclt 33 27 rfl rfl rfl (fun c => absurd c (Int32.not_lt.mpr K1.1)) (fun _ => ?_)
  refine x_ld 3 1 0 28 rfl rfl rfl rfl rfl ?_
  refine x_cst (.int 126) 2 30 rfl rfl rfl ?_
  refine x_icle 43 33 rfl rfl rfl (fun _ => ?_) (fun c => absurd K1.2 c)
  refine x_inc 2 1 1 46 [some (.ref a), some (.int x), some (.int 2), some (.int (byt x 1))] rfl rfl (Nat.le_of_ble_eq_true rfl) rfl rfl rfl ?_
  refine x_go 2 rfl rfl ?_
  refine x_ld 2 1 0 3 rfl rfl rfl rfl rfl ?_
  refine x_cst (.int 4) 1 4 rfl rfl rfl ?_
  refine x_icge 49 7 rfl rfl rfl (fun c => absurd c (by decide)) (fun _ => ?_)
  refine x_ld 1 1 0 8 rfl rfl rfl rfl rfl ?_
  refine x_ld 2 1 0 9 rfl rfl rfl rfl rfl ?_
  refine x_cv 64 52 12 [.int x, .int 2] rfl rfl rfl (Nat.le_of_ble_eq_true rfl) rfl rfl (Nat.le_of_ble_eq_true rfl) trivial (Nat.le_of_ble_eq_true rfl) (c_52 (L := L) (xs := xs) d) rfl ?_
  refine x_ifeq 49 15 rfl rfl rfl (fun c => absurd c (nz32 K2.1)) (fun _ => ?_)
  refine x_ld 1 1 0 16 rfl rfl rfl rfl rfl ?_
  refine x_ld 2 1 0 17 rfl rfl rfl rfl rfl ?_
  refine x_cv 64 52 20 [.int x, .int 2] rfl rfl rfl (Nat.le_of_ble_eq_true rfl) rfl rfl (Nat.le_of_ble_eq_true rfl) trivial (Nat.le_of_ble_eq_true rfl) (c_52 (L := L) (xs := xs) d) rfl ?_
  refine x_st 3 1 0 21 [some (.ref a), some (.int x), some (.int 2), some (.int (byt x 2))] rfl rfl rfl (Nat.le_of_ble_eq_true rfl) rfl rfl ?_
  refine x_ld 3 1 0 22 rfl rfl rfl rfl rfl ?_
  refine x_cst (.int 32) 2 24 rfl rfl rfl ?_
  refine x_iclt 33 27 rfl rfl rfl (fun c => absurd c (Int32.not_lt.mpr K2.1)) (fun _ => ?_)
  refine x_ld 3 1 0 28 rfl rfl rfl rfl rfl ?_
  refine x_cst (.int 126) 2 30 rfl rfl rfl ?_
  refine x_icle 43 33 rfl rfl rfl (fun _ => ?_) (fun c => absurd K2.2 c)
  refine x_inc 2 1 1 46 [some (.ref a), some (.int x), some (.int 3), some (.int (byt x 2))] rfl rfl (Nat.le_of_ble_eq_true rfl) rfl rfl rfl ?_
  refine x_go 2 rfl rfl ?_
  refine x_ld 2 1 0 3 rfl rfl rfl rfl rfl ?_
  refine x_cst (.int 4) 1 4 rfl rfl rfl ?_
  refine x_icge 49 7 rfl rfl rfl (fun c => absurd c (by decide)) (fun _ => ?_)
  refine x_ld 1 1 0 8 rfl rfl rfl rfl rfl ?_
  refine x_ld 2 1 0 9 rfl rfl rfl rfl rfl ?_
  refine x_cv 64 52 12 [.int x, .int 3] rfl rfl rfl (Nat.le_of_ble_eq_true rfl) rfl rfl (Nat.le_of_ble_eq_true rfl) trivial (Nat.le_of_ble_eq_true rfl) (c_52 (L := L) (xs := xs) d) rfl ?_
  refine x_ifeq 49 15 rfl rfl rfl (fun _ => ?_) (fun c => absurd Z c)
  refine x_ld 0 1 2 50 rfl rfl rfl rfl rfl ?_
  refine x_get 13 0 1 53 rfl rfl ha rfl rfl ?_
  refine x_ld 2 1 0 54 rfl rfl rfl rfl rfl ?_
  refine x_bin (Int32.ofNat (n + 3)) 55 rfl rfl (i32_add n 3) rfl ?_
  refine x_cst (.int 16) 2 57 rfl rfl rfl ?_
  refine x_icle 62 60 rfl rfl rfl (fun c => absurd c (fun z => absurd ((i32_le 16 (n + 3) (by decide) (by omega)).mp z) (by omega))) (fun _ => ?_)
  refine x_cst (.int 0) 1 61 rfl rfl rfl ?_
  refine x_ret rfl rfl rfl rfl ?_
  exact ⟨rfl, rfl⟩
theorem b51_3 (d : Nat) {h : ab_H} {a ln n : Nat} {x : Int32} {g : Nat → Int32} {f2 f3 f4 f5 f6 f7 f8 f9 f10 f11 f12 : Value} (ha : h[a]? = some (.inr (0, [.ref ln, .int (Int32.ofNat n), f2, f3, f4, f5, f6, f7, f8, f9, f10, f11, f12]))) (hl : h[ln]? = some (.inl (2, 16, .inl g))) (hne : ln ≠ a) (hn : n ≤ 16) (H : bdc x 3) (h1 : h.length + 1 ≤ 600000) (h2 : ab_wt (pg_G L xs) h + 6 ≤ 7000000) : ab_X (pg_G L xs) (d + 2) 51 [.ref a, .int x] h (fun r h' => r = .inr h.length ∧ h' = h ++ [.inr (6, [])]) := by
  show ab_W (pg_G L xs) (ab_X (pg_G L xs) (d + 1)) 51 _ 0 [some (.ref a), some (.int x), none, none] [] h
  have K0 : 32 ≤ byt x 0 ∧ byt x 0 ≤ 126 := H.1 0 (by decide)
  have K1 : 32 ≤ byt x 1 ∧ byt x 1 ≤ 126 := H.1 1 (by decide)
  have K2 : 32 ≤ byt x 2 ∧ byt x 2 ≤ 126 := H.1 2 (by decide)
  obtain ⟨-, B0, B1 | ⟨B1, B2⟩⟩ := H
  · refine x_cst (.int 0) 1 1 rfl rfl rfl ?_
    refine x_st 2 1 0 2 [some (.ref a), some (.int x), some (.int 0), none] rfl rfl rfl (Nat.le_of_ble_eq_true rfl) rfl rfl ?_
    refine x_ld 2 1 0 3 rfl rfl rfl rfl rfl ?_
    refine x_cst (.int 4) 1 4 rfl rfl rfl ?_
    refine x_icge 49 7 rfl rfl rfl (fun c => absurd c (by decide)) (fun _ => ?_)
    refine x_ld 1 1 0 8 rfl rfl rfl rfl rfl ?_
    refine x_ld 2 1 0 9 rfl rfl rfl rfl rfl ?_
    refine x_cv 64 52 12 [.int x, .int 0] rfl rfl rfl (Nat.le_of_ble_eq_true rfl) rfl rfl (Nat.le_of_ble_eq_true rfl) trivial (Nat.le_of_ble_eq_true rfl) (c_52 (L := L) (xs := xs) d) rfl ?_
    refine x_ifeq 49 15 rfl rfl rfl (fun c => absurd c (nz32 K0.1)) (fun _ => ?_)
    refine x_ld 1 1 0 16 rfl rfl rfl rfl rfl ?_
    refine x_ld 2 1 0 17 rfl rfl rfl rfl rfl ?_
    refine x_cv 64 52 20 [.int x, .int 0] rfl rfl rfl (Nat.le_of_ble_eq_true rfl) rfl rfl (Nat.le_of_ble_eq_true rfl) trivial (Nat.le_of_ble_eq_true rfl) (c_52 (L := L) (xs := xs) d) rfl ?_
    refine x_st 3 1 0 21 [some (.ref a), some (.int x), some (.int 0), some (.int (byt x 0))] rfl rfl rfl (Nat.le_of_ble_eq_true rfl) rfl rfl ?_
    refine x_ld 3 1 0 22 rfl rfl rfl rfl rfl ?_
    refine x_cst (.int 32) 2 24 rfl rfl rfl ?_
    refine x_iclt 33 27 rfl rfl rfl (fun c => absurd c (Int32.not_lt.mpr K0.1)) (fun _ => ?_)
    refine x_ld 3 1 0 28 rfl rfl rfl rfl rfl ?_
    refine x_cst (.int 126) 2 30 rfl rfl rfl ?_
    refine x_icle 43 33 rfl rfl rfl (fun _ => ?_) (fun c => absurd K0.2 c)
    refine x_inc 2 1 1 46 [some (.ref a), some (.int x), some (.int 1), some (.int (byt x 0))] rfl rfl (Nat.le_of_ble_eq_true rfl) rfl rfl rfl ?_
    refine x_go 2 rfl rfl ?_
    refine x_ld 2 1 0 3 rfl rfl rfl rfl rfl ?_
    refine x_cst (.int 4) 1 4 rfl rfl rfl ?_
    refine x_icge 49 7 rfl rfl rfl (fun c => absurd c (by decide)) (fun _ => ?_)
    refine x_ld 1 1 0 8 rfl rfl rfl rfl rfl ?_
    refine x_ld 2 1 0 9 rfl rfl rfl rfl rfl ?_
    refine x_cv 64 52 12 [.int x, .int 1] rfl rfl rfl (Nat.le_of_ble_eq_true rfl) rfl rfl (Nat.le_of_ble_eq_true rfl) trivial (Nat.le_of_ble_eq_true rfl) (c_52 (L := L) (xs := xs) d) rfl ?_
    refine x_ifeq 49 15 rfl rfl rfl (fun c => absurd c (nz32 K1.1)) (fun _ => ?_)
    refine x_ld 1 1 0 16 rfl rfl rfl rfl rfl ?_
    refine x_ld 2 1 0 17 rfl rfl rfl rfl rfl ?_
    refine x_cv 64 52 20 [.int x, .int 1] rfl rfl rfl (Nat.le_of_ble_eq_true rfl) rfl rfl (Nat.le_of_ble_eq_true rfl) trivial (Nat.le_of_ble_eq_true rfl) (c_52 (L := L) (xs := xs) d) rfl ?_
    refine x_st 3 1 0 21 [some (.ref a), some (.int x), some (.int 1), some (.int (byt x 1))] rfl rfl rfl (Nat.le_of_ble_eq_true rfl) rfl rfl ?_
    refine x_ld 3 1 0 22 rfl rfl rfl rfl rfl ?_
    refine x_cst (.int 32) 2 24 rfl rfl rfl ?_
    refine x_iclt 33 27 rfl rfl rfl (fun c => absurd c (Int32.not_lt.mpr K1.1)) (fun _ => ?_)
    refine x_ld 3 1 0 28 rfl rfl rfl rfl rfl ?_
    refine x_cst (.int 126) 2 30 rfl rfl rfl ?_
    refine x_icle 43 33 rfl rfl rfl (fun _ => ?_) (fun c => absurd K1.2 c)
    refine x_inc 2 1 1 46 [some (.ref a), some (.int x), some (.int 2), some (.int (byt x 1))] rfl rfl (Nat.le_of_ble_eq_true rfl) rfl rfl rfl ?_
    refine x_go 2 rfl rfl ?_
    refine x_ld 2 1 0 3 rfl rfl rfl rfl rfl ?_
    refine x_cst (.int 4) 1 4 rfl rfl rfl ?_
    refine x_icge 49 7 rfl rfl rfl (fun c => absurd c (by decide)) (fun _ => ?_)
    refine x_ld 1 1 0 8 rfl rfl rfl rfl rfl ?_
    refine x_ld 2 1 0 9 rfl rfl rfl rfl rfl ?_
    refine x_cv 64 52 12 [.int x, .int 2] rfl rfl rfl (Nat.le_of_ble_eq_true rfl) rfl rfl (Nat.le_of_ble_eq_true rfl) trivial (Nat.le_of_ble_eq_true rfl) (c_52 (L := L) (xs := xs) d) rfl ?_
    refine x_ifeq 49 15 rfl rfl rfl (fun c => absurd c (nz32 K2.1)) (fun _ => ?_)
    refine x_ld 1 1 0 16 rfl rfl rfl rfl rfl ?_
    refine x_ld 2 1 0 17 rfl rfl rfl rfl rfl ?_
    refine x_cv 64 52 20 [.int x, .int 2] rfl rfl rfl (Nat.le_of_ble_eq_true rfl) rfl rfl (Nat.le_of_ble_eq_true rfl) trivial (Nat.le_of_ble_eq_true rfl) (c_52 (L := L) (xs := xs) d) rfl ?_
    refine x_st 3 1 0 21 [some (.ref a), some (.int x), some (.int 2), some (.int (byt x 2))] rfl rfl rfl (Nat.le_of_ble_eq_true rfl) rfl rfl ?_
    refine x_ld 3 1 0 22 rfl rfl rfl rfl rfl ?_
    refine x_cst (.int 32) 2 24 rfl rfl rfl ?_
    refine x_iclt 33 27 rfl rfl rfl (fun c => absurd c (Int32.not_lt.mpr K2.1)) (fun _ => ?_)
    refine x_ld 3 1 0 28 rfl rfl rfl rfl rfl ?_
    refine x_cst (.int 126) 2 30 rfl rfl rfl ?_
    refine x_icle 43 33 rfl rfl rfl (fun _ => ?_) (fun c => absurd K2.2 c)
    refine x_inc 2 1 1 46 [some (.ref a), some (.int x), some (.int 3), some (.int (byt x 2))] rfl rfl (Nat.le_of_ble_eq_true rfl) rfl rfl rfl ?_
    refine x_go 2 rfl rfl ?_
    refine x_ld 2 1 0 3 rfl rfl rfl rfl rfl ?_
    refine x_cst (.int 4) 1 4 rfl rfl rfl ?_
    refine x_icge 49 7 rfl rfl rfl (fun c => absurd c (by decide)) (fun _ => ?_)
    refine x_ld 1 1 0 8 rfl rfl rfl rfl rfl ?_
    refine x_ld 2 1 0 9 rfl rfl rfl rfl rfl ?_
    refine x_cv 64 52 12 [.int x, .int 3] rfl rfl rfl (Nat.le_of_ble_eq_true rfl) rfl rfl (Nat.le_of_ble_eq_true rfl) trivial (Nat.le_of_ble_eq_true rfl) (c_52 (L := L) (xs := xs) d) rfl ?_
    refine x_ifeq 49 15 rfl rfl rfl (fun c => absurd c B0) (fun _ => ?_)
    refine x_ld 1 1 0 16 rfl rfl rfl rfl rfl ?_
    refine x_ld 2 1 0 17 rfl rfl rfl rfl rfl ?_
    refine x_cv 64 52 20 [.int x, .int 3] rfl rfl rfl (Nat.le_of_ble_eq_true rfl) rfl rfl (Nat.le_of_ble_eq_true rfl) trivial (Nat.le_of_ble_eq_true rfl) (c_52 (L := L) (xs := xs) d) rfl ?_
    refine x_st 3 1 0 21 [some (.ref a), some (.int x), some (.int 3), some (.int (byt x 3))] rfl rfl rfl (Nat.le_of_ble_eq_true rfl) rfl rfl ?_
    refine x_ld 3 1 0 22 rfl rfl rfl rfl rfl ?_
    refine x_cst (.int 32) 2 24 rfl rfl rfl ?_
    refine x_iclt 33 27 rfl rfl rfl (fun _ => ?_) (fun c => absurd B1 c)
    refine x_thr 68 6 70 72 rfl rfl rfl rfl rfl rfl rfl rfl h1 h2 (Nat.le_of_ble_eq_true rfl) ?_
    exact ⟨rfl, rfl⟩
  · refine x_cst (.int 0) 1 1 rfl rfl rfl ?_
    refine x_st 2 1 0 2 [some (.ref a), some (.int x), some (.int 0), none] rfl rfl rfl (Nat.le_of_ble_eq_true rfl) rfl rfl ?_
    refine x_ld 2 1 0 3 rfl rfl rfl rfl rfl ?_
    refine x_cst (.int 4) 1 4 rfl rfl rfl ?_
    refine x_icge 49 7 rfl rfl rfl (fun c => absurd c (by decide)) (fun _ => ?_)
    refine x_ld 1 1 0 8 rfl rfl rfl rfl rfl ?_
    refine x_ld 2 1 0 9 rfl rfl rfl rfl rfl ?_
    refine x_cv 64 52 12 [.int x, .int 0] rfl rfl rfl (Nat.le_of_ble_eq_true rfl) rfl rfl (Nat.le_of_ble_eq_true rfl) trivial (Nat.le_of_ble_eq_true rfl) (c_52 (L := L) (xs := xs) d) rfl ?_
    refine x_ifeq 49 15 rfl rfl rfl (fun c => absurd c (nz32 K0.1)) (fun _ => ?_)
    refine x_ld 1 1 0 16 rfl rfl rfl rfl rfl ?_
    refine x_ld 2 1 0 17 rfl rfl rfl rfl rfl ?_
    refine x_cv 64 52 20 [.int x, .int 0] rfl rfl rfl (Nat.le_of_ble_eq_true rfl) rfl rfl (Nat.le_of_ble_eq_true rfl) trivial (Nat.le_of_ble_eq_true rfl) (c_52 (L := L) (xs := xs) d) rfl ?_
    refine x_st 3 1 0 21 [some (.ref a), some (.int x), some (.int 0), some (.int (byt x 0))] rfl rfl rfl (Nat.le_of_ble_eq_true rfl) rfl rfl ?_
    refine x_ld 3 1 0 22 rfl rfl rfl rfl rfl ?_
    refine x_cst (.int 32) 2 24 rfl rfl rfl ?_
    refine x_iclt 33 27 rfl rfl rfl (fun c => absurd c (Int32.not_lt.mpr K0.1)) (fun _ => ?_)
    refine x_ld 3 1 0 28 rfl rfl rfl rfl rfl ?_
    refine x_cst (.int 126) 2 30 rfl rfl rfl ?_
    refine x_icle 43 33 rfl rfl rfl (fun _ => ?_) (fun c => absurd K0.2 c)
    refine x_inc 2 1 1 46 [some (.ref a), some (.int x), some (.int 1), some (.int (byt x 0))] rfl rfl (Nat.le_of_ble_eq_true rfl) rfl rfl rfl ?_
    refine x_go 2 rfl rfl ?_
    refine x_ld 2 1 0 3 rfl rfl rfl rfl rfl ?_
    refine x_cst (.int 4) 1 4 rfl rfl rfl ?_
    refine x_icge 49 7 rfl rfl rfl (fun c => absurd c (by decide)) (fun _ => ?_)
    refine x_ld 1 1 0 8 rfl rfl rfl rfl rfl ?_
    refine x_ld 2 1 0 9 rfl rfl rfl rfl rfl ?_
    refine x_cv 64 52 12 [.int x, .int 1] rfl rfl rfl (Nat.le_of_ble_eq_true rfl) rfl rfl (Nat.le_of_ble_eq_true rfl) trivial (Nat.le_of_ble_eq_true rfl) (c_52 (L := L) (xs := xs) d) rfl ?_
    refine x_ifeq 49 15 rfl rfl rfl (fun c => absurd c (nz32 K1.1)) (fun _ => ?_)
    refine x_ld 1 1 0 16 rfl rfl rfl rfl rfl ?_
    refine x_ld 2 1 0 17 rfl rfl rfl rfl rfl ?_
    refine x_cv 64 52 20 [.int x, .int 1] rfl rfl rfl (Nat.le_of_ble_eq_true rfl) rfl rfl (Nat.le_of_ble_eq_true rfl) trivial (Nat.le_of_ble_eq_true rfl) (c_52 (L := L) (xs := xs) d) rfl ?_
    refine x_st 3 1 0 21 [some (.ref a), some (.int x), some (.int 1), some (.int (byt x 1))] rfl rfl rfl (Nat.le_of_ble_eq_true rfl) rfl rfl ?_
    refine x_ld 3 1 0 22 rfl rfl rfl rfl rfl ?_
    refine x_cst (.int 32) 2 24 rfl rfl rfl ?_
    refine x_iclt 33 27 rfl rfl rfl (fun c => absurd c (Int32.not_lt.mpr K1.1)) (fun _ => ?_)
    refine x_ld 3 1 0 28 rfl rfl rfl rfl rfl ?_
    refine x_cst (.int 126) 2 30 rfl rfl rfl ?_
    refine x_icle 43 33 rfl rfl rfl (fun _ => ?_) (fun c => absurd K1.2 c)
    refine x_inc 2 1 1 46 [some (.ref a), some (.int x), some (.int 2), some (.int (byt x 1))] rfl rfl (Nat.le_of_ble_eq_true rfl) rfl rfl rfl ?_
    refine x_go 2 rfl rfl ?_
    refine x_ld 2 1 0 3 rfl rfl rfl rfl rfl ?_
    refine x_cst (.int 4) 1 4 rfl rfl rfl ?_
    refine x_icge 49 7 rfl rfl rfl (fun c => absurd c (by decide)) (fun _ => ?_)
    refine x_ld 1 1 0 8 rfl rfl rfl rfl rfl ?_
    refine x_ld 2 1 0 9 rfl rfl rfl rfl rfl ?_
    refine x_cv 64 52 12 [.int x, .int 2] rfl rfl rfl (Nat.le_of_ble_eq_true rfl) rfl rfl (Nat.le_of_ble_eq_true rfl) trivial (Nat.le_of_ble_eq_true rfl) (c_52 (L := L) (xs := xs) d) rfl ?_
    refine x_ifeq 49 15 rfl rfl rfl (fun c => absurd c (nz32 K2.1)) (fun _ => ?_)
    refine x_ld 1 1 0 16 rfl rfl rfl rfl rfl ?_
    refine x_ld 2 1 0 17 rfl rfl rfl rfl rfl ?_
    refine x_cv 64 52 20 [.int x, .int 2] rfl rfl rfl (Nat.le_of_ble_eq_true rfl) rfl rfl (Nat.le_of_ble_eq_true rfl) trivial (Nat.le_of_ble_eq_true rfl) (c_52 (L := L) (xs := xs) d) rfl ?_
    refine x_st 3 1 0 21 [some (.ref a), some (.int x), some (.int 2), some (.int (byt x 2))] rfl rfl rfl (Nat.le_of_ble_eq_true rfl) rfl rfl ?_
    refine x_ld 3 1 0 22 rfl rfl rfl rfl rfl ?_
    refine x_cst (.int 32) 2 24 rfl rfl rfl ?_
    refine x_iclt 33 27 rfl rfl rfl (fun c => absurd c (Int32.not_lt.mpr K2.1)) (fun _ => ?_)
    refine x_ld 3 1 0 28 rfl rfl rfl rfl rfl ?_
    refine x_cst (.int 126) 2 30 rfl rfl rfl ?_
    refine x_icle 43 33 rfl rfl rfl (fun _ => ?_) (fun c => absurd K2.2 c)
    refine x_inc 2 1 1 46 [some (.ref a), some (.int x), some (.int 3), some (.int (byt x 2))] rfl rfl (Nat.le_of_ble_eq_true rfl) rfl rfl rfl ?_
    refine x_go 2 rfl rfl ?_
    refine x_ld 2 1 0 3 rfl rfl rfl rfl rfl ?_
    refine x_cst (.int 4) 1 4 rfl rfl rfl ?_
    refine x_icge 49 7 rfl rfl rfl (fun c => absurd c (by decide)) (fun _ => ?_)
    refine x_ld 1 1 0 8 rfl rfl rfl rfl rfl ?_
    refine x_ld 2 1 0 9 rfl rfl rfl rfl rfl ?_
    refine x_cv 64 52 12 [.int x, .int 3] rfl rfl rfl (Nat.le_of_ble_eq_true rfl) rfl rfl (Nat.le_of_ble_eq_true rfl) trivial (Nat.le_of_ble_eq_true rfl) (c_52 (L := L) (xs := xs) d) rfl ?_
    refine x_ifeq 49 15 rfl rfl rfl (fun c => absurd c B0) (fun _ => ?_)
    refine x_ld 1 1 0 16 rfl rfl rfl rfl rfl ?_
    refine x_ld 2 1 0 17 rfl rfl rfl rfl rfl ?_
    refine x_cv 64 52 20 [.int x, .int 3] rfl rfl rfl (Nat.le_of_ble_eq_true rfl) rfl rfl (Nat.le_of_ble_eq_true rfl) trivial (Nat.le_of_ble_eq_true rfl) (c_52 (L := L) (xs := xs) d) rfl ?_
    refine x_st 3 1 0 21 [some (.ref a), some (.int x), some (.int 3), some (.int (byt x 3))] rfl rfl rfl (Nat.le_of_ble_eq_true rfl) rfl rfl ?_
    refine x_ld 3 1 0 22 rfl rfl rfl rfl rfl ?_
    refine x_cst (.int 32) 2 24 rfl rfl rfl ?_
    refine x_iclt 33 27 rfl rfl rfl (fun c => absurd c B1) (fun _ => ?_)
    refine x_ld 3 1 0 28 rfl rfl rfl rfl rfl ?_
    refine x_cst (.int 126) 2 30 rfl rfl rfl ?_
    refine x_icle 43 33 rfl rfl rfl (fun c => absurd c B2) (fun _ => ?_)
    refine x_thr 68 6 70 72 rfl rfl rfl rfl rfl rfl rfl rfl h1 h2 (Nat.le_of_ble_eq_true rfl) ?_
    exact ⟨rfl, rfl⟩
theorem t51_4 (d : Nat) {h : ab_H} {a ln n : Nat} {x : Int32} {g : Nat → Int32} {f2 f3 f4 f5 f6 f7 f8 f9 f10 f11 f12 : Value} (ha : h[a]? = some (.inr (0, [.ref ln, .int (Int32.ofNat n), f2, f3, f4, f5, f6, f7, f8, f9, f10, f11, f12]))) (hl : h[ln]? = some (.inl (2, 16, .inl g))) (hne : ln ≠ a) (hn : n ≤ 16) (H : okc x 4) (hf : n + 4 ≤ 16) : ab_S (pg_G L xs) (d + 2) 51 [.ref a, .int x] h (some (.int 1)) ((h.set ln (.inl (2, 16, .inl (ups g n x 4)))).set a (.inr (0, [.ref ln, .int (Int32.ofNat (n + 4)), f2, f3, f4, f5, f6, f7, f8, f9, f10, f11, f12]))) := by
  show ab_W (pg_G L xs) (ab_X (pg_G L xs) (d + 1)) 51 _ 0 [some (.ref a), some (.int x), none, none] [] h
  have K0 : 32 ≤ byt x 0 ∧ byt x 0 ≤ 126 := H.1 0 (by decide)
  have K1 : 32 ≤ byt x 1 ∧ byt x 1 ≤ 126 := H.1 1 (by decide)
  have K2 : 32 ≤ byt x 2 ∧ byt x 2 ≤ 126 := H.1 2 (by decide)
  have K3 : 32 ≤ byt x 3 ∧ byt x 3 ≤ 126 := H.1 3 (by decide)
  refine x_cst (.int 0) 1 1 rfl rfl rfl ?_
  refine x_st 2 1 0 2 [some (.ref a), some (.int x), some (.int 0), none] rfl rfl rfl (Nat.le_of_ble_eq_true rfl) rfl rfl ?_
  refine x_ld 2 1 0 3 rfl rfl rfl rfl rfl ?_
  refine x_cst (.int 4) 1 4 rfl rfl rfl ?_
  refine x_icge 49 7 rfl rfl rfl (fun c => absurd c (by decide)) (fun _ => ?_)
  refine x_ld 1 1 0 8 rfl rfl rfl rfl rfl ?_
  refine x_ld 2 1 0 9 rfl rfl rfl rfl rfl ?_
  refine x_cv 64 52 12 [.int x, .int 0] rfl rfl rfl (Nat.le_of_ble_eq_true rfl) rfl rfl (Nat.le_of_ble_eq_true rfl) trivial (Nat.le_of_ble_eq_true rfl) (c_52 (L := L) (xs := xs) d) rfl ?_
  refine x_ifeq 49 15 rfl rfl rfl (fun c => absurd c (nz32 K0.1)) (fun _ => ?_)
  refine x_ld 1 1 0 16 rfl rfl rfl rfl rfl ?_
  refine x_ld 2 1 0 17 rfl rfl rfl rfl rfl ?_
  refine x_cv 64 52 20 [.int x, .int 0] rfl rfl rfl (Nat.le_of_ble_eq_true rfl) rfl rfl (Nat.le_of_ble_eq_true rfl) trivial (Nat.le_of_ble_eq_true rfl) (c_52 (L := L) (xs := xs) d) rfl ?_
  refine x_st 3 1 0 21 [some (.ref a), some (.int x), some (.int 0), some (.int (byt x 0))] rfl rfl rfl (Nat.le_of_ble_eq_true rfl) rfl rfl ?_
  refine x_ld 3 1 0 22 rfl rfl rfl rfl rfl ?_
  refine x_cst (.int 32) 2 24 rfl rfl rfl ?_
  refine x_iclt 33 27 rfl rfl rfl (fun c => absurd c (Int32.not_lt.mpr K0.1)) (fun _ => ?_)
  refine x_ld 3 1 0 28 rfl rfl rfl rfl rfl ?_
  refine x_cst (.int 126) 2 30 rfl rfl rfl ?_
  refine x_icle 43 33 rfl rfl rfl (fun _ => ?_) (fun c => absurd K0.2 c)
  refine x_inc 2 1 1 46 [some (.ref a), some (.int x), some (.int 1), some (.int (byt x 0))] rfl rfl (Nat.le_of_ble_eq_true rfl) rfl rfl rfl ?_
  refine x_go 2 rfl rfl ?_
  refine x_ld 2 1 0 3 rfl rfl rfl rfl rfl ?_
  refine x_cst (.int 4) 1 4 rfl rfl rfl ?_
  refine x_icge 49 7 rfl rfl rfl (fun c => absurd c (by decide)) (fun _ => ?_)
  refine x_ld 1 1 0 8 rfl rfl rfl rfl rfl ?_
  refine x_ld 2 1 0 9 rfl rfl rfl rfl rfl ?_
  refine x_cv 64 52 12 [.int x, .int 1] rfl rfl rfl (Nat.le_of_ble_eq_true rfl) rfl rfl (Nat.le_of_ble_eq_true rfl) trivial (Nat.le_of_ble_eq_true rfl) (c_52 (L := L) (xs := xs) d) rfl ?_
  refine x_ifeq 49 15 rfl rfl rfl (fun c => absurd c (nz32 K1.1)) (fun _ => ?_)
  refine x_ld 1 1 0 16 rfl rfl rfl rfl rfl ?_
  refine x_ld 2 1 0 17 rfl rfl rfl rfl rfl ?_
  refine x_cv 64 52 20 [.int x, .int 1] rfl rfl rfl (Nat.le_of_ble_eq_true rfl) rfl rfl (Nat.le_of_ble_eq_true rfl) trivial (Nat.le_of_ble_eq_true rfl) (c_52 (L := L) (xs := xs) d) rfl ?_
  refine x_st 3 1 0 21 [some (.ref a), some (.int x), some (.int 1), some (.int (byt x 1))] rfl rfl rfl (Nat.le_of_ble_eq_true rfl) rfl rfl ?_
  refine x_ld 3 1 0 22 rfl rfl rfl rfl rfl ?_
  refine x_cst (.int 32) 2 24 rfl rfl rfl ?_
  refine x_iclt 33 27 rfl rfl rfl (fun c => absurd c (Int32.not_lt.mpr K1.1)) (fun _ => ?_)
  refine x_ld 3 1 0 28 rfl rfl rfl rfl rfl ?_
  refine x_cst (.int 126) 2 30 rfl rfl rfl ?_
  refine x_icle 43 33 rfl rfl rfl (fun _ => ?_) (fun c => absurd K1.2 c)
  refine x_inc 2 1 1 46 [some (.ref a), some (.int x), some (.int 2), some (.int (byt x 1))] rfl rfl (Nat.le_of_ble_eq_true rfl) rfl rfl rfl ?_
  refine x_go 2 rfl rfl ?_
  refine x_ld 2 1 0 3 rfl rfl rfl rfl rfl ?_
  refine x_cst (.int 4) 1 4 rfl rfl rfl ?_
  refine x_icge 49 7 rfl rfl rfl (fun c => absurd c (by decide)) (fun _ => ?_)
  refine x_ld 1 1 0 8 rfl rfl rfl rfl rfl ?_
  refine x_ld 2 1 0 9 rfl rfl rfl rfl rfl ?_
  refine x_cv 64 52 12 [.int x, .int 2] rfl rfl rfl (Nat.le_of_ble_eq_true rfl) rfl rfl (Nat.le_of_ble_eq_true rfl) trivial (Nat.le_of_ble_eq_true rfl) (c_52 (L := L) (xs := xs) d) rfl ?_
  refine x_ifeq 49 15 rfl rfl rfl (fun c => absurd c (nz32 K2.1)) (fun _ => ?_)
  refine x_ld 1 1 0 16 rfl rfl rfl rfl rfl ?_
  refine x_ld 2 1 0 17 rfl rfl rfl rfl rfl ?_
  refine x_cv 64 52 20 [.int x, .int 2] rfl rfl rfl (Nat.le_of_ble_eq_true rfl) rfl rfl (Nat.le_of_ble_eq_true rfl) trivial (Nat.le_of_ble_eq_true rfl) (c_52 (L := L) (xs := xs) d) rfl ?_
  refine x_st 3 1 0 21 [some (.ref a), some (.int x), some (.int 2), some (.int (byt x 2))] rfl rfl rfl (Nat.le_of_ble_eq_true rfl) rfl rfl ?_
  refine x_ld 3 1 0 22 rfl rfl rfl rfl rfl ?_
  refine x_cst (.int 32) 2 24 rfl rfl rfl ?_
  refine x_iclt 33 27 rfl rfl rfl (fun c => absurd c (Int32.not_lt.mpr K2.1)) (fun _ => ?_)
  refine x_ld 3 1 0 28 rfl rfl rfl rfl rfl ?_
  refine x_cst (.int 126) 2 30 rfl rfl rfl ?_
  refine x_icle 43 33 rfl rfl rfl (fun _ => ?_) (fun c => absurd K2.2 c)
  refine x_inc 2 1 1 46 [some (.ref a), some (.int x), some (.int 3), some (.int (byt x 2))] rfl rfl (Nat.le_of_ble_eq_true rfl) rfl rfl rfl ?_
  refine x_go 2 rfl rfl ?_
  refine x_ld 2 1 0 3 rfl rfl rfl rfl rfl ?_
  refine x_cst (.int 4) 1 4 rfl rfl rfl ?_
  refine x_icge 49 7 rfl rfl rfl (fun c => absurd c (by decide)) (fun _ => ?_)
  refine x_ld 1 1 0 8 rfl rfl rfl rfl rfl ?_
  refine x_ld 2 1 0 9 rfl rfl rfl rfl rfl ?_
  refine x_cv 64 52 12 [.int x, .int 3] rfl rfl rfl (Nat.le_of_ble_eq_true rfl) rfl rfl (Nat.le_of_ble_eq_true rfl) trivial (Nat.le_of_ble_eq_true rfl) (c_52 (L := L) (xs := xs) d) rfl ?_
  refine x_ifeq 49 15 rfl rfl rfl (fun c => absurd c (nz32 K3.1)) (fun _ => ?_)
  refine x_ld 1 1 0 16 rfl rfl rfl rfl rfl ?_
  refine x_ld 2 1 0 17 rfl rfl rfl rfl rfl ?_
  refine x_cv 64 52 20 [.int x, .int 3] rfl rfl rfl (Nat.le_of_ble_eq_true rfl) rfl rfl (Nat.le_of_ble_eq_true rfl) trivial (Nat.le_of_ble_eq_true rfl) (c_52 (L := L) (xs := xs) d) rfl ?_
  refine x_st 3 1 0 21 [some (.ref a), some (.int x), some (.int 3), some (.int (byt x 3))] rfl rfl rfl (Nat.le_of_ble_eq_true rfl) rfl rfl ?_
  refine x_ld 3 1 0 22 rfl rfl rfl rfl rfl ?_
  refine x_cst (.int 32) 2 24 rfl rfl rfl ?_
  refine x_iclt 33 27 rfl rfl rfl (fun c => absurd c (Int32.not_lt.mpr K3.1)) (fun _ => ?_)
  refine x_ld 3 1 0 28 rfl rfl rfl rfl rfl ?_
  refine x_cst (.int 126) 2 30 rfl rfl rfl ?_
  refine x_icle 43 33 rfl rfl rfl (fun _ => ?_) (fun c => absurd K3.2 c)
  refine x_inc 2 1 1 46 [some (.ref a), some (.int x), some (.int 4), some (.int (byt x 3))] rfl rfl (Nat.le_of_ble_eq_true rfl) rfl rfl rfl ?_
  refine x_go 2 rfl rfl ?_
  refine x_ld 2 1 0 3 rfl rfl rfl rfl rfl ?_
  refine x_cst (.int 4) 1 4 rfl rfl rfl ?_
  refine x_icge 49 7 rfl rfl rfl (fun _ => ?_) (fun c => absurd (by decide) c)
  refine x_ld 0 1 2 50 rfl rfl rfl rfl rfl ?_
  refine x_get 13 0 1 53 rfl rfl ha rfl rfl ?_
  refine x_ld 2 1 0 54 rfl rfl rfl rfl rfl ?_
  refine x_bin (Int32.ofNat (n + 4)) 55 rfl rfl (i32_add n 4) rfl ?_
  refine x_cst (.int 16) 2 57 rfl rfl rfl ?_
  refine x_icle 62 60 rfl rfl rfl (fun _ => ?_) (fun c => absurd ((i32_le 16 (n + 4) (by decide) (by omega)).mpr hf) c)
  refine x_cst (.int 0) 1 63 rfl rfl rfl ?_
  refine x_st 3 1 0 64 [some (.ref a), some (.int x), some (.int 4), some (.int 0)] rfl rfl rfl (Nat.le_of_ble_eq_true rfl) rfl rfl ?_
  refine x_ld 3 1 0 65 rfl rfl rfl rfl rfl ?_
  refine x_ld 2 1 0 66 rfl rfl rfl rfl rfl ?_
  refine x_icge 92 69 rfl rfl rfl (fun c => absurd c (by decide)) (fun _ => ?_)
  refine x_ld 0 1 2 70 rfl rfl rfl rfl rfl ?_
  refine x_get 9 0 0 73 rfl rfl ha rfl rfl ?_
  refine x_ld 0 1 2 74 rfl rfl rfl rfl rfl ?_
  refine x_get 13 0 1 77 rfl rfl ha rfl rfl ?_
  refine x_ld 3 1 0 78 rfl rfl rfl rfl rfl ?_
  refine x_bin (Int32.ofNat (n + 0)) 79 rfl rfl (i32_add n 0) rfl ?_
  refine x_ld 1 1 0 80 rfl rfl rfl rfl rfl ?_
  refine x_ld 3 1 0 81 rfl rfl rfl rfl rfl ?_
  refine x_cv 64 52 84 [.int x, .int 0] rfl rfl rfl (Nat.le_of_ble_eq_true rfl) rfl rfl (Nat.le_of_ble_eq_true rfl) trivial (Nat.le_of_ble_eq_true rfl) (c_52 (L := L) (xs := xs) d) rfl ?_
  refine x_un (.int ((byt x 0).toUInt32 % 65536).toInt32) 85 rfl rfl rfl ?_
  refine x_cts 86 rfl hl rfl (i32_in (n + 0) 16 (by omega) (by decide)) _ (by rw [i32_nat (n + 0) (by omega), (i2c_id _ K0.1 K0.2).1, (i2c_id _ K0.1 K0.2).2]) rfl ?_
  refine x_inc 3 1 1 89 [some (.ref a), some (.int x), some (.int 4), some (.int 1)] rfl rfl (Nat.le_of_ble_eq_true rfl) rfl rfl rfl ?_
  refine x_go 64 rfl rfl ?_
  refine x_ld 3 1 0 65 rfl rfl rfl rfl rfl ?_
  refine x_ld 2 1 0 66 rfl rfl rfl rfl rfl ?_
  refine x_icge 92 69 rfl rfl rfl (fun c => absurd c (by decide)) (fun _ => ?_)
  refine x_ld 0 1 2 70 rfl rfl rfl rfl rfl ?_
  refine x_get 9 0 0 73 rfl rfl ((set_ne hne).trans ha) rfl rfl ?_
  refine x_ld 0 1 2 74 rfl rfl rfl rfl rfl ?_
  refine x_get 13 0 1 77 rfl rfl ((set_ne hne).trans ha) rfl rfl ?_
  refine x_ld 3 1 0 78 rfl rfl rfl rfl rfl ?_
  refine x_bin (Int32.ofNat (n + 1)) 79 rfl rfl (i32_add n 1) rfl ?_
  refine x_ld 1 1 0 80 rfl rfl rfl rfl rfl ?_
  refine x_ld 3 1 0 81 rfl rfl rfl rfl rfl ?_
  refine x_cv 64 52 84 [.int x, .int 1] rfl rfl rfl (Nat.le_of_ble_eq_true rfl) rfl rfl (Nat.le_of_ble_eq_true rfl) trivial (Nat.le_of_ble_eq_true rfl) (c_52 (L := L) (xs := xs) d) rfl ?_
  refine x_un (.int ((byt x 1).toUInt32 % 65536).toInt32) 85 rfl rfl rfl ?_
  refine x_cts 86 rfl (set_at hl) rfl (i32_in (n + 1) 16 (by omega) (by decide)) _ (by rw [i32_nat (n + 1) (by omega), (i2c_id _ K1.1 K1.2).1, (i2c_id _ K1.1 K1.2).2]) rfl ?_
  refine x_inc 3 1 1 89 [some (.ref a), some (.int x), some (.int 4), some (.int 2)] rfl rfl (Nat.le_of_ble_eq_true rfl) rfl rfl rfl ?_
  refine x_go 64 rfl rfl ?_
  refine x_ld 3 1 0 65 rfl rfl rfl rfl rfl ?_
  refine x_ld 2 1 0 66 rfl rfl rfl rfl rfl ?_
  refine x_icge 92 69 rfl rfl rfl (fun c => absurd c (by decide)) (fun _ => ?_)
  refine x_ld 0 1 2 70 rfl rfl rfl rfl rfl ?_
  refine x_get 9 0 0 73 rfl rfl ((set_ne hne).trans ((set_ne hne).trans ha)) rfl rfl ?_
  refine x_ld 0 1 2 74 rfl rfl rfl rfl rfl ?_
  refine x_get 13 0 1 77 rfl rfl ((set_ne hne).trans ((set_ne hne).trans ha)) rfl rfl ?_
  refine x_ld 3 1 0 78 rfl rfl rfl rfl rfl ?_
  refine x_bin (Int32.ofNat (n + 2)) 79 rfl rfl (i32_add n 2) rfl ?_
  refine x_ld 1 1 0 80 rfl rfl rfl rfl rfl ?_
  refine x_ld 3 1 0 81 rfl rfl rfl rfl rfl ?_
  refine x_cv 64 52 84 [.int x, .int 2] rfl rfl rfl (Nat.le_of_ble_eq_true rfl) rfl rfl (Nat.le_of_ble_eq_true rfl) trivial (Nat.le_of_ble_eq_true rfl) (c_52 (L := L) (xs := xs) d) rfl ?_
  refine x_un (.int ((byt x 2).toUInt32 % 65536).toInt32) 85 rfl rfl rfl ?_
  refine x_cts 86 rfl (set_at (set_at hl)) rfl (i32_in (n + 2) 16 (by omega) (by decide)) _ (by rw [i32_nat (n + 2) (by omega), (i2c_id _ K2.1 K2.2).1, (i2c_id _ K2.1 K2.2).2]) rfl ?_
  refine x_inc 3 1 1 89 [some (.ref a), some (.int x), some (.int 4), some (.int 3)] rfl rfl (Nat.le_of_ble_eq_true rfl) rfl rfl rfl ?_
  refine x_go 64 rfl rfl ?_
  refine x_ld 3 1 0 65 rfl rfl rfl rfl rfl ?_
  refine x_ld 2 1 0 66 rfl rfl rfl rfl rfl ?_
  refine x_icge 92 69 rfl rfl rfl (fun c => absurd c (by decide)) (fun _ => ?_)
  refine x_ld 0 1 2 70 rfl rfl rfl rfl rfl ?_
  refine x_get 9 0 0 73 rfl rfl ((set_ne hne).trans ((set_ne hne).trans ((set_ne hne).trans ha))) rfl rfl ?_
  refine x_ld 0 1 2 74 rfl rfl rfl rfl rfl ?_
  refine x_get 13 0 1 77 rfl rfl ((set_ne hne).trans ((set_ne hne).trans ((set_ne hne).trans ha))) rfl rfl ?_
  refine x_ld 3 1 0 78 rfl rfl rfl rfl rfl ?_
  refine x_bin (Int32.ofNat (n + 3)) 79 rfl rfl (i32_add n 3) rfl ?_
  refine x_ld 1 1 0 80 rfl rfl rfl rfl rfl ?_
  refine x_ld 3 1 0 81 rfl rfl rfl rfl rfl ?_
  refine x_cv 64 52 84 [.int x, .int 3] rfl rfl rfl (Nat.le_of_ble_eq_true rfl) rfl rfl (Nat.le_of_ble_eq_true rfl) trivial (Nat.le_of_ble_eq_true rfl) (c_52 (L := L) (xs := xs) d) rfl ?_
  refine x_un (.int ((byt x 3).toUInt32 % 65536).toInt32) 85 rfl rfl rfl ?_
  refine x_cts 86 rfl (set_at (set_at (set_at hl))) rfl (i32_in (n + 3) 16 (by omega) (by decide)) _ (by rw [i32_nat (n + 3) (by omega), (i2c_id _ K3.1 K3.2).1, (i2c_id _ K3.1 K3.2).2]) rfl ?_
  refine x_inc 3 1 1 89 [some (.ref a), some (.int x), some (.int 4), some (.int 4)] rfl rfl (Nat.le_of_ble_eq_true rfl) rfl rfl rfl ?_
  refine x_go 64 rfl rfl ?_
  refine x_ld 3 1 0 65 rfl rfl rfl rfl rfl ?_
  refine x_ld 2 1 0 66 rfl rfl rfl rfl rfl ?_
  refine x_icge 92 69 rfl rfl rfl (fun _ => ?_) (fun c => absurd (by decide) c)
  refine x_ld 0 1 2 93 rfl rfl rfl rfl rfl ?_
  refine x_dup 94 rfl rfl rfl ?_
  refine x_get 13 0 1 97 rfl rfl ((set_ne hne).trans ((set_ne hne).trans ((set_ne hne).trans ((set_ne hne).trans ha)))) rfl rfl ?_
  refine x_ld 2 1 0 98 rfl rfl rfl rfl rfl ?_
  refine x_bin (Int32.ofNat (n + 4)) 99 rfl rfl (i32_add n 4) rfl ?_
  refine x_put 13 0 1 102 rfl rfl ((set_ne hne).trans ((set_ne hne).trans ((set_ne hne).trans ((set_ne hne).trans ha)))) (Nat.le_of_ble_eq_true rfl) rfl rfl rfl _ rfl rfl ?_
  refine x_cst (.int 1) 1 103 rfl rfl rfl ?_
  refine x_ret rfl rfl rfl rfl ?_
  exact ⟨rfl, by simp only [List.set_set]; rfl⟩
theorem f51_4 (d : Nat) {h : ab_H} {a ln n : Nat} {x : Int32} {g : Nat → Int32} {f2 f3 f4 f5 f6 f7 f8 f9 f10 f11 f12 : Value} (ha : h[a]? = some (.inr (0, [.ref ln, .int (Int32.ofNat n), f2, f3, f4, f5, f6, f7, f8, f9, f10, f11, f12]))) (hl : h[ln]? = some (.inl (2, 16, .inl g))) (hne : ln ≠ a) (hn : n ≤ 16) (H : okc x 4) (hf : ¬ n + 4 ≤ 16) : ab_S (pg_G L xs) (d + 2) 51 [.ref a, .int x] h (some (.int 0)) h := by
  show ab_W (pg_G L xs) (ab_X (pg_G L xs) (d + 1)) 51 _ 0 [some (.ref a), some (.int x), none, none] [] h
  have K0 : 32 ≤ byt x 0 ∧ byt x 0 ≤ 126 := H.1 0 (by decide)
  have K1 : 32 ≤ byt x 1 ∧ byt x 1 ≤ 126 := H.1 1 (by decide)
  have K2 : 32 ≤ byt x 2 ∧ byt x 2 ≤ 126 := H.1 2 (by decide)
  have K3 : 32 ≤ byt x 3 ∧ byt x 3 ≤ 126 := H.1 3 (by decide)
  refine x_cst (.int 0) 1 1 rfl rfl rfl ?_
  refine x_st 2 1 0 2 [some (.ref a), some (.int x), some (.int 0), none] rfl rfl rfl (Nat.le_of_ble_eq_true rfl) rfl rfl ?_
  refine x_ld 2 1 0 3 rfl rfl rfl rfl rfl ?_
  refine x_cst (.int 4) 1 4 rfl rfl rfl ?_
  refine x_icge 49 7 rfl rfl rfl (fun c => absurd c (by decide)) (fun _ => ?_)
  refine x_ld 1 1 0 8 rfl rfl rfl rfl rfl ?_
  refine x_ld 2 1 0 9 rfl rfl rfl rfl rfl ?_
  refine x_cv 64 52 12 [.int x, .int 0] rfl rfl rfl (Nat.le_of_ble_eq_true rfl) rfl rfl (Nat.le_of_ble_eq_true rfl) trivial (Nat.le_of_ble_eq_true rfl) (c_52 (L := L) (xs := xs) d) rfl ?_
  refine x_ifeq 49 15 rfl rfl rfl (fun c => absurd c (nz32 K0.1)) (fun _ => ?_)
  refine x_ld 1 1 0 16 rfl rfl rfl rfl rfl ?_
  refine x_ld 2 1 0 17 rfl rfl rfl rfl rfl ?_
  refine x_cv 64 52 20 [.int x, .int 0] rfl rfl rfl (Nat.le_of_ble_eq_true rfl) rfl rfl (Nat.le_of_ble_eq_true rfl) trivial (Nat.le_of_ble_eq_true rfl) (c_52 (L := L) (xs := xs) d) rfl ?_
  refine x_st 3 1 0 21 [some (.ref a), some (.int x), some (.int 0), some (.int (byt x 0))] rfl rfl rfl (Nat.le_of_ble_eq_true rfl) rfl rfl ?_
  refine x_ld 3 1 0 22 rfl rfl rfl rfl rfl ?_
  refine x_cst (.int 32) 2 24 rfl rfl rfl ?_
  refine x_iclt 33 27 rfl rfl rfl (fun c => absurd c (Int32.not_lt.mpr K0.1)) (fun _ => ?_)
  refine x_ld 3 1 0 28 rfl rfl rfl rfl rfl ?_
  refine x_cst (.int 126) 2 30 rfl rfl rfl ?_
  refine x_icle 43 33 rfl rfl rfl (fun _ => ?_) (fun c => absurd K0.2 c)
  refine x_inc 2 1 1 46 [some (.ref a), some (.int x), some (.int 1), some (.int (byt x 0))] rfl rfl (Nat.le_of_ble_eq_true rfl) rfl rfl rfl ?_
  refine x_go 2 rfl rfl ?_
  refine x_ld 2 1 0 3 rfl rfl rfl rfl rfl ?_
  refine x_cst (.int 4) 1 4 rfl rfl rfl ?_
  refine x_icge 49 7 rfl rfl rfl (fun c => absurd c (by decide)) (fun _ => ?_)
  refine x_ld 1 1 0 8 rfl rfl rfl rfl rfl ?_
  refine x_ld 2 1 0 9 rfl rfl rfl rfl rfl ?_
  refine x_cv 64 52 12 [.int x, .int 1] rfl rfl rfl (Nat.le_of_ble_eq_true rfl) rfl rfl (Nat.le_of_ble_eq_true rfl) trivial (Nat.le_of_ble_eq_true rfl) (c_52 (L := L) (xs := xs) d) rfl ?_
  refine x_ifeq 49 15 rfl rfl rfl (fun c => absurd c (nz32 K1.1)) (fun _ => ?_)
  refine x_ld 1 1 0 16 rfl rfl rfl rfl rfl ?_
  refine x_ld 2 1 0 17 rfl rfl rfl rfl rfl ?_
  refine x_cv 64 52 20 [.int x, .int 1] rfl rfl rfl (Nat.le_of_ble_eq_true rfl) rfl rfl (Nat.le_of_ble_eq_true rfl) trivial (Nat.le_of_ble_eq_true rfl) (c_52 (L := L) (xs := xs) d) rfl ?_
  refine x_st 3 1 0 21 [some (.ref a), some (.int x), some (.int 1), some (.int (byt x 1))] rfl rfl rfl (Nat.le_of_ble_eq_true rfl) rfl rfl ?_
  refine x_ld 3 1 0 22 rfl rfl rfl rfl rfl ?_
  refine x_cst (.int 32) 2 24 rfl rfl rfl ?_
  refine x_iclt 33 27 rfl rfl rfl (fun c => absurd c (Int32.not_lt.mpr K1.1)) (fun _ => ?_)
  refine x_ld 3 1 0 28 rfl rfl rfl rfl rfl ?_
  refine x_cst (.int 126) 2 30 rfl rfl rfl ?_
  refine x_icle 43 33 rfl rfl rfl (fun _ => ?_) (fun c => absurd K1.2 c)
  refine x_inc 2 1 1 46 [some (.ref a), some (.int x), some (.int 2), some (.int (byt x 1))] rfl rfl (Nat.le_of_ble_eq_true rfl) rfl rfl rfl ?_
  refine x_go 2 rfl rfl ?_
  refine x_ld 2 1 0 3 rfl rfl rfl rfl rfl ?_
  refine x_cst (.int 4) 1 4 rfl rfl rfl ?_
  refine x_icge 49 7 rfl rfl rfl (fun c => absurd c (by decide)) (fun _ => ?_)
  refine x_ld 1 1 0 8 rfl rfl rfl rfl rfl ?_
  refine x_ld 2 1 0 9 rfl rfl rfl rfl rfl ?_
  refine x_cv 64 52 12 [.int x, .int 2] rfl rfl rfl (Nat.le_of_ble_eq_true rfl) rfl rfl (Nat.le_of_ble_eq_true rfl) trivial (Nat.le_of_ble_eq_true rfl) (c_52 (L := L) (xs := xs) d) rfl ?_
  refine x_ifeq 49 15 rfl rfl rfl (fun c => absurd c (nz32 K2.1)) (fun _ => ?_)
  refine x_ld 1 1 0 16 rfl rfl rfl rfl rfl ?_
  refine x_ld 2 1 0 17 rfl rfl rfl rfl rfl ?_
  refine x_cv 64 52 20 [.int x, .int 2] rfl rfl rfl (Nat.le_of_ble_eq_true rfl) rfl rfl (Nat.le_of_ble_eq_true rfl) trivial (Nat.le_of_ble_eq_true rfl) (c_52 (L := L) (xs := xs) d) rfl ?_
  refine x_st 3 1 0 21 [some (.ref a), some (.int x), some (.int 2), some (.int (byt x 2))] rfl rfl rfl (Nat.le_of_ble_eq_true rfl) rfl rfl ?_
  refine x_ld 3 1 0 22 rfl rfl rfl rfl rfl ?_
  refine x_cst (.int 32) 2 24 rfl rfl rfl ?_
  refine x_iclt 33 27 rfl rfl rfl (fun c => absurd c (Int32.not_lt.mpr K2.1)) (fun _ => ?_)
  refine x_ld 3 1 0 28 rfl rfl rfl rfl rfl ?_
  refine x_cst (.int 126) 2 30 rfl rfl rfl ?_
  refine x_icle 43 33 rfl rfl rfl (fun _ => ?_) (fun c => absurd K2.2 c)
  refine x_inc 2 1 1 46 [some (.ref a), some (.int x), some (.int 3), some (.int (byt x 2))] rfl rfl (Nat.le_of_ble_eq_true rfl) rfl rfl rfl ?_
  refine x_go 2 rfl rfl ?_
  refine x_ld 2 1 0 3 rfl rfl rfl rfl rfl ?_
  refine x_cst (.int 4) 1 4 rfl rfl rfl ?_
  refine x_icge 49 7 rfl rfl rfl (fun c => absurd c (by decide)) (fun _ => ?_)
  refine x_ld 1 1 0 8 rfl rfl rfl rfl rfl ?_
  refine x_ld 2 1 0 9 rfl rfl rfl rfl rfl ?_
  refine x_cv 64 52 12 [.int x, .int 3] rfl rfl rfl (Nat.le_of_ble_eq_true rfl) rfl rfl (Nat.le_of_ble_eq_true rfl) trivial (Nat.le_of_ble_eq_true rfl) (c_52 (L := L) (xs := xs) d) rfl ?_
  refine x_ifeq 49 15 rfl rfl rfl (fun c => absurd c (nz32 K3.1)) (fun _ => ?_)
  refine x_ld 1 1 0 16 rfl rfl rfl rfl rfl ?_
  refine x_ld 2 1 0 17 rfl rfl rfl rfl rfl ?_
  refine x_cv 64 52 20 [.int x, .int 3] rfl rfl rfl (Nat.le_of_ble_eq_true rfl) rfl rfl (Nat.le_of_ble_eq_true rfl) trivial (Nat.le_of_ble_eq_true rfl) (c_52 (L := L) (xs := xs) d) rfl ?_
  refine x_st 3 1 0 21 [some (.ref a), some (.int x), some (.int 3), some (.int (byt x 3))] rfl rfl rfl (Nat.le_of_ble_eq_true rfl) rfl rfl ?_
  refine x_ld 3 1 0 22 rfl rfl rfl rfl rfl ?_
  refine x_cst (.int 32) 2 24 rfl rfl rfl ?_
  refine x_iclt 33 27 rfl rfl rfl (fun c => absurd c (Int32.not_lt.mpr K3.1)) (fun _ => ?_)
  refine x_ld 3 1 0 28 rfl rfl rfl rfl rfl ?_
  refine x_cst (.int 126) 2 30 rfl rfl rfl ?_
  refine x_icle 43 33 rfl rfl rfl (fun _ => ?_) (fun c => absurd K3.2 c)
  refine x_inc 2 1 1 46 [some (.ref a), some (.int x), some (.int 4), some (.int (byt x 3))] rfl rfl (Nat.le_of_ble_eq_true rfl) rfl rfl rfl ?_
  refine x_go 2 rfl rfl ?_
  refine x_ld 2 1 0 3 rfl rfl rfl rfl rfl ?_
  refine x_cst (.int 4) 1 4 rfl rfl rfl ?_
  refine x_icge 49 7 rfl rfl rfl (fun _ => ?_) (fun c => absurd (by decide) c)
  refine x_ld 0 1 2 50 rfl rfl rfl rfl rfl ?_
  refine x_get 13 0 1 53 rfl rfl ha rfl rfl ?_
  refine x_ld 2 1 0 54 rfl rfl rfl rfl rfl ?_
  refine x_bin (Int32.ofNat (n + 4)) 55 rfl rfl (i32_add n 4) rfl ?_
  refine x_cst (.int 16) 2 57 rfl rfl rfl ?_
  refine x_icle 62 60 rfl rfl rfl (fun c => absurd c (fun z => absurd ((i32_le 16 (n + 4) (by decide) (by omega)).mp z) (by omega))) (fun _ => ?_)
  refine x_cst (.int 0) 1 61 rfl rfl rfl ?_
  refine x_ret rfl rfl rfl rfl ?_
  exact ⟨rfl, rfl⟩
theorem t104_0 (d : Nat) {h : ab_H} {m ml n : Nat} {x : Int32} {g : Nat → Int32} {fs : List Value} (hm : h[m]? = some (.inr (5, fs))) (hfs : fs.length = 68) (h3 : fs[3]? = some (.ref ml)) (h4 : fs[4]? = some (.int (Int32.ofNat n))) (hl : h[ml]? = some (.inl (0, 16, .inl g))) (hne : ml ≠ m) (hn : n ≤ 16) (H : okc x 0) (hf : n + 0 ≤ 16) : ab_S (pg_G L xs) (d + 1) 104 [.ref m, .int x] h (some (.int 1)) ((h.set ml (.inl (0, 16, .inl (ups g n x 0)))).set m (.inr (5, (fs.set 2 (.int 0)).set 4 (.int (Int32.ofNat (n + 0)))))) := by
  show ab_W (pg_G L xs) (ab_X (pg_G L xs) d) 104 _ 0 [some (.ref m), some (.int x), none, none, none, none, none] [] h
  have Z := H.2 (by decide)
  refine x_cst (.int 0) 1 1 rfl rfl rfl ?_
  refine x_st 2 1 0 2 [some (.ref m), some (.int x), some (.int 0), none, none, none, none] rfl rfl rfl (Nat.le_of_ble_eq_true rfl) rfl rfl ?_
  refine x_cst (.int 1) 1 3 rfl rfl rfl ?_
  refine x_st 3 1 0 4 [some (.ref m), some (.int x), some (.int 0), some (.int 1), none, none, none] rfl rfl rfl (Nat.le_of_ble_eq_true rfl) rfl rfl ?_
  refine x_cst (.int 0) 1 5 rfl rfl rfl ?_
  refine x_st 4 2 0 7 [some (.ref m), some (.int x), some (.int 0), some (.int 1), some (.int 0), none, none] rfl rfl rfl (Nat.le_of_ble_eq_true rfl) rfl rfl ?_
  refine x_cst (.int 0) 1 8 rfl rfl rfl ?_
  refine x_st 5 2 0 10 [some (.ref m), some (.int x), some (.int 0), some (.int 1), some (.int 0), some (.int 0), none] rfl rfl rfl (Nat.le_of_ble_eq_true rfl) rfl rfl ?_
  refine x_ld 5 2 0 12 rfl rfl rfl rfl rfl ?_
  refine x_cst (.int 4) 1 13 rfl rfl rfl ?_
  refine x_icge 92 16 rfl rfl rfl (fun c => absurd c (by decide)) (fun _ => ?_)
  refine x_ld 1 1 0 17 rfl rfl rfl rfl rfl ?_
  refine x_cst (.int 8) 2 19 rfl rfl rfl ?_
  refine x_ld 5 2 0 21 rfl rfl rfl rfl rfl ?_
  refine x_bin (0) 22 rfl rfl rfl rfl ?_
  refine x_bin (x >>> (0 &&& 31)) 23 rfl rfl rfl rfl ?_
  refine x_cst (.int 255) 3 26 rfl rfl rfl ?_
  refine x_bin (byt x 0) 27 rfl rfl (byS_0 x) rfl ?_
  refine x_st 6 2 0 29 [some (.ref m), some (.int x), some (.int 0), some (.int 1), some (.int 0), some (.int 0), some (.int (byt x 0))] rfl rfl rfl (Nat.le_of_ble_eq_true rfl) rfl rfl ?_
  refine x_ld 3 1 0 30 rfl rfl rfl rfl rfl ?_
  refine x_ifeq 42 33 rfl rfl rfl (fun c => absurd c (by decide)) (fun _ => ?_)
  refine x_ld 6 2 0 35 rfl rfl rfl rfl rfl ?_
  refine x_ifeq 42 38 rfl rfl rfl (fun _ => ?_) (fun c => absurd Z c)
  refine x_cst (.int 0) 1 43 rfl rfl rfl ?_
  refine x_st 3 1 0 44 [some (.ref m), some (.int x), some (.int 0), some (.int 0), some (.int 0), some (.int 0), some (.int (byt x 0))] rfl rfl rfl (Nat.le_of_ble_eq_true rfl) rfl rfl ?_
  refine x_ld 4 2 0 46 rfl rfl rfl rfl rfl ?_
  refine x_ifne 67 49 rfl rfl rfl (fun c => absurd (by decide) c) (fun _ => ?_)
  refine x_ld 3 1 0 50 rfl rfl rfl rfl rfl ?_
  refine x_ifeq 71 53 rfl rfl rfl (fun _ => ?_) (fun c => absurd (by decide) c)
  refine x_cst (.int 0) 1 72 rfl rfl rfl ?_
  refine x_st 4 2 0 74 [some (.ref m), some (.int x), some (.int 0), some (.int 0), some (.int 0), some (.int 0), some (.int (byt x 0))] rfl rfl rfl (Nat.le_of_ble_eq_true rfl) rfl rfl ?_
  refine x_ld 3 1 0 75 rfl rfl rfl rfl rfl ?_
  refine x_ifeq 84 78 rfl rfl rfl (fun _ => ?_) (fun c => absurd (by decide) c)
  refine x_ld 2 1 0 85 rfl rfl rfl rfl rfl ?_
  refine x_st 2 1 0 86 [some (.ref m), some (.int x), some (.int 0), some (.int 0), some (.int 0), some (.int 0), some (.int (byt x 0))] rfl rfl rfl (Nat.le_of_ble_eq_true rfl) rfl rfl ?_
  refine x_inc 5 1 1 89 [some (.ref m), some (.int x), some (.int 0), some (.int 0), some (.int 0), some (.int 1), some (.int (byt x 0))] rfl rfl (Nat.le_of_ble_eq_true rfl) rfl rfl rfl ?_
  refine x_go 10 rfl rfl ?_
  refine x_ld 5 2 0 12 rfl rfl rfl rfl rfl ?_
  refine x_cst (.int 4) 1 13 rfl rfl rfl ?_
  refine x_icge 92 16 rfl rfl rfl (fun c => absurd c (by decide)) (fun _ => ?_)
  refine x_ld 1 1 0 17 rfl rfl rfl rfl rfl ?_
  refine x_cst (.int 8) 2 19 rfl rfl rfl ?_
  refine x_ld 5 2 0 21 rfl rfl rfl rfl rfl ?_
  refine x_bin (8) 22 rfl rfl rfl rfl ?_
  refine x_bin (x >>> (8 &&& 31)) 23 rfl rfl rfl rfl ?_
  refine x_cst (.int 255) 3 26 rfl rfl rfl ?_
  refine x_bin (byt x 1) 27 rfl rfl (byS_1 x) rfl ?_
  refine x_st 6 2 0 29 [some (.ref m), some (.int x), some (.int 0), some (.int 0), some (.int 0), some (.int 1), some (.int (byt x 1))] rfl rfl rfl (Nat.le_of_ble_eq_true rfl) rfl rfl ?_
  refine x_ld 3 1 0 30 rfl rfl rfl rfl rfl ?_
  refine x_ifeq 42 33 rfl rfl rfl (fun _ => ?_) (fun c => absurd (by decide) c)
  refine x_cst (.int 0) 1 43 rfl rfl rfl ?_
  refine x_st 3 1 0 44 [some (.ref m), some (.int x), some (.int 0), some (.int 0), some (.int 0), some (.int 1), some (.int (byt x 1))] rfl rfl rfl (Nat.le_of_ble_eq_true rfl) rfl rfl ?_
  refine x_ld 4 2 0 46 rfl rfl rfl rfl rfl ?_
  refine x_ifne 67 49 rfl rfl rfl (fun c => absurd (by decide) c) (fun _ => ?_)
  refine x_ld 3 1 0 50 rfl rfl rfl rfl rfl ?_
  refine x_ifeq 71 53 rfl rfl rfl (fun _ => ?_) (fun c => absurd (by decide) c)
  refine x_cst (.int 0) 1 72 rfl rfl rfl ?_
  refine x_st 4 2 0 74 [some (.ref m), some (.int x), some (.int 0), some (.int 0), some (.int 0), some (.int 1), some (.int (byt x 1))] rfl rfl rfl (Nat.le_of_ble_eq_true rfl) rfl rfl ?_
  refine x_ld 3 1 0 75 rfl rfl rfl rfl rfl ?_
  refine x_ifeq 84 78 rfl rfl rfl (fun _ => ?_) (fun c => absurd (by decide) c)
  refine x_ld 2 1 0 85 rfl rfl rfl rfl rfl ?_
  refine x_st 2 1 0 86 [some (.ref m), some (.int x), some (.int 0), some (.int 0), some (.int 0), some (.int 1), some (.int (byt x 1))] rfl rfl rfl (Nat.le_of_ble_eq_true rfl) rfl rfl ?_
  refine x_inc 5 1 1 89 [some (.ref m), some (.int x), some (.int 0), some (.int 0), some (.int 0), some (.int 2), some (.int (byt x 1))] rfl rfl (Nat.le_of_ble_eq_true rfl) rfl rfl rfl ?_
  refine x_go 10 rfl rfl ?_
  refine x_ld 5 2 0 12 rfl rfl rfl rfl rfl ?_
  refine x_cst (.int 4) 1 13 rfl rfl rfl ?_
  refine x_icge 92 16 rfl rfl rfl (fun c => absurd c (by decide)) (fun _ => ?_)
  refine x_ld 1 1 0 17 rfl rfl rfl rfl rfl ?_
  refine x_cst (.int 8) 2 19 rfl rfl rfl ?_
  refine x_ld 5 2 0 21 rfl rfl rfl rfl rfl ?_
  refine x_bin (16) 22 rfl rfl rfl rfl ?_
  refine x_bin (x >>> (16 &&& 31)) 23 rfl rfl rfl rfl ?_
  refine x_cst (.int 255) 3 26 rfl rfl rfl ?_
  refine x_bin (byt x 2) 27 rfl rfl (byS_2 x) rfl ?_
  refine x_st 6 2 0 29 [some (.ref m), some (.int x), some (.int 0), some (.int 0), some (.int 0), some (.int 2), some (.int (byt x 2))] rfl rfl rfl (Nat.le_of_ble_eq_true rfl) rfl rfl ?_
  refine x_ld 3 1 0 30 rfl rfl rfl rfl rfl ?_
  refine x_ifeq 42 33 rfl rfl rfl (fun _ => ?_) (fun c => absurd (by decide) c)
  refine x_cst (.int 0) 1 43 rfl rfl rfl ?_
  refine x_st 3 1 0 44 [some (.ref m), some (.int x), some (.int 0), some (.int 0), some (.int 0), some (.int 2), some (.int (byt x 2))] rfl rfl rfl (Nat.le_of_ble_eq_true rfl) rfl rfl ?_
  refine x_ld 4 2 0 46 rfl rfl rfl rfl rfl ?_
  refine x_ifne 67 49 rfl rfl rfl (fun c => absurd (by decide) c) (fun _ => ?_)
  refine x_ld 3 1 0 50 rfl rfl rfl rfl rfl ?_
  refine x_ifeq 71 53 rfl rfl rfl (fun _ => ?_) (fun c => absurd (by decide) c)
  refine x_cst (.int 0) 1 72 rfl rfl rfl ?_
  refine x_st 4 2 0 74 [some (.ref m), some (.int x), some (.int 0), some (.int 0), some (.int 0), some (.int 2), some (.int (byt x 2))] rfl rfl rfl (Nat.le_of_ble_eq_true rfl) rfl rfl ?_
  refine x_ld 3 1 0 75 rfl rfl rfl rfl rfl ?_
  refine x_ifeq 84 78 rfl rfl rfl (fun _ => ?_) (fun c => absurd (by decide) c)
  refine x_ld 2 1 0 85 rfl rfl rfl rfl rfl ?_
  refine x_st 2 1 0 86 [some (.ref m), some (.int x), some (.int 0), some (.int 0), some (.int 0), some (.int 2), some (.int (byt x 2))] rfl rfl rfl (Nat.le_of_ble_eq_true rfl) rfl rfl ?_
  refine x_inc 5 1 1 89 [some (.ref m), some (.int x), some (.int 0), some (.int 0), some (.int 0), some (.int 3), some (.int (byt x 2))] rfl rfl (Nat.le_of_ble_eq_true rfl) rfl rfl rfl ?_
  refine x_go 10 rfl rfl ?_
  refine x_ld 5 2 0 12 rfl rfl rfl rfl rfl ?_
  refine x_cst (.int 4) 1 13 rfl rfl rfl ?_
  refine x_icge 92 16 rfl rfl rfl (fun c => absurd c (by decide)) (fun _ => ?_)
  refine x_ld 1 1 0 17 rfl rfl rfl rfl rfl ?_
  refine x_cst (.int 8) 2 19 rfl rfl rfl ?_
  refine x_ld 5 2 0 21 rfl rfl rfl rfl rfl ?_
  refine x_bin (24) 22 rfl rfl rfl rfl ?_
  refine x_bin (x >>> (24 &&& 31)) 23 rfl rfl rfl rfl ?_
  refine x_cst (.int 255) 3 26 rfl rfl rfl ?_
  refine x_bin (byt x 3) 27 rfl rfl (byS_3 x) rfl ?_
  refine x_st 6 2 0 29 [some (.ref m), some (.int x), some (.int 0), some (.int 0), some (.int 0), some (.int 3), some (.int (byt x 3))] rfl rfl rfl (Nat.le_of_ble_eq_true rfl) rfl rfl ?_
  refine x_ld 3 1 0 30 rfl rfl rfl rfl rfl ?_
  refine x_ifeq 42 33 rfl rfl rfl (fun _ => ?_) (fun c => absurd (by decide) c)
  refine x_cst (.int 0) 1 43 rfl rfl rfl ?_
  refine x_st 3 1 0 44 [some (.ref m), some (.int x), some (.int 0), some (.int 0), some (.int 0), some (.int 3), some (.int (byt x 3))] rfl rfl rfl (Nat.le_of_ble_eq_true rfl) rfl rfl ?_
  refine x_ld 4 2 0 46 rfl rfl rfl rfl rfl ?_
  refine x_ifne 67 49 rfl rfl rfl (fun c => absurd (by decide) c) (fun _ => ?_)
  refine x_ld 3 1 0 50 rfl rfl rfl rfl rfl ?_
  refine x_ifeq 71 53 rfl rfl rfl (fun _ => ?_) (fun c => absurd (by decide) c)
  refine x_cst (.int 0) 1 72 rfl rfl rfl ?_
  refine x_st 4 2 0 74 [some (.ref m), some (.int x), some (.int 0), some (.int 0), some (.int 0), some (.int 3), some (.int (byt x 3))] rfl rfl rfl (Nat.le_of_ble_eq_true rfl) rfl rfl ?_
  refine x_ld 3 1 0 75 rfl rfl rfl rfl rfl ?_
  refine x_ifeq 84 78 rfl rfl rfl (fun _ => ?_) (fun c => absurd (by decide) c)
  refine x_ld 2 1 0 85 rfl rfl rfl rfl rfl ?_
  refine x_st 2 1 0 86 [some (.ref m), some (.int x), some (.int 0), some (.int 0), some (.int 0), some (.int 3), some (.int (byt x 3))] rfl rfl rfl (Nat.le_of_ble_eq_true rfl) rfl rfl ?_
  refine x_inc 5 1 1 89 [some (.ref m), some (.int x), some (.int 0), some (.int 0), some (.int 0), some (.int 4), some (.int (byt x 3))] rfl rfl (Nat.le_of_ble_eq_true rfl) rfl rfl rfl ?_
  refine x_go 10 rfl rfl ?_
  refine x_ld 5 2 0 12 rfl rfl rfl rfl rfl ?_
  refine x_cst (.int 4) 1 13 rfl rfl rfl ?_
  refine x_icge 92 16 rfl rfl rfl (fun _ => ?_) (fun c => absurd (by decide) c)
  refine x_ld 0 1 2 93 rfl rfl rfl rfl rfl ?_
  refine x_ld 4 2 0 95 rfl rfl rfl rfl rfl ?_
  refine x_ifeq 102 98 rfl rfl rfl (fun _ => ?_) (fun c => absurd (by decide) c)
  refine x_cst (.int 0) 1 103 rfl rfl rfl ?_
  refine x_put 159 5 2 106 rfl rfl hm (by simp only [List.length_set, hfs]; omega) rfl rfl rfl _ rfl rfl ?_
  refine x_ld 4 2 0 108 rfl rfl rfl rfl rfl ?_
  refine x_ifne 122 111 rfl rfl rfl (fun c => absurd (by decide) c) (fun _ => ?_)
  refine x_ld 0 1 2 112 rfl rfl rfl rfl rfl ?_
  refine x_get 162 5 4 115 rfl rfl (set_at hm) ((fs_ne (by decide)).trans h4) rfl ?_
  refine x_ld 2 1 0 116 rfl rfl rfl rfl rfl ?_
  refine x_bin (Int32.ofNat (n + 0)) 117 rfl rfl (i32_add n 0) rfl ?_
  refine x_cst (.int 16) 2 119 rfl rfl rfl ?_
  refine x_icle 124 122 rfl rfl rfl (fun _ => ?_) (fun c => absurd ((i32_le 16 (n + 0) (by decide) (by omega)).mpr hf) c)
  refine x_cst (.int 0) 1 125 rfl rfl rfl ?_
  refine x_st 5 2 0 127 [some (.ref m), some (.int x), some (.int 0), some (.int 0), some (.int 0), some (.int 0), some (.int (byt x 3))] rfl rfl rfl (Nat.le_of_ble_eq_true rfl) rfl rfl ?_
  refine x_ld 5 2 0 129 rfl rfl rfl rfl rfl ?_
  refine x_ld 2 1 0 130 rfl rfl rfl rfl rfl ?_
  refine x_icge 169 133 rfl rfl rfl (fun _ => ?_) (fun c => absurd (by decide) c)
  refine x_cst (.int 1) 1 170 rfl rfl rfl ?_
  refine x_ret rfl rfl rfl rfl ?_
  exact ⟨rfl, by show _ = (h.set ml _).set m _; rw [show h.set ml (.inl (0, 16, .inl (ups g n x 0))) = h from set_id hl]; show h.set m (.inr (5, fs.set 2 (.int 0))) = h.set m (.inr (5, (fs.set 2 (.int 0)).set 4 (.int (Int32.ofNat n)))); rw [fs_id ((fs_ne (by decide)).trans h4)]⟩
theorem f104_0 (d : Nat) {h : ab_H} {m ml n : Nat} {x : Int32} {g : Nat → Int32} {fs : List Value} (hm : h[m]? = some (.inr (5, fs))) (hfs : fs.length = 68) (h3 : fs[3]? = some (.ref ml)) (h4 : fs[4]? = some (.int (Int32.ofNat n))) (hl : h[ml]? = some (.inl (0, 16, .inl g))) (hne : ml ≠ m) (hn : n ≤ 16) (H : okc x 0) (hf : ¬ n + 0 ≤ 16) : ab_S (pg_G L xs) (d + 1) 104 [.ref m, .int x] h (some (.int 0)) (h.set m (.inr (5, fs.set 2 (.int 0)))) := by
  show ab_W (pg_G L xs) (ab_X (pg_G L xs) d) 104 _ 0 [some (.ref m), some (.int x), none, none, none, none, none] [] h
  have Z := H.2 (by decide)
  refine x_cst (.int 0) 1 1 rfl rfl rfl ?_
  refine x_st 2 1 0 2 [some (.ref m), some (.int x), some (.int 0), none, none, none, none] rfl rfl rfl (Nat.le_of_ble_eq_true rfl) rfl rfl ?_
  refine x_cst (.int 1) 1 3 rfl rfl rfl ?_
  refine x_st 3 1 0 4 [some (.ref m), some (.int x), some (.int 0), some (.int 1), none, none, none] rfl rfl rfl (Nat.le_of_ble_eq_true rfl) rfl rfl ?_
  refine x_cst (.int 0) 1 5 rfl rfl rfl ?_
  refine x_st 4 2 0 7 [some (.ref m), some (.int x), some (.int 0), some (.int 1), some (.int 0), none, none] rfl rfl rfl (Nat.le_of_ble_eq_true rfl) rfl rfl ?_
  refine x_cst (.int 0) 1 8 rfl rfl rfl ?_
  refine x_st 5 2 0 10 [some (.ref m), some (.int x), some (.int 0), some (.int 1), some (.int 0), some (.int 0), none] rfl rfl rfl (Nat.le_of_ble_eq_true rfl) rfl rfl ?_
  refine x_ld 5 2 0 12 rfl rfl rfl rfl rfl ?_
  refine x_cst (.int 4) 1 13 rfl rfl rfl ?_
  refine x_icge 92 16 rfl rfl rfl (fun c => absurd c (by decide)) (fun _ => ?_)
  refine x_ld 1 1 0 17 rfl rfl rfl rfl rfl ?_
  refine x_cst (.int 8) 2 19 rfl rfl rfl ?_
  refine x_ld 5 2 0 21 rfl rfl rfl rfl rfl ?_
  refine x_bin (0) 22 rfl rfl rfl rfl ?_
  refine x_bin (x >>> (0 &&& 31)) 23 rfl rfl rfl rfl ?_
  refine x_cst (.int 255) 3 26 rfl rfl rfl ?_
  refine x_bin (byt x 0) 27 rfl rfl (byS_0 x) rfl ?_
  refine x_st 6 2 0 29 [some (.ref m), some (.int x), some (.int 0), some (.int 1), some (.int 0), some (.int 0), some (.int (byt x 0))] rfl rfl rfl (Nat.le_of_ble_eq_true rfl) rfl rfl ?_
  refine x_ld 3 1 0 30 rfl rfl rfl rfl rfl ?_
  refine x_ifeq 42 33 rfl rfl rfl (fun c => absurd c (by decide)) (fun _ => ?_)
  refine x_ld 6 2 0 35 rfl rfl rfl rfl rfl ?_
  refine x_ifeq 42 38 rfl rfl rfl (fun _ => ?_) (fun c => absurd Z c)
  refine x_cst (.int 0) 1 43 rfl rfl rfl ?_
  refine x_st 3 1 0 44 [some (.ref m), some (.int x), some (.int 0), some (.int 0), some (.int 0), some (.int 0), some (.int (byt x 0))] rfl rfl rfl (Nat.le_of_ble_eq_true rfl) rfl rfl ?_
  refine x_ld 4 2 0 46 rfl rfl rfl rfl rfl ?_
  refine x_ifne 67 49 rfl rfl rfl (fun c => absurd (by decide) c) (fun _ => ?_)
  refine x_ld 3 1 0 50 rfl rfl rfl rfl rfl ?_
  refine x_ifeq 71 53 rfl rfl rfl (fun _ => ?_) (fun c => absurd (by decide) c)
  refine x_cst (.int 0) 1 72 rfl rfl rfl ?_
  refine x_st 4 2 0 74 [some (.ref m), some (.int x), some (.int 0), some (.int 0), some (.int 0), some (.int 0), some (.int (byt x 0))] rfl rfl rfl (Nat.le_of_ble_eq_true rfl) rfl rfl ?_
  refine x_ld 3 1 0 75 rfl rfl rfl rfl rfl ?_
  refine x_ifeq 84 78 rfl rfl rfl (fun _ => ?_) (fun c => absurd (by decide) c)
  refine x_ld 2 1 0 85 rfl rfl rfl rfl rfl ?_
  refine x_st 2 1 0 86 [some (.ref m), some (.int x), some (.int 0), some (.int 0), some (.int 0), some (.int 0), some (.int (byt x 0))] rfl rfl rfl (Nat.le_of_ble_eq_true rfl) rfl rfl ?_
  refine x_inc 5 1 1 89 [some (.ref m), some (.int x), some (.int 0), some (.int 0), some (.int 0), some (.int 1), some (.int (byt x 0))] rfl rfl (Nat.le_of_ble_eq_true rfl) rfl rfl rfl ?_
  refine x_go 10 rfl rfl ?_
  refine x_ld 5 2 0 12 rfl rfl rfl rfl rfl ?_
  refine x_cst (.int 4) 1 13 rfl rfl rfl ?_
  refine x_icge 92 16 rfl rfl rfl (fun c => absurd c (by decide)) (fun _ => ?_)
  refine x_ld 1 1 0 17 rfl rfl rfl rfl rfl ?_
  refine x_cst (.int 8) 2 19 rfl rfl rfl ?_
  refine x_ld 5 2 0 21 rfl rfl rfl rfl rfl ?_
  refine x_bin (8) 22 rfl rfl rfl rfl ?_
  refine x_bin (x >>> (8 &&& 31)) 23 rfl rfl rfl rfl ?_
  refine x_cst (.int 255) 3 26 rfl rfl rfl ?_
  refine x_bin (byt x 1) 27 rfl rfl (byS_1 x) rfl ?_
  refine x_st 6 2 0 29 [some (.ref m), some (.int x), some (.int 0), some (.int 0), some (.int 0), some (.int 1), some (.int (byt x 1))] rfl rfl rfl (Nat.le_of_ble_eq_true rfl) rfl rfl ?_
  refine x_ld 3 1 0 30 rfl rfl rfl rfl rfl ?_
  refine x_ifeq 42 33 rfl rfl rfl (fun _ => ?_) (fun c => absurd (by decide) c)
  refine x_cst (.int 0) 1 43 rfl rfl rfl ?_
  refine x_st 3 1 0 44 [some (.ref m), some (.int x), some (.int 0), some (.int 0), some (.int 0), some (.int 1), some (.int (byt x 1))] rfl rfl rfl (Nat.le_of_ble_eq_true rfl) rfl rfl ?_
  refine x_ld 4 2 0 46 rfl rfl rfl rfl rfl ?_
  refine x_ifne 67 49 rfl rfl rfl (fun c => absurd (by decide) c) (fun _ => ?_)
  refine x_ld 3 1 0 50 rfl rfl rfl rfl rfl ?_
  refine x_ifeq 71 53 rfl rfl rfl (fun _ => ?_) (fun c => absurd (by decide) c)
  refine x_cst (.int 0) 1 72 rfl rfl rfl ?_
  refine x_st 4 2 0 74 [some (.ref m), some (.int x), some (.int 0), some (.int 0), some (.int 0), some (.int 1), some (.int (byt x 1))] rfl rfl rfl (Nat.le_of_ble_eq_true rfl) rfl rfl ?_
  refine x_ld 3 1 0 75 rfl rfl rfl rfl rfl ?_
  refine x_ifeq 84 78 rfl rfl rfl (fun _ => ?_) (fun c => absurd (by decide) c)
  refine x_ld 2 1 0 85 rfl rfl rfl rfl rfl ?_
  refine x_st 2 1 0 86 [some (.ref m), some (.int x), some (.int 0), some (.int 0), some (.int 0), some (.int 1), some (.int (byt x 1))] rfl rfl rfl (Nat.le_of_ble_eq_true rfl) rfl rfl ?_
  refine x_inc 5 1 1 89 [some (.ref m), some (.int x), some (.int 0), some (.int 0), some (.int 0), some (.int 2), some (.int (byt x 1))] rfl rfl (Nat.le_of_ble_eq_true rfl) rfl rfl rfl ?_
  refine x_go 10 rfl rfl ?_
  refine x_ld 5 2 0 12 rfl rfl rfl rfl rfl ?_
  refine x_cst (.int 4) 1 13 rfl rfl rfl ?_
  refine x_icge 92 16 rfl rfl rfl (fun c => absurd c (by decide)) (fun _ => ?_)
  refine x_ld 1 1 0 17 rfl rfl rfl rfl rfl ?_
  refine x_cst (.int 8) 2 19 rfl rfl rfl ?_
  refine x_ld 5 2 0 21 rfl rfl rfl rfl rfl ?_
  refine x_bin (16) 22 rfl rfl rfl rfl ?_
  refine x_bin (x >>> (16 &&& 31)) 23 rfl rfl rfl rfl ?_
  refine x_cst (.int 255) 3 26 rfl rfl rfl ?_
  refine x_bin (byt x 2) 27 rfl rfl (byS_2 x) rfl ?_
  refine x_st 6 2 0 29 [some (.ref m), some (.int x), some (.int 0), some (.int 0), some (.int 0), some (.int 2), some (.int (byt x 2))] rfl rfl rfl (Nat.le_of_ble_eq_true rfl) rfl rfl ?_
  refine x_ld 3 1 0 30 rfl rfl rfl rfl rfl ?_
  refine x_ifeq 42 33 rfl rfl rfl (fun _ => ?_) (fun c => absurd (by decide) c)
  refine x_cst (.int 0) 1 43 rfl rfl rfl ?_
  refine x_st 3 1 0 44 [some (.ref m), some (.int x), some (.int 0), some (.int 0), some (.int 0), some (.int 2), some (.int (byt x 2))] rfl rfl rfl (Nat.le_of_ble_eq_true rfl) rfl rfl ?_
  refine x_ld 4 2 0 46 rfl rfl rfl rfl rfl ?_
  refine x_ifne 67 49 rfl rfl rfl (fun c => absurd (by decide) c) (fun _ => ?_)
  refine x_ld 3 1 0 50 rfl rfl rfl rfl rfl ?_
  refine x_ifeq 71 53 rfl rfl rfl (fun _ => ?_) (fun c => absurd (by decide) c)
  refine x_cst (.int 0) 1 72 rfl rfl rfl ?_
  refine x_st 4 2 0 74 [some (.ref m), some (.int x), some (.int 0), some (.int 0), some (.int 0), some (.int 2), some (.int (byt x 2))] rfl rfl rfl (Nat.le_of_ble_eq_true rfl) rfl rfl ?_
  refine x_ld 3 1 0 75 rfl rfl rfl rfl rfl ?_
  refine x_ifeq 84 78 rfl rfl rfl (fun _ => ?_) (fun c => absurd (by decide) c)
  refine x_ld 2 1 0 85 rfl rfl rfl rfl rfl ?_
  refine x_st 2 1 0 86 [some (.ref m), some (.int x), some (.int 0), some (.int 0), some (.int 0), some (.int 2), some (.int (byt x 2))] rfl rfl rfl (Nat.le_of_ble_eq_true rfl) rfl rfl ?_
  refine x_inc 5 1 1 89 [some (.ref m), some (.int x), some (.int 0), some (.int 0), some (.int 0), some (.int 3), some (.int (byt x 2))] rfl rfl (Nat.le_of_ble_eq_true rfl) rfl rfl rfl ?_
  refine x_go 10 rfl rfl ?_
  refine x_ld 5 2 0 12 rfl rfl rfl rfl rfl ?_
  refine x_cst (.int 4) 1 13 rfl rfl rfl ?_
  refine x_icge 92 16 rfl rfl rfl (fun c => absurd c (by decide)) (fun _ => ?_)
  refine x_ld 1 1 0 17 rfl rfl rfl rfl rfl ?_
  refine x_cst (.int 8) 2 19 rfl rfl rfl ?_
  refine x_ld 5 2 0 21 rfl rfl rfl rfl rfl ?_
  refine x_bin (24) 22 rfl rfl rfl rfl ?_
  refine x_bin (x >>> (24 &&& 31)) 23 rfl rfl rfl rfl ?_
  refine x_cst (.int 255) 3 26 rfl rfl rfl ?_
  refine x_bin (byt x 3) 27 rfl rfl (byS_3 x) rfl ?_
  refine x_st 6 2 0 29 [some (.ref m), some (.int x), some (.int 0), some (.int 0), some (.int 0), some (.int 3), some (.int (byt x 3))] rfl rfl rfl (Nat.le_of_ble_eq_true rfl) rfl rfl ?_
  refine x_ld 3 1 0 30 rfl rfl rfl rfl rfl ?_
  refine x_ifeq 42 33 rfl rfl rfl (fun _ => ?_) (fun c => absurd (by decide) c)
  refine x_cst (.int 0) 1 43 rfl rfl rfl ?_
  refine x_st 3 1 0 44 [some (.ref m), some (.int x), some (.int 0), some (.int 0), some (.int 0), some (.int 3), some (.int (byt x 3))] rfl rfl rfl (Nat.le_of_ble_eq_true rfl) rfl rfl ?_
  refine x_ld 4 2 0 46 rfl rfl rfl rfl rfl ?_
  refine x_ifne 67 49 rfl rfl rfl (fun c => absurd (by decide) c) (fun _ => ?_)
  refine x_ld 3 1 0 50 rfl rfl rfl rfl rfl ?_
  refine x_ifeq 71 53 rfl rfl rfl (fun _ => ?_) (fun c => absurd (by decide) c)
  refine x_cst (.int 0) 1 72 rfl rfl rfl ?_
  refine x_st 4 2 0 74 [some (.ref m), some (.int x), some (.int 0), some (.int 0), some (.int 0), some (.int 3), some (.int (byt x 3))] rfl rfl rfl (Nat.le_of_ble_eq_true rfl) rfl rfl ?_
  refine x_ld 3 1 0 75 rfl rfl rfl rfl rfl ?_
  refine x_ifeq 84 78 rfl rfl rfl (fun _ => ?_) (fun c => absurd (by decide) c)
  refine x_ld 2 1 0 85 rfl rfl rfl rfl rfl ?_
  refine x_st 2 1 0 86 [some (.ref m), some (.int x), some (.int 0), some (.int 0), some (.int 0), some (.int 3), some (.int (byt x 3))] rfl rfl rfl (Nat.le_of_ble_eq_true rfl) rfl rfl ?_
  refine x_inc 5 1 1 89 [some (.ref m), some (.int x), some (.int 0), some (.int 0), some (.int 0), some (.int 4), some (.int (byt x 3))] rfl rfl (Nat.le_of_ble_eq_true rfl) rfl rfl rfl ?_
  refine x_go 10 rfl rfl ?_
  refine x_ld 5 2 0 12 rfl rfl rfl rfl rfl ?_
  refine x_cst (.int 4) 1 13 rfl rfl rfl ?_
  refine x_icge 92 16 rfl rfl rfl (fun _ => ?_) (fun c => absurd (by decide) c)
  refine x_ld 0 1 2 93 rfl rfl rfl rfl rfl ?_
  refine x_ld 4 2 0 95 rfl rfl rfl rfl rfl ?_
  refine x_ifeq 102 98 rfl rfl rfl (fun _ => ?_) (fun c => absurd (by decide) c)
  refine x_cst (.int 0) 1 103 rfl rfl rfl ?_
  refine x_put 159 5 2 106 rfl rfl hm (by simp only [List.length_set, hfs]; omega) rfl rfl rfl _ rfl rfl ?_
  refine x_ld 4 2 0 108 rfl rfl rfl rfl rfl ?_
  refine x_ifne 122 111 rfl rfl rfl (fun c => absurd (by decide) c) (fun _ => ?_)
  refine x_ld 0 1 2 112 rfl rfl rfl rfl rfl ?_
  refine x_get 162 5 4 115 rfl rfl (set_at hm) ((fs_ne (by decide)).trans h4) rfl ?_
  refine x_ld 2 1 0 116 rfl rfl rfl rfl rfl ?_
  refine x_bin (Int32.ofNat (n + 0)) 117 rfl rfl (i32_add n 0) rfl ?_
  refine x_cst (.int 16) 2 119 rfl rfl rfl ?_
  refine x_icle 124 122 rfl rfl rfl (fun c => absurd c (fun z => absurd ((i32_le 16 (n + 0) (by decide) (by omega)).mp z) (by omega))) (fun _ => ?_)
  refine x_cst (.int 0) 1 123 rfl rfl rfl ?_
  refine x_ret rfl rfl rfl rfl ?_
  exact ⟨rfl, rfl⟩
theorem b104_0 (d : Nat) {h : ab_H} {m ml n : Nat} {x : Int32} {g : Nat → Int32} {fs : List Value} (hm : h[m]? = some (.inr (5, fs))) (hfs : fs.length = 68) (h3 : fs[3]? = some (.ref ml)) (h4 : fs[4]? = some (.int (Int32.ofNat n))) (hl : h[ml]? = some (.inl (0, 16, .inl g))) (hne : ml ≠ m) (hn : n ≤ 16) (H : bdc x 0) : ab_S (pg_G L xs) (d + 1) 104 [.ref m, .int x] h (some (.int 0)) (h.set m (.inr (5, fs.set 2 (.int 1)))) := by
  show ab_W (pg_G L xs) (ab_X (pg_G L xs) d) 104 _ 0 [some (.ref m), some (.int x), none, none, none, none, none] [] h
  obtain ⟨-, B0, B1 | ⟨B1, B2⟩⟩ := H
  · refine x_cst (.int 0) 1 1 rfl rfl rfl ?_
    refine x_st 2 1 0 2 [some (.ref m), some (.int x), some (.int 0), none, none, none, none] rfl rfl rfl (Nat.le_of_ble_eq_true rfl) rfl rfl ?_
    refine x_cst (.int 1) 1 3 rfl rfl rfl ?_
    refine x_st 3 1 0 4 [some (.ref m), some (.int x), some (.int 0), some (.int 1), none, none, none] rfl rfl rfl (Nat.le_of_ble_eq_true rfl) rfl rfl ?_
    refine x_cst (.int 0) 1 5 rfl rfl rfl ?_
    refine x_st 4 2 0 7 [some (.ref m), some (.int x), some (.int 0), some (.int 1), some (.int 0), none, none] rfl rfl rfl (Nat.le_of_ble_eq_true rfl) rfl rfl ?_
    refine x_cst (.int 0) 1 8 rfl rfl rfl ?_
    refine x_st 5 2 0 10 [some (.ref m), some (.int x), some (.int 0), some (.int 1), some (.int 0), some (.int 0), none] rfl rfl rfl (Nat.le_of_ble_eq_true rfl) rfl rfl ?_
    refine x_ld 5 2 0 12 rfl rfl rfl rfl rfl ?_
    refine x_cst (.int 4) 1 13 rfl rfl rfl ?_
    refine x_icge 92 16 rfl rfl rfl (fun c => absurd c (by decide)) (fun _ => ?_)
    refine x_ld 1 1 0 17 rfl rfl rfl rfl rfl ?_
    refine x_cst (.int 8) 2 19 rfl rfl rfl ?_
    refine x_ld 5 2 0 21 rfl rfl rfl rfl rfl ?_
    refine x_bin (0) 22 rfl rfl rfl rfl ?_
    refine x_bin (x >>> (0 &&& 31)) 23 rfl rfl rfl rfl ?_
    refine x_cst (.int 255) 3 26 rfl rfl rfl ?_
    refine x_bin (byt x 0) 27 rfl rfl (byS_0 x) rfl ?_
    refine x_st 6 2 0 29 [some (.ref m), some (.int x), some (.int 0), some (.int 1), some (.int 0), some (.int 0), some (.int (byt x 0))] rfl rfl rfl (Nat.le_of_ble_eq_true rfl) rfl rfl ?_
    refine x_ld 3 1 0 30 rfl rfl rfl rfl rfl ?_
    refine x_ifeq 42 33 rfl rfl rfl (fun c => absurd c (by decide)) (fun _ => ?_)
    refine x_ld 6 2 0 35 rfl rfl rfl rfl rfl ?_
    refine x_ifeq 42 38 rfl rfl rfl (fun c => absurd c B0) (fun _ => ?_)
    refine x_cst (.int 1) 1 39 rfl rfl rfl ?_
    refine x_go 43 rfl rfl ?_
    refine x_st 3 1 0 44 [some (.ref m), some (.int x), some (.int 0), some (.int 1), some (.int 0), some (.int 0), some (.int (byt x 0))] rfl rfl rfl (Nat.le_of_ble_eq_true rfl) rfl rfl ?_
    refine x_ld 4 2 0 46 rfl rfl rfl rfl rfl ?_
    refine x_ifne 67 49 rfl rfl rfl (fun c => absurd (by decide) c) (fun _ => ?_)
    refine x_ld 3 1 0 50 rfl rfl rfl rfl rfl ?_
    refine x_ifeq 71 53 rfl rfl rfl (fun c => absurd c (by decide)) (fun _ => ?_)
    refine x_ld 6 2 0 55 rfl rfl rfl rfl rfl ?_
    refine x_cst (.int 32) 2 57 rfl rfl rfl ?_
    refine x_iclt 67 60 rfl rfl rfl (fun _ => ?_) (fun c => absurd B1 c)
    refine x_cst (.int 1) 1 68 rfl rfl rfl ?_
    refine x_go 72 rfl rfl ?_
    refine x_st 4 2 0 74 [some (.ref m), some (.int x), some (.int 0), some (.int 1), some (.int 1), some (.int 0), some (.int (byt x 0))] rfl rfl rfl (Nat.le_of_ble_eq_true rfl) rfl rfl ?_
    refine x_ld 3 1 0 75 rfl rfl rfl rfl rfl ?_
    refine x_ifeq 84 78 rfl rfl rfl (fun c => absurd c (by decide)) (fun _ => ?_)
    refine x_ld 2 1 0 79 rfl rfl rfl rfl rfl ?_
    refine x_cst (.int 1) 1 80 rfl rfl rfl ?_
    refine x_bin (1) 81 rfl rfl rfl rfl ?_
    refine x_go 85 rfl rfl ?_
    refine x_st 2 1 0 86 [some (.ref m), some (.int x), some (.int 1), some (.int 1), some (.int 1), some (.int 0), some (.int (byt x 0))] rfl rfl rfl (Nat.le_of_ble_eq_true rfl) rfl rfl ?_
    refine x_inc 5 1 1 89 [some (.ref m), some (.int x), some (.int 1), some (.int 1), some (.int 1), some (.int 1), some (.int (byt x 0))] rfl rfl (Nat.le_of_ble_eq_true rfl) rfl rfl rfl ?_
    refine x_go 10 rfl rfl ?_
    refine x_ld 5 2 0 12 rfl rfl rfl rfl rfl ?_
    refine x_cst (.int 4) 1 13 rfl rfl rfl ?_
    refine x_icge 92 16 rfl rfl rfl (fun c => absurd c (by decide)) (fun _ => ?_)
    refine x_ld 1 1 0 17 rfl rfl rfl rfl rfl ?_
    refine x_cst (.int 8) 2 19 rfl rfl rfl ?_
    refine x_ld 5 2 0 21 rfl rfl rfl rfl rfl ?_
    refine x_bin (8) 22 rfl rfl rfl rfl ?_
    refine x_bin (x >>> (8 &&& 31)) 23 rfl rfl rfl rfl ?_
    refine x_cst (.int 255) 3 26 rfl rfl rfl ?_
    refine x_bin (byt x 1) 27 rfl rfl (byS_1 x) rfl ?_
    refine x_st 6 2 0 29 [some (.ref m), some (.int x), some (.int 1), some (.int 1), some (.int 1), some (.int 1), some (.int (byt x 1))] rfl rfl rfl (Nat.le_of_ble_eq_true rfl) rfl rfl ?_
    refine x_ld 3 1 0 30 rfl rfl rfl rfl rfl ?_
    refine x_ifeq 42 33 rfl rfl rfl (fun c => absurd c (by decide)) (fun _ => ?_)
    refine x_ld 6 2 0 35 rfl rfl rfl rfl rfl ?_
    refine x_ifeq 42 38 rfl rfl rfl (fun q1 => ?_) (fun q1 => ?_)
    · refine x_cst (.int 0) 1 43 rfl rfl rfl ?_
      refine x_st 3 1 0 44 [some (.ref m), some (.int x), some (.int 1), some (.int 0), some (.int 1), some (.int 1), some (.int (byt x 1))] rfl rfl rfl (Nat.le_of_ble_eq_true rfl) rfl rfl ?_
      refine x_ld 4 2 0 46 rfl rfl rfl rfl rfl ?_
      refine x_ifne 67 49 rfl rfl rfl (fun _ => ?_) (fun c => absurd c (by decide))
      refine x_cst (.int 1) 1 68 rfl rfl rfl ?_
      refine x_go 72 rfl rfl ?_
      refine x_st 4 2 0 74 [some (.ref m), some (.int x), some (.int 1), some (.int 0), some (.int 1), some (.int 1), some (.int (byt x 1))] rfl rfl rfl (Nat.le_of_ble_eq_true rfl) rfl rfl ?_
      refine x_ld 3 1 0 75 rfl rfl rfl rfl rfl ?_
      refine x_ifeq 84 78 rfl rfl rfl (fun _ => ?_) (fun c => absurd (by decide) c)
      refine x_ld 2 1 0 85 rfl rfl rfl rfl rfl ?_
      refine x_st 2 1 0 86 [some (.ref m), some (.int x), some (.int 1), some (.int 0), some (.int 1), some (.int 1), some (.int (byt x 1))] rfl rfl rfl (Nat.le_of_ble_eq_true rfl) rfl rfl ?_
      refine x_inc 5 1 1 89 [some (.ref m), some (.int x), some (.int 1), some (.int 0), some (.int 1), some (.int 2), some (.int (byt x 1))] rfl rfl (Nat.le_of_ble_eq_true rfl) rfl rfl rfl ?_
      refine x_go 10 rfl rfl ?_
      refine x_ld 5 2 0 12 rfl rfl rfl rfl rfl ?_
      refine x_cst (.int 4) 1 13 rfl rfl rfl ?_
      refine x_icge 92 16 rfl rfl rfl (fun c => absurd c (by decide)) (fun _ => ?_)
      refine x_ld 1 1 0 17 rfl rfl rfl rfl rfl ?_
      refine x_cst (.int 8) 2 19 rfl rfl rfl ?_
      refine x_ld 5 2 0 21 rfl rfl rfl rfl rfl ?_
      refine x_bin (16) 22 rfl rfl rfl rfl ?_
      refine x_bin (x >>> (16 &&& 31)) 23 rfl rfl rfl rfl ?_
      refine x_cst (.int 255) 3 26 rfl rfl rfl ?_
      refine x_bin (byt x 2) 27 rfl rfl (byS_2 x) rfl ?_
      refine x_st 6 2 0 29 [some (.ref m), some (.int x), some (.int 1), some (.int 0), some (.int 1), some (.int 2), some (.int (byt x 2))] rfl rfl rfl (Nat.le_of_ble_eq_true rfl) rfl rfl ?_
      refine x_ld 3 1 0 30 rfl rfl rfl rfl rfl ?_
      refine x_ifeq 42 33 rfl rfl rfl (fun _ => ?_) (fun c => absurd (by decide) c)
      refine x_cst (.int 0) 1 43 rfl rfl rfl ?_
      refine x_st 3 1 0 44 [some (.ref m), some (.int x), some (.int 1), some (.int 0), some (.int 1), some (.int 2), some (.int (byt x 2))] rfl rfl rfl (Nat.le_of_ble_eq_true rfl) rfl rfl ?_
      refine x_ld 4 2 0 46 rfl rfl rfl rfl rfl ?_
      refine x_ifne 67 49 rfl rfl rfl (fun _ => ?_) (fun c => absurd c (by decide))
      refine x_cst (.int 1) 1 68 rfl rfl rfl ?_
      refine x_go 72 rfl rfl ?_
      refine x_st 4 2 0 74 [some (.ref m), some (.int x), some (.int 1), some (.int 0), some (.int 1), some (.int 2), some (.int (byt x 2))] rfl rfl rfl (Nat.le_of_ble_eq_true rfl) rfl rfl ?_
      refine x_ld 3 1 0 75 rfl rfl rfl rfl rfl ?_
      refine x_ifeq 84 78 rfl rfl rfl (fun _ => ?_) (fun c => absurd (by decide) c)
      refine x_ld 2 1 0 85 rfl rfl rfl rfl rfl ?_
      refine x_st 2 1 0 86 [some (.ref m), some (.int x), some (.int 1), some (.int 0), some (.int 1), some (.int 2), some (.int (byt x 2))] rfl rfl rfl (Nat.le_of_ble_eq_true rfl) rfl rfl ?_
      refine x_inc 5 1 1 89 [some (.ref m), some (.int x), some (.int 1), some (.int 0), some (.int 1), some (.int 3), some (.int (byt x 2))] rfl rfl (Nat.le_of_ble_eq_true rfl) rfl rfl rfl ?_
      refine x_go 10 rfl rfl ?_
      refine x_ld 5 2 0 12 rfl rfl rfl rfl rfl ?_
      refine x_cst (.int 4) 1 13 rfl rfl rfl ?_
      refine x_icge 92 16 rfl rfl rfl (fun c => absurd c (by decide)) (fun _ => ?_)
      refine x_ld 1 1 0 17 rfl rfl rfl rfl rfl ?_
      refine x_cst (.int 8) 2 19 rfl rfl rfl ?_
      refine x_ld 5 2 0 21 rfl rfl rfl rfl rfl ?_
      refine x_bin (24) 22 rfl rfl rfl rfl ?_
      refine x_bin (x >>> (24 &&& 31)) 23 rfl rfl rfl rfl ?_
      refine x_cst (.int 255) 3 26 rfl rfl rfl ?_
      refine x_bin (byt x 3) 27 rfl rfl (byS_3 x) rfl ?_
      refine x_st 6 2 0 29 [some (.ref m), some (.int x), some (.int 1), some (.int 0), some (.int 1), some (.int 3), some (.int (byt x 3))] rfl rfl rfl (Nat.le_of_ble_eq_true rfl) rfl rfl ?_
      refine x_ld 3 1 0 30 rfl rfl rfl rfl rfl ?_
      refine x_ifeq 42 33 rfl rfl rfl (fun _ => ?_) (fun c => absurd (by decide) c)
      refine x_cst (.int 0) 1 43 rfl rfl rfl ?_
      refine x_st 3 1 0 44 [some (.ref m), some (.int x), some (.int 1), some (.int 0), some (.int 1), some (.int 3), some (.int (byt x 3))] rfl rfl rfl (Nat.le_of_ble_eq_true rfl) rfl rfl ?_
      refine x_ld 4 2 0 46 rfl rfl rfl rfl rfl ?_
      refine x_ifne 67 49 rfl rfl rfl (fun _ => ?_) (fun c => absurd c (by decide))
      refine x_cst (.int 1) 1 68 rfl rfl rfl ?_
      refine x_go 72 rfl rfl ?_
      refine x_st 4 2 0 74 [some (.ref m), some (.int x), some (.int 1), some (.int 0), some (.int 1), some (.int 3), some (.int (byt x 3))] rfl rfl rfl (Nat.le_of_ble_eq_true rfl) rfl rfl ?_
      refine x_ld 3 1 0 75 rfl rfl rfl rfl rfl ?_
      refine x_ifeq 84 78 rfl rfl rfl (fun _ => ?_) (fun c => absurd (by decide) c)
      refine x_ld 2 1 0 85 rfl rfl rfl rfl rfl ?_
      refine x_st 2 1 0 86 [some (.ref m), some (.int x), some (.int 1), some (.int 0), some (.int 1), some (.int 3), some (.int (byt x 3))] rfl rfl rfl (Nat.le_of_ble_eq_true rfl) rfl rfl ?_
      refine x_inc 5 1 1 89 [some (.ref m), some (.int x), some (.int 1), some (.int 0), some (.int 1), some (.int 4), some (.int (byt x 3))] rfl rfl (Nat.le_of_ble_eq_true rfl) rfl rfl rfl ?_
      refine x_go 10 rfl rfl ?_
      refine x_ld 5 2 0 12 rfl rfl rfl rfl rfl ?_
      refine x_cst (.int 4) 1 13 rfl rfl rfl ?_
      refine x_icge 92 16 rfl rfl rfl (fun _ => ?_) (fun c => absurd (by decide) c)
      refine x_ld 0 1 2 93 rfl rfl rfl rfl rfl ?_
      refine x_ld 4 2 0 95 rfl rfl rfl rfl rfl ?_
      refine x_ifeq 102 98 rfl rfl rfl (fun c => absurd c (by decide)) (fun _ => ?_)
      refine x_cst (.int 1) 1 99 rfl rfl rfl ?_
      refine x_go 103 rfl rfl ?_
      refine x_put 159 5 2 106 rfl rfl hm (by simp only [List.length_set, hfs]; omega) rfl rfl rfl _ rfl rfl ?_
      refine x_ld 4 2 0 108 rfl rfl rfl rfl rfl ?_
      refine x_ifne 122 111 rfl rfl rfl (fun _ => ?_) (fun c => absurd c (by decide))
      refine x_cst (.int 0) 1 123 rfl rfl rfl ?_
      refine x_ret rfl rfl rfl rfl ?_
      exact ⟨rfl, rfl⟩
    · refine x_cst (.int 1) 1 39 rfl rfl rfl ?_
      refine x_go 43 rfl rfl ?_
      refine x_st 3 1 0 44 [some (.ref m), some (.int x), some (.int 1), some (.int 1), some (.int 1), some (.int 1), some (.int (byt x 1))] rfl rfl rfl (Nat.le_of_ble_eq_true rfl) rfl rfl ?_
      refine x_ld 4 2 0 46 rfl rfl rfl rfl rfl ?_
      refine x_ifne 67 49 rfl rfl rfl (fun _ => ?_) (fun c => absurd c (by decide))
      refine x_cst (.int 1) 1 68 rfl rfl rfl ?_
      refine x_go 72 rfl rfl ?_
      refine x_st 4 2 0 74 [some (.ref m), some (.int x), some (.int 1), some (.int 1), some (.int 1), some (.int 1), some (.int (byt x 1))] rfl rfl rfl (Nat.le_of_ble_eq_true rfl) rfl rfl ?_
      refine x_ld 3 1 0 75 rfl rfl rfl rfl rfl ?_
      refine x_ifeq 84 78 rfl rfl rfl (fun c => absurd c (by decide)) (fun _ => ?_)
      refine x_ld 2 1 0 79 rfl rfl rfl rfl rfl ?_
      refine x_cst (.int 1) 1 80 rfl rfl rfl ?_
      refine x_bin (2) 81 rfl rfl rfl rfl ?_
      refine x_go 85 rfl rfl ?_
      refine x_st 2 1 0 86 [some (.ref m), some (.int x), some (.int 2), some (.int 1), some (.int 1), some (.int 1), some (.int (byt x 1))] rfl rfl rfl (Nat.le_of_ble_eq_true rfl) rfl rfl ?_
      refine x_inc 5 1 1 89 [some (.ref m), some (.int x), some (.int 2), some (.int 1), some (.int 1), some (.int 2), some (.int (byt x 1))] rfl rfl (Nat.le_of_ble_eq_true rfl) rfl rfl rfl ?_
      refine x_go 10 rfl rfl ?_
      refine x_ld 5 2 0 12 rfl rfl rfl rfl rfl ?_
      refine x_cst (.int 4) 1 13 rfl rfl rfl ?_
      refine x_icge 92 16 rfl rfl rfl (fun c => absurd c (by decide)) (fun _ => ?_)
      refine x_ld 1 1 0 17 rfl rfl rfl rfl rfl ?_
      refine x_cst (.int 8) 2 19 rfl rfl rfl ?_
      refine x_ld 5 2 0 21 rfl rfl rfl rfl rfl ?_
      refine x_bin (16) 22 rfl rfl rfl rfl ?_
      refine x_bin (x >>> (16 &&& 31)) 23 rfl rfl rfl rfl ?_
      refine x_cst (.int 255) 3 26 rfl rfl rfl ?_
      refine x_bin (byt x 2) 27 rfl rfl (byS_2 x) rfl ?_
      refine x_st 6 2 0 29 [some (.ref m), some (.int x), some (.int 2), some (.int 1), some (.int 1), some (.int 2), some (.int (byt x 2))] rfl rfl rfl (Nat.le_of_ble_eq_true rfl) rfl rfl ?_
      refine x_ld 3 1 0 30 rfl rfl rfl rfl rfl ?_
      refine x_ifeq 42 33 rfl rfl rfl (fun c => absurd c (by decide)) (fun _ => ?_)
      refine x_ld 6 2 0 35 rfl rfl rfl rfl rfl ?_
      refine x_ifeq 42 38 rfl rfl rfl (fun q2 => ?_) (fun q2 => ?_)
      · refine x_cst (.int 0) 1 43 rfl rfl rfl ?_
        refine x_st 3 1 0 44 [some (.ref m), some (.int x), some (.int 2), some (.int 0), some (.int 1), some (.int 2), some (.int (byt x 2))] rfl rfl rfl (Nat.le_of_ble_eq_true rfl) rfl rfl ?_
        refine x_ld 4 2 0 46 rfl rfl rfl rfl rfl ?_
        refine x_ifne 67 49 rfl rfl rfl (fun _ => ?_) (fun c => absurd c (by decide))
        refine x_cst (.int 1) 1 68 rfl rfl rfl ?_
        refine x_go 72 rfl rfl ?_
        refine x_st 4 2 0 74 [some (.ref m), some (.int x), some (.int 2), some (.int 0), some (.int 1), some (.int 2), some (.int (byt x 2))] rfl rfl rfl (Nat.le_of_ble_eq_true rfl) rfl rfl ?_
        refine x_ld 3 1 0 75 rfl rfl rfl rfl rfl ?_
        refine x_ifeq 84 78 rfl rfl rfl (fun _ => ?_) (fun c => absurd (by decide) c)
        refine x_ld 2 1 0 85 rfl rfl rfl rfl rfl ?_
        refine x_st 2 1 0 86 [some (.ref m), some (.int x), some (.int 2), some (.int 0), some (.int 1), some (.int 2), some (.int (byt x 2))] rfl rfl rfl (Nat.le_of_ble_eq_true rfl) rfl rfl ?_
        refine x_inc 5 1 1 89 [some (.ref m), some (.int x), some (.int 2), some (.int 0), some (.int 1), some (.int 3), some (.int (byt x 2))] rfl rfl (Nat.le_of_ble_eq_true rfl) rfl rfl rfl ?_
        refine x_go 10 rfl rfl ?_
        refine x_ld 5 2 0 12 rfl rfl rfl rfl rfl ?_
        refine x_cst (.int 4) 1 13 rfl rfl rfl ?_
        refine x_icge 92 16 rfl rfl rfl (fun c => absurd c (by decide)) (fun _ => ?_)
        refine x_ld 1 1 0 17 rfl rfl rfl rfl rfl ?_
        refine x_cst (.int 8) 2 19 rfl rfl rfl ?_
        refine x_ld 5 2 0 21 rfl rfl rfl rfl rfl ?_
        refine x_bin (24) 22 rfl rfl rfl rfl ?_
        refine x_bin (x >>> (24 &&& 31)) 23 rfl rfl rfl rfl ?_
        refine x_cst (.int 255) 3 26 rfl rfl rfl ?_
        refine x_bin (byt x 3) 27 rfl rfl (byS_3 x) rfl ?_
        refine x_st 6 2 0 29 [some (.ref m), some (.int x), some (.int 2), some (.int 0), some (.int 1), some (.int 3), some (.int (byt x 3))] rfl rfl rfl (Nat.le_of_ble_eq_true rfl) rfl rfl ?_
        refine x_ld 3 1 0 30 rfl rfl rfl rfl rfl ?_
        refine x_ifeq 42 33 rfl rfl rfl (fun _ => ?_) (fun c => absurd (by decide) c)
        refine x_cst (.int 0) 1 43 rfl rfl rfl ?_
        refine x_st 3 1 0 44 [some (.ref m), some (.int x), some (.int 2), some (.int 0), some (.int 1), some (.int 3), some (.int (byt x 3))] rfl rfl rfl (Nat.le_of_ble_eq_true rfl) rfl rfl ?_
        refine x_ld 4 2 0 46 rfl rfl rfl rfl rfl ?_
        refine x_ifne 67 49 rfl rfl rfl (fun _ => ?_) (fun c => absurd c (by decide))
        refine x_cst (.int 1) 1 68 rfl rfl rfl ?_
        refine x_go 72 rfl rfl ?_
        refine x_st 4 2 0 74 [some (.ref m), some (.int x), some (.int 2), some (.int 0), some (.int 1), some (.int 3), some (.int (byt x 3))] rfl rfl rfl (Nat.le_of_ble_eq_true rfl) rfl rfl ?_
        refine x_ld 3 1 0 75 rfl rfl rfl rfl rfl ?_
        refine x_ifeq 84 78 rfl rfl rfl (fun _ => ?_) (fun c => absurd (by decide) c)
        refine x_ld 2 1 0 85 rfl rfl rfl rfl rfl ?_
        refine x_st 2 1 0 86 [some (.ref m), some (.int x), some (.int 2), some (.int 0), some (.int 1), some (.int 3), some (.int (byt x 3))] rfl rfl rfl (Nat.le_of_ble_eq_true rfl) rfl rfl ?_
        refine x_inc 5 1 1 89 [some (.ref m), some (.int x), some (.int 2), some (.int 0), some (.int 1), some (.int 4), some (.int (byt x 3))] rfl rfl (Nat.le_of_ble_eq_true rfl) rfl rfl rfl ?_
        refine x_go 10 rfl rfl ?_
        refine x_ld 5 2 0 12 rfl rfl rfl rfl rfl ?_
        refine x_cst (.int 4) 1 13 rfl rfl rfl ?_
        refine x_icge 92 16 rfl rfl rfl (fun _ => ?_) (fun c => absurd (by decide) c)
        refine x_ld 0 1 2 93 rfl rfl rfl rfl rfl ?_
        refine x_ld 4 2 0 95 rfl rfl rfl rfl rfl ?_
        refine x_ifeq 102 98 rfl rfl rfl (fun c => absurd c (by decide)) (fun _ => ?_)
        refine x_cst (.int 1) 1 99 rfl rfl rfl ?_
        refine x_go 103 rfl rfl ?_
        refine x_put 159 5 2 106 rfl rfl hm (by simp only [List.length_set, hfs]; omega) rfl rfl rfl _ rfl rfl ?_
        refine x_ld 4 2 0 108 rfl rfl rfl rfl rfl ?_
        refine x_ifne 122 111 rfl rfl rfl (fun _ => ?_) (fun c => absurd c (by decide))
        refine x_cst (.int 0) 1 123 rfl rfl rfl ?_
        refine x_ret rfl rfl rfl rfl ?_
        exact ⟨rfl, rfl⟩
      · refine x_cst (.int 1) 1 39 rfl rfl rfl ?_
        refine x_go 43 rfl rfl ?_
        refine x_st 3 1 0 44 [some (.ref m), some (.int x), some (.int 2), some (.int 1), some (.int 1), some (.int 2), some (.int (byt x 2))] rfl rfl rfl (Nat.le_of_ble_eq_true rfl) rfl rfl ?_
        refine x_ld 4 2 0 46 rfl rfl rfl rfl rfl ?_
        refine x_ifne 67 49 rfl rfl rfl (fun _ => ?_) (fun c => absurd c (by decide))
        refine x_cst (.int 1) 1 68 rfl rfl rfl ?_
        refine x_go 72 rfl rfl ?_
        refine x_st 4 2 0 74 [some (.ref m), some (.int x), some (.int 2), some (.int 1), some (.int 1), some (.int 2), some (.int (byt x 2))] rfl rfl rfl (Nat.le_of_ble_eq_true rfl) rfl rfl ?_
        refine x_ld 3 1 0 75 rfl rfl rfl rfl rfl ?_
        refine x_ifeq 84 78 rfl rfl rfl (fun c => absurd c (by decide)) (fun _ => ?_)
        refine x_ld 2 1 0 79 rfl rfl rfl rfl rfl ?_
        refine x_cst (.int 1) 1 80 rfl rfl rfl ?_
        refine x_bin (3) 81 rfl rfl rfl rfl ?_
        refine x_go 85 rfl rfl ?_
        refine x_st 2 1 0 86 [some (.ref m), some (.int x), some (.int 3), some (.int 1), some (.int 1), some (.int 2), some (.int (byt x 2))] rfl rfl rfl (Nat.le_of_ble_eq_true rfl) rfl rfl ?_
        refine x_inc 5 1 1 89 [some (.ref m), some (.int x), some (.int 3), some (.int 1), some (.int 1), some (.int 3), some (.int (byt x 2))] rfl rfl (Nat.le_of_ble_eq_true rfl) rfl rfl rfl ?_
        refine x_go 10 rfl rfl ?_
        refine x_ld 5 2 0 12 rfl rfl rfl rfl rfl ?_
        refine x_cst (.int 4) 1 13 rfl rfl rfl ?_
        refine x_icge 92 16 rfl rfl rfl (fun c => absurd c (by decide)) (fun _ => ?_)
        refine x_ld 1 1 0 17 rfl rfl rfl rfl rfl ?_
        refine x_cst (.int 8) 2 19 rfl rfl rfl ?_
        refine x_ld 5 2 0 21 rfl rfl rfl rfl rfl ?_
        refine x_bin (24) 22 rfl rfl rfl rfl ?_
        refine x_bin (x >>> (24 &&& 31)) 23 rfl rfl rfl rfl ?_
        refine x_cst (.int 255) 3 26 rfl rfl rfl ?_
        refine x_bin (byt x 3) 27 rfl rfl (byS_3 x) rfl ?_
        refine x_st 6 2 0 29 [some (.ref m), some (.int x), some (.int 3), some (.int 1), some (.int 1), some (.int 3), some (.int (byt x 3))] rfl rfl rfl (Nat.le_of_ble_eq_true rfl) rfl rfl ?_
        refine x_ld 3 1 0 30 rfl rfl rfl rfl rfl ?_
        refine x_ifeq 42 33 rfl rfl rfl (fun c => absurd c (by decide)) (fun _ => ?_)
        refine x_ld 6 2 0 35 rfl rfl rfl rfl rfl ?_
        refine x_ifeq 42 38 rfl rfl rfl (fun q3 => ?_) (fun q3 => ?_)
        · refine x_cst (.int 0) 1 43 rfl rfl rfl ?_
          refine x_st 3 1 0 44 [some (.ref m), some (.int x), some (.int 3), some (.int 0), some (.int 1), some (.int 3), some (.int (byt x 3))] rfl rfl rfl (Nat.le_of_ble_eq_true rfl) rfl rfl ?_
          refine x_ld 4 2 0 46 rfl rfl rfl rfl rfl ?_
          refine x_ifne 67 49 rfl rfl rfl (fun _ => ?_) (fun c => absurd c (by decide))
          refine x_cst (.int 1) 1 68 rfl rfl rfl ?_
          refine x_go 72 rfl rfl ?_
          refine x_st 4 2 0 74 [some (.ref m), some (.int x), some (.int 3), some (.int 0), some (.int 1), some (.int 3), some (.int (byt x 3))] rfl rfl rfl (Nat.le_of_ble_eq_true rfl) rfl rfl ?_
          refine x_ld 3 1 0 75 rfl rfl rfl rfl rfl ?_
          refine x_ifeq 84 78 rfl rfl rfl (fun _ => ?_) (fun c => absurd (by decide) c)
          refine x_ld 2 1 0 85 rfl rfl rfl rfl rfl ?_
          refine x_st 2 1 0 86 [some (.ref m), some (.int x), some (.int 3), some (.int 0), some (.int 1), some (.int 3), some (.int (byt x 3))] rfl rfl rfl (Nat.le_of_ble_eq_true rfl) rfl rfl ?_
          refine x_inc 5 1 1 89 [some (.ref m), some (.int x), some (.int 3), some (.int 0), some (.int 1), some (.int 4), some (.int (byt x 3))] rfl rfl (Nat.le_of_ble_eq_true rfl) rfl rfl rfl ?_
          refine x_go 10 rfl rfl ?_
          refine x_ld 5 2 0 12 rfl rfl rfl rfl rfl ?_
          refine x_cst (.int 4) 1 13 rfl rfl rfl ?_
          refine x_icge 92 16 rfl rfl rfl (fun _ => ?_) (fun c => absurd (by decide) c)
          refine x_ld 0 1 2 93 rfl rfl rfl rfl rfl ?_
          refine x_ld 4 2 0 95 rfl rfl rfl rfl rfl ?_
          refine x_ifeq 102 98 rfl rfl rfl (fun c => absurd c (by decide)) (fun _ => ?_)
          refine x_cst (.int 1) 1 99 rfl rfl rfl ?_
          refine x_go 103 rfl rfl ?_
          refine x_put 159 5 2 106 rfl rfl hm (by simp only [List.length_set, hfs]; omega) rfl rfl rfl _ rfl rfl ?_
          refine x_ld 4 2 0 108 rfl rfl rfl rfl rfl ?_
          refine x_ifne 122 111 rfl rfl rfl (fun _ => ?_) (fun c => absurd c (by decide))
          refine x_cst (.int 0) 1 123 rfl rfl rfl ?_
          refine x_ret rfl rfl rfl rfl ?_
          exact ⟨rfl, rfl⟩
        · refine x_cst (.int 1) 1 39 rfl rfl rfl ?_
          refine x_go 43 rfl rfl ?_
          refine x_st 3 1 0 44 [some (.ref m), some (.int x), some (.int 3), some (.int 1), some (.int 1), some (.int 3), some (.int (byt x 3))] rfl rfl rfl (Nat.le_of_ble_eq_true rfl) rfl rfl ?_
          refine x_ld 4 2 0 46 rfl rfl rfl rfl rfl ?_
          refine x_ifne 67 49 rfl rfl rfl (fun _ => ?_) (fun c => absurd c (by decide))
          refine x_cst (.int 1) 1 68 rfl rfl rfl ?_
          refine x_go 72 rfl rfl ?_
          refine x_st 4 2 0 74 [some (.ref m), some (.int x), some (.int 3), some (.int 1), some (.int 1), some (.int 3), some (.int (byt x 3))] rfl rfl rfl (Nat.le_of_ble_eq_true rfl) rfl rfl ?_
          refine x_ld 3 1 0 75 rfl rfl rfl rfl rfl ?_
          refine x_ifeq 84 78 rfl rfl rfl (fun c => absurd c (by decide)) (fun _ => ?_)
          refine x_ld 2 1 0 79 rfl rfl rfl rfl rfl ?_
          refine x_cst (.int 1) 1 80 rfl rfl rfl ?_
          refine x_bin (4) 81 rfl rfl rfl rfl ?_
          refine x_go 85 rfl rfl ?_
          refine x_st 2 1 0 86 [some (.ref m), some (.int x), some (.int 4), some (.int 1), some (.int 1), some (.int 3), some (.int (byt x 3))] rfl rfl rfl (Nat.le_of_ble_eq_true rfl) rfl rfl ?_
          refine x_inc 5 1 1 89 [some (.ref m), some (.int x), some (.int 4), some (.int 1), some (.int 1), some (.int 4), some (.int (byt x 3))] rfl rfl (Nat.le_of_ble_eq_true rfl) rfl rfl rfl ?_
          refine x_go 10 rfl rfl ?_
          refine x_ld 5 2 0 12 rfl rfl rfl rfl rfl ?_
          refine x_cst (.int 4) 1 13 rfl rfl rfl ?_
          refine x_icge 92 16 rfl rfl rfl (fun _ => ?_) (fun c => absurd (by decide) c)
          refine x_ld 0 1 2 93 rfl rfl rfl rfl rfl ?_
          refine x_ld 4 2 0 95 rfl rfl rfl rfl rfl ?_
          refine x_ifeq 102 98 rfl rfl rfl (fun c => absurd c (by decide)) (fun _ => ?_)
          refine x_cst (.int 1) 1 99 rfl rfl rfl ?_
          refine x_go 103 rfl rfl ?_
          refine x_put 159 5 2 106 rfl rfl hm (by simp only [List.length_set, hfs]; omega) rfl rfl rfl _ rfl rfl ?_
          refine x_ld 4 2 0 108 rfl rfl rfl rfl rfl ?_
          refine x_ifne 122 111 rfl rfl rfl (fun _ => ?_) (fun c => absurd c (by decide))
          refine x_cst (.int 0) 1 123 rfl rfl rfl ?_
          refine x_ret rfl rfl rfl rfl ?_
          exact ⟨rfl, rfl⟩
  · refine x_cst (.int 0) 1 1 rfl rfl rfl ?_
    refine x_st 2 1 0 2 [some (.ref m), some (.int x), some (.int 0), none, none, none, none] rfl rfl rfl (Nat.le_of_ble_eq_true rfl) rfl rfl ?_
    refine x_cst (.int 1) 1 3 rfl rfl rfl ?_
    refine x_st 3 1 0 4 [some (.ref m), some (.int x), some (.int 0), some (.int 1), none, none, none] rfl rfl rfl (Nat.le_of_ble_eq_true rfl) rfl rfl ?_
    refine x_cst (.int 0) 1 5 rfl rfl rfl ?_
    refine x_st 4 2 0 7 [some (.ref m), some (.int x), some (.int 0), some (.int 1), some (.int 0), none, none] rfl rfl rfl (Nat.le_of_ble_eq_true rfl) rfl rfl ?_
    refine x_cst (.int 0) 1 8 rfl rfl rfl ?_
    refine x_st 5 2 0 10 [some (.ref m), some (.int x), some (.int 0), some (.int 1), some (.int 0), some (.int 0), none] rfl rfl rfl (Nat.le_of_ble_eq_true rfl) rfl rfl ?_
    refine x_ld 5 2 0 12 rfl rfl rfl rfl rfl ?_
    refine x_cst (.int 4) 1 13 rfl rfl rfl ?_
    refine x_icge 92 16 rfl rfl rfl (fun c => absurd c (by decide)) (fun _ => ?_)
    refine x_ld 1 1 0 17 rfl rfl rfl rfl rfl ?_
    refine x_cst (.int 8) 2 19 rfl rfl rfl ?_
    refine x_ld 5 2 0 21 rfl rfl rfl rfl rfl ?_
    refine x_bin (0) 22 rfl rfl rfl rfl ?_
    refine x_bin (x >>> (0 &&& 31)) 23 rfl rfl rfl rfl ?_
    refine x_cst (.int 255) 3 26 rfl rfl rfl ?_
    refine x_bin (byt x 0) 27 rfl rfl (byS_0 x) rfl ?_
    refine x_st 6 2 0 29 [some (.ref m), some (.int x), some (.int 0), some (.int 1), some (.int 0), some (.int 0), some (.int (byt x 0))] rfl rfl rfl (Nat.le_of_ble_eq_true rfl) rfl rfl ?_
    refine x_ld 3 1 0 30 rfl rfl rfl rfl rfl ?_
    refine x_ifeq 42 33 rfl rfl rfl (fun c => absurd c (by decide)) (fun _ => ?_)
    refine x_ld 6 2 0 35 rfl rfl rfl rfl rfl ?_
    refine x_ifeq 42 38 rfl rfl rfl (fun c => absurd c B0) (fun _ => ?_)
    refine x_cst (.int 1) 1 39 rfl rfl rfl ?_
    refine x_go 43 rfl rfl ?_
    refine x_st 3 1 0 44 [some (.ref m), some (.int x), some (.int 0), some (.int 1), some (.int 0), some (.int 0), some (.int (byt x 0))] rfl rfl rfl (Nat.le_of_ble_eq_true rfl) rfl rfl ?_
    refine x_ld 4 2 0 46 rfl rfl rfl rfl rfl ?_
    refine x_ifne 67 49 rfl rfl rfl (fun c => absurd (by decide) c) (fun _ => ?_)
    refine x_ld 3 1 0 50 rfl rfl rfl rfl rfl ?_
    refine x_ifeq 71 53 rfl rfl rfl (fun c => absurd c (by decide)) (fun _ => ?_)
    refine x_ld 6 2 0 55 rfl rfl rfl rfl rfl ?_
    refine x_cst (.int 32) 2 57 rfl rfl rfl ?_
    refine x_iclt 67 60 rfl rfl rfl (fun c => absurd c B1) (fun _ => ?_)
    refine x_ld 6 2 0 62 rfl rfl rfl rfl rfl ?_
    refine x_cst (.int 126) 2 64 rfl rfl rfl ?_
    refine x_icle 71 67 rfl rfl rfl (fun c => absurd c B2) (fun _ => ?_)
    refine x_cst (.int 1) 1 68 rfl rfl rfl ?_
    refine x_go 72 rfl rfl ?_
    refine x_st 4 2 0 74 [some (.ref m), some (.int x), some (.int 0), some (.int 1), some (.int 1), some (.int 0), some (.int (byt x 0))] rfl rfl rfl (Nat.le_of_ble_eq_true rfl) rfl rfl ?_
    refine x_ld 3 1 0 75 rfl rfl rfl rfl rfl ?_
    refine x_ifeq 84 78 rfl rfl rfl (fun c => absurd c (by decide)) (fun _ => ?_)
    refine x_ld 2 1 0 79 rfl rfl rfl rfl rfl ?_
    refine x_cst (.int 1) 1 80 rfl rfl rfl ?_
    refine x_bin (1) 81 rfl rfl rfl rfl ?_
    refine x_go 85 rfl rfl ?_
    refine x_st 2 1 0 86 [some (.ref m), some (.int x), some (.int 1), some (.int 1), some (.int 1), some (.int 0), some (.int (byt x 0))] rfl rfl rfl (Nat.le_of_ble_eq_true rfl) rfl rfl ?_
    refine x_inc 5 1 1 89 [some (.ref m), some (.int x), some (.int 1), some (.int 1), some (.int 1), some (.int 1), some (.int (byt x 0))] rfl rfl (Nat.le_of_ble_eq_true rfl) rfl rfl rfl ?_
    refine x_go 10 rfl rfl ?_
    refine x_ld 5 2 0 12 rfl rfl rfl rfl rfl ?_
    refine x_cst (.int 4) 1 13 rfl rfl rfl ?_
    refine x_icge 92 16 rfl rfl rfl (fun c => absurd c (by decide)) (fun _ => ?_)
    refine x_ld 1 1 0 17 rfl rfl rfl rfl rfl ?_
    refine x_cst (.int 8) 2 19 rfl rfl rfl ?_
    refine x_ld 5 2 0 21 rfl rfl rfl rfl rfl ?_
    refine x_bin (8) 22 rfl rfl rfl rfl ?_
    refine x_bin (x >>> (8 &&& 31)) 23 rfl rfl rfl rfl ?_
    refine x_cst (.int 255) 3 26 rfl rfl rfl ?_
    refine x_bin (byt x 1) 27 rfl rfl (byS_1 x) rfl ?_
    refine x_st 6 2 0 29 [some (.ref m), some (.int x), some (.int 1), some (.int 1), some (.int 1), some (.int 1), some (.int (byt x 1))] rfl rfl rfl (Nat.le_of_ble_eq_true rfl) rfl rfl ?_
    refine x_ld 3 1 0 30 rfl rfl rfl rfl rfl ?_
    refine x_ifeq 42 33 rfl rfl rfl (fun c => absurd c (by decide)) (fun _ => ?_)
    refine x_ld 6 2 0 35 rfl rfl rfl rfl rfl ?_
    refine x_ifeq 42 38 rfl rfl rfl (fun q1 => ?_) (fun q1 => ?_)
    · refine x_cst (.int 0) 1 43 rfl rfl rfl ?_
      refine x_st 3 1 0 44 [some (.ref m), some (.int x), some (.int 1), some (.int 0), some (.int 1), some (.int 1), some (.int (byt x 1))] rfl rfl rfl (Nat.le_of_ble_eq_true rfl) rfl rfl ?_
      refine x_ld 4 2 0 46 rfl rfl rfl rfl rfl ?_
      refine x_ifne 67 49 rfl rfl rfl (fun _ => ?_) (fun c => absurd c (by decide))
      refine x_cst (.int 1) 1 68 rfl rfl rfl ?_
      refine x_go 72 rfl rfl ?_
      refine x_st 4 2 0 74 [some (.ref m), some (.int x), some (.int 1), some (.int 0), some (.int 1), some (.int 1), some (.int (byt x 1))] rfl rfl rfl (Nat.le_of_ble_eq_true rfl) rfl rfl ?_
      refine x_ld 3 1 0 75 rfl rfl rfl rfl rfl ?_
      refine x_ifeq 84 78 rfl rfl rfl (fun _ => ?_) (fun c => absurd (by decide) c)
      refine x_ld 2 1 0 85 rfl rfl rfl rfl rfl ?_
      refine x_st 2 1 0 86 [some (.ref m), some (.int x), some (.int 1), some (.int 0), some (.int 1), some (.int 1), some (.int (byt x 1))] rfl rfl rfl (Nat.le_of_ble_eq_true rfl) rfl rfl ?_
      refine x_inc 5 1 1 89 [some (.ref m), some (.int x), some (.int 1), some (.int 0), some (.int 1), some (.int 2), some (.int (byt x 1))] rfl rfl (Nat.le_of_ble_eq_true rfl) rfl rfl rfl ?_
      refine x_go 10 rfl rfl ?_
      refine x_ld 5 2 0 12 rfl rfl rfl rfl rfl ?_
      refine x_cst (.int 4) 1 13 rfl rfl rfl ?_
      refine x_icge 92 16 rfl rfl rfl (fun c => absurd c (by decide)) (fun _ => ?_)
      refine x_ld 1 1 0 17 rfl rfl rfl rfl rfl ?_
      refine x_cst (.int 8) 2 19 rfl rfl rfl ?_
      refine x_ld 5 2 0 21 rfl rfl rfl rfl rfl ?_
      refine x_bin (16) 22 rfl rfl rfl rfl ?_
      refine x_bin (x >>> (16 &&& 31)) 23 rfl rfl rfl rfl ?_
      refine x_cst (.int 255) 3 26 rfl rfl rfl ?_
      refine x_bin (byt x 2) 27 rfl rfl (byS_2 x) rfl ?_
      refine x_st 6 2 0 29 [some (.ref m), some (.int x), some (.int 1), some (.int 0), some (.int 1), some (.int 2), some (.int (byt x 2))] rfl rfl rfl (Nat.le_of_ble_eq_true rfl) rfl rfl ?_
      refine x_ld 3 1 0 30 rfl rfl rfl rfl rfl ?_
      refine x_ifeq 42 33 rfl rfl rfl (fun _ => ?_) (fun c => absurd (by decide) c)
      refine x_cst (.int 0) 1 43 rfl rfl rfl ?_
      refine x_st 3 1 0 44 [some (.ref m), some (.int x), some (.int 1), some (.int 0), some (.int 1), some (.int 2), some (.int (byt x 2))] rfl rfl rfl (Nat.le_of_ble_eq_true rfl) rfl rfl ?_
      refine x_ld 4 2 0 46 rfl rfl rfl rfl rfl ?_
      refine x_ifne 67 49 rfl rfl rfl (fun _ => ?_) (fun c => absurd c (by decide))
      refine x_cst (.int 1) 1 68 rfl rfl rfl ?_
      refine x_go 72 rfl rfl ?_
      refine x_st 4 2 0 74 [some (.ref m), some (.int x), some (.int 1), some (.int 0), some (.int 1), some (.int 2), some (.int (byt x 2))] rfl rfl rfl (Nat.le_of_ble_eq_true rfl) rfl rfl ?_
      refine x_ld 3 1 0 75 rfl rfl rfl rfl rfl ?_
      refine x_ifeq 84 78 rfl rfl rfl (fun _ => ?_) (fun c => absurd (by decide) c)
      refine x_ld 2 1 0 85 rfl rfl rfl rfl rfl ?_
      refine x_st 2 1 0 86 [some (.ref m), some (.int x), some (.int 1), some (.int 0), some (.int 1), some (.int 2), some (.int (byt x 2))] rfl rfl rfl (Nat.le_of_ble_eq_true rfl) rfl rfl ?_
      refine x_inc 5 1 1 89 [some (.ref m), some (.int x), some (.int 1), some (.int 0), some (.int 1), some (.int 3), some (.int (byt x 2))] rfl rfl (Nat.le_of_ble_eq_true rfl) rfl rfl rfl ?_
      refine x_go 10 rfl rfl ?_
      refine x_ld 5 2 0 12 rfl rfl rfl rfl rfl ?_
      refine x_cst (.int 4) 1 13 rfl rfl rfl ?_
      refine x_icge 92 16 rfl rfl rfl (fun c => absurd c (by decide)) (fun _ => ?_)
      refine x_ld 1 1 0 17 rfl rfl rfl rfl rfl ?_
      refine x_cst (.int 8) 2 19 rfl rfl rfl ?_
      refine x_ld 5 2 0 21 rfl rfl rfl rfl rfl ?_
      refine x_bin (24) 22 rfl rfl rfl rfl ?_
      refine x_bin (x >>> (24 &&& 31)) 23 rfl rfl rfl rfl ?_
      refine x_cst (.int 255) 3 26 rfl rfl rfl ?_
      refine x_bin (byt x 3) 27 rfl rfl (byS_3 x) rfl ?_
      refine x_st 6 2 0 29 [some (.ref m), some (.int x), some (.int 1), some (.int 0), some (.int 1), some (.int 3), some (.int (byt x 3))] rfl rfl rfl (Nat.le_of_ble_eq_true rfl) rfl rfl ?_
      refine x_ld 3 1 0 30 rfl rfl rfl rfl rfl ?_
      refine x_ifeq 42 33 rfl rfl rfl (fun _ => ?_) (fun c => absurd (by decide) c)
      refine x_cst (.int 0) 1 43 rfl rfl rfl ?_
      refine x_st 3 1 0 44 [some (.ref m), some (.int x), some (.int 1), some (.int 0), some (.int 1), some (.int 3), some (.int (byt x 3))] rfl rfl rfl (Nat.le_of_ble_eq_true rfl) rfl rfl ?_
      refine x_ld 4 2 0 46 rfl rfl rfl rfl rfl ?_
      refine x_ifne 67 49 rfl rfl rfl (fun _ => ?_) (fun c => absurd c (by decide))
      refine x_cst (.int 1) 1 68 rfl rfl rfl ?_
      refine x_go 72 rfl rfl ?_
      refine x_st 4 2 0 74 [some (.ref m), some (.int x), some (.int 1), some (.int 0), some (.int 1), some (.int 3), some (.int (byt x 3))] rfl rfl rfl (Nat.le_of_ble_eq_true rfl) rfl rfl ?_
      refine x_ld 3 1 0 75 rfl rfl rfl rfl rfl ?_
      refine x_ifeq 84 78 rfl rfl rfl (fun _ => ?_) (fun c => absurd (by decide) c)
      refine x_ld 2 1 0 85 rfl rfl rfl rfl rfl ?_
      refine x_st 2 1 0 86 [some (.ref m), some (.int x), some (.int 1), some (.int 0), some (.int 1), some (.int 3), some (.int (byt x 3))] rfl rfl rfl (Nat.le_of_ble_eq_true rfl) rfl rfl ?_
      refine x_inc 5 1 1 89 [some (.ref m), some (.int x), some (.int 1), some (.int 0), some (.int 1), some (.int 4), some (.int (byt x 3))] rfl rfl (Nat.le_of_ble_eq_true rfl) rfl rfl rfl ?_
      refine x_go 10 rfl rfl ?_
      refine x_ld 5 2 0 12 rfl rfl rfl rfl rfl ?_
      refine x_cst (.int 4) 1 13 rfl rfl rfl ?_
      refine x_icge 92 16 rfl rfl rfl (fun _ => ?_) (fun c => absurd (by decide) c)
      refine x_ld 0 1 2 93 rfl rfl rfl rfl rfl ?_
      refine x_ld 4 2 0 95 rfl rfl rfl rfl rfl ?_
      refine x_ifeq 102 98 rfl rfl rfl (fun c => absurd c (by decide)) (fun _ => ?_)
      refine x_cst (.int 1) 1 99 rfl rfl rfl ?_
      refine x_go 103 rfl rfl ?_
      refine x_put 159 5 2 106 rfl rfl hm (by simp only [List.length_set, hfs]; omega) rfl rfl rfl _ rfl rfl ?_
      refine x_ld 4 2 0 108 rfl rfl rfl rfl rfl ?_
      refine x_ifne 122 111 rfl rfl rfl (fun _ => ?_) (fun c => absurd c (by decide))
      refine x_cst (.int 0) 1 123 rfl rfl rfl ?_
      refine x_ret rfl rfl rfl rfl ?_
      exact ⟨rfl, rfl⟩
    · refine x_cst (.int 1) 1 39 rfl rfl rfl ?_
      refine x_go 43 rfl rfl ?_
      refine x_st 3 1 0 44 [some (.ref m), some (.int x), some (.int 1), some (.int 1), some (.int 1), some (.int 1), some (.int (byt x 1))] rfl rfl rfl (Nat.le_of_ble_eq_true rfl) rfl rfl ?_
      refine x_ld 4 2 0 46 rfl rfl rfl rfl rfl ?_
      refine x_ifne 67 49 rfl rfl rfl (fun _ => ?_) (fun c => absurd c (by decide))
      refine x_cst (.int 1) 1 68 rfl rfl rfl ?_
      refine x_go 72 rfl rfl ?_
      refine x_st 4 2 0 74 [some (.ref m), some (.int x), some (.int 1), some (.int 1), some (.int 1), some (.int 1), some (.int (byt x 1))] rfl rfl rfl (Nat.le_of_ble_eq_true rfl) rfl rfl ?_
      refine x_ld 3 1 0 75 rfl rfl rfl rfl rfl ?_
      refine x_ifeq 84 78 rfl rfl rfl (fun c => absurd c (by decide)) (fun _ => ?_)
      refine x_ld 2 1 0 79 rfl rfl rfl rfl rfl ?_
      refine x_cst (.int 1) 1 80 rfl rfl rfl ?_
      refine x_bin (2) 81 rfl rfl rfl rfl ?_
      refine x_go 85 rfl rfl ?_
      refine x_st 2 1 0 86 [some (.ref m), some (.int x), some (.int 2), some (.int 1), some (.int 1), some (.int 1), some (.int (byt x 1))] rfl rfl rfl (Nat.le_of_ble_eq_true rfl) rfl rfl ?_
      refine x_inc 5 1 1 89 [some (.ref m), some (.int x), some (.int 2), some (.int 1), some (.int 1), some (.int 2), some (.int (byt x 1))] rfl rfl (Nat.le_of_ble_eq_true rfl) rfl rfl rfl ?_
      refine x_go 10 rfl rfl ?_
      refine x_ld 5 2 0 12 rfl rfl rfl rfl rfl ?_
      refine x_cst (.int 4) 1 13 rfl rfl rfl ?_
      refine x_icge 92 16 rfl rfl rfl (fun c => absurd c (by decide)) (fun _ => ?_)
      refine x_ld 1 1 0 17 rfl rfl rfl rfl rfl ?_
      refine x_cst (.int 8) 2 19 rfl rfl rfl ?_
      refine x_ld 5 2 0 21 rfl rfl rfl rfl rfl ?_
      refine x_bin (16) 22 rfl rfl rfl rfl ?_
      refine x_bin (x >>> (16 &&& 31)) 23 rfl rfl rfl rfl ?_
      refine x_cst (.int 255) 3 26 rfl rfl rfl ?_
      refine x_bin (byt x 2) 27 rfl rfl (byS_2 x) rfl ?_
      refine x_st 6 2 0 29 [some (.ref m), some (.int x), some (.int 2), some (.int 1), some (.int 1), some (.int 2), some (.int (byt x 2))] rfl rfl rfl (Nat.le_of_ble_eq_true rfl) rfl rfl ?_
      refine x_ld 3 1 0 30 rfl rfl rfl rfl rfl ?_
      refine x_ifeq 42 33 rfl rfl rfl (fun c => absurd c (by decide)) (fun _ => ?_)
      refine x_ld 6 2 0 35 rfl rfl rfl rfl rfl ?_
      refine x_ifeq 42 38 rfl rfl rfl (fun q2 => ?_) (fun q2 => ?_)
      · refine x_cst (.int 0) 1 43 rfl rfl rfl ?_
        refine x_st 3 1 0 44 [some (.ref m), some (.int x), some (.int 2), some (.int 0), some (.int 1), some (.int 2), some (.int (byt x 2))] rfl rfl rfl (Nat.le_of_ble_eq_true rfl) rfl rfl ?_
        refine x_ld 4 2 0 46 rfl rfl rfl rfl rfl ?_
        refine x_ifne 67 49 rfl rfl rfl (fun _ => ?_) (fun c => absurd c (by decide))
        refine x_cst (.int 1) 1 68 rfl rfl rfl ?_
        refine x_go 72 rfl rfl ?_
        refine x_st 4 2 0 74 [some (.ref m), some (.int x), some (.int 2), some (.int 0), some (.int 1), some (.int 2), some (.int (byt x 2))] rfl rfl rfl (Nat.le_of_ble_eq_true rfl) rfl rfl ?_
        refine x_ld 3 1 0 75 rfl rfl rfl rfl rfl ?_
        refine x_ifeq 84 78 rfl rfl rfl (fun _ => ?_) (fun c => absurd (by decide) c)
        refine x_ld 2 1 0 85 rfl rfl rfl rfl rfl ?_
        refine x_st 2 1 0 86 [some (.ref m), some (.int x), some (.int 2), some (.int 0), some (.int 1), some (.int 2), some (.int (byt x 2))] rfl rfl rfl (Nat.le_of_ble_eq_true rfl) rfl rfl ?_
        refine x_inc 5 1 1 89 [some (.ref m), some (.int x), some (.int 2), some (.int 0), some (.int 1), some (.int 3), some (.int (byt x 2))] rfl rfl (Nat.le_of_ble_eq_true rfl) rfl rfl rfl ?_
        refine x_go 10 rfl rfl ?_
        refine x_ld 5 2 0 12 rfl rfl rfl rfl rfl ?_
        refine x_cst (.int 4) 1 13 rfl rfl rfl ?_
        refine x_icge 92 16 rfl rfl rfl (fun c => absurd c (by decide)) (fun _ => ?_)
        refine x_ld 1 1 0 17 rfl rfl rfl rfl rfl ?_
        refine x_cst (.int 8) 2 19 rfl rfl rfl ?_
        refine x_ld 5 2 0 21 rfl rfl rfl rfl rfl ?_
        refine x_bin (24) 22 rfl rfl rfl rfl ?_
        refine x_bin (x >>> (24 &&& 31)) 23 rfl rfl rfl rfl ?_
        refine x_cst (.int 255) 3 26 rfl rfl rfl ?_
        refine x_bin (byt x 3) 27 rfl rfl (byS_3 x) rfl ?_
        refine x_st 6 2 0 29 [some (.ref m), some (.int x), some (.int 2), some (.int 0), some (.int 1), some (.int 3), some (.int (byt x 3))] rfl rfl rfl (Nat.le_of_ble_eq_true rfl) rfl rfl ?_
        refine x_ld 3 1 0 30 rfl rfl rfl rfl rfl ?_
        refine x_ifeq 42 33 rfl rfl rfl (fun _ => ?_) (fun c => absurd (by decide) c)
        refine x_cst (.int 0) 1 43 rfl rfl rfl ?_
        refine x_st 3 1 0 44 [some (.ref m), some (.int x), some (.int 2), some (.int 0), some (.int 1), some (.int 3), some (.int (byt x 3))] rfl rfl rfl (Nat.le_of_ble_eq_true rfl) rfl rfl ?_
        refine x_ld 4 2 0 46 rfl rfl rfl rfl rfl ?_
        refine x_ifne 67 49 rfl rfl rfl (fun _ => ?_) (fun c => absurd c (by decide))
        refine x_cst (.int 1) 1 68 rfl rfl rfl ?_
        refine x_go 72 rfl rfl ?_
        refine x_st 4 2 0 74 [some (.ref m), some (.int x), some (.int 2), some (.int 0), some (.int 1), some (.int 3), some (.int (byt x 3))] rfl rfl rfl (Nat.le_of_ble_eq_true rfl) rfl rfl ?_
        refine x_ld 3 1 0 75 rfl rfl rfl rfl rfl ?_
        refine x_ifeq 84 78 rfl rfl rfl (fun _ => ?_) (fun c => absurd (by decide) c)
        refine x_ld 2 1 0 85 rfl rfl rfl rfl rfl ?_
        refine x_st 2 1 0 86 [some (.ref m), some (.int x), some (.int 2), some (.int 0), some (.int 1), some (.int 3), some (.int (byt x 3))] rfl rfl rfl (Nat.le_of_ble_eq_true rfl) rfl rfl ?_
        refine x_inc 5 1 1 89 [some (.ref m), some (.int x), some (.int 2), some (.int 0), some (.int 1), some (.int 4), some (.int (byt x 3))] rfl rfl (Nat.le_of_ble_eq_true rfl) rfl rfl rfl ?_
        refine x_go 10 rfl rfl ?_
        refine x_ld 5 2 0 12 rfl rfl rfl rfl rfl ?_
        refine x_cst (.int 4) 1 13 rfl rfl rfl ?_
        refine x_icge 92 16 rfl rfl rfl (fun _ => ?_) (fun c => absurd (by decide) c)
        refine x_ld 0 1 2 93 rfl rfl rfl rfl rfl ?_
        refine x_ld 4 2 0 95 rfl rfl rfl rfl rfl ?_
        refine x_ifeq 102 98 rfl rfl rfl (fun c => absurd c (by decide)) (fun _ => ?_)
        refine x_cst (.int 1) 1 99 rfl rfl rfl ?_
        refine x_go 103 rfl rfl ?_
        refine x_put 159 5 2 106 rfl rfl hm (by simp only [List.length_set, hfs]; omega) rfl rfl rfl _ rfl rfl ?_
        refine x_ld 4 2 0 108 rfl rfl rfl rfl rfl ?_
        refine x_ifne 122 111 rfl rfl rfl (fun _ => ?_) (fun c => absurd c (by decide))
        refine x_cst (.int 0) 1 123 rfl rfl rfl ?_
        refine x_ret rfl rfl rfl rfl ?_
        exact ⟨rfl, rfl⟩
      · refine x_cst (.int 1) 1 39 rfl rfl rfl ?_
        refine x_go 43 rfl rfl ?_
        refine x_st 3 1 0 44 [some (.ref m), some (.int x), some (.int 2), some (.int 1), some (.int 1), some (.int 2), some (.int (byt x 2))] rfl rfl rfl (Nat.le_of_ble_eq_true rfl) rfl rfl ?_
        refine x_ld 4 2 0 46 rfl rfl rfl rfl rfl ?_
        refine x_ifne 67 49 rfl rfl rfl (fun _ => ?_) (fun c => absurd c (by decide))
        refine x_cst (.int 1) 1 68 rfl rfl rfl ?_
        refine x_go 72 rfl rfl ?_
        refine x_st 4 2 0 74 [some (.ref m), some (.int x), some (.int 2), some (.int 1), some (.int 1), some (.int 2), some (.int (byt x 2))] rfl rfl rfl (Nat.le_of_ble_eq_true rfl) rfl rfl ?_
        refine x_ld 3 1 0 75 rfl rfl rfl rfl rfl ?_
        refine x_ifeq 84 78 rfl rfl rfl (fun c => absurd c (by decide)) (fun _ => ?_)
        refine x_ld 2 1 0 79 rfl rfl rfl rfl rfl ?_
        refine x_cst (.int 1) 1 80 rfl rfl rfl ?_
        refine x_bin (3) 81 rfl rfl rfl rfl ?_
        refine x_go 85 rfl rfl ?_
        refine x_st 2 1 0 86 [some (.ref m), some (.int x), some (.int 3), some (.int 1), some (.int 1), some (.int 2), some (.int (byt x 2))] rfl rfl rfl (Nat.le_of_ble_eq_true rfl) rfl rfl ?_
        refine x_inc 5 1 1 89 [some (.ref m), some (.int x), some (.int 3), some (.int 1), some (.int 1), some (.int 3), some (.int (byt x 2))] rfl rfl (Nat.le_of_ble_eq_true rfl) rfl rfl rfl ?_
        refine x_go 10 rfl rfl ?_
        refine x_ld 5 2 0 12 rfl rfl rfl rfl rfl ?_
        refine x_cst (.int 4) 1 13 rfl rfl rfl ?_
        refine x_icge 92 16 rfl rfl rfl (fun c => absurd c (by decide)) (fun _ => ?_)
        refine x_ld 1 1 0 17 rfl rfl rfl rfl rfl ?_
        refine x_cst (.int 8) 2 19 rfl rfl rfl ?_
        refine x_ld 5 2 0 21 rfl rfl rfl rfl rfl ?_
        refine x_bin (24) 22 rfl rfl rfl rfl ?_
        refine x_bin (x >>> (24 &&& 31)) 23 rfl rfl rfl rfl ?_
        refine x_cst (.int 255) 3 26 rfl rfl rfl ?_
        refine x_bin (byt x 3) 27 rfl rfl (byS_3 x) rfl ?_
        refine x_st 6 2 0 29 [some (.ref m), some (.int x), some (.int 3), some (.int 1), some (.int 1), some (.int 3), some (.int (byt x 3))] rfl rfl rfl (Nat.le_of_ble_eq_true rfl) rfl rfl ?_
        refine x_ld 3 1 0 30 rfl rfl rfl rfl rfl ?_
        refine x_ifeq 42 33 rfl rfl rfl (fun c => absurd c (by decide)) (fun _ => ?_)
        refine x_ld 6 2 0 35 rfl rfl rfl rfl rfl ?_
        refine x_ifeq 42 38 rfl rfl rfl (fun q3 => ?_) (fun q3 => ?_)
        · refine x_cst (.int 0) 1 43 rfl rfl rfl ?_
          refine x_st 3 1 0 44 [some (.ref m), some (.int x), some (.int 3), some (.int 0), some (.int 1), some (.int 3), some (.int (byt x 3))] rfl rfl rfl (Nat.le_of_ble_eq_true rfl) rfl rfl ?_
          refine x_ld 4 2 0 46 rfl rfl rfl rfl rfl ?_
          refine x_ifne 67 49 rfl rfl rfl (fun _ => ?_) (fun c => absurd c (by decide))
          refine x_cst (.int 1) 1 68 rfl rfl rfl ?_
          refine x_go 72 rfl rfl ?_
          refine x_st 4 2 0 74 [some (.ref m), some (.int x), some (.int 3), some (.int 0), some (.int 1), some (.int 3), some (.int (byt x 3))] rfl rfl rfl (Nat.le_of_ble_eq_true rfl) rfl rfl ?_
          refine x_ld 3 1 0 75 rfl rfl rfl rfl rfl ?_
          refine x_ifeq 84 78 rfl rfl rfl (fun _ => ?_) (fun c => absurd (by decide) c)
          refine x_ld 2 1 0 85 rfl rfl rfl rfl rfl ?_
          refine x_st 2 1 0 86 [some (.ref m), some (.int x), some (.int 3), some (.int 0), some (.int 1), some (.int 3), some (.int (byt x 3))] rfl rfl rfl (Nat.le_of_ble_eq_true rfl) rfl rfl ?_
          refine x_inc 5 1 1 89 [some (.ref m), some (.int x), some (.int 3), some (.int 0), some (.int 1), some (.int 4), some (.int (byt x 3))] rfl rfl (Nat.le_of_ble_eq_true rfl) rfl rfl rfl ?_
          refine x_go 10 rfl rfl ?_
          refine x_ld 5 2 0 12 rfl rfl rfl rfl rfl ?_
          refine x_cst (.int 4) 1 13 rfl rfl rfl ?_
          refine x_icge 92 16 rfl rfl rfl (fun _ => ?_) (fun c => absurd (by decide) c)
          refine x_ld 0 1 2 93 rfl rfl rfl rfl rfl ?_
          refine x_ld 4 2 0 95 rfl rfl rfl rfl rfl ?_
          refine x_ifeq 102 98 rfl rfl rfl (fun c => absurd c (by decide)) (fun _ => ?_)
          refine x_cst (.int 1) 1 99 rfl rfl rfl ?_
          refine x_go 103 rfl rfl ?_
          refine x_put 159 5 2 106 rfl rfl hm (by simp only [List.length_set, hfs]; omega) rfl rfl rfl _ rfl rfl ?_
          refine x_ld 4 2 0 108 rfl rfl rfl rfl rfl ?_
          refine x_ifne 122 111 rfl rfl rfl (fun _ => ?_) (fun c => absurd c (by decide))
          refine x_cst (.int 0) 1 123 rfl rfl rfl ?_
          refine x_ret rfl rfl rfl rfl ?_
          exact ⟨rfl, rfl⟩
        · refine x_cst (.int 1) 1 39 rfl rfl rfl ?_
          refine x_go 43 rfl rfl ?_
          refine x_st 3 1 0 44 [some (.ref m), some (.int x), some (.int 3), some (.int 1), some (.int 1), some (.int 3), some (.int (byt x 3))] rfl rfl rfl (Nat.le_of_ble_eq_true rfl) rfl rfl ?_
          refine x_ld 4 2 0 46 rfl rfl rfl rfl rfl ?_
          refine x_ifne 67 49 rfl rfl rfl (fun _ => ?_) (fun c => absurd c (by decide))
          refine x_cst (.int 1) 1 68 rfl rfl rfl ?_
          refine x_go 72 rfl rfl ?_
          refine x_st 4 2 0 74 [some (.ref m), some (.int x), some (.int 3), some (.int 1), some (.int 1), some (.int 3), some (.int (byt x 3))] rfl rfl rfl (Nat.le_of_ble_eq_true rfl) rfl rfl ?_
          refine x_ld 3 1 0 75 rfl rfl rfl rfl rfl ?_
          refine x_ifeq 84 78 rfl rfl rfl (fun c => absurd c (by decide)) (fun _ => ?_)
          refine x_ld 2 1 0 79 rfl rfl rfl rfl rfl ?_
          refine x_cst (.int 1) 1 80 rfl rfl rfl ?_
          refine x_bin (4) 81 rfl rfl rfl rfl ?_
          refine x_go 85 rfl rfl ?_
          refine x_st 2 1 0 86 [some (.ref m), some (.int x), some (.int 4), some (.int 1), some (.int 1), some (.int 3), some (.int (byt x 3))] rfl rfl rfl (Nat.le_of_ble_eq_true rfl) rfl rfl ?_
          refine x_inc 5 1 1 89 [some (.ref m), some (.int x), some (.int 4), some (.int 1), some (.int 1), some (.int 4), some (.int (byt x 3))] rfl rfl (Nat.le_of_ble_eq_true rfl) rfl rfl rfl ?_
          refine x_go 10 rfl rfl ?_
          refine x_ld 5 2 0 12 rfl rfl rfl rfl rfl ?_
          refine x_cst (.int 4) 1 13 rfl rfl rfl ?_
          refine x_icge 92 16 rfl rfl rfl (fun _ => ?_) (fun c => absurd (by decide) c)
          refine x_ld 0 1 2 93 rfl rfl rfl rfl rfl ?_
          refine x_ld 4 2 0 95 rfl rfl rfl rfl rfl ?_
          refine x_ifeq 102 98 rfl rfl rfl (fun c => absurd c (by decide)) (fun _ => ?_)
          refine x_cst (.int 1) 1 99 rfl rfl rfl ?_
          refine x_go 103 rfl rfl ?_
          refine x_put 159 5 2 106 rfl rfl hm (by simp only [List.length_set, hfs]; omega) rfl rfl rfl _ rfl rfl ?_
          refine x_ld 4 2 0 108 rfl rfl rfl rfl rfl ?_
          refine x_ifne 122 111 rfl rfl rfl (fun _ => ?_) (fun c => absurd c (by decide))
          refine x_cst (.int 0) 1 123 rfl rfl rfl ?_
          refine x_ret rfl rfl rfl rfl ?_
          exact ⟨rfl, rfl⟩
theorem t104_h1 {h : ab_H} {m ml n : Nat} {x : Int32} {g : Nat → Int32} {fs : List Value} (hne : ml ≠ m) : (((h.set m (.inr (5, (fs.set 2 (.int 0))))).set ml (.inl (0, 16, .inl (upd g n (byt x 0))))).set m (.inr (5, ((fs.set 2 (.int 0)).set 4 (.int (Int32.ofNat (n + 1))))))) = (h.set ml (.inl (0, 16, .inl (ups g n x 1)))).set m (.inr (5, (fs.set 2 (.int 0)).set 4 (.int (Int32.ofNat (n + 1))))) := by
  simp only [List.set_set, List.set_comm _ _ hne]
  rfl
theorem t104_1 (d : Nat) {h : ab_H} {m ml n : Nat} {x : Int32} {g : Nat → Int32} {fs : List Value} (hm : h[m]? = some (.inr (5, fs))) (hfs : fs.length = 68) (h3 : fs[3]? = some (.ref ml)) (h4 : fs[4]? = some (.int (Int32.ofNat n))) (hl : h[ml]? = some (.inl (0, 16, .inl g))) (hne : ml ≠ m) (hn : n ≤ 16) (H : okc x 1) (hf : n + 1 ≤ 16) : ab_S (pg_G L xs) (d + 1) 104 [.ref m, .int x] h (some (.int 1)) ((h.set ml (.inl (0, 16, .inl (ups g n x 1)))).set m (.inr (5, (fs.set 2 (.int 0)).set 4 (.int (Int32.ofNat (n + 1)))))) := by
  show ab_W (pg_G L xs) (ab_X (pg_G L xs) d) 104 _ 0 [some (.ref m), some (.int x), none, none, none, none, none] [] h
  have K0 : 32 ≤ byt x 0 ∧ byt x 0 ≤ 126 := H.1 0 (by decide)
  have Z := H.2 (by decide)
  refine x_cst (.int 0) 1 1 rfl rfl rfl ?_
  refine x_st 2 1 0 2 [some (.ref m), some (.int x), some (.int 0), none, none, none, none] rfl rfl rfl (Nat.le_of_ble_eq_true rfl) rfl rfl ?_
  refine x_cst (.int 1) 1 3 rfl rfl rfl ?_
  refine x_st 3 1 0 4 [some (.ref m), some (.int x), some (.int 0), some (.int 1), none, none, none] rfl rfl rfl (Nat.le_of_ble_eq_true rfl) rfl rfl ?_
  refine x_cst (.int 0) 1 5 rfl rfl rfl ?_
  refine x_st 4 2 0 7 [some (.ref m), some (.int x), some (.int 0), some (.int 1), some (.int 0), none, none] rfl rfl rfl (Nat.le_of_ble_eq_true rfl) rfl rfl ?_
  refine x_cst (.int 0) 1 8 rfl rfl rfl ?_
  refine x_st 5 2 0 10 [some (.ref m), some (.int x), some (.int 0), some (.int 1), some (.int 0), some (.int 0), none] rfl rfl rfl (Nat.le_of_ble_eq_true rfl) rfl rfl ?_
  refine x_ld 5 2 0 12 rfl rfl rfl rfl rfl ?_
  refine x_cst (.int 4) 1 13 rfl rfl rfl ?_
  refine x_icge 92 16 rfl rfl rfl (fun c => absurd c (by decide)) (fun _ => ?_)
  refine x_ld 1 1 0 17 rfl rfl rfl rfl rfl ?_
  refine x_cst (.int 8) 2 19 rfl rfl rfl ?_
  refine x_ld 5 2 0 21 rfl rfl rfl rfl rfl ?_
  refine x_bin (0) 22 rfl rfl rfl rfl ?_
  refine x_bin (x >>> (0 &&& 31)) 23 rfl rfl rfl rfl ?_
  refine x_cst (.int 255) 3 26 rfl rfl rfl ?_
  refine x_bin (byt x 0) 27 rfl rfl (byS_0 x) rfl ?_
  refine x_st 6 2 0 29 [some (.ref m), some (.int x), some (.int 0), some (.int 1), some (.int 0), some (.int 0), some (.int (byt x 0))] rfl rfl rfl (Nat.le_of_ble_eq_true rfl) rfl rfl ?_
  refine x_ld 3 1 0 30 rfl rfl rfl rfl rfl ?_
  refine x_ifeq 42 33 rfl rfl rfl (fun c => absurd c (by decide)) (fun _ => ?_)
  refine x_ld 6 2 0 35 rfl rfl rfl rfl rfl ?_
  refine x_ifeq 42 38 rfl rfl rfl (fun c => absurd c (nz32 K0.1)) (fun _ => ?_)
  refine x_cst (.int 1) 1 39 rfl rfl rfl ?_
  refine x_go 43 rfl rfl ?_
  refine x_st 3 1 0 44 [some (.ref m), some (.int x), some (.int 0), some (.int 1), some (.int 0), some (.int 0), some (.int (byt x 0))] rfl rfl rfl (Nat.le_of_ble_eq_true rfl) rfl rfl ?_
  refine x_ld 4 2 0 46 rfl rfl rfl rfl rfl ?_
  refine x_ifne 67 49 rfl rfl rfl (fun c => absurd (by decide) c) (fun _ => ?_)
  refine x_ld 3 1 0 50 rfl rfl rfl rfl rfl ?_
  refine x_ifeq 71 53 rfl rfl rfl (fun c => absurd c (by decide)) (fun _ => ?_)
  refine x_ld 6 2 0 55 rfl rfl rfl rfl rfl ?_
  refine x_cst (.int 32) 2 57 rfl rfl rfl ?_
  refine x_iclt 67 60 rfl rfl rfl (fun c => absurd c (Int32.not_lt.mpr K0.1)) (fun _ => ?_)
  refine x_ld 6 2 0 62 rfl rfl rfl rfl rfl ?_
  refine x_cst (.int 126) 2 64 rfl rfl rfl ?_
  refine x_icle 71 67 rfl rfl rfl (fun _ => ?_) (fun c => absurd K0.2 c)
  refine x_cst (.int 0) 1 72 rfl rfl rfl ?_
  refine x_st 4 2 0 74 [some (.ref m), some (.int x), some (.int 0), some (.int 1), some (.int 0), some (.int 0), some (.int (byt x 0))] rfl rfl rfl (Nat.le_of_ble_eq_true rfl) rfl rfl ?_
  refine x_ld 3 1 0 75 rfl rfl rfl rfl rfl ?_
  refine x_ifeq 84 78 rfl rfl rfl (fun c => absurd c (by decide)) (fun _ => ?_)
  refine x_ld 2 1 0 79 rfl rfl rfl rfl rfl ?_
  refine x_cst (.int 1) 1 80 rfl rfl rfl ?_
  refine x_bin (1) 81 rfl rfl rfl rfl ?_
  refine x_go 85 rfl rfl ?_
  refine x_st 2 1 0 86 [some (.ref m), some (.int x), some (.int 1), some (.int 1), some (.int 0), some (.int 0), some (.int (byt x 0))] rfl rfl rfl (Nat.le_of_ble_eq_true rfl) rfl rfl ?_
  refine x_inc 5 1 1 89 [some (.ref m), some (.int x), some (.int 1), some (.int 1), some (.int 0), some (.int 1), some (.int (byt x 0))] rfl rfl (Nat.le_of_ble_eq_true rfl) rfl rfl rfl ?_
  refine x_go 10 rfl rfl ?_
  refine x_ld 5 2 0 12 rfl rfl rfl rfl rfl ?_
  refine x_cst (.int 4) 1 13 rfl rfl rfl ?_
  refine x_icge 92 16 rfl rfl rfl (fun c => absurd c (by decide)) (fun _ => ?_)
  refine x_ld 1 1 0 17 rfl rfl rfl rfl rfl ?_
  refine x_cst (.int 8) 2 19 rfl rfl rfl ?_
  refine x_ld 5 2 0 21 rfl rfl rfl rfl rfl ?_
  refine x_bin (8) 22 rfl rfl rfl rfl ?_
  refine x_bin (x >>> (8 &&& 31)) 23 rfl rfl rfl rfl ?_
  refine x_cst (.int 255) 3 26 rfl rfl rfl ?_
  refine x_bin (byt x 1) 27 rfl rfl (byS_1 x) rfl ?_
  refine x_st 6 2 0 29 [some (.ref m), some (.int x), some (.int 1), some (.int 1), some (.int 0), some (.int 1), some (.int (byt x 1))] rfl rfl rfl (Nat.le_of_ble_eq_true rfl) rfl rfl ?_
  refine x_ld 3 1 0 30 rfl rfl rfl rfl rfl ?_
  refine x_ifeq 42 33 rfl rfl rfl (fun c => absurd c (by decide)) (fun _ => ?_)
  refine x_ld 6 2 0 35 rfl rfl rfl rfl rfl ?_
  refine x_ifeq 42 38 rfl rfl rfl (fun _ => ?_) (fun c => absurd Z c)
  refine x_cst (.int 0) 1 43 rfl rfl rfl ?_
  refine x_st 3 1 0 44 [some (.ref m), some (.int x), some (.int 1), some (.int 0), some (.int 0), some (.int 1), some (.int (byt x 1))] rfl rfl rfl (Nat.le_of_ble_eq_true rfl) rfl rfl ?_
  refine x_ld 4 2 0 46 rfl rfl rfl rfl rfl ?_
  refine x_ifne 67 49 rfl rfl rfl (fun c => absurd (by decide) c) (fun _ => ?_)
  refine x_ld 3 1 0 50 rfl rfl rfl rfl rfl ?_
  refine x_ifeq 71 53 rfl rfl rfl (fun _ => ?_) (fun c => absurd (by decide) c)
  refine x_cst (.int 0) 1 72 rfl rfl rfl ?_
  refine x_st 4 2 0 74 [some (.ref m), some (.int x), some (.int 1), some (.int 0), some (.int 0), some (.int 1), some (.int (byt x 1))] rfl rfl rfl (Nat.le_of_ble_eq_true rfl) rfl rfl ?_
  refine x_ld 3 1 0 75 rfl rfl rfl rfl rfl ?_
  refine x_ifeq 84 78 rfl rfl rfl (fun _ => ?_) (fun c => absurd (by decide) c)
  refine x_ld 2 1 0 85 rfl rfl rfl rfl rfl ?_
  refine x_st 2 1 0 86 [some (.ref m), some (.int x), some (.int 1), some (.int 0), some (.int 0), some (.int 1), some (.int (byt x 1))] rfl rfl rfl (Nat.le_of_ble_eq_true rfl) rfl rfl ?_
  refine x_inc 5 1 1 89 [some (.ref m), some (.int x), some (.int 1), some (.int 0), some (.int 0), some (.int 2), some (.int (byt x 1))] rfl rfl (Nat.le_of_ble_eq_true rfl) rfl rfl rfl ?_
  refine x_go 10 rfl rfl ?_
  refine x_ld 5 2 0 12 rfl rfl rfl rfl rfl ?_
  refine x_cst (.int 4) 1 13 rfl rfl rfl ?_
  refine x_icge 92 16 rfl rfl rfl (fun c => absurd c (by decide)) (fun _ => ?_)
  refine x_ld 1 1 0 17 rfl rfl rfl rfl rfl ?_
  refine x_cst (.int 8) 2 19 rfl rfl rfl ?_
  refine x_ld 5 2 0 21 rfl rfl rfl rfl rfl ?_
  refine x_bin (16) 22 rfl rfl rfl rfl ?_
  refine x_bin (x >>> (16 &&& 31)) 23 rfl rfl rfl rfl ?_
  refine x_cst (.int 255) 3 26 rfl rfl rfl ?_
  refine x_bin (byt x 2) 27 rfl rfl (byS_2 x) rfl ?_
  refine x_st 6 2 0 29 [some (.ref m), some (.int x), some (.int 1), some (.int 0), some (.int 0), some (.int 2), some (.int (byt x 2))] rfl rfl rfl (Nat.le_of_ble_eq_true rfl) rfl rfl ?_
  refine x_ld 3 1 0 30 rfl rfl rfl rfl rfl ?_
  refine x_ifeq 42 33 rfl rfl rfl (fun _ => ?_) (fun c => absurd (by decide) c)
  refine x_cst (.int 0) 1 43 rfl rfl rfl ?_
  refine x_st 3 1 0 44 [some (.ref m), some (.int x), some (.int 1), some (.int 0), some (.int 0), some (.int 2), some (.int (byt x 2))] rfl rfl rfl (Nat.le_of_ble_eq_true rfl) rfl rfl ?_
  refine x_ld 4 2 0 46 rfl rfl rfl rfl rfl ?_
  refine x_ifne 67 49 rfl rfl rfl (fun c => absurd (by decide) c) (fun _ => ?_)
  refine x_ld 3 1 0 50 rfl rfl rfl rfl rfl ?_
  refine x_ifeq 71 53 rfl rfl rfl (fun _ => ?_) (fun c => absurd (by decide) c)
  refine x_cst (.int 0) 1 72 rfl rfl rfl ?_
  refine x_st 4 2 0 74 [some (.ref m), some (.int x), some (.int 1), some (.int 0), some (.int 0), some (.int 2), some (.int (byt x 2))] rfl rfl rfl (Nat.le_of_ble_eq_true rfl) rfl rfl ?_
  refine x_ld 3 1 0 75 rfl rfl rfl rfl rfl ?_
  refine x_ifeq 84 78 rfl rfl rfl (fun _ => ?_) (fun c => absurd (by decide) c)
  refine x_ld 2 1 0 85 rfl rfl rfl rfl rfl ?_
  refine x_st 2 1 0 86 [some (.ref m), some (.int x), some (.int 1), some (.int 0), some (.int 0), some (.int 2), some (.int (byt x 2))] rfl rfl rfl (Nat.le_of_ble_eq_true rfl) rfl rfl ?_
  refine x_inc 5 1 1 89 [some (.ref m), some (.int x), some (.int 1), some (.int 0), some (.int 0), some (.int 3), some (.int (byt x 2))] rfl rfl (Nat.le_of_ble_eq_true rfl) rfl rfl rfl ?_
  refine x_go 10 rfl rfl ?_
  refine x_ld 5 2 0 12 rfl rfl rfl rfl rfl ?_
  refine x_cst (.int 4) 1 13 rfl rfl rfl ?_
  refine x_icge 92 16 rfl rfl rfl (fun c => absurd c (by decide)) (fun _ => ?_)
  refine x_ld 1 1 0 17 rfl rfl rfl rfl rfl ?_
  refine x_cst (.int 8) 2 19 rfl rfl rfl ?_
  refine x_ld 5 2 0 21 rfl rfl rfl rfl rfl ?_
  refine x_bin (24) 22 rfl rfl rfl rfl ?_
  refine x_bin (x >>> (24 &&& 31)) 23 rfl rfl rfl rfl ?_
  refine x_cst (.int 255) 3 26 rfl rfl rfl ?_
  refine x_bin (byt x 3) 27 rfl rfl (byS_3 x) rfl ?_
  refine x_st 6 2 0 29 [some (.ref m), some (.int x), some (.int 1), some (.int 0), some (.int 0), some (.int 3), some (.int (byt x 3))] rfl rfl rfl (Nat.le_of_ble_eq_true rfl) rfl rfl ?_
  refine x_ld 3 1 0 30 rfl rfl rfl rfl rfl ?_
  refine x_ifeq 42 33 rfl rfl rfl (fun _ => ?_) (fun c => absurd (by decide) c)
  refine x_cst (.int 0) 1 43 rfl rfl rfl ?_
  refine x_st 3 1 0 44 [some (.ref m), some (.int x), some (.int 1), some (.int 0), some (.int 0), some (.int 3), some (.int (byt x 3))] rfl rfl rfl (Nat.le_of_ble_eq_true rfl) rfl rfl ?_
  refine x_ld 4 2 0 46 rfl rfl rfl rfl rfl ?_
  refine x_ifne 67 49 rfl rfl rfl (fun c => absurd (by decide) c) (fun _ => ?_)
  refine x_ld 3 1 0 50 rfl rfl rfl rfl rfl ?_
  refine x_ifeq 71 53 rfl rfl rfl (fun _ => ?_) (fun c => absurd (by decide) c)
  refine x_cst (.int 0) 1 72 rfl rfl rfl ?_
  refine x_st 4 2 0 74 [some (.ref m), some (.int x), some (.int 1), some (.int 0), some (.int 0), some (.int 3), some (.int (byt x 3))] rfl rfl rfl (Nat.le_of_ble_eq_true rfl) rfl rfl ?_
  refine x_ld 3 1 0 75 rfl rfl rfl rfl rfl ?_
  refine x_ifeq 84 78 rfl rfl rfl (fun _ => ?_) (fun c => absurd (by decide) c)
  refine x_ld 2 1 0 85 rfl rfl rfl rfl rfl ?_
  refine x_st 2 1 0 86 [some (.ref m), some (.int x), some (.int 1), some (.int 0), some (.int 0), some (.int 3), some (.int (byt x 3))] rfl rfl rfl (Nat.le_of_ble_eq_true rfl) rfl rfl ?_
  refine x_inc 5 1 1 89 [some (.ref m), some (.int x), some (.int 1), some (.int 0), some (.int 0), some (.int 4), some (.int (byt x 3))] rfl rfl (Nat.le_of_ble_eq_true rfl) rfl rfl rfl ?_
  refine x_go 10 rfl rfl ?_
  refine x_ld 5 2 0 12 rfl rfl rfl rfl rfl ?_
  refine x_cst (.int 4) 1 13 rfl rfl rfl ?_
  refine x_icge 92 16 rfl rfl rfl (fun _ => ?_) (fun c => absurd (by decide) c)
  refine x_ld 0 1 2 93 rfl rfl rfl rfl rfl ?_
  refine x_ld 4 2 0 95 rfl rfl rfl rfl rfl ?_
  refine x_ifeq 102 98 rfl rfl rfl (fun _ => ?_) (fun c => absurd (by decide) c)
  refine x_cst (.int 0) 1 103 rfl rfl rfl ?_
  refine x_put 159 5 2 106 rfl rfl hm (by simp only [List.length_set, hfs]; omega) rfl rfl rfl _ rfl rfl ?_
  refine x_ld 4 2 0 108 rfl rfl rfl rfl rfl ?_
  refine x_ifne 122 111 rfl rfl rfl (fun c => absurd (by decide) c) (fun _ => ?_)
  refine x_ld 0 1 2 112 rfl rfl rfl rfl rfl ?_
  refine x_get 162 5 4 115 rfl rfl (set_at hm) ((fs_ne (by decide)).trans h4) rfl ?_
  refine x_ld 2 1 0 116 rfl rfl rfl rfl rfl ?_
  refine x_bin (Int32.ofNat (n + 1)) 117 rfl rfl (i32_add n 1) rfl ?_
  refine x_cst (.int 16) 2 119 rfl rfl rfl ?_
  refine x_icle 124 122 rfl rfl rfl (fun _ => ?_) (fun c => absurd ((i32_le 16 (n + 1) (by decide) (by omega)).mpr hf) c)
  refine x_cst (.int 0) 1 125 rfl rfl rfl ?_
  refine x_st 5 2 0 127 [some (.ref m), some (.int x), some (.int 1), some (.int 0), some (.int 0), some (.int 0), some (.int (byt x 3))] rfl rfl rfl (Nat.le_of_ble_eq_true rfl) rfl rfl ?_
  refine x_ld 5 2 0 129 rfl rfl rfl rfl rfl ?_
  refine x_ld 2 1 0 130 rfl rfl rfl rfl rfl ?_
  refine x_icge 169 133 rfl rfl rfl (fun c => absurd c (by decide)) (fun _ => ?_)
  refine x_ld 0 1 2 134 rfl rfl rfl rfl rfl ?_
  refine x_get 16 5 3 137 rfl rfl (set_at hm) ((fs_ne (by decide)).trans h3) rfl ?_
  refine x_ld 0 1 2 138 rfl rfl rfl rfl rfl ?_
  refine x_get 162 5 4 141 rfl rfl (set_at hm) ((fs_ne (by decide)).trans h4) rfl ?_
  refine x_ld 1 1 0 142 rfl rfl rfl rfl rfl ?_
  refine x_cst (.int 8) 2 144 rfl rfl rfl ?_
  refine x_ld 5 2 0 146 rfl rfl rfl rfl rfl ?_
  refine x_bin (0) 147 rfl rfl rfl rfl ?_
  refine x_bin (x >>> (0 &&& 31)) 148 rfl rfl rfl rfl ?_
  refine x_cst (.int 255) 3 151 rfl rfl rfl ?_
  refine x_bin (byt x 0) 152 rfl rfl (byS_0 x) rfl ?_
  refine x_ist 153 rfl ((set_ne (Ne.symm hne)).trans hl) rfl (i32_in n 16 (by omega) (by decide)) _ (by rw [i32_nat n (by omega)]) rfl ?_
  refine x_ld 0 1 2 154 rfl rfl rfl rfl rfl ?_
  refine x_dup 155 rfl rfl rfl ?_
  refine x_get 162 5 4 158 rfl rfl ((set_ne hne).trans (set_at hm)) ((fs_ne (by decide)).trans h4) rfl ?_
  refine x_cst (.int 1) 1 159 rfl rfl rfl ?_
  refine x_bin (Int32.ofNat (n + 1)) 160 rfl rfl (i32_add n 1) rfl ?_
  refine x_put 162 5 4 163 rfl rfl ((set_ne hne).trans (set_at hm)) (by simp only [List.length_set, hfs]; omega) rfl rfl rfl _ rfl rfl ?_
  refine x_inc 5 1 1 166 [some (.ref m), some (.int x), some (.int 1), some (.int 0), some (.int 0), some (.int 1), some (.int (byt x 3))] rfl rfl (Nat.le_of_ble_eq_true rfl) rfl rfl rfl ?_
  refine x_go 127 rfl rfl ?_
  refine x_ld 5 2 0 129 rfl rfl rfl rfl rfl ?_
  refine x_ld 2 1 0 130 rfl rfl rfl rfl rfl ?_
  refine x_icge 169 133 rfl rfl rfl (fun _ => ?_) (fun c => absurd (by decide) c)
  refine x_cst (.int 1) 1 170 rfl rfl rfl ?_
  refine x_ret rfl rfl rfl rfl ?_
  exact ⟨rfl, t104_h1 hne⟩
theorem f104_1 (d : Nat) {h : ab_H} {m ml n : Nat} {x : Int32} {g : Nat → Int32} {fs : List Value} (hm : h[m]? = some (.inr (5, fs))) (hfs : fs.length = 68) (h3 : fs[3]? = some (.ref ml)) (h4 : fs[4]? = some (.int (Int32.ofNat n))) (hl : h[ml]? = some (.inl (0, 16, .inl g))) (hne : ml ≠ m) (hn : n ≤ 16) (H : okc x 1) (hf : ¬ n + 1 ≤ 16) : ab_S (pg_G L xs) (d + 1) 104 [.ref m, .int x] h (some (.int 0)) (h.set m (.inr (5, fs.set 2 (.int 0)))) := by
  show ab_W (pg_G L xs) (ab_X (pg_G L xs) d) 104 _ 0 [some (.ref m), some (.int x), none, none, none, none, none] [] h
  have K0 : 32 ≤ byt x 0 ∧ byt x 0 ≤ 126 := H.1 0 (by decide)
  have Z := H.2 (by decide)
  refine x_cst (.int 0) 1 1 rfl rfl rfl ?_
  refine x_st 2 1 0 2 [some (.ref m), some (.int x), some (.int 0), none, none, none, none] rfl rfl rfl (Nat.le_of_ble_eq_true rfl) rfl rfl ?_
  refine x_cst (.int 1) 1 3 rfl rfl rfl ?_
  refine x_st 3 1 0 4 [some (.ref m), some (.int x), some (.int 0), some (.int 1), none, none, none] rfl rfl rfl (Nat.le_of_ble_eq_true rfl) rfl rfl ?_
  refine x_cst (.int 0) 1 5 rfl rfl rfl ?_
  refine x_st 4 2 0 7 [some (.ref m), some (.int x), some (.int 0), some (.int 1), some (.int 0), none, none] rfl rfl rfl (Nat.le_of_ble_eq_true rfl) rfl rfl ?_
  refine x_cst (.int 0) 1 8 rfl rfl rfl ?_
  refine x_st 5 2 0 10 [some (.ref m), some (.int x), some (.int 0), some (.int 1), some (.int 0), some (.int 0), none] rfl rfl rfl (Nat.le_of_ble_eq_true rfl) rfl rfl ?_
  refine x_ld 5 2 0 12 rfl rfl rfl rfl rfl ?_
  refine x_cst (.int 4) 1 13 rfl rfl rfl ?_
  refine x_icge 92 16 rfl rfl rfl (fun c => absurd c (by decide)) (fun _ => ?_)
  refine x_ld 1 1 0 17 rfl rfl rfl rfl rfl ?_
  refine x_cst (.int 8) 2 19 rfl rfl rfl ?_
  refine x_ld 5 2 0 21 rfl rfl rfl rfl rfl ?_
  refine x_bin (0) 22 rfl rfl rfl rfl ?_
  refine x_bin (x >>> (0 &&& 31)) 23 rfl rfl rfl rfl ?_
  refine x_cst (.int 255) 3 26 rfl rfl rfl ?_
  refine x_bin (byt x 0) 27 rfl rfl (byS_0 x) rfl ?_
  refine x_st 6 2 0 29 [some (.ref m), some (.int x), some (.int 0), some (.int 1), some (.int 0), some (.int 0), some (.int (byt x 0))] rfl rfl rfl (Nat.le_of_ble_eq_true rfl) rfl rfl ?_
  refine x_ld 3 1 0 30 rfl rfl rfl rfl rfl ?_
  refine x_ifeq 42 33 rfl rfl rfl (fun c => absurd c (by decide)) (fun _ => ?_)
  refine x_ld 6 2 0 35 rfl rfl rfl rfl rfl ?_
  refine x_ifeq 42 38 rfl rfl rfl (fun c => absurd c (nz32 K0.1)) (fun _ => ?_)
  refine x_cst (.int 1) 1 39 rfl rfl rfl ?_
  refine x_go 43 rfl rfl ?_
  refine x_st 3 1 0 44 [some (.ref m), some (.int x), some (.int 0), some (.int 1), some (.int 0), some (.int 0), some (.int (byt x 0))] rfl rfl rfl (Nat.le_of_ble_eq_true rfl) rfl rfl ?_
  refine x_ld 4 2 0 46 rfl rfl rfl rfl rfl ?_
  refine x_ifne 67 49 rfl rfl rfl (fun c => absurd (by decide) c) (fun _ => ?_)
  refine x_ld 3 1 0 50 rfl rfl rfl rfl rfl ?_
  refine x_ifeq 71 53 rfl rfl rfl (fun c => absurd c (by decide)) (fun _ => ?_)
  refine x_ld 6 2 0 55 rfl rfl rfl rfl rfl ?_
  refine x_cst (.int 32) 2 57 rfl rfl rfl ?_
  refine x_iclt 67 60 rfl rfl rfl (fun c => absurd c (Int32.not_lt.mpr K0.1)) (fun _ => ?_)
  refine x_ld 6 2 0 62 rfl rfl rfl rfl rfl ?_
  refine x_cst (.int 126) 2 64 rfl rfl rfl ?_
  refine x_icle 71 67 rfl rfl rfl (fun _ => ?_) (fun c => absurd K0.2 c)
  refine x_cst (.int 0) 1 72 rfl rfl rfl ?_
  refine x_st 4 2 0 74 [some (.ref m), some (.int x), some (.int 0), some (.int 1), some (.int 0), some (.int 0), some (.int (byt x 0))] rfl rfl rfl (Nat.le_of_ble_eq_true rfl) rfl rfl ?_
  refine x_ld 3 1 0 75 rfl rfl rfl rfl rfl ?_
  refine x_ifeq 84 78 rfl rfl rfl (fun c => absurd c (by decide)) (fun _ => ?_)
  refine x_ld 2 1 0 79 rfl rfl rfl rfl rfl ?_
  refine x_cst (.int 1) 1 80 rfl rfl rfl ?_
  refine x_bin (1) 81 rfl rfl rfl rfl ?_
  refine x_go 85 rfl rfl ?_
  refine x_st 2 1 0 86 [some (.ref m), some (.int x), some (.int 1), some (.int 1), some (.int 0), some (.int 0), some (.int (byt x 0))] rfl rfl rfl (Nat.le_of_ble_eq_true rfl) rfl rfl ?_
  refine x_inc 5 1 1 89 [some (.ref m), some (.int x), some (.int 1), some (.int 1), some (.int 0), some (.int 1), some (.int (byt x 0))] rfl rfl (Nat.le_of_ble_eq_true rfl) rfl rfl rfl ?_
  refine x_go 10 rfl rfl ?_
  refine x_ld 5 2 0 12 rfl rfl rfl rfl rfl ?_
  refine x_cst (.int 4) 1 13 rfl rfl rfl ?_
  refine x_icge 92 16 rfl rfl rfl (fun c => absurd c (by decide)) (fun _ => ?_)
  refine x_ld 1 1 0 17 rfl rfl rfl rfl rfl ?_
  refine x_cst (.int 8) 2 19 rfl rfl rfl ?_
  refine x_ld 5 2 0 21 rfl rfl rfl rfl rfl ?_
  refine x_bin (8) 22 rfl rfl rfl rfl ?_
  refine x_bin (x >>> (8 &&& 31)) 23 rfl rfl rfl rfl ?_
  refine x_cst (.int 255) 3 26 rfl rfl rfl ?_
  refine x_bin (byt x 1) 27 rfl rfl (byS_1 x) rfl ?_
  refine x_st 6 2 0 29 [some (.ref m), some (.int x), some (.int 1), some (.int 1), some (.int 0), some (.int 1), some (.int (byt x 1))] rfl rfl rfl (Nat.le_of_ble_eq_true rfl) rfl rfl ?_
  refine x_ld 3 1 0 30 rfl rfl rfl rfl rfl ?_
  refine x_ifeq 42 33 rfl rfl rfl (fun c => absurd c (by decide)) (fun _ => ?_)
  refine x_ld 6 2 0 35 rfl rfl rfl rfl rfl ?_
  refine x_ifeq 42 38 rfl rfl rfl (fun _ => ?_) (fun c => absurd Z c)
  refine x_cst (.int 0) 1 43 rfl rfl rfl ?_
  refine x_st 3 1 0 44 [some (.ref m), some (.int x), some (.int 1), some (.int 0), some (.int 0), some (.int 1), some (.int (byt x 1))] rfl rfl rfl (Nat.le_of_ble_eq_true rfl) rfl rfl ?_
  refine x_ld 4 2 0 46 rfl rfl rfl rfl rfl ?_
  refine x_ifne 67 49 rfl rfl rfl (fun c => absurd (by decide) c) (fun _ => ?_)
  refine x_ld 3 1 0 50 rfl rfl rfl rfl rfl ?_
  refine x_ifeq 71 53 rfl rfl rfl (fun _ => ?_) (fun c => absurd (by decide) c)
  refine x_cst (.int 0) 1 72 rfl rfl rfl ?_
  refine x_st 4 2 0 74 [some (.ref m), some (.int x), some (.int 1), some (.int 0), some (.int 0), some (.int 1), some (.int (byt x 1))] rfl rfl rfl (Nat.le_of_ble_eq_true rfl) rfl rfl ?_
  refine x_ld 3 1 0 75 rfl rfl rfl rfl rfl ?_
  refine x_ifeq 84 78 rfl rfl rfl (fun _ => ?_) (fun c => absurd (by decide) c)
  refine x_ld 2 1 0 85 rfl rfl rfl rfl rfl ?_
  refine x_st 2 1 0 86 [some (.ref m), some (.int x), some (.int 1), some (.int 0), some (.int 0), some (.int 1), some (.int (byt x 1))] rfl rfl rfl (Nat.le_of_ble_eq_true rfl) rfl rfl ?_
  refine x_inc 5 1 1 89 [some (.ref m), some (.int x), some (.int 1), some (.int 0), some (.int 0), some (.int 2), some (.int (byt x 1))] rfl rfl (Nat.le_of_ble_eq_true rfl) rfl rfl rfl ?_
  refine x_go 10 rfl rfl ?_
  refine x_ld 5 2 0 12 rfl rfl rfl rfl rfl ?_
  refine x_cst (.int 4) 1 13 rfl rfl rfl ?_
  refine x_icge 92 16 rfl rfl rfl (fun c => absurd c (by decide)) (fun _ => ?_)
  refine x_ld 1 1 0 17 rfl rfl rfl rfl rfl ?_
  refine x_cst (.int 8) 2 19 rfl rfl rfl ?_
  refine x_ld 5 2 0 21 rfl rfl rfl rfl rfl ?_
  refine x_bin (16) 22 rfl rfl rfl rfl ?_
  refine x_bin (x >>> (16 &&& 31)) 23 rfl rfl rfl rfl ?_
  refine x_cst (.int 255) 3 26 rfl rfl rfl ?_
  refine x_bin (byt x 2) 27 rfl rfl (byS_2 x) rfl ?_
  refine x_st 6 2 0 29 [some (.ref m), some (.int x), some (.int 1), some (.int 0), some (.int 0), some (.int 2), some (.int (byt x 2))] rfl rfl rfl (Nat.le_of_ble_eq_true rfl) rfl rfl ?_
  refine x_ld 3 1 0 30 rfl rfl rfl rfl rfl ?_
  refine x_ifeq 42 33 rfl rfl rfl (fun _ => ?_) (fun c => absurd (by decide) c)
  refine x_cst (.int 0) 1 43 rfl rfl rfl ?_
  refine x_st 3 1 0 44 [some (.ref m), some (.int x), some (.int 1), some (.int 0), some (.int 0), some (.int 2), some (.int (byt x 2))] rfl rfl rfl (Nat.le_of_ble_eq_true rfl) rfl rfl ?_
  refine x_ld 4 2 0 46 rfl rfl rfl rfl rfl ?_
  refine x_ifne 67 49 rfl rfl rfl (fun c => absurd (by decide) c) (fun _ => ?_)
  refine x_ld 3 1 0 50 rfl rfl rfl rfl rfl ?_
  refine x_ifeq 71 53 rfl rfl rfl (fun _ => ?_) (fun c => absurd (by decide) c)
  refine x_cst (.int 0) 1 72 rfl rfl rfl ?_
  refine x_st 4 2 0 74 [some (.ref m), some (.int x), some (.int 1), some (.int 0), some (.int 0), some (.int 2), some (.int (byt x 2))] rfl rfl rfl (Nat.le_of_ble_eq_true rfl) rfl rfl ?_
  refine x_ld 3 1 0 75 rfl rfl rfl rfl rfl ?_
  refine x_ifeq 84 78 rfl rfl rfl (fun _ => ?_) (fun c => absurd (by decide) c)
  refine x_ld 2 1 0 85 rfl rfl rfl rfl rfl ?_
  refine x_st 2 1 0 86 [some (.ref m), some (.int x), some (.int 1), some (.int 0), some (.int 0), some (.int 2), some (.int (byt x 2))] rfl rfl rfl (Nat.le_of_ble_eq_true rfl) rfl rfl ?_
  refine x_inc 5 1 1 89 [some (.ref m), some (.int x), some (.int 1), some (.int 0), some (.int 0), some (.int 3), some (.int (byt x 2))] rfl rfl (Nat.le_of_ble_eq_true rfl) rfl rfl rfl ?_
  refine x_go 10 rfl rfl ?_
  refine x_ld 5 2 0 12 rfl rfl rfl rfl rfl ?_
  refine x_cst (.int 4) 1 13 rfl rfl rfl ?_
  refine x_icge 92 16 rfl rfl rfl (fun c => absurd c (by decide)) (fun _ => ?_)
  refine x_ld 1 1 0 17 rfl rfl rfl rfl rfl ?_
  refine x_cst (.int 8) 2 19 rfl rfl rfl ?_
  refine x_ld 5 2 0 21 rfl rfl rfl rfl rfl ?_
  refine x_bin (24) 22 rfl rfl rfl rfl ?_
  refine x_bin (x >>> (24 &&& 31)) 23 rfl rfl rfl rfl ?_
  refine x_cst (.int 255) 3 26 rfl rfl rfl ?_
  refine x_bin (byt x 3) 27 rfl rfl (byS_3 x) rfl ?_
  refine x_st 6 2 0 29 [some (.ref m), some (.int x), some (.int 1), some (.int 0), some (.int 0), some (.int 3), some (.int (byt x 3))] rfl rfl rfl (Nat.le_of_ble_eq_true rfl) rfl rfl ?_
  refine x_ld 3 1 0 30 rfl rfl rfl rfl rfl ?_
  refine x_ifeq 42 33 rfl rfl rfl (fun _ => ?_) (fun c => absurd (by decide) c)
  refine x_cst (.int 0) 1 43 rfl rfl rfl ?_
  refine x_st 3 1 0 44 [some (.ref m), some (.int x), some (.int 1), some (.int 0), some (.int 0), some (.int 3), some (.int (byt x 3))] rfl rfl rfl (Nat.le_of_ble_eq_true rfl) rfl rfl ?_
  refine x_ld 4 2 0 46 rfl rfl rfl rfl rfl ?_
  refine x_ifne 67 49 rfl rfl rfl (fun c => absurd (by decide) c) (fun _ => ?_)
  refine x_ld 3 1 0 50 rfl rfl rfl rfl rfl ?_
  refine x_ifeq 71 53 rfl rfl rfl (fun _ => ?_) (fun c => absurd (by decide) c)
  refine x_cst (.int 0) 1 72 rfl rfl rfl ?_
  refine x_st 4 2 0 74 [some (.ref m), some (.int x), some (.int 1), some (.int 0), some (.int 0), some (.int 3), some (.int (byt x 3))] rfl rfl rfl (Nat.le_of_ble_eq_true rfl) rfl rfl ?_
  refine x_ld 3 1 0 75 rfl rfl rfl rfl rfl ?_
  refine x_ifeq 84 78 rfl rfl rfl (fun _ => ?_) (fun c => absurd (by decide) c)
  refine x_ld 2 1 0 85 rfl rfl rfl rfl rfl ?_
  refine x_st 2 1 0 86 [some (.ref m), some (.int x), some (.int 1), some (.int 0), some (.int 0), some (.int 3), some (.int (byt x 3))] rfl rfl rfl (Nat.le_of_ble_eq_true rfl) rfl rfl ?_
  refine x_inc 5 1 1 89 [some (.ref m), some (.int x), some (.int 1), some (.int 0), some (.int 0), some (.int 4), some (.int (byt x 3))] rfl rfl (Nat.le_of_ble_eq_true rfl) rfl rfl rfl ?_
  refine x_go 10 rfl rfl ?_
  refine x_ld 5 2 0 12 rfl rfl rfl rfl rfl ?_
  refine x_cst (.int 4) 1 13 rfl rfl rfl ?_
  refine x_icge 92 16 rfl rfl rfl (fun _ => ?_) (fun c => absurd (by decide) c)
  refine x_ld 0 1 2 93 rfl rfl rfl rfl rfl ?_
  refine x_ld 4 2 0 95 rfl rfl rfl rfl rfl ?_
  refine x_ifeq 102 98 rfl rfl rfl (fun _ => ?_) (fun c => absurd (by decide) c)
  refine x_cst (.int 0) 1 103 rfl rfl rfl ?_
  refine x_put 159 5 2 106 rfl rfl hm (by simp only [List.length_set, hfs]; omega) rfl rfl rfl _ rfl rfl ?_
  refine x_ld 4 2 0 108 rfl rfl rfl rfl rfl ?_
  refine x_ifne 122 111 rfl rfl rfl (fun c => absurd (by decide) c) (fun _ => ?_)
  refine x_ld 0 1 2 112 rfl rfl rfl rfl rfl ?_
  refine x_get 162 5 4 115 rfl rfl (set_at hm) ((fs_ne (by decide)).trans h4) rfl ?_
  refine x_ld 2 1 0 116 rfl rfl rfl rfl rfl ?_
  refine x_bin (Int32.ofNat (n + 1)) 117 rfl rfl (i32_add n 1) rfl ?_
  refine x_cst (.int 16) 2 119 rfl rfl rfl ?_
  refine x_icle 124 122 rfl rfl rfl (fun c => absurd c (fun z => absurd ((i32_le 16 (n + 1) (by decide) (by omega)).mp z) (by omega))) (fun _ => ?_)
  refine x_cst (.int 0) 1 123 rfl rfl rfl ?_
  refine x_ret rfl rfl rfl rfl ?_
  exact ⟨rfl, rfl⟩
theorem b104_1 (d : Nat) {h : ab_H} {m ml n : Nat} {x : Int32} {g : Nat → Int32} {fs : List Value} (hm : h[m]? = some (.inr (5, fs))) (hfs : fs.length = 68) (h3 : fs[3]? = some (.ref ml)) (h4 : fs[4]? = some (.int (Int32.ofNat n))) (hl : h[ml]? = some (.inl (0, 16, .inl g))) (hne : ml ≠ m) (hn : n ≤ 16) (H : bdc x 1) : ab_S (pg_G L xs) (d + 1) 104 [.ref m, .int x] h (some (.int 0)) (h.set m (.inr (5, fs.set 2 (.int 1)))) := by
  show ab_W (pg_G L xs) (ab_X (pg_G L xs) d) 104 _ 0 [some (.ref m), some (.int x), none, none, none, none, none] [] h
  have K0 : 32 ≤ byt x 0 ∧ byt x 0 ≤ 126 := H.1 0 (by decide)
  obtain ⟨-, B0, B1 | ⟨B1, B2⟩⟩ := H
  · refine x_cst (.int 0) 1 1 rfl rfl rfl ?_
    refine x_st 2 1 0 2 [some (.ref m), some (.int x), some (.int 0), none, none, none, none] rfl rfl rfl (Nat.le_of_ble_eq_true rfl) rfl rfl ?_
    refine x_cst (.int 1) 1 3 rfl rfl rfl ?_
    refine x_st 3 1 0 4 [some (.ref m), some (.int x), some (.int 0), some (.int 1), none, none, none] rfl rfl rfl (Nat.le_of_ble_eq_true rfl) rfl rfl ?_
    refine x_cst (.int 0) 1 5 rfl rfl rfl ?_
    refine x_st 4 2 0 7 [some (.ref m), some (.int x), some (.int 0), some (.int 1), some (.int 0), none, none] rfl rfl rfl (Nat.le_of_ble_eq_true rfl) rfl rfl ?_
    refine x_cst (.int 0) 1 8 rfl rfl rfl ?_
    refine x_st 5 2 0 10 [some (.ref m), some (.int x), some (.int 0), some (.int 1), some (.int 0), some (.int 0), none] rfl rfl rfl (Nat.le_of_ble_eq_true rfl) rfl rfl ?_
    refine x_ld 5 2 0 12 rfl rfl rfl rfl rfl ?_
    refine x_cst (.int 4) 1 13 rfl rfl rfl ?_
    refine x_icge 92 16 rfl rfl rfl (fun c => absurd c (by decide)) (fun _ => ?_)
    refine x_ld 1 1 0 17 rfl rfl rfl rfl rfl ?_
    refine x_cst (.int 8) 2 19 rfl rfl rfl ?_
    refine x_ld 5 2 0 21 rfl rfl rfl rfl rfl ?_
    refine x_bin (0) 22 rfl rfl rfl rfl ?_
    refine x_bin (x >>> (0 &&& 31)) 23 rfl rfl rfl rfl ?_
    refine x_cst (.int 255) 3 26 rfl rfl rfl ?_
    refine x_bin (byt x 0) 27 rfl rfl (byS_0 x) rfl ?_
    refine x_st 6 2 0 29 [some (.ref m), some (.int x), some (.int 0), some (.int 1), some (.int 0), some (.int 0), some (.int (byt x 0))] rfl rfl rfl (Nat.le_of_ble_eq_true rfl) rfl rfl ?_
    refine x_ld 3 1 0 30 rfl rfl rfl rfl rfl ?_
    refine x_ifeq 42 33 rfl rfl rfl (fun c => absurd c (by decide)) (fun _ => ?_)
    refine x_ld 6 2 0 35 rfl rfl rfl rfl rfl ?_
    refine x_ifeq 42 38 rfl rfl rfl (fun c => absurd c (nz32 K0.1)) (fun _ => ?_)
    refine x_cst (.int 1) 1 39 rfl rfl rfl ?_
    refine x_go 43 rfl rfl ?_
    refine x_st 3 1 0 44 [some (.ref m), some (.int x), some (.int 0), some (.int 1), some (.int 0), some (.int 0), some (.int (byt x 0))] rfl rfl rfl (Nat.le_of_ble_eq_true rfl) rfl rfl ?_
    refine x_ld 4 2 0 46 rfl rfl rfl rfl rfl ?_
    refine x_ifne 67 49 rfl rfl rfl (fun c => absurd (by decide) c) (fun _ => ?_)
    refine x_ld 3 1 0 50 rfl rfl rfl rfl rfl ?_
    refine x_ifeq 71 53 rfl rfl rfl (fun c => absurd c (by decide)) (fun _ => ?_)
    refine x_ld 6 2 0 55 rfl rfl rfl rfl rfl ?_
    refine x_cst (.int 32) 2 57 rfl rfl rfl ?_
    refine x_iclt 67 60 rfl rfl rfl (fun c => absurd c (Int32.not_lt.mpr K0.1)) (fun _ => ?_)
    refine x_ld 6 2 0 62 rfl rfl rfl rfl rfl ?_
    refine x_cst (.int 126) 2 64 rfl rfl rfl ?_
    refine x_icle 71 67 rfl rfl rfl (fun _ => ?_) (fun c => absurd K0.2 c)
    refine x_cst (.int 0) 1 72 rfl rfl rfl ?_
    refine x_st 4 2 0 74 [some (.ref m), some (.int x), some (.int 0), some (.int 1), some (.int 0), some (.int 0), some (.int (byt x 0))] rfl rfl rfl (Nat.le_of_ble_eq_true rfl) rfl rfl ?_
    refine x_ld 3 1 0 75 rfl rfl rfl rfl rfl ?_
    refine x_ifeq 84 78 rfl rfl rfl (fun c => absurd c (by decide)) (fun _ => ?_)
    refine x_ld 2 1 0 79 rfl rfl rfl rfl rfl ?_
    refine x_cst (.int 1) 1 80 rfl rfl rfl ?_
    refine x_bin (1) 81 rfl rfl rfl rfl ?_
    refine x_go 85 rfl rfl ?_
    refine x_st 2 1 0 86 [some (.ref m), some (.int x), some (.int 1), some (.int 1), some (.int 0), some (.int 0), some (.int (byt x 0))] rfl rfl rfl (Nat.le_of_ble_eq_true rfl) rfl rfl ?_
    refine x_inc 5 1 1 89 [some (.ref m), some (.int x), some (.int 1), some (.int 1), some (.int 0), some (.int 1), some (.int (byt x 0))] rfl rfl (Nat.le_of_ble_eq_true rfl) rfl rfl rfl ?_
    refine x_go 10 rfl rfl ?_
    refine x_ld 5 2 0 12 rfl rfl rfl rfl rfl ?_
    refine x_cst (.int 4) 1 13 rfl rfl rfl ?_
    refine x_icge 92 16 rfl rfl rfl (fun c => absurd c (by decide)) (fun _ => ?_)
    refine x_ld 1 1 0 17 rfl rfl rfl rfl rfl ?_
    refine x_cst (.int 8) 2 19 rfl rfl rfl ?_
    refine x_ld 5 2 0 21 rfl rfl rfl rfl rfl ?_
    refine x_bin (8) 22 rfl rfl rfl rfl ?_
    refine x_bin (x >>> (8 &&& 31)) 23 rfl rfl rfl rfl ?_
    refine x_cst (.int 255) 3 26 rfl rfl rfl ?_
    refine x_bin (byt x 1) 27 rfl rfl (byS_1 x) rfl ?_
    refine x_st 6 2 0 29 [some (.ref m), some (.int x), some (.int 1), some (.int 1), some (.int 0), some (.int 1), some (.int (byt x 1))] rfl rfl rfl (Nat.le_of_ble_eq_true rfl) rfl rfl ?_
    refine x_ld 3 1 0 30 rfl rfl rfl rfl rfl ?_
    refine x_ifeq 42 33 rfl rfl rfl (fun c => absurd c (by decide)) (fun _ => ?_)
    refine x_ld 6 2 0 35 rfl rfl rfl rfl rfl ?_
    refine x_ifeq 42 38 rfl rfl rfl (fun c => absurd c B0) (fun _ => ?_)
    refine x_cst (.int 1) 1 39 rfl rfl rfl ?_
    refine x_go 43 rfl rfl ?_
    refine x_st 3 1 0 44 [some (.ref m), some (.int x), some (.int 1), some (.int 1), some (.int 0), some (.int 1), some (.int (byt x 1))] rfl rfl rfl (Nat.le_of_ble_eq_true rfl) rfl rfl ?_
    refine x_ld 4 2 0 46 rfl rfl rfl rfl rfl ?_
    refine x_ifne 67 49 rfl rfl rfl (fun c => absurd (by decide) c) (fun _ => ?_)
    refine x_ld 3 1 0 50 rfl rfl rfl rfl rfl ?_
    refine x_ifeq 71 53 rfl rfl rfl (fun c => absurd c (by decide)) (fun _ => ?_)
    refine x_ld 6 2 0 55 rfl rfl rfl rfl rfl ?_
    refine x_cst (.int 32) 2 57 rfl rfl rfl ?_
    refine x_iclt 67 60 rfl rfl rfl (fun _ => ?_) (fun c => absurd B1 c)
    refine x_cst (.int 1) 1 68 rfl rfl rfl ?_
    refine x_go 72 rfl rfl ?_
    refine x_st 4 2 0 74 [some (.ref m), some (.int x), some (.int 1), some (.int 1), some (.int 1), some (.int 1), some (.int (byt x 1))] rfl rfl rfl (Nat.le_of_ble_eq_true rfl) rfl rfl ?_
    refine x_ld 3 1 0 75 rfl rfl rfl rfl rfl ?_
    refine x_ifeq 84 78 rfl rfl rfl (fun c => absurd c (by decide)) (fun _ => ?_)
    refine x_ld 2 1 0 79 rfl rfl rfl rfl rfl ?_
    refine x_cst (.int 1) 1 80 rfl rfl rfl ?_
    refine x_bin (2) 81 rfl rfl rfl rfl ?_
    refine x_go 85 rfl rfl ?_
    refine x_st 2 1 0 86 [some (.ref m), some (.int x), some (.int 2), some (.int 1), some (.int 1), some (.int 1), some (.int (byt x 1))] rfl rfl rfl (Nat.le_of_ble_eq_true rfl) rfl rfl ?_
    refine x_inc 5 1 1 89 [some (.ref m), some (.int x), some (.int 2), some (.int 1), some (.int 1), some (.int 2), some (.int (byt x 1))] rfl rfl (Nat.le_of_ble_eq_true rfl) rfl rfl rfl ?_
    refine x_go 10 rfl rfl ?_
    refine x_ld 5 2 0 12 rfl rfl rfl rfl rfl ?_
    refine x_cst (.int 4) 1 13 rfl rfl rfl ?_
    refine x_icge 92 16 rfl rfl rfl (fun c => absurd c (by decide)) (fun _ => ?_)
    refine x_ld 1 1 0 17 rfl rfl rfl rfl rfl ?_
    refine x_cst (.int 8) 2 19 rfl rfl rfl ?_
    refine x_ld 5 2 0 21 rfl rfl rfl rfl rfl ?_
    refine x_bin (16) 22 rfl rfl rfl rfl ?_
    refine x_bin (x >>> (16 &&& 31)) 23 rfl rfl rfl rfl ?_
    refine x_cst (.int 255) 3 26 rfl rfl rfl ?_
    refine x_bin (byt x 2) 27 rfl rfl (byS_2 x) rfl ?_
    refine x_st 6 2 0 29 [some (.ref m), some (.int x), some (.int 2), some (.int 1), some (.int 1), some (.int 2), some (.int (byt x 2))] rfl rfl rfl (Nat.le_of_ble_eq_true rfl) rfl rfl ?_
    refine x_ld 3 1 0 30 rfl rfl rfl rfl rfl ?_
    refine x_ifeq 42 33 rfl rfl rfl (fun c => absurd c (by decide)) (fun _ => ?_)
    refine x_ld 6 2 0 35 rfl rfl rfl rfl rfl ?_
    refine x_ifeq 42 38 rfl rfl rfl (fun q2 => ?_) (fun q2 => ?_)
    · refine x_cst (.int 0) 1 43 rfl rfl rfl ?_
      refine x_st 3 1 0 44 [some (.ref m), some (.int x), some (.int 2), some (.int 0), some (.int 1), some (.int 2), some (.int (byt x 2))] rfl rfl rfl (Nat.le_of_ble_eq_true rfl) rfl rfl ?_
      refine x_ld 4 2 0 46 rfl rfl rfl rfl rfl ?_
      refine x_ifne 67 49 rfl rfl rfl (fun _ => ?_) (fun c => absurd c (by decide))
      refine x_cst (.int 1) 1 68 rfl rfl rfl ?_
      refine x_go 72 rfl rfl ?_
      refine x_st 4 2 0 74 [some (.ref m), some (.int x), some (.int 2), some (.int 0), some (.int 1), some (.int 2), some (.int (byt x 2))] rfl rfl rfl (Nat.le_of_ble_eq_true rfl) rfl rfl ?_
      refine x_ld 3 1 0 75 rfl rfl rfl rfl rfl ?_
      refine x_ifeq 84 78 rfl rfl rfl (fun _ => ?_) (fun c => absurd (by decide) c)
      refine x_ld 2 1 0 85 rfl rfl rfl rfl rfl ?_
      refine x_st 2 1 0 86 [some (.ref m), some (.int x), some (.int 2), some (.int 0), some (.int 1), some (.int 2), some (.int (byt x 2))] rfl rfl rfl (Nat.le_of_ble_eq_true rfl) rfl rfl ?_
      refine x_inc 5 1 1 89 [some (.ref m), some (.int x), some (.int 2), some (.int 0), some (.int 1), some (.int 3), some (.int (byt x 2))] rfl rfl (Nat.le_of_ble_eq_true rfl) rfl rfl rfl ?_
      refine x_go 10 rfl rfl ?_
      refine x_ld 5 2 0 12 rfl rfl rfl rfl rfl ?_
      refine x_cst (.int 4) 1 13 rfl rfl rfl ?_
      refine x_icge 92 16 rfl rfl rfl (fun c => absurd c (by decide)) (fun _ => ?_)
      refine x_ld 1 1 0 17 rfl rfl rfl rfl rfl ?_
      refine x_cst (.int 8) 2 19 rfl rfl rfl ?_
      refine x_ld 5 2 0 21 rfl rfl rfl rfl rfl ?_
      refine x_bin (24) 22 rfl rfl rfl rfl ?_
      refine x_bin (x >>> (24 &&& 31)) 23 rfl rfl rfl rfl ?_
      refine x_cst (.int 255) 3 26 rfl rfl rfl ?_
      refine x_bin (byt x 3) 27 rfl rfl (byS_3 x) rfl ?_
      refine x_st 6 2 0 29 [some (.ref m), some (.int x), some (.int 2), some (.int 0), some (.int 1), some (.int 3), some (.int (byt x 3))] rfl rfl rfl (Nat.le_of_ble_eq_true rfl) rfl rfl ?_
      refine x_ld 3 1 0 30 rfl rfl rfl rfl rfl ?_
      refine x_ifeq 42 33 rfl rfl rfl (fun _ => ?_) (fun c => absurd (by decide) c)
      refine x_cst (.int 0) 1 43 rfl rfl rfl ?_
      refine x_st 3 1 0 44 [some (.ref m), some (.int x), some (.int 2), some (.int 0), some (.int 1), some (.int 3), some (.int (byt x 3))] rfl rfl rfl (Nat.le_of_ble_eq_true rfl) rfl rfl ?_
      refine x_ld 4 2 0 46 rfl rfl rfl rfl rfl ?_
      refine x_ifne 67 49 rfl rfl rfl (fun _ => ?_) (fun c => absurd c (by decide))
      refine x_cst (.int 1) 1 68 rfl rfl rfl ?_
      refine x_go 72 rfl rfl ?_
      refine x_st 4 2 0 74 [some (.ref m), some (.int x), some (.int 2), some (.int 0), some (.int 1), some (.int 3), some (.int (byt x 3))] rfl rfl rfl (Nat.le_of_ble_eq_true rfl) rfl rfl ?_
      refine x_ld 3 1 0 75 rfl rfl rfl rfl rfl ?_
      refine x_ifeq 84 78 rfl rfl rfl (fun _ => ?_) (fun c => absurd (by decide) c)
      refine x_ld 2 1 0 85 rfl rfl rfl rfl rfl ?_
      refine x_st 2 1 0 86 [some (.ref m), some (.int x), some (.int 2), some (.int 0), some (.int 1), some (.int 3), some (.int (byt x 3))] rfl rfl rfl (Nat.le_of_ble_eq_true rfl) rfl rfl ?_
      refine x_inc 5 1 1 89 [some (.ref m), some (.int x), some (.int 2), some (.int 0), some (.int 1), some (.int 4), some (.int (byt x 3))] rfl rfl (Nat.le_of_ble_eq_true rfl) rfl rfl rfl ?_
      refine x_go 10 rfl rfl ?_
      refine x_ld 5 2 0 12 rfl rfl rfl rfl rfl ?_
      refine x_cst (.int 4) 1 13 rfl rfl rfl ?_
      refine x_icge 92 16 rfl rfl rfl (fun _ => ?_) (fun c => absurd (by decide) c)
      refine x_ld 0 1 2 93 rfl rfl rfl rfl rfl ?_
      refine x_ld 4 2 0 95 rfl rfl rfl rfl rfl ?_
      refine x_ifeq 102 98 rfl rfl rfl (fun c => absurd c (by decide)) (fun _ => ?_)
      refine x_cst (.int 1) 1 99 rfl rfl rfl ?_
      refine x_go 103 rfl rfl ?_
      refine x_put 159 5 2 106 rfl rfl hm (by simp only [List.length_set, hfs]; omega) rfl rfl rfl _ rfl rfl ?_
      refine x_ld 4 2 0 108 rfl rfl rfl rfl rfl ?_
      refine x_ifne 122 111 rfl rfl rfl (fun _ => ?_) (fun c => absurd c (by decide))
      refine x_cst (.int 0) 1 123 rfl rfl rfl ?_
      refine x_ret rfl rfl rfl rfl ?_
      exact ⟨rfl, rfl⟩
    · refine x_cst (.int 1) 1 39 rfl rfl rfl ?_
      refine x_go 43 rfl rfl ?_
      refine x_st 3 1 0 44 [some (.ref m), some (.int x), some (.int 2), some (.int 1), some (.int 1), some (.int 2), some (.int (byt x 2))] rfl rfl rfl (Nat.le_of_ble_eq_true rfl) rfl rfl ?_
      refine x_ld 4 2 0 46 rfl rfl rfl rfl rfl ?_
      refine x_ifne 67 49 rfl rfl rfl (fun _ => ?_) (fun c => absurd c (by decide))
      refine x_cst (.int 1) 1 68 rfl rfl rfl ?_
      refine x_go 72 rfl rfl ?_
      refine x_st 4 2 0 74 [some (.ref m), some (.int x), some (.int 2), some (.int 1), some (.int 1), some (.int 2), some (.int (byt x 2))] rfl rfl rfl (Nat.le_of_ble_eq_true rfl) rfl rfl ?_
      refine x_ld 3 1 0 75 rfl rfl rfl rfl rfl ?_
      refine x_ifeq 84 78 rfl rfl rfl (fun c => absurd c (by decide)) (fun _ => ?_)
      refine x_ld 2 1 0 79 rfl rfl rfl rfl rfl ?_
      refine x_cst (.int 1) 1 80 rfl rfl rfl ?_
      refine x_bin (3) 81 rfl rfl rfl rfl ?_
      refine x_go 85 rfl rfl ?_
      refine x_st 2 1 0 86 [some (.ref m), some (.int x), some (.int 3), some (.int 1), some (.int 1), some (.int 2), some (.int (byt x 2))] rfl rfl rfl (Nat.le_of_ble_eq_true rfl) rfl rfl ?_
      refine x_inc 5 1 1 89 [some (.ref m), some (.int x), some (.int 3), some (.int 1), some (.int 1), some (.int 3), some (.int (byt x 2))] rfl rfl (Nat.le_of_ble_eq_true rfl) rfl rfl rfl ?_
      refine x_go 10 rfl rfl ?_
      refine x_ld 5 2 0 12 rfl rfl rfl rfl rfl ?_
      refine x_cst (.int 4) 1 13 rfl rfl rfl ?_
      refine x_icge 92 16 rfl rfl rfl (fun c => absurd c (by decide)) (fun _ => ?_)
      refine x_ld 1 1 0 17 rfl rfl rfl rfl rfl ?_
      refine x_cst (.int 8) 2 19 rfl rfl rfl ?_
      refine x_ld 5 2 0 21 rfl rfl rfl rfl rfl ?_
      refine x_bin (24) 22 rfl rfl rfl rfl ?_
      refine x_bin (x >>> (24 &&& 31)) 23 rfl rfl rfl rfl ?_
      refine x_cst (.int 255) 3 26 rfl rfl rfl ?_
      refine x_bin (byt x 3) 27 rfl rfl (byS_3 x) rfl ?_
      refine x_st 6 2 0 29 [some (.ref m), some (.int x), some (.int 3), some (.int 1), some (.int 1), some (.int 3), some (.int (byt x 3))] rfl rfl rfl (Nat.le_of_ble_eq_true rfl) rfl rfl ?_
      refine x_ld 3 1 0 30 rfl rfl rfl rfl rfl ?_
      refine x_ifeq 42 33 rfl rfl rfl (fun c => absurd c (by decide)) (fun _ => ?_)
      refine x_ld 6 2 0 35 rfl rfl rfl rfl rfl ?_
      refine x_ifeq 42 38 rfl rfl rfl (fun q3 => ?_) (fun q3 => ?_)
      · refine x_cst (.int 0) 1 43 rfl rfl rfl ?_
        refine x_st 3 1 0 44 [some (.ref m), some (.int x), some (.int 3), some (.int 0), some (.int 1), some (.int 3), some (.int (byt x 3))] rfl rfl rfl (Nat.le_of_ble_eq_true rfl) rfl rfl ?_
        refine x_ld 4 2 0 46 rfl rfl rfl rfl rfl ?_
        refine x_ifne 67 49 rfl rfl rfl (fun _ => ?_) (fun c => absurd c (by decide))
        refine x_cst (.int 1) 1 68 rfl rfl rfl ?_
        refine x_go 72 rfl rfl ?_
        refine x_st 4 2 0 74 [some (.ref m), some (.int x), some (.int 3), some (.int 0), some (.int 1), some (.int 3), some (.int (byt x 3))] rfl rfl rfl (Nat.le_of_ble_eq_true rfl) rfl rfl ?_
        refine x_ld 3 1 0 75 rfl rfl rfl rfl rfl ?_
        refine x_ifeq 84 78 rfl rfl rfl (fun _ => ?_) (fun c => absurd (by decide) c)
        refine x_ld 2 1 0 85 rfl rfl rfl rfl rfl ?_
        refine x_st 2 1 0 86 [some (.ref m), some (.int x), some (.int 3), some (.int 0), some (.int 1), some (.int 3), some (.int (byt x 3))] rfl rfl rfl (Nat.le_of_ble_eq_true rfl) rfl rfl ?_
        refine x_inc 5 1 1 89 [some (.ref m), some (.int x), some (.int 3), some (.int 0), some (.int 1), some (.int 4), some (.int (byt x 3))] rfl rfl (Nat.le_of_ble_eq_true rfl) rfl rfl rfl ?_
        refine x_go 10 rfl rfl ?_
        refine x_ld 5 2 0 12 rfl rfl rfl rfl rfl ?_
        refine x_cst (.int 4) 1 13 rfl rfl rfl ?_
        refine x_icge 92 16 rfl rfl rfl (fun _ => ?_) (fun c => absurd (by decide) c)
        refine x_ld 0 1 2 93 rfl rfl rfl rfl rfl ?_
        refine x_ld 4 2 0 95 rfl rfl rfl rfl rfl ?_
        refine x_ifeq 102 98 rfl rfl rfl (fun c => absurd c (by decide)) (fun _ => ?_)
        refine x_cst (.int 1) 1 99 rfl rfl rfl ?_
        refine x_go 103 rfl rfl ?_
        refine x_put 159 5 2 106 rfl rfl hm (by simp only [List.length_set, hfs]; omega) rfl rfl rfl _ rfl rfl ?_
        refine x_ld 4 2 0 108 rfl rfl rfl rfl rfl ?_
        refine x_ifne 122 111 rfl rfl rfl (fun _ => ?_) (fun c => absurd c (by decide))
        refine x_cst (.int 0) 1 123 rfl rfl rfl ?_
        refine x_ret rfl rfl rfl rfl ?_
        exact ⟨rfl, rfl⟩
      · refine x_cst (.int 1) 1 39 rfl rfl rfl ?_
        refine x_go 43 rfl rfl ?_
        refine x_st 3 1 0 44 [some (.ref m), some (.int x), some (.int 3), some (.int 1), some (.int 1), some (.int 3), some (.int (byt x 3))] rfl rfl rfl (Nat.le_of_ble_eq_true rfl) rfl rfl ?_
        refine x_ld 4 2 0 46 rfl rfl rfl rfl rfl ?_
        refine x_ifne 67 49 rfl rfl rfl (fun _ => ?_) (fun c => absurd c (by decide))
        refine x_cst (.int 1) 1 68 rfl rfl rfl ?_
        refine x_go 72 rfl rfl ?_
        refine x_st 4 2 0 74 [some (.ref m), some (.int x), some (.int 3), some (.int 1), some (.int 1), some (.int 3), some (.int (byt x 3))] rfl rfl rfl (Nat.le_of_ble_eq_true rfl) rfl rfl ?_
        refine x_ld 3 1 0 75 rfl rfl rfl rfl rfl ?_
        refine x_ifeq 84 78 rfl rfl rfl (fun c => absurd c (by decide)) (fun _ => ?_)
        refine x_ld 2 1 0 79 rfl rfl rfl rfl rfl ?_
        refine x_cst (.int 1) 1 80 rfl rfl rfl ?_
        refine x_bin (4) 81 rfl rfl rfl rfl ?_
        refine x_go 85 rfl rfl ?_
        refine x_st 2 1 0 86 [some (.ref m), some (.int x), some (.int 4), some (.int 1), some (.int 1), some (.int 3), some (.int (byt x 3))] rfl rfl rfl (Nat.le_of_ble_eq_true rfl) rfl rfl ?_
        refine x_inc 5 1 1 89 [some (.ref m), some (.int x), some (.int 4), some (.int 1), some (.int 1), some (.int 4), some (.int (byt x 3))] rfl rfl (Nat.le_of_ble_eq_true rfl) rfl rfl rfl ?_
        refine x_go 10 rfl rfl ?_
        refine x_ld 5 2 0 12 rfl rfl rfl rfl rfl ?_
        refine x_cst (.int 4) 1 13 rfl rfl rfl ?_
        refine x_icge 92 16 rfl rfl rfl (fun _ => ?_) (fun c => absurd (by decide) c)
        refine x_ld 0 1 2 93 rfl rfl rfl rfl rfl ?_
        refine x_ld 4 2 0 95 rfl rfl rfl rfl rfl ?_
        refine x_ifeq 102 98 rfl rfl rfl (fun c => absurd c (by decide)) (fun _ => ?_)
        refine x_cst (.int 1) 1 99 rfl rfl rfl ?_
        refine x_go 103 rfl rfl ?_
        refine x_put 159 5 2 106 rfl rfl hm (by simp only [List.length_set, hfs]; omega) rfl rfl rfl _ rfl rfl ?_
        refine x_ld 4 2 0 108 rfl rfl rfl rfl rfl ?_
        refine x_ifne 122 111 rfl rfl rfl (fun _ => ?_) (fun c => absurd c (by decide))
        refine x_cst (.int 0) 1 123 rfl rfl rfl ?_
        refine x_ret rfl rfl rfl rfl ?_
        exact ⟨rfl, rfl⟩
  · refine x_cst (.int 0) 1 1 rfl rfl rfl ?_
    refine x_st 2 1 0 2 [some (.ref m), some (.int x), some (.int 0), none, none, none, none] rfl rfl rfl (Nat.le_of_ble_eq_true rfl) rfl rfl ?_
    refine x_cst (.int 1) 1 3 rfl rfl rfl ?_
    refine x_st 3 1 0 4 [some (.ref m), some (.int x), some (.int 0), some (.int 1), none, none, none] rfl rfl rfl (Nat.le_of_ble_eq_true rfl) rfl rfl ?_
    refine x_cst (.int 0) 1 5 rfl rfl rfl ?_
    refine x_st 4 2 0 7 [some (.ref m), some (.int x), some (.int 0), some (.int 1), some (.int 0), none, none] rfl rfl rfl (Nat.le_of_ble_eq_true rfl) rfl rfl ?_
    refine x_cst (.int 0) 1 8 rfl rfl rfl ?_
    refine x_st 5 2 0 10 [some (.ref m), some (.int x), some (.int 0), some (.int 1), some (.int 0), some (.int 0), none] rfl rfl rfl (Nat.le_of_ble_eq_true rfl) rfl rfl ?_
    refine x_ld 5 2 0 12 rfl rfl rfl rfl rfl ?_
    refine x_cst (.int 4) 1 13 rfl rfl rfl ?_
    refine x_icge 92 16 rfl rfl rfl (fun c => absurd c (by decide)) (fun _ => ?_)
    refine x_ld 1 1 0 17 rfl rfl rfl rfl rfl ?_
    refine x_cst (.int 8) 2 19 rfl rfl rfl ?_
    refine x_ld 5 2 0 21 rfl rfl rfl rfl rfl ?_
    refine x_bin (0) 22 rfl rfl rfl rfl ?_
    refine x_bin (x >>> (0 &&& 31)) 23 rfl rfl rfl rfl ?_
    refine x_cst (.int 255) 3 26 rfl rfl rfl ?_
    refine x_bin (byt x 0) 27 rfl rfl (byS_0 x) rfl ?_
    refine x_st 6 2 0 29 [some (.ref m), some (.int x), some (.int 0), some (.int 1), some (.int 0), some (.int 0), some (.int (byt x 0))] rfl rfl rfl (Nat.le_of_ble_eq_true rfl) rfl rfl ?_
    refine x_ld 3 1 0 30 rfl rfl rfl rfl rfl ?_
    refine x_ifeq 42 33 rfl rfl rfl (fun c => absurd c (by decide)) (fun _ => ?_)
    refine x_ld 6 2 0 35 rfl rfl rfl rfl rfl ?_
    refine x_ifeq 42 38 rfl rfl rfl (fun c => absurd c (nz32 K0.1)) (fun _ => ?_)
    refine x_cst (.int 1) 1 39 rfl rfl rfl ?_
    refine x_go 43 rfl rfl ?_
    refine x_st 3 1 0 44 [some (.ref m), some (.int x), some (.int 0), some (.int 1), some (.int 0), some (.int 0), some (.int (byt x 0))] rfl rfl rfl (Nat.le_of_ble_eq_true rfl) rfl rfl ?_
    refine x_ld 4 2 0 46 rfl rfl rfl rfl rfl ?_
    refine x_ifne 67 49 rfl rfl rfl (fun c => absurd (by decide) c) (fun _ => ?_)
    refine x_ld 3 1 0 50 rfl rfl rfl rfl rfl ?_
    refine x_ifeq 71 53 rfl rfl rfl (fun c => absurd c (by decide)) (fun _ => ?_)
    refine x_ld 6 2 0 55 rfl rfl rfl rfl rfl ?_
    refine x_cst (.int 32) 2 57 rfl rfl rfl ?_
    refine x_iclt 67 60 rfl rfl rfl (fun c => absurd c (Int32.not_lt.mpr K0.1)) (fun _ => ?_)
    refine x_ld 6 2 0 62 rfl rfl rfl rfl rfl ?_
    refine x_cst (.int 126) 2 64 rfl rfl rfl ?_
    refine x_icle 71 67 rfl rfl rfl (fun _ => ?_) (fun c => absurd K0.2 c)
    refine x_cst (.int 0) 1 72 rfl rfl rfl ?_
    refine x_st 4 2 0 74 [some (.ref m), some (.int x), some (.int 0), some (.int 1), some (.int 0), some (.int 0), some (.int (byt x 0))] rfl rfl rfl (Nat.le_of_ble_eq_true rfl) rfl rfl ?_
    refine x_ld 3 1 0 75 rfl rfl rfl rfl rfl ?_
    refine x_ifeq 84 78 rfl rfl rfl (fun c => absurd c (by decide)) (fun _ => ?_)
    refine x_ld 2 1 0 79 rfl rfl rfl rfl rfl ?_
    refine x_cst (.int 1) 1 80 rfl rfl rfl ?_
    refine x_bin (1) 81 rfl rfl rfl rfl ?_
    refine x_go 85 rfl rfl ?_
    refine x_st 2 1 0 86 [some (.ref m), some (.int x), some (.int 1), some (.int 1), some (.int 0), some (.int 0), some (.int (byt x 0))] rfl rfl rfl (Nat.le_of_ble_eq_true rfl) rfl rfl ?_
    refine x_inc 5 1 1 89 [some (.ref m), some (.int x), some (.int 1), some (.int 1), some (.int 0), some (.int 1), some (.int (byt x 0))] rfl rfl (Nat.le_of_ble_eq_true rfl) rfl rfl rfl ?_
    refine x_go 10 rfl rfl ?_
    refine x_ld 5 2 0 12 rfl rfl rfl rfl rfl ?_
    refine x_cst (.int 4) 1 13 rfl rfl rfl ?_
    refine x_icge 92 16 rfl rfl rfl (fun c => absurd c (by decide)) (fun _ => ?_)
    refine x_ld 1 1 0 17 rfl rfl rfl rfl rfl ?_
    refine x_cst (.int 8) 2 19 rfl rfl rfl ?_
    refine x_ld 5 2 0 21 rfl rfl rfl rfl rfl ?_
    refine x_bin (8) 22 rfl rfl rfl rfl ?_
    refine x_bin (x >>> (8 &&& 31)) 23 rfl rfl rfl rfl ?_
    refine x_cst (.int 255) 3 26 rfl rfl rfl ?_
    refine x_bin (byt x 1) 27 rfl rfl (byS_1 x) rfl ?_
    refine x_st 6 2 0 29 [some (.ref m), some (.int x), some (.int 1), some (.int 1), some (.int 0), some (.int 1), some (.int (byt x 1))] rfl rfl rfl (Nat.le_of_ble_eq_true rfl) rfl rfl ?_
    refine x_ld 3 1 0 30 rfl rfl rfl rfl rfl ?_
    refine x_ifeq 42 33 rfl rfl rfl (fun c => absurd c (by decide)) (fun _ => ?_)
    refine x_ld 6 2 0 35 rfl rfl rfl rfl rfl ?_
    refine x_ifeq 42 38 rfl rfl rfl (fun c => absurd c B0) (fun _ => ?_)
    refine x_cst (.int 1) 1 39 rfl rfl rfl ?_
    refine x_go 43 rfl rfl ?_
    refine x_st 3 1 0 44 [some (.ref m), some (.int x), some (.int 1), some (.int 1), some (.int 0), some (.int 1), some (.int (byt x 1))] rfl rfl rfl (Nat.le_of_ble_eq_true rfl) rfl rfl ?_
    refine x_ld 4 2 0 46 rfl rfl rfl rfl rfl ?_
    refine x_ifne 67 49 rfl rfl rfl (fun c => absurd (by decide) c) (fun _ => ?_)
    refine x_ld 3 1 0 50 rfl rfl rfl rfl rfl ?_
    refine x_ifeq 71 53 rfl rfl rfl (fun c => absurd c (by decide)) (fun _ => ?_)
    refine x_ld 6 2 0 55 rfl rfl rfl rfl rfl ?_
    refine x_cst (.int 32) 2 57 rfl rfl rfl ?_
    refine x_iclt 67 60 rfl rfl rfl (fun c => absurd c B1) (fun _ => ?_)
    refine x_ld 6 2 0 62 rfl rfl rfl rfl rfl ?_
    refine x_cst (.int 126) 2 64 rfl rfl rfl ?_
    refine x_icle 71 67 rfl rfl rfl (fun c => absurd c B2) (fun _ => ?_)
    refine x_cst (.int 1) 1 68 rfl rfl rfl ?_
    refine x_go 72 rfl rfl ?_
    refine x_st 4 2 0 74 [some (.ref m), some (.int x), some (.int 1), some (.int 1), some (.int 1), some (.int 1), some (.int (byt x 1))] rfl rfl rfl (Nat.le_of_ble_eq_true rfl) rfl rfl ?_
    refine x_ld 3 1 0 75 rfl rfl rfl rfl rfl ?_
    refine x_ifeq 84 78 rfl rfl rfl (fun c => absurd c (by decide)) (fun _ => ?_)
    refine x_ld 2 1 0 79 rfl rfl rfl rfl rfl ?_
    refine x_cst (.int 1) 1 80 rfl rfl rfl ?_
    refine x_bin (2) 81 rfl rfl rfl rfl ?_
    refine x_go 85 rfl rfl ?_
    refine x_st 2 1 0 86 [some (.ref m), some (.int x), some (.int 2), some (.int 1), some (.int 1), some (.int 1), some (.int (byt x 1))] rfl rfl rfl (Nat.le_of_ble_eq_true rfl) rfl rfl ?_
    refine x_inc 5 1 1 89 [some (.ref m), some (.int x), some (.int 2), some (.int 1), some (.int 1), some (.int 2), some (.int (byt x 1))] rfl rfl (Nat.le_of_ble_eq_true rfl) rfl rfl rfl ?_
    refine x_go 10 rfl rfl ?_
    refine x_ld 5 2 0 12 rfl rfl rfl rfl rfl ?_
    refine x_cst (.int 4) 1 13 rfl rfl rfl ?_
    refine x_icge 92 16 rfl rfl rfl (fun c => absurd c (by decide)) (fun _ => ?_)
    refine x_ld 1 1 0 17 rfl rfl rfl rfl rfl ?_
    refine x_cst (.int 8) 2 19 rfl rfl rfl ?_
    refine x_ld 5 2 0 21 rfl rfl rfl rfl rfl ?_
    refine x_bin (16) 22 rfl rfl rfl rfl ?_
    refine x_bin (x >>> (16 &&& 31)) 23 rfl rfl rfl rfl ?_
    refine x_cst (.int 255) 3 26 rfl rfl rfl ?_
    refine x_bin (byt x 2) 27 rfl rfl (byS_2 x) rfl ?_
    refine x_st 6 2 0 29 [some (.ref m), some (.int x), some (.int 2), some (.int 1), some (.int 1), some (.int 2), some (.int (byt x 2))] rfl rfl rfl (Nat.le_of_ble_eq_true rfl) rfl rfl ?_
    refine x_ld 3 1 0 30 rfl rfl rfl rfl rfl ?_
    refine x_ifeq 42 33 rfl rfl rfl (fun c => absurd c (by decide)) (fun _ => ?_)
    refine x_ld 6 2 0 35 rfl rfl rfl rfl rfl ?_
    refine x_ifeq 42 38 rfl rfl rfl (fun q2 => ?_) (fun q2 => ?_)
    · refine x_cst (.int 0) 1 43 rfl rfl rfl ?_
      refine x_st 3 1 0 44 [some (.ref m), some (.int x), some (.int 2), some (.int 0), some (.int 1), some (.int 2), some (.int (byt x 2))] rfl rfl rfl (Nat.le_of_ble_eq_true rfl) rfl rfl ?_
      refine x_ld 4 2 0 46 rfl rfl rfl rfl rfl ?_
      refine x_ifne 67 49 rfl rfl rfl (fun _ => ?_) (fun c => absurd c (by decide))
      refine x_cst (.int 1) 1 68 rfl rfl rfl ?_
      refine x_go 72 rfl rfl ?_
      refine x_st 4 2 0 74 [some (.ref m), some (.int x), some (.int 2), some (.int 0), some (.int 1), some (.int 2), some (.int (byt x 2))] rfl rfl rfl (Nat.le_of_ble_eq_true rfl) rfl rfl ?_
      refine x_ld 3 1 0 75 rfl rfl rfl rfl rfl ?_
      refine x_ifeq 84 78 rfl rfl rfl (fun _ => ?_) (fun c => absurd (by decide) c)
      refine x_ld 2 1 0 85 rfl rfl rfl rfl rfl ?_
      refine x_st 2 1 0 86 [some (.ref m), some (.int x), some (.int 2), some (.int 0), some (.int 1), some (.int 2), some (.int (byt x 2))] rfl rfl rfl (Nat.le_of_ble_eq_true rfl) rfl rfl ?_
      refine x_inc 5 1 1 89 [some (.ref m), some (.int x), some (.int 2), some (.int 0), some (.int 1), some (.int 3), some (.int (byt x 2))] rfl rfl (Nat.le_of_ble_eq_true rfl) rfl rfl rfl ?_
      refine x_go 10 rfl rfl ?_
      refine x_ld 5 2 0 12 rfl rfl rfl rfl rfl ?_
      refine x_cst (.int 4) 1 13 rfl rfl rfl ?_
      refine x_icge 92 16 rfl rfl rfl (fun c => absurd c (by decide)) (fun _ => ?_)
      refine x_ld 1 1 0 17 rfl rfl rfl rfl rfl ?_
      refine x_cst (.int 8) 2 19 rfl rfl rfl ?_
      refine x_ld 5 2 0 21 rfl rfl rfl rfl rfl ?_
      refine x_bin (24) 22 rfl rfl rfl rfl ?_
      refine x_bin (x >>> (24 &&& 31)) 23 rfl rfl rfl rfl ?_
      refine x_cst (.int 255) 3 26 rfl rfl rfl ?_
      refine x_bin (byt x 3) 27 rfl rfl (byS_3 x) rfl ?_
      refine x_st 6 2 0 29 [some (.ref m), some (.int x), some (.int 2), some (.int 0), some (.int 1), some (.int 3), some (.int (byt x 3))] rfl rfl rfl (Nat.le_of_ble_eq_true rfl) rfl rfl ?_
      refine x_ld 3 1 0 30 rfl rfl rfl rfl rfl ?_
      refine x_ifeq 42 33 rfl rfl rfl (fun _ => ?_) (fun c => absurd (by decide) c)
      refine x_cst (.int 0) 1 43 rfl rfl rfl ?_
      refine x_st 3 1 0 44 [some (.ref m), some (.int x), some (.int 2), some (.int 0), some (.int 1), some (.int 3), some (.int (byt x 3))] rfl rfl rfl (Nat.le_of_ble_eq_true rfl) rfl rfl ?_
      refine x_ld 4 2 0 46 rfl rfl rfl rfl rfl ?_
      refine x_ifne 67 49 rfl rfl rfl (fun _ => ?_) (fun c => absurd c (by decide))
      refine x_cst (.int 1) 1 68 rfl rfl rfl ?_
      refine x_go 72 rfl rfl ?_
      refine x_st 4 2 0 74 [some (.ref m), some (.int x), some (.int 2), some (.int 0), some (.int 1), some (.int 3), some (.int (byt x 3))] rfl rfl rfl (Nat.le_of_ble_eq_true rfl) rfl rfl ?_
      refine x_ld 3 1 0 75 rfl rfl rfl rfl rfl ?_
      refine x_ifeq 84 78 rfl rfl rfl (fun _ => ?_) (fun c => absurd (by decide) c)
      refine x_ld 2 1 0 85 rfl rfl rfl rfl rfl ?_
      refine x_st 2 1 0 86 [some (.ref m), some (.int x), some (.int 2), some (.int 0), some (.int 1), some (.int 3), some (.int (byt x 3))] rfl rfl rfl (Nat.le_of_ble_eq_true rfl) rfl rfl ?_
      refine x_inc 5 1 1 89 [some (.ref m), some (.int x), some (.int 2), some (.int 0), some (.int 1), some (.int 4), some (.int (byt x 3))] rfl rfl (Nat.le_of_ble_eq_true rfl) rfl rfl rfl ?_
      refine x_go 10 rfl rfl ?_
      refine x_ld 5 2 0 12 rfl rfl rfl rfl rfl ?_
      refine x_cst (.int 4) 1 13 rfl rfl rfl ?_
      refine x_icge 92 16 rfl rfl rfl (fun _ => ?_) (fun c => absurd (by decide) c)
      refine x_ld 0 1 2 93 rfl rfl rfl rfl rfl ?_
      refine x_ld 4 2 0 95 rfl rfl rfl rfl rfl ?_
      refine x_ifeq 102 98 rfl rfl rfl (fun c => absurd c (by decide)) (fun _ => ?_)
      refine x_cst (.int 1) 1 99 rfl rfl rfl ?_
      refine x_go 103 rfl rfl ?_
      refine x_put 159 5 2 106 rfl rfl hm (by simp only [List.length_set, hfs]; omega) rfl rfl rfl _ rfl rfl ?_
      refine x_ld 4 2 0 108 rfl rfl rfl rfl rfl ?_
      refine x_ifne 122 111 rfl rfl rfl (fun _ => ?_) (fun c => absurd c (by decide))
      refine x_cst (.int 0) 1 123 rfl rfl rfl ?_
      refine x_ret rfl rfl rfl rfl ?_
      exact ⟨rfl, rfl⟩
    · refine x_cst (.int 1) 1 39 rfl rfl rfl ?_
      refine x_go 43 rfl rfl ?_
      refine x_st 3 1 0 44 [some (.ref m), some (.int x), some (.int 2), some (.int 1), some (.int 1), some (.int 2), some (.int (byt x 2))] rfl rfl rfl (Nat.le_of_ble_eq_true rfl) rfl rfl ?_
      refine x_ld 4 2 0 46 rfl rfl rfl rfl rfl ?_
      refine x_ifne 67 49 rfl rfl rfl (fun _ => ?_) (fun c => absurd c (by decide))
      refine x_cst (.int 1) 1 68 rfl rfl rfl ?_
      refine x_go 72 rfl rfl ?_
      refine x_st 4 2 0 74 [some (.ref m), some (.int x), some (.int 2), some (.int 1), some (.int 1), some (.int 2), some (.int (byt x 2))] rfl rfl rfl (Nat.le_of_ble_eq_true rfl) rfl rfl ?_
      refine x_ld 3 1 0 75 rfl rfl rfl rfl rfl ?_
      refine x_ifeq 84 78 rfl rfl rfl (fun c => absurd c (by decide)) (fun _ => ?_)
      refine x_ld 2 1 0 79 rfl rfl rfl rfl rfl ?_
      refine x_cst (.int 1) 1 80 rfl rfl rfl ?_
      refine x_bin (3) 81 rfl rfl rfl rfl ?_
      refine x_go 85 rfl rfl ?_
      refine x_st 2 1 0 86 [some (.ref m), some (.int x), some (.int 3), some (.int 1), some (.int 1), some (.int 2), some (.int (byt x 2))] rfl rfl rfl (Nat.le_of_ble_eq_true rfl) rfl rfl ?_
      refine x_inc 5 1 1 89 [some (.ref m), some (.int x), some (.int 3), some (.int 1), some (.int 1), some (.int 3), some (.int (byt x 2))] rfl rfl (Nat.le_of_ble_eq_true rfl) rfl rfl rfl ?_
      refine x_go 10 rfl rfl ?_
      refine x_ld 5 2 0 12 rfl rfl rfl rfl rfl ?_
      refine x_cst (.int 4) 1 13 rfl rfl rfl ?_
      refine x_icge 92 16 rfl rfl rfl (fun c => absurd c (by decide)) (fun _ => ?_)
      refine x_ld 1 1 0 17 rfl rfl rfl rfl rfl ?_
      refine x_cst (.int 8) 2 19 rfl rfl rfl ?_
      refine x_ld 5 2 0 21 rfl rfl rfl rfl rfl ?_
      refine x_bin (24) 22 rfl rfl rfl rfl ?_
      refine x_bin (x >>> (24 &&& 31)) 23 rfl rfl rfl rfl ?_
      refine x_cst (.int 255) 3 26 rfl rfl rfl ?_
      refine x_bin (byt x 3) 27 rfl rfl (byS_3 x) rfl ?_
      refine x_st 6 2 0 29 [some (.ref m), some (.int x), some (.int 3), some (.int 1), some (.int 1), some (.int 3), some (.int (byt x 3))] rfl rfl rfl (Nat.le_of_ble_eq_true rfl) rfl rfl ?_
      refine x_ld 3 1 0 30 rfl rfl rfl rfl rfl ?_
      refine x_ifeq 42 33 rfl rfl rfl (fun c => absurd c (by decide)) (fun _ => ?_)
      refine x_ld 6 2 0 35 rfl rfl rfl rfl rfl ?_
      refine x_ifeq 42 38 rfl rfl rfl (fun q3 => ?_) (fun q3 => ?_)
      · refine x_cst (.int 0) 1 43 rfl rfl rfl ?_
        refine x_st 3 1 0 44 [some (.ref m), some (.int x), some (.int 3), some (.int 0), some (.int 1), some (.int 3), some (.int (byt x 3))] rfl rfl rfl (Nat.le_of_ble_eq_true rfl) rfl rfl ?_
        refine x_ld 4 2 0 46 rfl rfl rfl rfl rfl ?_
        refine x_ifne 67 49 rfl rfl rfl (fun _ => ?_) (fun c => absurd c (by decide))
        refine x_cst (.int 1) 1 68 rfl rfl rfl ?_
        refine x_go 72 rfl rfl ?_
        refine x_st 4 2 0 74 [some (.ref m), some (.int x), some (.int 3), some (.int 0), some (.int 1), some (.int 3), some (.int (byt x 3))] rfl rfl rfl (Nat.le_of_ble_eq_true rfl) rfl rfl ?_
        refine x_ld 3 1 0 75 rfl rfl rfl rfl rfl ?_
        refine x_ifeq 84 78 rfl rfl rfl (fun _ => ?_) (fun c => absurd (by decide) c)
        refine x_ld 2 1 0 85 rfl rfl rfl rfl rfl ?_
        refine x_st 2 1 0 86 [some (.ref m), some (.int x), some (.int 3), some (.int 0), some (.int 1), some (.int 3), some (.int (byt x 3))] rfl rfl rfl (Nat.le_of_ble_eq_true rfl) rfl rfl ?_
        refine x_inc 5 1 1 89 [some (.ref m), some (.int x), some (.int 3), some (.int 0), some (.int 1), some (.int 4), some (.int (byt x 3))] rfl rfl (Nat.le_of_ble_eq_true rfl) rfl rfl rfl ?_
        refine x_go 10 rfl rfl ?_
        refine x_ld 5 2 0 12 rfl rfl rfl rfl rfl ?_
        refine x_cst (.int 4) 1 13 rfl rfl rfl ?_
        refine x_icge 92 16 rfl rfl rfl (fun _ => ?_) (fun c => absurd (by decide) c)
        refine x_ld 0 1 2 93 rfl rfl rfl rfl rfl ?_
        refine x_ld 4 2 0 95 rfl rfl rfl rfl rfl ?_
        refine x_ifeq 102 98 rfl rfl rfl (fun c => absurd c (by decide)) (fun _ => ?_)
        refine x_cst (.int 1) 1 99 rfl rfl rfl ?_
        refine x_go 103 rfl rfl ?_
        refine x_put 159 5 2 106 rfl rfl hm (by simp only [List.length_set, hfs]; omega) rfl rfl rfl _ rfl rfl ?_
        refine x_ld 4 2 0 108 rfl rfl rfl rfl rfl ?_
        refine x_ifne 122 111 rfl rfl rfl (fun _ => ?_) (fun c => absurd c (by decide))
        refine x_cst (.int 0) 1 123 rfl rfl rfl ?_
        refine x_ret rfl rfl rfl rfl ?_
        exact ⟨rfl, rfl⟩
      · refine x_cst (.int 1) 1 39 rfl rfl rfl ?_
        refine x_go 43 rfl rfl ?_
        refine x_st 3 1 0 44 [some (.ref m), some (.int x), some (.int 3), some (.int 1), some (.int 1), some (.int 3), some (.int (byt x 3))] rfl rfl rfl (Nat.le_of_ble_eq_true rfl) rfl rfl ?_
        refine x_ld 4 2 0 46 rfl rfl rfl rfl rfl ?_
        refine x_ifne 67 49 rfl rfl rfl (fun _ => ?_) (fun c => absurd c (by decide))
        refine x_cst (.int 1) 1 68 rfl rfl rfl ?_
        refine x_go 72 rfl rfl ?_
        refine x_st 4 2 0 74 [some (.ref m), some (.int x), some (.int 3), some (.int 1), some (.int 1), some (.int 3), some (.int (byt x 3))] rfl rfl rfl (Nat.le_of_ble_eq_true rfl) rfl rfl ?_
        refine x_ld 3 1 0 75 rfl rfl rfl rfl rfl ?_
        refine x_ifeq 84 78 rfl rfl rfl (fun c => absurd c (by decide)) (fun _ => ?_)
        refine x_ld 2 1 0 79 rfl rfl rfl rfl rfl ?_
        refine x_cst (.int 1) 1 80 rfl rfl rfl ?_
        refine x_bin (4) 81 rfl rfl rfl rfl ?_
        refine x_go 85 rfl rfl ?_
        refine x_st 2 1 0 86 [some (.ref m), some (.int x), some (.int 4), some (.int 1), some (.int 1), some (.int 3), some (.int (byt x 3))] rfl rfl rfl (Nat.le_of_ble_eq_true rfl) rfl rfl ?_
        refine x_inc 5 1 1 89 [some (.ref m), some (.int x), some (.int 4), some (.int 1), some (.int 1), some (.int 4), some (.int (byt x 3))] rfl rfl (Nat.le_of_ble_eq_true rfl) rfl rfl rfl ?_
        refine x_go 10 rfl rfl ?_
        refine x_ld 5 2 0 12 rfl rfl rfl rfl rfl ?_
        refine x_cst (.int 4) 1 13 rfl rfl rfl ?_
        refine x_icge 92 16 rfl rfl rfl (fun _ => ?_) (fun c => absurd (by decide) c)
        refine x_ld 0 1 2 93 rfl rfl rfl rfl rfl ?_
        refine x_ld 4 2 0 95 rfl rfl rfl rfl rfl ?_
        refine x_ifeq 102 98 rfl rfl rfl (fun c => absurd c (by decide)) (fun _ => ?_)
        refine x_cst (.int 1) 1 99 rfl rfl rfl ?_
        refine x_go 103 rfl rfl ?_
        refine x_put 159 5 2 106 rfl rfl hm (by simp only [List.length_set, hfs]; omega) rfl rfl rfl _ rfl rfl ?_
        refine x_ld 4 2 0 108 rfl rfl rfl rfl rfl ?_
        refine x_ifne 122 111 rfl rfl rfl (fun _ => ?_) (fun c => absurd c (by decide))
        refine x_cst (.int 0) 1 123 rfl rfl rfl ?_
        refine x_ret rfl rfl rfl rfl ?_
        exact ⟨rfl, rfl⟩
theorem t104_h2 {h : ab_H} {m ml n : Nat} {x : Int32} {g : Nat → Int32} {fs : List Value} (hne : ml ≠ m) : (((((h.set m (.inr (5, (fs.set 2 (.int 0))))).set ml (.inl (0, 16, .inl (upd g n (byt x 0))))).set m (.inr (5, ((fs.set 2 (.int 0)).set 4 (.int (Int32.ofNat (n + 1))))))).set ml (.inl (0, 16, .inl (upd (upd g n (byt x 0)) (n + 1) (byt x 1))))).set m (.inr (5, (((fs.set 2 (.int 0)).set 4 (.int (Int32.ofNat (n + 1)))).set 4 (.int (Int32.ofNat (n + 2))))))) = (h.set ml (.inl (0, 16, .inl (ups g n x 2)))).set m (.inr (5, (fs.set 2 (.int 0)).set 4 (.int (Int32.ofNat (n + 2))))) := by
  simp only [List.set_set, List.set_comm _ _ hne]
  rfl
theorem t104_2 (d : Nat) {h : ab_H} {m ml n : Nat} {x : Int32} {g : Nat → Int32} {fs : List Value} (hm : h[m]? = some (.inr (5, fs))) (hfs : fs.length = 68) (h3 : fs[3]? = some (.ref ml)) (h4 : fs[4]? = some (.int (Int32.ofNat n))) (hl : h[ml]? = some (.inl (0, 16, .inl g))) (hne : ml ≠ m) (hn : n ≤ 16) (H : okc x 2) (hf : n + 2 ≤ 16) : ab_S (pg_G L xs) (d + 1) 104 [.ref m, .int x] h (some (.int 1)) ((h.set ml (.inl (0, 16, .inl (ups g n x 2)))).set m (.inr (5, (fs.set 2 (.int 0)).set 4 (.int (Int32.ofNat (n + 2)))))) := by
  show ab_W (pg_G L xs) (ab_X (pg_G L xs) d) 104 _ 0 [some (.ref m), some (.int x), none, none, none, none, none] [] h
  have K0 : 32 ≤ byt x 0 ∧ byt x 0 ≤ 126 := H.1 0 (by decide)
  have K1 : 32 ≤ byt x 1 ∧ byt x 1 ≤ 126 := H.1 1 (by decide)
  have Z := H.2 (by decide)
  refine x_cst (.int 0) 1 1 rfl rfl rfl ?_
  refine x_st 2 1 0 2 [some (.ref m), some (.int x), some (.int 0), none, none, none, none] rfl rfl rfl (Nat.le_of_ble_eq_true rfl) rfl rfl ?_
  refine x_cst (.int 1) 1 3 rfl rfl rfl ?_
  refine x_st 3 1 0 4 [some (.ref m), some (.int x), some (.int 0), some (.int 1), none, none, none] rfl rfl rfl (Nat.le_of_ble_eq_true rfl) rfl rfl ?_
  refine x_cst (.int 0) 1 5 rfl rfl rfl ?_
  refine x_st 4 2 0 7 [some (.ref m), some (.int x), some (.int 0), some (.int 1), some (.int 0), none, none] rfl rfl rfl (Nat.le_of_ble_eq_true rfl) rfl rfl ?_
  refine x_cst (.int 0) 1 8 rfl rfl rfl ?_
  refine x_st 5 2 0 10 [some (.ref m), some (.int x), some (.int 0), some (.int 1), some (.int 0), some (.int 0), none] rfl rfl rfl (Nat.le_of_ble_eq_true rfl) rfl rfl ?_
  refine x_ld 5 2 0 12 rfl rfl rfl rfl rfl ?_
  refine x_cst (.int 4) 1 13 rfl rfl rfl ?_
  refine x_icge 92 16 rfl rfl rfl (fun c => absurd c (by decide)) (fun _ => ?_)
  refine x_ld 1 1 0 17 rfl rfl rfl rfl rfl ?_
  refine x_cst (.int 8) 2 19 rfl rfl rfl ?_
  refine x_ld 5 2 0 21 rfl rfl rfl rfl rfl ?_
  refine x_bin (0) 22 rfl rfl rfl rfl ?_
  refine x_bin (x >>> (0 &&& 31)) 23 rfl rfl rfl rfl ?_
  refine x_cst (.int 255) 3 26 rfl rfl rfl ?_
  refine x_bin (byt x 0) 27 rfl rfl (byS_0 x) rfl ?_
  refine x_st 6 2 0 29 [some (.ref m), some (.int x), some (.int 0), some (.int 1), some (.int 0), some (.int 0), some (.int (byt x 0))] rfl rfl rfl (Nat.le_of_ble_eq_true rfl) rfl rfl ?_
  refine x_ld 3 1 0 30 rfl rfl rfl rfl rfl ?_
  refine x_ifeq 42 33 rfl rfl rfl (fun c => absurd c (by decide)) (fun _ => ?_)
  refine x_ld 6 2 0 35 rfl rfl rfl rfl rfl ?_
  refine x_ifeq 42 38 rfl rfl rfl (fun c => absurd c (nz32 K0.1)) (fun _ => ?_)
  refine x_cst (.int 1) 1 39 rfl rfl rfl ?_
  refine x_go 43 rfl rfl ?_
  refine x_st 3 1 0 44 [some (.ref m), some (.int x), some (.int 0), some (.int 1), some (.int 0), some (.int 0), some (.int (byt x 0))] rfl rfl rfl (Nat.le_of_ble_eq_true rfl) rfl rfl ?_
  refine x_ld 4 2 0 46 rfl rfl rfl rfl rfl ?_
  refine x_ifne 67 49 rfl rfl rfl (fun c => absurd (by decide) c) (fun _ => ?_)
  refine x_ld 3 1 0 50 rfl rfl rfl rfl rfl ?_
  refine x_ifeq 71 53 rfl rfl rfl (fun c => absurd c (by decide)) (fun _ => ?_)
  refine x_ld 6 2 0 55 rfl rfl rfl rfl rfl ?_
  refine x_cst (.int 32) 2 57 rfl rfl rfl ?_
  refine x_iclt 67 60 rfl rfl rfl (fun c => absurd c (Int32.not_lt.mpr K0.1)) (fun _ => ?_)
  refine x_ld 6 2 0 62 rfl rfl rfl rfl rfl ?_
  refine x_cst (.int 126) 2 64 rfl rfl rfl ?_
  refine x_icle 71 67 rfl rfl rfl (fun _ => ?_) (fun c => absurd K0.2 c)
  refine x_cst (.int 0) 1 72 rfl rfl rfl ?_
  refine x_st 4 2 0 74 [some (.ref m), some (.int x), some (.int 0), some (.int 1), some (.int 0), some (.int 0), some (.int (byt x 0))] rfl rfl rfl (Nat.le_of_ble_eq_true rfl) rfl rfl ?_
  refine x_ld 3 1 0 75 rfl rfl rfl rfl rfl ?_
  refine x_ifeq 84 78 rfl rfl rfl (fun c => absurd c (by decide)) (fun _ => ?_)
  refine x_ld 2 1 0 79 rfl rfl rfl rfl rfl ?_
  refine x_cst (.int 1) 1 80 rfl rfl rfl ?_
  refine x_bin (1) 81 rfl rfl rfl rfl ?_
  refine x_go 85 rfl rfl ?_
  refine x_st 2 1 0 86 [some (.ref m), some (.int x), some (.int 1), some (.int 1), some (.int 0), some (.int 0), some (.int (byt x 0))] rfl rfl rfl (Nat.le_of_ble_eq_true rfl) rfl rfl ?_
  refine x_inc 5 1 1 89 [some (.ref m), some (.int x), some (.int 1), some (.int 1), some (.int 0), some (.int 1), some (.int (byt x 0))] rfl rfl (Nat.le_of_ble_eq_true rfl) rfl rfl rfl ?_
  refine x_go 10 rfl rfl ?_
  refine x_ld 5 2 0 12 rfl rfl rfl rfl rfl ?_
  refine x_cst (.int 4) 1 13 rfl rfl rfl ?_
  refine x_icge 92 16 rfl rfl rfl (fun c => absurd c (by decide)) (fun _ => ?_)
  refine x_ld 1 1 0 17 rfl rfl rfl rfl rfl ?_
  refine x_cst (.int 8) 2 19 rfl rfl rfl ?_
  refine x_ld 5 2 0 21 rfl rfl rfl rfl rfl ?_
  refine x_bin (8) 22 rfl rfl rfl rfl ?_
  refine x_bin (x >>> (8 &&& 31)) 23 rfl rfl rfl rfl ?_
  refine x_cst (.int 255) 3 26 rfl rfl rfl ?_
  refine x_bin (byt x 1) 27 rfl rfl (byS_1 x) rfl ?_
  refine x_st 6 2 0 29 [some (.ref m), some (.int x), some (.int 1), some (.int 1), some (.int 0), some (.int 1), some (.int (byt x 1))] rfl rfl rfl (Nat.le_of_ble_eq_true rfl) rfl rfl ?_
  refine x_ld 3 1 0 30 rfl rfl rfl rfl rfl ?_
  refine x_ifeq 42 33 rfl rfl rfl (fun c => absurd c (by decide)) (fun _ => ?_)
  refine x_ld 6 2 0 35 rfl rfl rfl rfl rfl ?_
  refine x_ifeq 42 38 rfl rfl rfl (fun c => absurd c (nz32 K1.1)) (fun _ => ?_)
  refine x_cst (.int 1) 1 39 rfl rfl rfl ?_
  refine x_go 43 rfl rfl ?_
  refine x_st 3 1 0 44 [some (.ref m), some (.int x), some (.int 1), some (.int 1), some (.int 0), some (.int 1), some (.int (byt x 1))] rfl rfl rfl (Nat.le_of_ble_eq_true rfl) rfl rfl ?_
  refine x_ld 4 2 0 46 rfl rfl rfl rfl rfl ?_
  refine x_ifne 67 49 rfl rfl rfl (fun c => absurd (by decide) c) (fun _ => ?_)
  refine x_ld 3 1 0 50 rfl rfl rfl rfl rfl ?_
  refine x_ifeq 71 53 rfl rfl rfl (fun c => absurd c (by decide)) (fun _ => ?_)
  refine x_ld 6 2 0 55 rfl rfl rfl rfl rfl ?_
  refine x_cst (.int 32) 2 57 rfl rfl rfl ?_
  refine x_iclt 67 60 rfl rfl rfl (fun c => absurd c (Int32.not_lt.mpr K1.1)) (fun _ => ?_)
  refine x_ld 6 2 0 62 rfl rfl rfl rfl rfl ?_
  refine x_cst (.int 126) 2 64 rfl rfl rfl ?_
  refine x_icle 71 67 rfl rfl rfl (fun _ => ?_) (fun c => absurd K1.2 c)
  refine x_cst (.int 0) 1 72 rfl rfl rfl ?_
  refine x_st 4 2 0 74 [some (.ref m), some (.int x), some (.int 1), some (.int 1), some (.int 0), some (.int 1), some (.int (byt x 1))] rfl rfl rfl (Nat.le_of_ble_eq_true rfl) rfl rfl ?_
  refine x_ld 3 1 0 75 rfl rfl rfl rfl rfl ?_
  refine x_ifeq 84 78 rfl rfl rfl (fun c => absurd c (by decide)) (fun _ => ?_)
  refine x_ld 2 1 0 79 rfl rfl rfl rfl rfl ?_
  refine x_cst (.int 1) 1 80 rfl rfl rfl ?_
  refine x_bin (2) 81 rfl rfl rfl rfl ?_
  refine x_go 85 rfl rfl ?_
  refine x_st 2 1 0 86 [some (.ref m), some (.int x), some (.int 2), some (.int 1), some (.int 0), some (.int 1), some (.int (byt x 1))] rfl rfl rfl (Nat.le_of_ble_eq_true rfl) rfl rfl ?_
  refine x_inc 5 1 1 89 [some (.ref m), some (.int x), some (.int 2), some (.int 1), some (.int 0), some (.int 2), some (.int (byt x 1))] rfl rfl (Nat.le_of_ble_eq_true rfl) rfl rfl rfl ?_
  refine x_go 10 rfl rfl ?_
  refine x_ld 5 2 0 12 rfl rfl rfl rfl rfl ?_
  refine x_cst (.int 4) 1 13 rfl rfl rfl ?_
  refine x_icge 92 16 rfl rfl rfl (fun c => absurd c (by decide)) (fun _ => ?_)
  refine x_ld 1 1 0 17 rfl rfl rfl rfl rfl ?_
  refine x_cst (.int 8) 2 19 rfl rfl rfl ?_
  refine x_ld 5 2 0 21 rfl rfl rfl rfl rfl ?_
  refine x_bin (16) 22 rfl rfl rfl rfl ?_
  refine x_bin (x >>> (16 &&& 31)) 23 rfl rfl rfl rfl ?_
  refine x_cst (.int 255) 3 26 rfl rfl rfl ?_
  refine x_bin (byt x 2) 27 rfl rfl (byS_2 x) rfl ?_
  refine x_st 6 2 0 29 [some (.ref m), some (.int x), some (.int 2), some (.int 1), some (.int 0), some (.int 2), some (.int (byt x 2))] rfl rfl rfl (Nat.le_of_ble_eq_true rfl) rfl rfl ?_
  refine x_ld 3 1 0 30 rfl rfl rfl rfl rfl ?_
  refine x_ifeq 42 33 rfl rfl rfl (fun c => absurd c (by decide)) (fun _ => ?_)
  refine x_ld 6 2 0 35 rfl rfl rfl rfl rfl ?_
  refine x_ifeq 42 38 rfl rfl rfl (fun _ => ?_) (fun c => absurd Z c)
  refine x_cst (.int 0) 1 43 rfl rfl rfl ?_
  refine x_st 3 1 0 44 [some (.ref m), some (.int x), some (.int 2), some (.int 0), some (.int 0), some (.int 2), some (.int (byt x 2))] rfl rfl rfl (Nat.le_of_ble_eq_true rfl) rfl rfl ?_
  refine x_ld 4 2 0 46 rfl rfl rfl rfl rfl ?_
  refine x_ifne 67 49 rfl rfl rfl (fun c => absurd (by decide) c) (fun _ => ?_)
  refine x_ld 3 1 0 50 rfl rfl rfl rfl rfl ?_
  refine x_ifeq 71 53 rfl rfl rfl (fun _ => ?_) (fun c => absurd (by decide) c)
  refine x_cst (.int 0) 1 72 rfl rfl rfl ?_
  refine x_st 4 2 0 74 [some (.ref m), some (.int x), some (.int 2), some (.int 0), some (.int 0), some (.int 2), some (.int (byt x 2))] rfl rfl rfl (Nat.le_of_ble_eq_true rfl) rfl rfl ?_
  refine x_ld 3 1 0 75 rfl rfl rfl rfl rfl ?_
  refine x_ifeq 84 78 rfl rfl rfl (fun _ => ?_) (fun c => absurd (by decide) c)
  refine x_ld 2 1 0 85 rfl rfl rfl rfl rfl ?_
  refine x_st 2 1 0 86 [some (.ref m), some (.int x), some (.int 2), some (.int 0), some (.int 0), some (.int 2), some (.int (byt x 2))] rfl rfl rfl (Nat.le_of_ble_eq_true rfl) rfl rfl ?_
  refine x_inc 5 1 1 89 [some (.ref m), some (.int x), some (.int 2), some (.int 0), some (.int 0), some (.int 3), some (.int (byt x 2))] rfl rfl (Nat.le_of_ble_eq_true rfl) rfl rfl rfl ?_
  refine x_go 10 rfl rfl ?_
  refine x_ld 5 2 0 12 rfl rfl rfl rfl rfl ?_
  refine x_cst (.int 4) 1 13 rfl rfl rfl ?_
  refine x_icge 92 16 rfl rfl rfl (fun c => absurd c (by decide)) (fun _ => ?_)
  refine x_ld 1 1 0 17 rfl rfl rfl rfl rfl ?_
  refine x_cst (.int 8) 2 19 rfl rfl rfl ?_
  refine x_ld 5 2 0 21 rfl rfl rfl rfl rfl ?_
  refine x_bin (24) 22 rfl rfl rfl rfl ?_
  refine x_bin (x >>> (24 &&& 31)) 23 rfl rfl rfl rfl ?_
  refine x_cst (.int 255) 3 26 rfl rfl rfl ?_
  refine x_bin (byt x 3) 27 rfl rfl (byS_3 x) rfl ?_
  refine x_st 6 2 0 29 [some (.ref m), some (.int x), some (.int 2), some (.int 0), some (.int 0), some (.int 3), some (.int (byt x 3))] rfl rfl rfl (Nat.le_of_ble_eq_true rfl) rfl rfl ?_
  refine x_ld 3 1 0 30 rfl rfl rfl rfl rfl ?_
  refine x_ifeq 42 33 rfl rfl rfl (fun _ => ?_) (fun c => absurd (by decide) c)
  refine x_cst (.int 0) 1 43 rfl rfl rfl ?_
  refine x_st 3 1 0 44 [some (.ref m), some (.int x), some (.int 2), some (.int 0), some (.int 0), some (.int 3), some (.int (byt x 3))] rfl rfl rfl (Nat.le_of_ble_eq_true rfl) rfl rfl ?_
  refine x_ld 4 2 0 46 rfl rfl rfl rfl rfl ?_
  refine x_ifne 67 49 rfl rfl rfl (fun c => absurd (by decide) c) (fun _ => ?_)
  refine x_ld 3 1 0 50 rfl rfl rfl rfl rfl ?_
  refine x_ifeq 71 53 rfl rfl rfl (fun _ => ?_) (fun c => absurd (by decide) c)
  refine x_cst (.int 0) 1 72 rfl rfl rfl ?_
  refine x_st 4 2 0 74 [some (.ref m), some (.int x), some (.int 2), some (.int 0), some (.int 0), some (.int 3), some (.int (byt x 3))] rfl rfl rfl (Nat.le_of_ble_eq_true rfl) rfl rfl ?_
  refine x_ld 3 1 0 75 rfl rfl rfl rfl rfl ?_
  refine x_ifeq 84 78 rfl rfl rfl (fun _ => ?_) (fun c => absurd (by decide) c)
  refine x_ld 2 1 0 85 rfl rfl rfl rfl rfl ?_
  refine x_st 2 1 0 86 [some (.ref m), some (.int x), some (.int 2), some (.int 0), some (.int 0), some (.int 3), some (.int (byt x 3))] rfl rfl rfl (Nat.le_of_ble_eq_true rfl) rfl rfl ?_
  refine x_inc 5 1 1 89 [some (.ref m), some (.int x), some (.int 2), some (.int 0), some (.int 0), some (.int 4), some (.int (byt x 3))] rfl rfl (Nat.le_of_ble_eq_true rfl) rfl rfl rfl ?_
  refine x_go 10 rfl rfl ?_
  refine x_ld 5 2 0 12 rfl rfl rfl rfl rfl ?_
  refine x_cst (.int 4) 1 13 rfl rfl rfl ?_
  refine x_icge 92 16 rfl rfl rfl (fun _ => ?_) (fun c => absurd (by decide) c)
  refine x_ld 0 1 2 93 rfl rfl rfl rfl rfl ?_
  refine x_ld 4 2 0 95 rfl rfl rfl rfl rfl ?_
  refine x_ifeq 102 98 rfl rfl rfl (fun _ => ?_) (fun c => absurd (by decide) c)
  refine x_cst (.int 0) 1 103 rfl rfl rfl ?_
  refine x_put 159 5 2 106 rfl rfl hm (by simp only [List.length_set, hfs]; omega) rfl rfl rfl _ rfl rfl ?_
  refine x_ld 4 2 0 108 rfl rfl rfl rfl rfl ?_
  refine x_ifne 122 111 rfl rfl rfl (fun c => absurd (by decide) c) (fun _ => ?_)
  refine x_ld 0 1 2 112 rfl rfl rfl rfl rfl ?_
  refine x_get 162 5 4 115 rfl rfl (set_at hm) ((fs_ne (by decide)).trans h4) rfl ?_
  refine x_ld 2 1 0 116 rfl rfl rfl rfl rfl ?_
  refine x_bin (Int32.ofNat (n + 2)) 117 rfl rfl (i32_add n 2) rfl ?_
  refine x_cst (.int 16) 2 119 rfl rfl rfl ?_
  refine x_icle 124 122 rfl rfl rfl (fun _ => ?_) (fun c => absurd ((i32_le 16 (n + 2) (by decide) (by omega)).mpr hf) c)
  refine x_cst (.int 0) 1 125 rfl rfl rfl ?_
  refine x_st 5 2 0 127 [some (.ref m), some (.int x), some (.int 2), some (.int 0), some (.int 0), some (.int 0), some (.int (byt x 3))] rfl rfl rfl (Nat.le_of_ble_eq_true rfl) rfl rfl ?_
  refine x_ld 5 2 0 129 rfl rfl rfl rfl rfl ?_
  refine x_ld 2 1 0 130 rfl rfl rfl rfl rfl ?_
  refine x_icge 169 133 rfl rfl rfl (fun c => absurd c (by decide)) (fun _ => ?_)
  refine x_ld 0 1 2 134 rfl rfl rfl rfl rfl ?_
  refine x_get 16 5 3 137 rfl rfl (set_at hm) ((fs_ne (by decide)).trans h3) rfl ?_
  refine x_ld 0 1 2 138 rfl rfl rfl rfl rfl ?_
  refine x_get 162 5 4 141 rfl rfl (set_at hm) ((fs_ne (by decide)).trans h4) rfl ?_
  refine x_ld 1 1 0 142 rfl rfl rfl rfl rfl ?_
  refine x_cst (.int 8) 2 144 rfl rfl rfl ?_
  refine x_ld 5 2 0 146 rfl rfl rfl rfl rfl ?_
  refine x_bin (0) 147 rfl rfl rfl rfl ?_
  refine x_bin (x >>> (0 &&& 31)) 148 rfl rfl rfl rfl ?_
  refine x_cst (.int 255) 3 151 rfl rfl rfl ?_
  refine x_bin (byt x 0) 152 rfl rfl (byS_0 x) rfl ?_
  refine x_ist 153 rfl ((set_ne (Ne.symm hne)).trans hl) rfl (i32_in n 16 (by omega) (by decide)) _ (by rw [i32_nat n (by omega)]) rfl ?_
  refine x_ld 0 1 2 154 rfl rfl rfl rfl rfl ?_
  refine x_dup 155 rfl rfl rfl ?_
  refine x_get 162 5 4 158 rfl rfl ((set_ne hne).trans (set_at hm)) ((fs_ne (by decide)).trans h4) rfl ?_
  refine x_cst (.int 1) 1 159 rfl rfl rfl ?_
  refine x_bin (Int32.ofNat (n + 1)) 160 rfl rfl (i32_add n 1) rfl ?_
  refine x_put 162 5 4 163 rfl rfl ((set_ne hne).trans (set_at hm)) (by simp only [List.length_set, hfs]; omega) rfl rfl rfl _ rfl rfl ?_
  refine x_inc 5 1 1 166 [some (.ref m), some (.int x), some (.int 2), some (.int 0), some (.int 0), some (.int 1), some (.int (byt x 3))] rfl rfl (Nat.le_of_ble_eq_true rfl) rfl rfl rfl ?_
  refine x_go 127 rfl rfl ?_
  refine x_ld 5 2 0 129 rfl rfl rfl rfl rfl ?_
  refine x_ld 2 1 0 130 rfl rfl rfl rfl rfl ?_
  refine x_icge 169 133 rfl rfl rfl (fun c => absurd c (by decide)) (fun _ => ?_)
  refine x_ld 0 1 2 134 rfl rfl rfl rfl rfl ?_
  refine x_get 16 5 3 137 rfl rfl (set_at ((set_ne hne).trans (set_at hm))) ((fs_ne (by decide)).trans ((fs_ne (by decide)).trans h3)) rfl ?_
  refine x_ld 0 1 2 138 rfl rfl rfl rfl rfl ?_
  refine x_get 162 5 4 141 rfl rfl (set_at ((set_ne hne).trans (set_at hm))) (fs_at (by simp only [List.length_set, hfs]; omega)) rfl ?_
  refine x_ld 1 1 0 142 rfl rfl rfl rfl rfl ?_
  refine x_cst (.int 8) 2 144 rfl rfl rfl ?_
  refine x_ld 5 2 0 146 rfl rfl rfl rfl rfl ?_
  refine x_bin (8) 147 rfl rfl rfl rfl ?_
  refine x_bin (x >>> (8 &&& 31)) 148 rfl rfl rfl rfl ?_
  refine x_cst (.int 255) 3 151 rfl rfl rfl ?_
  refine x_bin (byt x 1) 152 rfl rfl (byS_1 x) rfl ?_
  refine x_ist 153 rfl ((set_ne (Ne.symm hne)).trans (set_at ((set_ne (Ne.symm hne)).trans hl))) rfl (i32_in (n + 1) 16 (by omega) (by decide)) _ (by rw [i32_nat (n + 1) (by omega)]) rfl ?_
  refine x_ld 0 1 2 154 rfl rfl rfl rfl rfl ?_
  refine x_dup 155 rfl rfl rfl ?_
  refine x_get 162 5 4 158 rfl rfl ((set_ne hne).trans (set_at ((set_ne hne).trans (set_at hm)))) (fs_at (by simp only [List.length_set, hfs]; omega)) rfl ?_
  refine x_cst (.int 1) 1 159 rfl rfl rfl ?_
  refine x_bin (Int32.ofNat (n + 2)) 160 rfl rfl (i32_add (n + 1) 1) rfl ?_
  refine x_put 162 5 4 163 rfl rfl ((set_ne hne).trans (set_at ((set_ne hne).trans (set_at hm)))) (by simp only [List.length_set, hfs]; omega) rfl rfl rfl _ rfl rfl ?_
  refine x_inc 5 1 1 166 [some (.ref m), some (.int x), some (.int 2), some (.int 0), some (.int 0), some (.int 2), some (.int (byt x 3))] rfl rfl (Nat.le_of_ble_eq_true rfl) rfl rfl rfl ?_
  refine x_go 127 rfl rfl ?_
  refine x_ld 5 2 0 129 rfl rfl rfl rfl rfl ?_
  refine x_ld 2 1 0 130 rfl rfl rfl rfl rfl ?_
  refine x_icge 169 133 rfl rfl rfl (fun _ => ?_) (fun c => absurd (by decide) c)
  refine x_cst (.int 1) 1 170 rfl rfl rfl ?_
  refine x_ret rfl rfl rfl rfl ?_
  exact ⟨rfl, t104_h2 hne⟩
theorem f104_2 (d : Nat) {h : ab_H} {m ml n : Nat} {x : Int32} {g : Nat → Int32} {fs : List Value} (hm : h[m]? = some (.inr (5, fs))) (hfs : fs.length = 68) (h3 : fs[3]? = some (.ref ml)) (h4 : fs[4]? = some (.int (Int32.ofNat n))) (hl : h[ml]? = some (.inl (0, 16, .inl g))) (hne : ml ≠ m) (hn : n ≤ 16) (H : okc x 2) (hf : ¬ n + 2 ≤ 16) : ab_S (pg_G L xs) (d + 1) 104 [.ref m, .int x] h (some (.int 0)) (h.set m (.inr (5, fs.set 2 (.int 0)))) := by
  show ab_W (pg_G L xs) (ab_X (pg_G L xs) d) 104 _ 0 [some (.ref m), some (.int x), none, none, none, none, none] [] h
  have K0 : 32 ≤ byt x 0 ∧ byt x 0 ≤ 126 := H.1 0 (by decide)
  have K1 : 32 ≤ byt x 1 ∧ byt x 1 ≤ 126 := H.1 1 (by decide)
  have Z := H.2 (by decide)
  refine x_cst (.int 0) 1 1 rfl rfl rfl ?_
  refine x_st 2 1 0 2 [some (.ref m), some (.int x), some (.int 0), none, none, none, none] rfl rfl rfl (Nat.le_of_ble_eq_true rfl) rfl rfl ?_
  refine x_cst (.int 1) 1 3 rfl rfl rfl ?_
  refine x_st 3 1 0 4 [some (.ref m), some (.int x), some (.int 0), some (.int 1), none, none, none] rfl rfl rfl (Nat.le_of_ble_eq_true rfl) rfl rfl ?_
  refine x_cst (.int 0) 1 5 rfl rfl rfl ?_
  refine x_st 4 2 0 7 [some (.ref m), some (.int x), some (.int 0), some (.int 1), some (.int 0), none, none] rfl rfl rfl (Nat.le_of_ble_eq_true rfl) rfl rfl ?_
  refine x_cst (.int 0) 1 8 rfl rfl rfl ?_
  refine x_st 5 2 0 10 [some (.ref m), some (.int x), some (.int 0), some (.int 1), some (.int 0), some (.int 0), none] rfl rfl rfl (Nat.le_of_ble_eq_true rfl) rfl rfl ?_
  refine x_ld 5 2 0 12 rfl rfl rfl rfl rfl ?_
  refine x_cst (.int 4) 1 13 rfl rfl rfl ?_
  refine x_icge 92 16 rfl rfl rfl (fun c => absurd c (by decide)) (fun _ => ?_)
  refine x_ld 1 1 0 17 rfl rfl rfl rfl rfl ?_
  refine x_cst (.int 8) 2 19 rfl rfl rfl ?_
  refine x_ld 5 2 0 21 rfl rfl rfl rfl rfl ?_
  refine x_bin (0) 22 rfl rfl rfl rfl ?_
  refine x_bin (x >>> (0 &&& 31)) 23 rfl rfl rfl rfl ?_
  refine x_cst (.int 255) 3 26 rfl rfl rfl ?_
  refine x_bin (byt x 0) 27 rfl rfl (byS_0 x) rfl ?_
  refine x_st 6 2 0 29 [some (.ref m), some (.int x), some (.int 0), some (.int 1), some (.int 0), some (.int 0), some (.int (byt x 0))] rfl rfl rfl (Nat.le_of_ble_eq_true rfl) rfl rfl ?_
  refine x_ld 3 1 0 30 rfl rfl rfl rfl rfl ?_
  refine x_ifeq 42 33 rfl rfl rfl (fun c => absurd c (by decide)) (fun _ => ?_)
  refine x_ld 6 2 0 35 rfl rfl rfl rfl rfl ?_
  refine x_ifeq 42 38 rfl rfl rfl (fun c => absurd c (nz32 K0.1)) (fun _ => ?_)
  refine x_cst (.int 1) 1 39 rfl rfl rfl ?_
  refine x_go 43 rfl rfl ?_
  refine x_st 3 1 0 44 [some (.ref m), some (.int x), some (.int 0), some (.int 1), some (.int 0), some (.int 0), some (.int (byt x 0))] rfl rfl rfl (Nat.le_of_ble_eq_true rfl) rfl rfl ?_
  refine x_ld 4 2 0 46 rfl rfl rfl rfl rfl ?_
  refine x_ifne 67 49 rfl rfl rfl (fun c => absurd (by decide) c) (fun _ => ?_)
  refine x_ld 3 1 0 50 rfl rfl rfl rfl rfl ?_
  refine x_ifeq 71 53 rfl rfl rfl (fun c => absurd c (by decide)) (fun _ => ?_)
  refine x_ld 6 2 0 55 rfl rfl rfl rfl rfl ?_
  refine x_cst (.int 32) 2 57 rfl rfl rfl ?_
  refine x_iclt 67 60 rfl rfl rfl (fun c => absurd c (Int32.not_lt.mpr K0.1)) (fun _ => ?_)
  refine x_ld 6 2 0 62 rfl rfl rfl rfl rfl ?_
  refine x_cst (.int 126) 2 64 rfl rfl rfl ?_
  refine x_icle 71 67 rfl rfl rfl (fun _ => ?_) (fun c => absurd K0.2 c)
  refine x_cst (.int 0) 1 72 rfl rfl rfl ?_
  refine x_st 4 2 0 74 [some (.ref m), some (.int x), some (.int 0), some (.int 1), some (.int 0), some (.int 0), some (.int (byt x 0))] rfl rfl rfl (Nat.le_of_ble_eq_true rfl) rfl rfl ?_
  refine x_ld 3 1 0 75 rfl rfl rfl rfl rfl ?_
  refine x_ifeq 84 78 rfl rfl rfl (fun c => absurd c (by decide)) (fun _ => ?_)
  refine x_ld 2 1 0 79 rfl rfl rfl rfl rfl ?_
  refine x_cst (.int 1) 1 80 rfl rfl rfl ?_
  refine x_bin (1) 81 rfl rfl rfl rfl ?_
  refine x_go 85 rfl rfl ?_
  refine x_st 2 1 0 86 [some (.ref m), some (.int x), some (.int 1), some (.int 1), some (.int 0), some (.int 0), some (.int (byt x 0))] rfl rfl rfl (Nat.le_of_ble_eq_true rfl) rfl rfl ?_
  refine x_inc 5 1 1 89 [some (.ref m), some (.int x), some (.int 1), some (.int 1), some (.int 0), some (.int 1), some (.int (byt x 0))] rfl rfl (Nat.le_of_ble_eq_true rfl) rfl rfl rfl ?_
  refine x_go 10 rfl rfl ?_
  refine x_ld 5 2 0 12 rfl rfl rfl rfl rfl ?_
  refine x_cst (.int 4) 1 13 rfl rfl rfl ?_
  refine x_icge 92 16 rfl rfl rfl (fun c => absurd c (by decide)) (fun _ => ?_)
  refine x_ld 1 1 0 17 rfl rfl rfl rfl rfl ?_
  refine x_cst (.int 8) 2 19 rfl rfl rfl ?_
  refine x_ld 5 2 0 21 rfl rfl rfl rfl rfl ?_
  refine x_bin (8) 22 rfl rfl rfl rfl ?_
  refine x_bin (x >>> (8 &&& 31)) 23 rfl rfl rfl rfl ?_
  refine x_cst (.int 255) 3 26 rfl rfl rfl ?_
  refine x_bin (byt x 1) 27 rfl rfl (byS_1 x) rfl ?_
  refine x_st 6 2 0 29 [some (.ref m), some (.int x), some (.int 1), some (.int 1), some (.int 0), some (.int 1), some (.int (byt x 1))] rfl rfl rfl (Nat.le_of_ble_eq_true rfl) rfl rfl ?_
  refine x_ld 3 1 0 30 rfl rfl rfl rfl rfl ?_
  refine x_ifeq 42 33 rfl rfl rfl (fun c => absurd c (by decide)) (fun _ => ?_)
  refine x_ld 6 2 0 35 rfl rfl rfl rfl rfl ?_
  refine x_ifeq 42 38 rfl rfl rfl (fun c => absurd c (nz32 K1.1)) (fun _ => ?_)
  refine x_cst (.int 1) 1 39 rfl rfl rfl ?_
  refine x_go 43 rfl rfl ?_
  refine x_st 3 1 0 44 [some (.ref m), some (.int x), some (.int 1), some (.int 1), some (.int 0), some (.int 1), some (.int (byt x 1))] rfl rfl rfl (Nat.le_of_ble_eq_true rfl) rfl rfl ?_
  refine x_ld 4 2 0 46 rfl rfl rfl rfl rfl ?_
  refine x_ifne 67 49 rfl rfl rfl (fun c => absurd (by decide) c) (fun _ => ?_)
  refine x_ld 3 1 0 50 rfl rfl rfl rfl rfl ?_
  refine x_ifeq 71 53 rfl rfl rfl (fun c => absurd c (by decide)) (fun _ => ?_)
  refine x_ld 6 2 0 55 rfl rfl rfl rfl rfl ?_
  refine x_cst (.int 32) 2 57 rfl rfl rfl ?_
  refine x_iclt 67 60 rfl rfl rfl (fun c => absurd c (Int32.not_lt.mpr K1.1)) (fun _ => ?_)
  refine x_ld 6 2 0 62 rfl rfl rfl rfl rfl ?_
  refine x_cst (.int 126) 2 64 rfl rfl rfl ?_
  refine x_icle 71 67 rfl rfl rfl (fun _ => ?_) (fun c => absurd K1.2 c)
  refine x_cst (.int 0) 1 72 rfl rfl rfl ?_
  refine x_st 4 2 0 74 [some (.ref m), some (.int x), some (.int 1), some (.int 1), some (.int 0), some (.int 1), some (.int (byt x 1))] rfl rfl rfl (Nat.le_of_ble_eq_true rfl) rfl rfl ?_
  refine x_ld 3 1 0 75 rfl rfl rfl rfl rfl ?_
  refine x_ifeq 84 78 rfl rfl rfl (fun c => absurd c (by decide)) (fun _ => ?_)
  refine x_ld 2 1 0 79 rfl rfl rfl rfl rfl ?_
  refine x_cst (.int 1) 1 80 rfl rfl rfl ?_
  refine x_bin (2) 81 rfl rfl rfl rfl ?_
  refine x_go 85 rfl rfl ?_
  refine x_st 2 1 0 86 [some (.ref m), some (.int x), some (.int 2), some (.int 1), some (.int 0), some (.int 1), some (.int (byt x 1))] rfl rfl rfl (Nat.le_of_ble_eq_true rfl) rfl rfl ?_
  refine x_inc 5 1 1 89 [some (.ref m), some (.int x), some (.int 2), some (.int 1), some (.int 0), some (.int 2), some (.int (byt x 1))] rfl rfl (Nat.le_of_ble_eq_true rfl) rfl rfl rfl ?_
  refine x_go 10 rfl rfl ?_
  refine x_ld 5 2 0 12 rfl rfl rfl rfl rfl ?_
  refine x_cst (.int 4) 1 13 rfl rfl rfl ?_
  refine x_icge 92 16 rfl rfl rfl (fun c => absurd c (by decide)) (fun _ => ?_)
  refine x_ld 1 1 0 17 rfl rfl rfl rfl rfl ?_
  refine x_cst (.int 8) 2 19 rfl rfl rfl ?_
  refine x_ld 5 2 0 21 rfl rfl rfl rfl rfl ?_
  refine x_bin (16) 22 rfl rfl rfl rfl ?_
  refine x_bin (x >>> (16 &&& 31)) 23 rfl rfl rfl rfl ?_
  refine x_cst (.int 255) 3 26 rfl rfl rfl ?_
  refine x_bin (byt x 2) 27 rfl rfl (byS_2 x) rfl ?_
  refine x_st 6 2 0 29 [some (.ref m), some (.int x), some (.int 2), some (.int 1), some (.int 0), some (.int 2), some (.int (byt x 2))] rfl rfl rfl (Nat.le_of_ble_eq_true rfl) rfl rfl ?_
  refine x_ld 3 1 0 30 rfl rfl rfl rfl rfl ?_
  refine x_ifeq 42 33 rfl rfl rfl (fun c => absurd c (by decide)) (fun _ => ?_)
  refine x_ld 6 2 0 35 rfl rfl rfl rfl rfl ?_
  refine x_ifeq 42 38 rfl rfl rfl (fun _ => ?_) (fun c => absurd Z c)
  refine x_cst (.int 0) 1 43 rfl rfl rfl ?_
  refine x_st 3 1 0 44 [some (.ref m), some (.int x), some (.int 2), some (.int 0), some (.int 0), some (.int 2), some (.int (byt x 2))] rfl rfl rfl (Nat.le_of_ble_eq_true rfl) rfl rfl ?_
  refine x_ld 4 2 0 46 rfl rfl rfl rfl rfl ?_
  refine x_ifne 67 49 rfl rfl rfl (fun c => absurd (by decide) c) (fun _ => ?_)
  refine x_ld 3 1 0 50 rfl rfl rfl rfl rfl ?_
  refine x_ifeq 71 53 rfl rfl rfl (fun _ => ?_) (fun c => absurd (by decide) c)
  refine x_cst (.int 0) 1 72 rfl rfl rfl ?_
  refine x_st 4 2 0 74 [some (.ref m), some (.int x), some (.int 2), some (.int 0), some (.int 0), some (.int 2), some (.int (byt x 2))] rfl rfl rfl (Nat.le_of_ble_eq_true rfl) rfl rfl ?_
  refine x_ld 3 1 0 75 rfl rfl rfl rfl rfl ?_
  refine x_ifeq 84 78 rfl rfl rfl (fun _ => ?_) (fun c => absurd (by decide) c)
  refine x_ld 2 1 0 85 rfl rfl rfl rfl rfl ?_
  refine x_st 2 1 0 86 [some (.ref m), some (.int x), some (.int 2), some (.int 0), some (.int 0), some (.int 2), some (.int (byt x 2))] rfl rfl rfl (Nat.le_of_ble_eq_true rfl) rfl rfl ?_
  refine x_inc 5 1 1 89 [some (.ref m), some (.int x), some (.int 2), some (.int 0), some (.int 0), some (.int 3), some (.int (byt x 2))] rfl rfl (Nat.le_of_ble_eq_true rfl) rfl rfl rfl ?_
  refine x_go 10 rfl rfl ?_
  refine x_ld 5 2 0 12 rfl rfl rfl rfl rfl ?_
  refine x_cst (.int 4) 1 13 rfl rfl rfl ?_
  refine x_icge 92 16 rfl rfl rfl (fun c => absurd c (by decide)) (fun _ => ?_)
  refine x_ld 1 1 0 17 rfl rfl rfl rfl rfl ?_
  refine x_cst (.int 8) 2 19 rfl rfl rfl ?_
  refine x_ld 5 2 0 21 rfl rfl rfl rfl rfl ?_
  refine x_bin (24) 22 rfl rfl rfl rfl ?_
  refine x_bin (x >>> (24 &&& 31)) 23 rfl rfl rfl rfl ?_
  refine x_cst (.int 255) 3 26 rfl rfl rfl ?_
  refine x_bin (byt x 3) 27 rfl rfl (byS_3 x) rfl ?_
  refine x_st 6 2 0 29 [some (.ref m), some (.int x), some (.int 2), some (.int 0), some (.int 0), some (.int 3), some (.int (byt x 3))] rfl rfl rfl (Nat.le_of_ble_eq_true rfl) rfl rfl ?_
  refine x_ld 3 1 0 30 rfl rfl rfl rfl rfl ?_
  refine x_ifeq 42 33 rfl rfl rfl (fun _ => ?_) (fun c => absurd (by decide) c)
  refine x_cst (.int 0) 1 43 rfl rfl rfl ?_
  refine x_st 3 1 0 44 [some (.ref m), some (.int x), some (.int 2), some (.int 0), some (.int 0), some (.int 3), some (.int (byt x 3))] rfl rfl rfl (Nat.le_of_ble_eq_true rfl) rfl rfl ?_
  refine x_ld 4 2 0 46 rfl rfl rfl rfl rfl ?_
  refine x_ifne 67 49 rfl rfl rfl (fun c => absurd (by decide) c) (fun _ => ?_)
  refine x_ld 3 1 0 50 rfl rfl rfl rfl rfl ?_
  refine x_ifeq 71 53 rfl rfl rfl (fun _ => ?_) (fun c => absurd (by decide) c)
  refine x_cst (.int 0) 1 72 rfl rfl rfl ?_
  refine x_st 4 2 0 74 [some (.ref m), some (.int x), some (.int 2), some (.int 0), some (.int 0), some (.int 3), some (.int (byt x 3))] rfl rfl rfl (Nat.le_of_ble_eq_true rfl) rfl rfl ?_
  refine x_ld 3 1 0 75 rfl rfl rfl rfl rfl ?_
  refine x_ifeq 84 78 rfl rfl rfl (fun _ => ?_) (fun c => absurd (by decide) c)
  refine x_ld 2 1 0 85 rfl rfl rfl rfl rfl ?_
  refine x_st 2 1 0 86 [some (.ref m), some (.int x), some (.int 2), some (.int 0), some (.int 0), some (.int 3), some (.int (byt x 3))] rfl rfl rfl (Nat.le_of_ble_eq_true rfl) rfl rfl ?_
  refine x_inc 5 1 1 89 [some (.ref m), some (.int x), some (.int 2), some (.int 0), some (.int 0), some (.int 4), some (.int (byt x 3))] rfl rfl (Nat.le_of_ble_eq_true rfl) rfl rfl rfl ?_
  refine x_go 10 rfl rfl ?_
  refine x_ld 5 2 0 12 rfl rfl rfl rfl rfl ?_
  refine x_cst (.int 4) 1 13 rfl rfl rfl ?_
  refine x_icge 92 16 rfl rfl rfl (fun _ => ?_) (fun c => absurd (by decide) c)
  refine x_ld 0 1 2 93 rfl rfl rfl rfl rfl ?_
  refine x_ld 4 2 0 95 rfl rfl rfl rfl rfl ?_
  refine x_ifeq 102 98 rfl rfl rfl (fun _ => ?_) (fun c => absurd (by decide) c)
  refine x_cst (.int 0) 1 103 rfl rfl rfl ?_
  refine x_put 159 5 2 106 rfl rfl hm (by simp only [List.length_set, hfs]; omega) rfl rfl rfl _ rfl rfl ?_
  refine x_ld 4 2 0 108 rfl rfl rfl rfl rfl ?_
  refine x_ifne 122 111 rfl rfl rfl (fun c => absurd (by decide) c) (fun _ => ?_)
  refine x_ld 0 1 2 112 rfl rfl rfl rfl rfl ?_
  refine x_get 162 5 4 115 rfl rfl (set_at hm) ((fs_ne (by decide)).trans h4) rfl ?_
  refine x_ld 2 1 0 116 rfl rfl rfl rfl rfl ?_
  refine x_bin (Int32.ofNat (n + 2)) 117 rfl rfl (i32_add n 2) rfl ?_
  refine x_cst (.int 16) 2 119 rfl rfl rfl ?_
  refine x_icle 124 122 rfl rfl rfl (fun c => absurd c (fun z => absurd ((i32_le 16 (n + 2) (by decide) (by omega)).mp z) (by omega))) (fun _ => ?_)
  refine x_cst (.int 0) 1 123 rfl rfl rfl ?_
  refine x_ret rfl rfl rfl rfl ?_
  exact ⟨rfl, rfl⟩
theorem b104_2 (d : Nat) {h : ab_H} {m ml n : Nat} {x : Int32} {g : Nat → Int32} {fs : List Value} (hm : h[m]? = some (.inr (5, fs))) (hfs : fs.length = 68) (h3 : fs[3]? = some (.ref ml)) (h4 : fs[4]? = some (.int (Int32.ofNat n))) (hl : h[ml]? = some (.inl (0, 16, .inl g))) (hne : ml ≠ m) (hn : n ≤ 16) (H : bdc x 2) : ab_S (pg_G L xs) (d + 1) 104 [.ref m, .int x] h (some (.int 0)) (h.set m (.inr (5, fs.set 2 (.int 1)))) := by
  show ab_W (pg_G L xs) (ab_X (pg_G L xs) d) 104 _ 0 [some (.ref m), some (.int x), none, none, none, none, none] [] h
  have K0 : 32 ≤ byt x 0 ∧ byt x 0 ≤ 126 := H.1 0 (by decide)
  have K1 : 32 ≤ byt x 1 ∧ byt x 1 ≤ 126 := H.1 1 (by decide)
  obtain ⟨-, B0, B1 | ⟨B1, B2⟩⟩ := H
  · refine x_cst (.int 0) 1 1 rfl rfl rfl ?_
    refine x_st 2 1 0 2 [some (.ref m), some (.int x), some (.int 0), none, none, none, none] rfl rfl rfl (Nat.le_of_ble_eq_true rfl) rfl rfl ?_
    refine x_cst (.int 1) 1 3 rfl rfl rfl ?_
    refine x_st 3 1 0 4 [some (.ref m), some (.int x), some (.int 0), some (.int 1), none, none, none] rfl rfl rfl (Nat.le_of_ble_eq_true rfl) rfl rfl ?_
    refine x_cst (.int 0) 1 5 rfl rfl rfl ?_
    refine x_st 4 2 0 7 [some (.ref m), some (.int x), some (.int 0), some (.int 1), some (.int 0), none, none] rfl rfl rfl (Nat.le_of_ble_eq_true rfl) rfl rfl ?_
    refine x_cst (.int 0) 1 8 rfl rfl rfl ?_
    refine x_st 5 2 0 10 [some (.ref m), some (.int x), some (.int 0), some (.int 1), some (.int 0), some (.int 0), none] rfl rfl rfl (Nat.le_of_ble_eq_true rfl) rfl rfl ?_
    refine x_ld 5 2 0 12 rfl rfl rfl rfl rfl ?_
    refine x_cst (.int 4) 1 13 rfl rfl rfl ?_
    refine x_icge 92 16 rfl rfl rfl (fun c => absurd c (by decide)) (fun _ => ?_)
    refine x_ld 1 1 0 17 rfl rfl rfl rfl rfl ?_
    refine x_cst (.int 8) 2 19 rfl rfl rfl ?_
    refine x_ld 5 2 0 21 rfl rfl rfl rfl rfl ?_
    refine x_bin (0) 22 rfl rfl rfl rfl ?_
    refine x_bin (x >>> (0 &&& 31)) 23 rfl rfl rfl rfl ?_
    refine x_cst (.int 255) 3 26 rfl rfl rfl ?_
    refine x_bin (byt x 0) 27 rfl rfl (byS_0 x) rfl ?_
    refine x_st 6 2 0 29 [some (.ref m), some (.int x), some (.int 0), some (.int 1), some (.int 0), some (.int 0), some (.int (byt x 0))] rfl rfl rfl (Nat.le_of_ble_eq_true rfl) rfl rfl ?_
    refine x_ld 3 1 0 30 rfl rfl rfl rfl rfl ?_
    refine x_ifeq 42 33 rfl rfl rfl (fun c => absurd c (by decide)) (fun _ => ?_)
    refine x_ld 6 2 0 35 rfl rfl rfl rfl rfl ?_
    refine x_ifeq 42 38 rfl rfl rfl (fun c => absurd c (nz32 K0.1)) (fun _ => ?_)
    refine x_cst (.int 1) 1 39 rfl rfl rfl ?_
    refine x_go 43 rfl rfl ?_
    refine x_st 3 1 0 44 [some (.ref m), some (.int x), some (.int 0), some (.int 1), some (.int 0), some (.int 0), some (.int (byt x 0))] rfl rfl rfl (Nat.le_of_ble_eq_true rfl) rfl rfl ?_
    refine x_ld 4 2 0 46 rfl rfl rfl rfl rfl ?_
    refine x_ifne 67 49 rfl rfl rfl (fun c => absurd (by decide) c) (fun _ => ?_)
    refine x_ld 3 1 0 50 rfl rfl rfl rfl rfl ?_
    refine x_ifeq 71 53 rfl rfl rfl (fun c => absurd c (by decide)) (fun _ => ?_)
    refine x_ld 6 2 0 55 rfl rfl rfl rfl rfl ?_
    refine x_cst (.int 32) 2 57 rfl rfl rfl ?_
    refine x_iclt 67 60 rfl rfl rfl (fun c => absurd c (Int32.not_lt.mpr K0.1)) (fun _ => ?_)
    refine x_ld 6 2 0 62 rfl rfl rfl rfl rfl ?_
    refine x_cst (.int 126) 2 64 rfl rfl rfl ?_
    refine x_icle 71 67 rfl rfl rfl (fun _ => ?_) (fun c => absurd K0.2 c)
    refine x_cst (.int 0) 1 72 rfl rfl rfl ?_
    refine x_st 4 2 0 74 [some (.ref m), some (.int x), some (.int 0), some (.int 1), some (.int 0), some (.int 0), some (.int (byt x 0))] rfl rfl rfl (Nat.le_of_ble_eq_true rfl) rfl rfl ?_
    refine x_ld 3 1 0 75 rfl rfl rfl rfl rfl ?_
    refine x_ifeq 84 78 rfl rfl rfl (fun c => absurd c (by decide)) (fun _ => ?_)
    refine x_ld 2 1 0 79 rfl rfl rfl rfl rfl ?_
    refine x_cst (.int 1) 1 80 rfl rfl rfl ?_
    refine x_bin (1) 81 rfl rfl rfl rfl ?_
    refine x_go 85 rfl rfl ?_
    refine x_st 2 1 0 86 [some (.ref m), some (.int x), some (.int 1), some (.int 1), some (.int 0), some (.int 0), some (.int (byt x 0))] rfl rfl rfl (Nat.le_of_ble_eq_true rfl) rfl rfl ?_
    refine x_inc 5 1 1 89 [some (.ref m), some (.int x), some (.int 1), some (.int 1), some (.int 0), some (.int 1), some (.int (byt x 0))] rfl rfl (Nat.le_of_ble_eq_true rfl) rfl rfl rfl ?_
    refine x_go 10 rfl rfl ?_
    refine x_ld 5 2 0 12 rfl rfl rfl rfl rfl ?_
    refine x_cst (.int 4) 1 13 rfl rfl rfl ?_
    refine x_icge 92 16 rfl rfl rfl (fun c => absurd c (by decide)) (fun _ => ?_)
    refine x_ld 1 1 0 17 rfl rfl rfl rfl rfl ?_
    refine x_cst (.int 8) 2 19 rfl rfl rfl ?_
    refine x_ld 5 2 0 21 rfl rfl rfl rfl rfl ?_
    refine x_bin (8) 22 rfl rfl rfl rfl ?_
    refine x_bin (x >>> (8 &&& 31)) 23 rfl rfl rfl rfl ?_
    refine x_cst (.int 255) 3 26 rfl rfl rfl ?_
    refine x_bin (byt x 1) 27 rfl rfl (byS_1 x) rfl ?_
    refine x_st 6 2 0 29 [some (.ref m), some (.int x), some (.int 1), some (.int 1), some (.int 0), some (.int 1), some (.int (byt x 1))] rfl rfl rfl (Nat.le_of_ble_eq_true rfl) rfl rfl ?_
    refine x_ld 3 1 0 30 rfl rfl rfl rfl rfl ?_
    refine x_ifeq 42 33 rfl rfl rfl (fun c => absurd c (by decide)) (fun _ => ?_)
    refine x_ld 6 2 0 35 rfl rfl rfl rfl rfl ?_
    refine x_ifeq 42 38 rfl rfl rfl (fun c => absurd c (nz32 K1.1)) (fun _ => ?_)
    refine x_cst (.int 1) 1 39 rfl rfl rfl ?_
    refine x_go 43 rfl rfl ?_
    refine x_st 3 1 0 44 [some (.ref m), some (.int x), some (.int 1), some (.int 1), some (.int 0), some (.int 1), some (.int (byt x 1))] rfl rfl rfl (Nat.le_of_ble_eq_true rfl) rfl rfl ?_
    refine x_ld 4 2 0 46 rfl rfl rfl rfl rfl ?_
    refine x_ifne 67 49 rfl rfl rfl (fun c => absurd (by decide) c) (fun _ => ?_)
    refine x_ld 3 1 0 50 rfl rfl rfl rfl rfl ?_
    refine x_ifeq 71 53 rfl rfl rfl (fun c => absurd c (by decide)) (fun _ => ?_)
    refine x_ld 6 2 0 55 rfl rfl rfl rfl rfl ?_
    refine x_cst (.int 32) 2 57 rfl rfl rfl ?_
    refine x_iclt 67 60 rfl rfl rfl (fun c => absurd c (Int32.not_lt.mpr K1.1)) (fun _ => ?_)
    refine x_ld 6 2 0 62 rfl rfl rfl rfl rfl ?_
    refine x_cst (.int 126) 2 64 rfl rfl rfl ?_
    refine x_icle 71 67 rfl rfl rfl (fun _ => ?_) (fun c => absurd K1.2 c)
    refine x_cst (.int 0) 1 72 rfl rfl rfl ?_
    refine x_st 4 2 0 74 [some (.ref m), some (.int x), some (.int 1), some (.int 1), some (.int 0), some (.int 1), some (.int (byt x 1))] rfl rfl rfl (Nat.le_of_ble_eq_true rfl) rfl rfl ?_
    refine x_ld 3 1 0 75 rfl rfl rfl rfl rfl ?_
    refine x_ifeq 84 78 rfl rfl rfl (fun c => absurd c (by decide)) (fun _ => ?_)
    refine x_ld 2 1 0 79 rfl rfl rfl rfl rfl ?_
    refine x_cst (.int 1) 1 80 rfl rfl rfl ?_
    refine x_bin (2) 81 rfl rfl rfl rfl ?_
    refine x_go 85 rfl rfl ?_
    refine x_st 2 1 0 86 [some (.ref m), some (.int x), some (.int 2), some (.int 1), some (.int 0), some (.int 1), some (.int (byt x 1))] rfl rfl rfl (Nat.le_of_ble_eq_true rfl) rfl rfl ?_
    refine x_inc 5 1 1 89 [some (.ref m), some (.int x), some (.int 2), some (.int 1), some (.int 0), some (.int 2), some (.int (byt x 1))] rfl rfl (Nat.le_of_ble_eq_true rfl) rfl rfl rfl ?_
    refine x_go 10 rfl rfl ?_
    refine x_ld 5 2 0 12 rfl rfl rfl rfl rfl ?_
    refine x_cst (.int 4) 1 13 rfl rfl rfl ?_
    refine x_icge 92 16 rfl rfl rfl (fun c => absurd c (by decide)) (fun _ => ?_)
    refine x_ld 1 1 0 17 rfl rfl rfl rfl rfl ?_
    refine x_cst (.int 8) 2 19 rfl rfl rfl ?_
    refine x_ld 5 2 0 21 rfl rfl rfl rfl rfl ?_
    refine x_bin (16) 22 rfl rfl rfl rfl ?_
    refine x_bin (x >>> (16 &&& 31)) 23 rfl rfl rfl rfl ?_
    refine x_cst (.int 255) 3 26 rfl rfl rfl ?_
    refine x_bin (byt x 2) 27 rfl rfl (byS_2 x) rfl ?_
    refine x_st 6 2 0 29 [some (.ref m), some (.int x), some (.int 2), some (.int 1), some (.int 0), some (.int 2), some (.int (byt x 2))] rfl rfl rfl (Nat.le_of_ble_eq_true rfl) rfl rfl ?_
    refine x_ld 3 1 0 30 rfl rfl rfl rfl rfl ?_
    refine x_ifeq 42 33 rfl rfl rfl (fun c => absurd c (by decide)) (fun _ => ?_)
    refine x_ld 6 2 0 35 rfl rfl rfl rfl rfl ?_
    refine x_ifeq 42 38 rfl rfl rfl (fun c => absurd c B0) (fun _ => ?_)
    refine x_cst (.int 1) 1 39 rfl rfl rfl ?_
    refine x_go 43 rfl rfl ?_
    refine x_st 3 1 0 44 [some (.ref m), some (.int x), some (.int 2), some (.int 1), some (.int 0), some (.int 2), some (.int (byt x 2))] rfl rfl rfl (Nat.le_of_ble_eq_true rfl) rfl rfl ?_
    refine x_ld 4 2 0 46 rfl rfl rfl rfl rfl ?_
    refine x_ifne 67 49 rfl rfl rfl (fun c => absurd (by decide) c) (fun _ => ?_)
    refine x_ld 3 1 0 50 rfl rfl rfl rfl rfl ?_
    refine x_ifeq 71 53 rfl rfl rfl (fun c => absurd c (by decide)) (fun _ => ?_)
    refine x_ld 6 2 0 55 rfl rfl rfl rfl rfl ?_
    refine x_cst (.int 32) 2 57 rfl rfl rfl ?_
    refine x_iclt 67 60 rfl rfl rfl (fun _ => ?_) (fun c => absurd B1 c)
    refine x_cst (.int 1) 1 68 rfl rfl rfl ?_
    refine x_go 72 rfl rfl ?_
    refine x_st 4 2 0 74 [some (.ref m), some (.int x), some (.int 2), some (.int 1), some (.int 1), some (.int 2), some (.int (byt x 2))] rfl rfl rfl (Nat.le_of_ble_eq_true rfl) rfl rfl ?_
    refine x_ld 3 1 0 75 rfl rfl rfl rfl rfl ?_
    refine x_ifeq 84 78 rfl rfl rfl (fun c => absurd c (by decide)) (fun _ => ?_)
    refine x_ld 2 1 0 79 rfl rfl rfl rfl rfl ?_
    refine x_cst (.int 1) 1 80 rfl rfl rfl ?_
    refine x_bin (3) 81 rfl rfl rfl rfl ?_
    refine x_go 85 rfl rfl ?_
    refine x_st 2 1 0 86 [some (.ref m), some (.int x), some (.int 3), some (.int 1), some (.int 1), some (.int 2), some (.int (byt x 2))] rfl rfl rfl (Nat.le_of_ble_eq_true rfl) rfl rfl ?_
    refine x_inc 5 1 1 89 [some (.ref m), some (.int x), some (.int 3), some (.int 1), some (.int 1), some (.int 3), some (.int (byt x 2))] rfl rfl (Nat.le_of_ble_eq_true rfl) rfl rfl rfl ?_
    refine x_go 10 rfl rfl ?_
    refine x_ld 5 2 0 12 rfl rfl rfl rfl rfl ?_
    refine x_cst (.int 4) 1 13 rfl rfl rfl ?_
    refine x_icge 92 16 rfl rfl rfl (fun c => absurd c (by decide)) (fun _ => ?_)
    refine x_ld 1 1 0 17 rfl rfl rfl rfl rfl ?_
    refine x_cst (.int 8) 2 19 rfl rfl rfl ?_
    refine x_ld 5 2 0 21 rfl rfl rfl rfl rfl ?_
    refine x_bin (24) 22 rfl rfl rfl rfl ?_
    refine x_bin (x >>> (24 &&& 31)) 23 rfl rfl rfl rfl ?_
    refine x_cst (.int 255) 3 26 rfl rfl rfl ?_
    refine x_bin (byt x 3) 27 rfl rfl (byS_3 x) rfl ?_
    refine x_st 6 2 0 29 [some (.ref m), some (.int x), some (.int 3), some (.int 1), some (.int 1), some (.int 3), some (.int (byt x 3))] rfl rfl rfl (Nat.le_of_ble_eq_true rfl) rfl rfl ?_
    refine x_ld 3 1 0 30 rfl rfl rfl rfl rfl ?_
    refine x_ifeq 42 33 rfl rfl rfl (fun c => absurd c (by decide)) (fun _ => ?_)
    refine x_ld 6 2 0 35 rfl rfl rfl rfl rfl ?_
    refine x_ifeq 42 38 rfl rfl rfl (fun q3 => ?_) (fun q3 => ?_)
    · refine x_cst (.int 0) 1 43 rfl rfl rfl ?_
      refine x_st 3 1 0 44 [some (.ref m), some (.int x), some (.int 3), some (.int 0), some (.int 1), some (.int 3), some (.int (byt x 3))] rfl rfl rfl (Nat.le_of_ble_eq_true rfl) rfl rfl ?_
      refine x_ld 4 2 0 46 rfl rfl rfl rfl rfl ?_
      refine x_ifne 67 49 rfl rfl rfl (fun _ => ?_) (fun c => absurd c (by decide))
      refine x_cst (.int 1) 1 68 rfl rfl rfl ?_
      refine x_go 72 rfl rfl ?_
      refine x_st 4 2 0 74 [some (.ref m), some (.int x), some (.int 3), some (.int 0), some (.int 1), some (.int 3), some (.int (byt x 3))] rfl rfl rfl (Nat.le_of_ble_eq_true rfl) rfl rfl ?_
      refine x_ld 3 1 0 75 rfl rfl rfl rfl rfl ?_
      refine x_ifeq 84 78 rfl rfl rfl (fun _ => ?_) (fun c => absurd (by decide) c)
      refine x_ld 2 1 0 85 rfl rfl rfl rfl rfl ?_
      refine x_st 2 1 0 86 [some (.ref m), some (.int x), some (.int 3), some (.int 0), some (.int 1), some (.int 3), some (.int (byt x 3))] rfl rfl rfl (Nat.le_of_ble_eq_true rfl) rfl rfl ?_
      refine x_inc 5 1 1 89 [some (.ref m), some (.int x), some (.int 3), some (.int 0), some (.int 1), some (.int 4), some (.int (byt x 3))] rfl rfl (Nat.le_of_ble_eq_true rfl) rfl rfl rfl ?_
      refine x_go 10 rfl rfl ?_
      refine x_ld 5 2 0 12 rfl rfl rfl rfl rfl ?_
      refine x_cst (.int 4) 1 13 rfl rfl rfl ?_
      refine x_icge 92 16 rfl rfl rfl (fun _ => ?_) (fun c => absurd (by decide) c)
      refine x_ld 0 1 2 93 rfl rfl rfl rfl rfl ?_
      refine x_ld 4 2 0 95 rfl rfl rfl rfl rfl ?_
      refine x_ifeq 102 98 rfl rfl rfl (fun c => absurd c (by decide)) (fun _ => ?_)
      refine x_cst (.int 1) 1 99 rfl rfl rfl ?_
      refine x_go 103 rfl rfl ?_
      refine x_put 159 5 2 106 rfl rfl hm (by simp only [List.length_set, hfs]; omega) rfl rfl rfl _ rfl rfl ?_
      refine x_ld 4 2 0 108 rfl rfl rfl rfl rfl ?_
      refine x_ifne 122 111 rfl rfl rfl (fun _ => ?_) (fun c => absurd c (by decide))
      refine x_cst (.int 0) 1 123 rfl rfl rfl ?_
      refine x_ret rfl rfl rfl rfl ?_
      exact ⟨rfl, rfl⟩
    · refine x_cst (.int 1) 1 39 rfl rfl rfl ?_
      refine x_go 43 rfl rfl ?_
      refine x_st 3 1 0 44 [some (.ref m), some (.int x), some (.int 3), some (.int 1), some (.int 1), some (.int 3), some (.int (byt x 3))] rfl rfl rfl (Nat.le_of_ble_eq_true rfl) rfl rfl ?_
      refine x_ld 4 2 0 46 rfl rfl rfl rfl rfl ?_
      refine x_ifne 67 49 rfl rfl rfl (fun _ => ?_) (fun c => absurd c (by decide))
      refine x_cst (.int 1) 1 68 rfl rfl rfl ?_
      refine x_go 72 rfl rfl ?_
      refine x_st 4 2 0 74 [some (.ref m), some (.int x), some (.int 3), some (.int 1), some (.int 1), some (.int 3), some (.int (byt x 3))] rfl rfl rfl (Nat.le_of_ble_eq_true rfl) rfl rfl ?_
      refine x_ld 3 1 0 75 rfl rfl rfl rfl rfl ?_
      refine x_ifeq 84 78 rfl rfl rfl (fun c => absurd c (by decide)) (fun _ => ?_)
      refine x_ld 2 1 0 79 rfl rfl rfl rfl rfl ?_
      refine x_cst (.int 1) 1 80 rfl rfl rfl ?_
      refine x_bin (4) 81 rfl rfl rfl rfl ?_
      refine x_go 85 rfl rfl ?_
      refine x_st 2 1 0 86 [some (.ref m), some (.int x), some (.int 4), some (.int 1), some (.int 1), some (.int 3), some (.int (byt x 3))] rfl rfl rfl (Nat.le_of_ble_eq_true rfl) rfl rfl ?_
      refine x_inc 5 1 1 89 [some (.ref m), some (.int x), some (.int 4), some (.int 1), some (.int 1), some (.int 4), some (.int (byt x 3))] rfl rfl (Nat.le_of_ble_eq_true rfl) rfl rfl rfl ?_
      refine x_go 10 rfl rfl ?_
      refine x_ld 5 2 0 12 rfl rfl rfl rfl rfl ?_
      refine x_cst (.int 4) 1 13 rfl rfl rfl ?_
      refine x_icge 92 16 rfl rfl rfl (fun _ => ?_) (fun c => absurd (by decide) c)
      refine x_ld 0 1 2 93 rfl rfl rfl rfl rfl ?_
      refine x_ld 4 2 0 95 rfl rfl rfl rfl rfl ?_
      refine x_ifeq 102 98 rfl rfl rfl (fun c => absurd c (by decide)) (fun _ => ?_)
      refine x_cst (.int 1) 1 99 rfl rfl rfl ?_
      refine x_go 103 rfl rfl ?_
      refine x_put 159 5 2 106 rfl rfl hm (by simp only [List.length_set, hfs]; omega) rfl rfl rfl _ rfl rfl ?_
      refine x_ld 4 2 0 108 rfl rfl rfl rfl rfl ?_
      refine x_ifne 122 111 rfl rfl rfl (fun _ => ?_) (fun c => absurd c (by decide))
      refine x_cst (.int 0) 1 123 rfl rfl rfl ?_
      refine x_ret rfl rfl rfl rfl ?_
      exact ⟨rfl, rfl⟩
  · refine x_cst (.int 0) 1 1 rfl rfl rfl ?_
    refine x_st 2 1 0 2 [some (.ref m), some (.int x), some (.int 0), none, none, none, none] rfl rfl rfl (Nat.le_of_ble_eq_true rfl) rfl rfl ?_
    refine x_cst (.int 1) 1 3 rfl rfl rfl ?_
    refine x_st 3 1 0 4 [some (.ref m), some (.int x), some (.int 0), some (.int 1), none, none, none] rfl rfl rfl (Nat.le_of_ble_eq_true rfl) rfl rfl ?_
    refine x_cst (.int 0) 1 5 rfl rfl rfl ?_
    refine x_st 4 2 0 7 [some (.ref m), some (.int x), some (.int 0), some (.int 1), some (.int 0), none, none] rfl rfl rfl (Nat.le_of_ble_eq_true rfl) rfl rfl ?_
    refine x_cst (.int 0) 1 8 rfl rfl rfl ?_
    refine x_st 5 2 0 10 [some (.ref m), some (.int x), some (.int 0), some (.int 1), some (.int 0), some (.int 0), none] rfl rfl rfl (Nat.le_of_ble_eq_true rfl) rfl rfl ?_
    refine x_ld 5 2 0 12 rfl rfl rfl rfl rfl ?_
    refine x_cst (.int 4) 1 13 rfl rfl rfl ?_
    refine x_icge 92 16 rfl rfl rfl (fun c => absurd c (by decide)) (fun _ => ?_)
    refine x_ld 1 1 0 17 rfl rfl rfl rfl rfl ?_
    refine x_cst (.int 8) 2 19 rfl rfl rfl ?_
    refine x_ld 5 2 0 21 rfl rfl rfl rfl rfl ?_
    refine x_bin (0) 22 rfl rfl rfl rfl ?_
    refine x_bin (x >>> (0 &&& 31)) 23 rfl rfl rfl rfl ?_
    refine x_cst (.int 255) 3 26 rfl rfl rfl ?_
    refine x_bin (byt x 0) 27 rfl rfl (byS_0 x) rfl ?_
    refine x_st 6 2 0 29 [some (.ref m), some (.int x), some (.int 0), some (.int 1), some (.int 0), some (.int 0), some (.int (byt x 0))] rfl rfl rfl (Nat.le_of_ble_eq_true rfl) rfl rfl ?_
    refine x_ld 3 1 0 30 rfl rfl rfl rfl rfl ?_
    refine x_ifeq 42 33 rfl rfl rfl (fun c => absurd c (by decide)) (fun _ => ?_)
    refine x_ld 6 2 0 35 rfl rfl rfl rfl rfl ?_
    refine x_ifeq 42 38 rfl rfl rfl (fun c => absurd c (nz32 K0.1)) (fun _ => ?_)
    refine x_cst (.int 1) 1 39 rfl rfl rfl ?_
    refine x_go 43 rfl rfl ?_
    refine x_st 3 1 0 44 [some (.ref m), some (.int x), some (.int 0), some (.int 1), some (.int 0), some (.int 0), some (.int (byt x 0))] rfl rfl rfl (Nat.le_of_ble_eq_true rfl) rfl rfl ?_
    refine x_ld 4 2 0 46 rfl rfl rfl rfl rfl ?_
    refine x_ifne 67 49 rfl rfl rfl (fun c => absurd (by decide) c) (fun _ => ?_)
    refine x_ld 3 1 0 50 rfl rfl rfl rfl rfl ?_
    refine x_ifeq 71 53 rfl rfl rfl (fun c => absurd c (by decide)) (fun _ => ?_)
    refine x_ld 6 2 0 55 rfl rfl rfl rfl rfl ?_
    refine x_cst (.int 32) 2 57 rfl rfl rfl ?_
    refine x_iclt 67 60 rfl rfl rfl (fun c => absurd c (Int32.not_lt.mpr K0.1)) (fun _ => ?_)
    refine x_ld 6 2 0 62 rfl rfl rfl rfl rfl ?_
    refine x_cst (.int 126) 2 64 rfl rfl rfl ?_
    refine x_icle 71 67 rfl rfl rfl (fun _ => ?_) (fun c => absurd K0.2 c)
    refine x_cst (.int 0) 1 72 rfl rfl rfl ?_
    refine x_st 4 2 0 74 [some (.ref m), some (.int x), some (.int 0), some (.int 1), some (.int 0), some (.int 0), some (.int (byt x 0))] rfl rfl rfl (Nat.le_of_ble_eq_true rfl) rfl rfl ?_
    refine x_ld 3 1 0 75 rfl rfl rfl rfl rfl ?_
    refine x_ifeq 84 78 rfl rfl rfl (fun c => absurd c (by decide)) (fun _ => ?_)
    refine x_ld 2 1 0 79 rfl rfl rfl rfl rfl ?_
    refine x_cst (.int 1) 1 80 rfl rfl rfl ?_
    refine x_bin (1) 81 rfl rfl rfl rfl ?_
    refine x_go 85 rfl rfl ?_
    refine x_st 2 1 0 86 [some (.ref m), some (.int x), some (.int 1), some (.int 1), some (.int 0), some (.int 0), some (.int (byt x 0))] rfl rfl rfl (Nat.le_of_ble_eq_true rfl) rfl rfl ?_
    refine x_inc 5 1 1 89 [some (.ref m), some (.int x), some (.int 1), some (.int 1), some (.int 0), some (.int 1), some (.int (byt x 0))] rfl rfl (Nat.le_of_ble_eq_true rfl) rfl rfl rfl ?_
    refine x_go 10 rfl rfl ?_
    refine x_ld 5 2 0 12 rfl rfl rfl rfl rfl ?_
    refine x_cst (.int 4) 1 13 rfl rfl rfl ?_
    refine x_icge 92 16 rfl rfl rfl (fun c => absurd c (by decide)) (fun _ => ?_)
    refine x_ld 1 1 0 17 rfl rfl rfl rfl rfl ?_
    refine x_cst (.int 8) 2 19 rfl rfl rfl ?_
    refine x_ld 5 2 0 21 rfl rfl rfl rfl rfl ?_
    refine x_bin (8) 22 rfl rfl rfl rfl ?_
    refine x_bin (x >>> (8 &&& 31)) 23 rfl rfl rfl rfl ?_
    refine x_cst (.int 255) 3 26 rfl rfl rfl ?_
    refine x_bin (byt x 1) 27 rfl rfl (byS_1 x) rfl ?_
    refine x_st 6 2 0 29 [some (.ref m), some (.int x), some (.int 1), some (.int 1), some (.int 0), some (.int 1), some (.int (byt x 1))] rfl rfl rfl (Nat.le_of_ble_eq_true rfl) rfl rfl ?_
    refine x_ld 3 1 0 30 rfl rfl rfl rfl rfl ?_
    refine x_ifeq 42 33 rfl rfl rfl (fun c => absurd c (by decide)) (fun _ => ?_)
    refine x_ld 6 2 0 35 rfl rfl rfl rfl rfl ?_
    refine x_ifeq 42 38 rfl rfl rfl (fun c => absurd c (nz32 K1.1)) (fun _ => ?_)
    refine x_cst (.int 1) 1 39 rfl rfl rfl ?_
    refine x_go 43 rfl rfl ?_
    refine x_st 3 1 0 44 [some (.ref m), some (.int x), some (.int 1), some (.int 1), some (.int 0), some (.int 1), some (.int (byt x 1))] rfl rfl rfl (Nat.le_of_ble_eq_true rfl) rfl rfl ?_
    refine x_ld 4 2 0 46 rfl rfl rfl rfl rfl ?_
    refine x_ifne 67 49 rfl rfl rfl (fun c => absurd (by decide) c) (fun _ => ?_)
    refine x_ld 3 1 0 50 rfl rfl rfl rfl rfl ?_
    refine x_ifeq 71 53 rfl rfl rfl (fun c => absurd c (by decide)) (fun _ => ?_)
    refine x_ld 6 2 0 55 rfl rfl rfl rfl rfl ?_
    refine x_cst (.int 32) 2 57 rfl rfl rfl ?_
    refine x_iclt 67 60 rfl rfl rfl (fun c => absurd c (Int32.not_lt.mpr K1.1)) (fun _ => ?_)
    refine x_ld 6 2 0 62 rfl rfl rfl rfl rfl ?_
    refine x_cst (.int 126) 2 64 rfl rfl rfl ?_
    refine x_icle 71 67 rfl rfl rfl (fun _ => ?_) (fun c => absurd K1.2 c)
    refine x_cst (.int 0) 1 72 rfl rfl rfl ?_
    refine x_st 4 2 0 74 [some (.ref m), some (.int x), some (.int 1), some (.int 1), some (.int 0), some (.int 1), some (.int (byt x 1))] rfl rfl rfl (Nat.le_of_ble_eq_true rfl) rfl rfl ?_
    refine x_ld 3 1 0 75 rfl rfl rfl rfl rfl ?_
    refine x_ifeq 84 78 rfl rfl rfl (fun c => absurd c (by decide)) (fun _ => ?_)
    refine x_ld 2 1 0 79 rfl rfl rfl rfl rfl ?_
    refine x_cst (.int 1) 1 80 rfl rfl rfl ?_
    refine x_bin (2) 81 rfl rfl rfl rfl ?_
    refine x_go 85 rfl rfl ?_
    refine x_st 2 1 0 86 [some (.ref m), some (.int x), some (.int 2), some (.int 1), some (.int 0), some (.int 1), some (.int (byt x 1))] rfl rfl rfl (Nat.le_of_ble_eq_true rfl) rfl rfl ?_
    refine x_inc 5 1 1 89 [some (.ref m), some (.int x), some (.int 2), some (.int 1), some (.int 0), some (.int 2), some (.int (byt x 1))] rfl rfl (Nat.le_of_ble_eq_true rfl) rfl rfl rfl ?_
    refine x_go 10 rfl rfl ?_
    refine x_ld 5 2 0 12 rfl rfl rfl rfl rfl ?_
    refine x_cst (.int 4) 1 13 rfl rfl rfl ?_
    refine x_icge 92 16 rfl rfl rfl (fun c => absurd c (by decide)) (fun _ => ?_)
    refine x_ld 1 1 0 17 rfl rfl rfl rfl rfl ?_
    refine x_cst (.int 8) 2 19 rfl rfl rfl ?_
    refine x_ld 5 2 0 21 rfl rfl rfl rfl rfl ?_
    refine x_bin (16) 22 rfl rfl rfl rfl ?_
    refine x_bin (x >>> (16 &&& 31)) 23 rfl rfl rfl rfl ?_
    refine x_cst (.int 255) 3 26 rfl rfl rfl ?_
    refine x_bin (byt x 2) 27 rfl rfl (byS_2 x) rfl ?_
    refine x_st 6 2 0 29 [some (.ref m), some (.int x), some (.int 2), some (.int 1), some (.int 0), some (.int 2), some (.int (byt x 2))] rfl rfl rfl (Nat.le_of_ble_eq_true rfl) rfl rfl ?_
    refine x_ld 3 1 0 30 rfl rfl rfl rfl rfl ?_
    refine x_ifeq 42 33 rfl rfl rfl (fun c => absurd c (by decide)) (fun _ => ?_)
    refine x_ld 6 2 0 35 rfl rfl rfl rfl rfl ?_
    refine x_ifeq 42 38 rfl rfl rfl (fun c => absurd c B0) (fun _ => ?_)
    refine x_cst (.int 1) 1 39 rfl rfl rfl ?_
    refine x_go 43 rfl rfl ?_
    refine x_st 3 1 0 44 [some (.ref m), some (.int x), some (.int 2), some (.int 1), some (.int 0), some (.int 2), some (.int (byt x 2))] rfl rfl rfl (Nat.le_of_ble_eq_true rfl) rfl rfl ?_
    refine x_ld 4 2 0 46 rfl rfl rfl rfl rfl ?_
    refine x_ifne 67 49 rfl rfl rfl (fun c => absurd (by decide) c) (fun _ => ?_)
    refine x_ld 3 1 0 50 rfl rfl rfl rfl rfl ?_
    refine x_ifeq 71 53 rfl rfl rfl (fun c => absurd c (by decide)) (fun _ => ?_)
    refine x_ld 6 2 0 55 rfl rfl rfl rfl rfl ?_
    refine x_cst (.int 32) 2 57 rfl rfl rfl ?_
    refine x_iclt 67 60 rfl rfl rfl (fun c => absurd c B1) (fun _ => ?_)
    refine x_ld 6 2 0 62 rfl rfl rfl rfl rfl ?_
    refine x_cst (.int 126) 2 64 rfl rfl rfl ?_
    refine x_icle 71 67 rfl rfl rfl (fun c => absurd c B2) (fun _ => ?_)
    refine x_cst (.int 1) 1 68 rfl rfl rfl ?_
    refine x_go 72 rfl rfl ?_
    refine x_st 4 2 0 74 [some (.ref m), some (.int x), some (.int 2), some (.int 1), some (.int 1), some (.int 2), some (.int (byt x 2))] rfl rfl rfl (Nat.le_of_ble_eq_true rfl) rfl rfl ?_
    refine x_ld 3 1 0 75 rfl rfl rfl rfl rfl ?_
    refine x_ifeq 84 78 rfl rfl rfl (fun c => absurd c (by decide)) (fun _ => ?_)
    refine x_ld 2 1 0 79 rfl rfl rfl rfl rfl ?_
    refine x_cst (.int 1) 1 80 rfl rfl rfl ?_
    refine x_bin (3) 81 rfl rfl rfl rfl ?_
    refine x_go 85 rfl rfl ?_
    refine x_st 2 1 0 86 [some (.ref m), some (.int x), some (.int 3), some (.int 1), some (.int 1), some (.int 2), some (.int (byt x 2))] rfl rfl rfl (Nat.le_of_ble_eq_true rfl) rfl rfl ?_
    refine x_inc 5 1 1 89 [some (.ref m), some (.int x), some (.int 3), some (.int 1), some (.int 1), some (.int 3), some (.int (byt x 2))] rfl rfl (Nat.le_of_ble_eq_true rfl) rfl rfl rfl ?_
    refine x_go 10 rfl rfl ?_
    refine x_ld 5 2 0 12 rfl rfl rfl rfl rfl ?_
    refine x_cst (.int 4) 1 13 rfl rfl rfl ?_
    refine x_icge 92 16 rfl rfl rfl (fun c => absurd c (by decide)) (fun _ => ?_)
    refine x_ld 1 1 0 17 rfl rfl rfl rfl rfl ?_
    refine x_cst (.int 8) 2 19 rfl rfl rfl ?_
    refine x_ld 5 2 0 21 rfl rfl rfl rfl rfl ?_
    refine x_bin (24) 22 rfl rfl rfl rfl ?_
    refine x_bin (x >>> (24 &&& 31)) 23 rfl rfl rfl rfl ?_
    refine x_cst (.int 255) 3 26 rfl rfl rfl ?_
    refine x_bin (byt x 3) 27 rfl rfl (byS_3 x) rfl ?_
    refine x_st 6 2 0 29 [some (.ref m), some (.int x), some (.int 3), some (.int 1), some (.int 1), some (.int 3), some (.int (byt x 3))] rfl rfl rfl (Nat.le_of_ble_eq_true rfl) rfl rfl ?_
    refine x_ld 3 1 0 30 rfl rfl rfl rfl rfl ?_
    refine x_ifeq 42 33 rfl rfl rfl (fun c => absurd c (by decide)) (fun _ => ?_)
    refine x_ld 6 2 0 35 rfl rfl rfl rfl rfl ?_
    refine x_ifeq 42 38 rfl rfl rfl (fun q3 => ?_) (fun q3 => ?_)
    · refine x_cst (.int 0) 1 43 rfl rfl rfl ?_
      refine x_st 3 1 0 44 [some (.ref m), some (.int x), some (.int 3), some (.int 0), some (.int 1), some (.int 3), some (.int (byt x 3))] rfl rfl rfl (Nat.le_of_ble_eq_true rfl) rfl rfl ?_
      refine x_ld 4 2 0 46 rfl rfl rfl rfl rfl ?_
      refine x_ifne 67 49 rfl rfl rfl (fun _ => ?_) (fun c => absurd c (by decide))
      refine x_cst (.int 1) 1 68 rfl rfl rfl ?_
      refine x_go 72 rfl rfl ?_
      refine x_st 4 2 0 74 [some (.ref m), some (.int x), some (.int 3), some (.int 0), some (.int 1), some (.int 3), some (.int (byt x 3))] rfl rfl rfl (Nat.le_of_ble_eq_true rfl) rfl rfl ?_
      refine x_ld 3 1 0 75 rfl rfl rfl rfl rfl ?_
      refine x_ifeq 84 78 rfl rfl rfl (fun _ => ?_) (fun c => absurd (by decide) c)
      refine x_ld 2 1 0 85 rfl rfl rfl rfl rfl ?_
      refine x_st 2 1 0 86 [some (.ref m), some (.int x), some (.int 3), some (.int 0), some (.int 1), some (.int 3), some (.int (byt x 3))] rfl rfl rfl (Nat.le_of_ble_eq_true rfl) rfl rfl ?_
      refine x_inc 5 1 1 89 [some (.ref m), some (.int x), some (.int 3), some (.int 0), some (.int 1), some (.int 4), some (.int (byt x 3))] rfl rfl (Nat.le_of_ble_eq_true rfl) rfl rfl rfl ?_
      refine x_go 10 rfl rfl ?_
      refine x_ld 5 2 0 12 rfl rfl rfl rfl rfl ?_
      refine x_cst (.int 4) 1 13 rfl rfl rfl ?_
      refine x_icge 92 16 rfl rfl rfl (fun _ => ?_) (fun c => absurd (by decide) c)
      refine x_ld 0 1 2 93 rfl rfl rfl rfl rfl ?_
      refine x_ld 4 2 0 95 rfl rfl rfl rfl rfl ?_
      refine x_ifeq 102 98 rfl rfl rfl (fun c => absurd c (by decide)) (fun _ => ?_)
      refine x_cst (.int 1) 1 99 rfl rfl rfl ?_
      refine x_go 103 rfl rfl ?_
      refine x_put 159 5 2 106 rfl rfl hm (by simp only [List.length_set, hfs]; omega) rfl rfl rfl _ rfl rfl ?_
      refine x_ld 4 2 0 108 rfl rfl rfl rfl rfl ?_
      refine x_ifne 122 111 rfl rfl rfl (fun _ => ?_) (fun c => absurd c (by decide))
      refine x_cst (.int 0) 1 123 rfl rfl rfl ?_
      refine x_ret rfl rfl rfl rfl ?_
      exact ⟨rfl, rfl⟩
    · refine x_cst (.int 1) 1 39 rfl rfl rfl ?_
      refine x_go 43 rfl rfl ?_
      refine x_st 3 1 0 44 [some (.ref m), some (.int x), some (.int 3), some (.int 1), some (.int 1), some (.int 3), some (.int (byt x 3))] rfl rfl rfl (Nat.le_of_ble_eq_true rfl) rfl rfl ?_
      refine x_ld 4 2 0 46 rfl rfl rfl rfl rfl ?_
      refine x_ifne 67 49 rfl rfl rfl (fun _ => ?_) (fun c => absurd c (by decide))
      refine x_cst (.int 1) 1 68 rfl rfl rfl ?_
      refine x_go 72 rfl rfl ?_
      refine x_st 4 2 0 74 [some (.ref m), some (.int x), some (.int 3), some (.int 1), some (.int 1), some (.int 3), some (.int (byt x 3))] rfl rfl rfl (Nat.le_of_ble_eq_true rfl) rfl rfl ?_
      refine x_ld 3 1 0 75 rfl rfl rfl rfl rfl ?_
      refine x_ifeq 84 78 rfl rfl rfl (fun c => absurd c (by decide)) (fun _ => ?_)
      refine x_ld 2 1 0 79 rfl rfl rfl rfl rfl ?_
      refine x_cst (.int 1) 1 80 rfl rfl rfl ?_
      refine x_bin (4) 81 rfl rfl rfl rfl ?_
      refine x_go 85 rfl rfl ?_
      refine x_st 2 1 0 86 [some (.ref m), some (.int x), some (.int 4), some (.int 1), some (.int 1), some (.int 3), some (.int (byt x 3))] rfl rfl rfl (Nat.le_of_ble_eq_true rfl) rfl rfl ?_
      refine x_inc 5 1 1 89 [some (.ref m), some (.int x), some (.int 4), some (.int 1), some (.int 1), some (.int 4), some (.int (byt x 3))] rfl rfl (Nat.le_of_ble_eq_true rfl) rfl rfl rfl ?_
      refine x_go 10 rfl rfl ?_
      refine x_ld 5 2 0 12 rfl rfl rfl rfl rfl ?_
      refine x_cst (.int 4) 1 13 rfl rfl rfl ?_
      refine x_icge 92 16 rfl rfl rfl (fun _ => ?_) (fun c => absurd (by decide) c)
      refine x_ld 0 1 2 93 rfl rfl rfl rfl rfl ?_
      refine x_ld 4 2 0 95 rfl rfl rfl rfl rfl ?_
      refine x_ifeq 102 98 rfl rfl rfl (fun c => absurd c (by decide)) (fun _ => ?_)
      refine x_cst (.int 1) 1 99 rfl rfl rfl ?_
      refine x_go 103 rfl rfl ?_
      refine x_put 159 5 2 106 rfl rfl hm (by simp only [List.length_set, hfs]; omega) rfl rfl rfl _ rfl rfl ?_
      refine x_ld 4 2 0 108 rfl rfl rfl rfl rfl ?_
      refine x_ifne 122 111 rfl rfl rfl (fun _ => ?_) (fun c => absurd c (by decide))
      refine x_cst (.int 0) 1 123 rfl rfl rfl ?_
      refine x_ret rfl rfl rfl rfl ?_
      exact ⟨rfl, rfl⟩
theorem t104_h3 {h : ab_H} {m ml n : Nat} {x : Int32} {g : Nat → Int32} {fs : List Value} (hne : ml ≠ m) : (((((((h.set m (.inr (5, (fs.set 2 (.int 0))))).set ml (.inl (0, 16, .inl (upd g n (byt x 0))))).set m (.inr (5, ((fs.set 2 (.int 0)).set 4 (.int (Int32.ofNat (n + 1))))))).set ml (.inl (0, 16, .inl (upd (upd g n (byt x 0)) (n + 1) (byt x 1))))).set m (.inr (5, (((fs.set 2 (.int 0)).set 4 (.int (Int32.ofNat (n + 1)))).set 4 (.int (Int32.ofNat (n + 2))))))).set ml (.inl (0, 16, .inl (upd (upd (upd g n (byt x 0)) (n + 1) (byt x 1)) (n + 2) (byt x 2))))).set m (.inr (5, ((((fs.set 2 (.int 0)).set 4 (.int (Int32.ofNat (n + 1)))).set 4 (.int (Int32.ofNat (n + 2)))).set 4 (.int (Int32.ofNat (n + 3))))))) = (h.set ml (.inl (0, 16, .inl (ups g n x 3)))).set m (.inr (5, (fs.set 2 (.int 0)).set 4 (.int (Int32.ofNat (n + 3))))) := by
  simp only [List.set_set, List.set_comm _ _ hne]
  rfl
theorem t104_3 (d : Nat) {h : ab_H} {m ml n : Nat} {x : Int32} {g : Nat → Int32} {fs : List Value} (hm : h[m]? = some (.inr (5, fs))) (hfs : fs.length = 68) (h3 : fs[3]? = some (.ref ml)) (h4 : fs[4]? = some (.int (Int32.ofNat n))) (hl : h[ml]? = some (.inl (0, 16, .inl g))) (hne : ml ≠ m) (hn : n ≤ 16) (H : okc x 3) (hf : n + 3 ≤ 16) : ab_S (pg_G L xs) (d + 1) 104 [.ref m, .int x] h (some (.int 1)) ((h.set ml (.inl (0, 16, .inl (ups g n x 3)))).set m (.inr (5, (fs.set 2 (.int 0)).set 4 (.int (Int32.ofNat (n + 3)))))) := by
  show ab_W (pg_G L xs) (ab_X (pg_G L xs) d) 104 _ 0 [some (.ref m), some (.int x), none, none, none, none, none] [] h
  have K0 : 32 ≤ byt x 0 ∧ byt x 0 ≤ 126 := H.1 0 (by decide)
  have K1 : 32 ≤ byt x 1 ∧ byt x 1 ≤ 126 := H.1 1 (by decide)
  have K2 : 32 ≤ byt x 2 ∧ byt x 2 ≤ 126 := H.1 2 (by decide)
  have Z := H.2 (by decide)
  refine x_cst (.int 0) 1 1 rfl rfl rfl ?_
  refine x_st 2 1 0 2 [some (.ref m), some (.int x), some (.int 0), none, none, none, none] rfl rfl rfl (Nat.le_of_ble_eq_true rfl) rfl rfl ?_
  refine x_cst (.int 1) 1 3 rfl rfl rfl ?_
  refine x_st 3 1 0 4 [some (.ref m), some (.int x), some (.int 0), some (.int 1), none, none, none] rfl rfl rfl (Nat.le_of_ble_eq_true rfl) rfl rfl ?_
  refine x_cst (.int 0) 1 5 rfl rfl rfl ?_
  refine x_st 4 2 0 7 [some (.ref m), some (.int x), some (.int 0), some (.int 1), some (.int 0), none, none] rfl rfl rfl (Nat.le_of_ble_eq_true rfl) rfl rfl ?_
  refine x_cst (.int 0) 1 8 rfl rfl rfl ?_
  refine x_st 5 2 0 10 [some (.ref m), some (.int x), some (.int 0), some (.int 1), some (.int 0), some (.int 0), none] rfl rfl rfl (Nat.le_of_ble_eq_true rfl) rfl rfl ?_
  refine x_ld 5 2 0 12 rfl rfl rfl rfl rfl ?_
  refine x_cst (.int 4) 1 13 rfl rfl rfl ?_
  refine x_icge 92 16 rfl rfl rfl (fun c => absurd c (by decide)) (fun _ => ?_)
  refine x_ld 1 1 0 17 rfl rfl rfl rfl rfl ?_
  refine x_cst (.int 8) 2 19 rfl rfl rfl ?_
  refine x_ld 5 2 0 21 rfl rfl rfl rfl rfl ?_
  refine x_bin (0) 22 rfl rfl rfl rfl ?_
  refine x_bin (x >>> (0 &&& 31)) 23 rfl rfl rfl rfl ?_
  refine x_cst (.int 255) 3 26 rfl rfl rfl ?_
  refine x_bin (byt x 0) 27 rfl rfl (byS_0 x) rfl ?_
  refine x_st 6 2 0 29 [some (.ref m), some (.int x), some (.int 0), some (.int 1), some (.int 0), some (.int 0), some (.int (byt x 0))] rfl rfl rfl (Nat.le_of_ble_eq_true rfl) rfl rfl ?_
  refine x_ld 3 1 0 30 rfl rfl rfl rfl rfl ?_
  refine x_ifeq 42 33 rfl rfl rfl (fun c => absurd c (by decide)) (fun _ => ?_)
  refine x_ld 6 2 0 35 rfl rfl rfl rfl rfl ?_
  refine x_ifeq 42 38 rfl rfl rfl (fun c => absurd c (nz32 K0.1)) (fun _ => ?_)
  refine x_cst (.int 1) 1 39 rfl rfl rfl ?_
  refine x_go 43 rfl rfl ?_
  refine x_st 3 1 0 44 [some (.ref m), some (.int x), some (.int 0), some (.int 1), some (.int 0), some (.int 0), some (.int (byt x 0))] rfl rfl rfl (Nat.le_of_ble_eq_true rfl) rfl rfl ?_
  refine x_ld 4 2 0 46 rfl rfl rfl rfl rfl ?_
  refine x_ifne 67 49 rfl rfl rfl (fun c => absurd (by decide) c) (fun _ => ?_)
  refine x_ld 3 1 0 50 rfl rfl rfl rfl rfl ?_
  refine x_ifeq 71 53 rfl rfl rfl (fun c => absurd c (by decide)) (fun _ => ?_)
  refine x_ld 6 2 0 55 rfl rfl rfl rfl rfl ?_
  refine x_cst (.int 32) 2 57 rfl rfl rfl ?_
  refine x_iclt 67 60 rfl rfl rfl (fun c => absurd c (Int32.not_lt.mpr K0.1)) (fun _ => ?_)
  refine x_ld 6 2 0 62 rfl rfl rfl rfl rfl ?_
  refine x_cst (.int 126) 2 64 rfl rfl rfl ?_
  refine x_icle 71 67 rfl rfl rfl (fun _ => ?_) (fun c => absurd K0.2 c)
  refine x_cst (.int 0) 1 72 rfl rfl rfl ?_
  refine x_st 4 2 0 74 [some (.ref m), some (.int x), some (.int 0), some (.int 1), some (.int 0), some (.int 0), some (.int (byt x 0))] rfl rfl rfl (Nat.le_of_ble_eq_true rfl) rfl rfl ?_
  refine x_ld 3 1 0 75 rfl rfl rfl rfl rfl ?_
  refine x_ifeq 84 78 rfl rfl rfl (fun c => absurd c (by decide)) (fun _ => ?_)
  refine x_ld 2 1 0 79 rfl rfl rfl rfl rfl ?_
  refine x_cst (.int 1) 1 80 rfl rfl rfl ?_
  refine x_bin (1) 81 rfl rfl rfl rfl ?_
  refine x_go 85 rfl rfl ?_
  refine x_st 2 1 0 86 [some (.ref m), some (.int x), some (.int 1), some (.int 1), some (.int 0), some (.int 0), some (.int (byt x 0))] rfl rfl rfl (Nat.le_of_ble_eq_true rfl) rfl rfl ?_
  refine x_inc 5 1 1 89 [some (.ref m), some (.int x), some (.int 1), some (.int 1), some (.int 0), some (.int 1), some (.int (byt x 0))] rfl rfl (Nat.le_of_ble_eq_true rfl) rfl rfl rfl ?_
  refine x_go 10 rfl rfl ?_
  refine x_ld 5 2 0 12 rfl rfl rfl rfl rfl ?_
  refine x_cst (.int 4) 1 13 rfl rfl rfl ?_
  refine x_icge 92 16 rfl rfl rfl (fun c => absurd c (by decide)) (fun _ => ?_)
  refine x_ld 1 1 0 17 rfl rfl rfl rfl rfl ?_
  refine x_cst (.int 8) 2 19 rfl rfl rfl ?_
  refine x_ld 5 2 0 21 rfl rfl rfl rfl rfl ?_
  refine x_bin (8) 22 rfl rfl rfl rfl ?_
  refine x_bin (x >>> (8 &&& 31)) 23 rfl rfl rfl rfl ?_
  refine x_cst (.int 255) 3 26 rfl rfl rfl ?_
  refine x_bin (byt x 1) 27 rfl rfl (byS_1 x) rfl ?_
  refine x_st 6 2 0 29 [some (.ref m), some (.int x), some (.int 1), some (.int 1), some (.int 0), some (.int 1), some (.int (byt x 1))] rfl rfl rfl (Nat.le_of_ble_eq_true rfl) rfl rfl ?_
  refine x_ld 3 1 0 30 rfl rfl rfl rfl rfl ?_
  refine x_ifeq 42 33 rfl rfl rfl (fun c => absurd c (by decide)) (fun _ => ?_)
  refine x_ld 6 2 0 35 rfl rfl rfl rfl rfl ?_
  refine x_ifeq 42 38 rfl rfl rfl (fun c => absurd c (nz32 K1.1)) (fun _ => ?_)
  refine x_cst (.int 1) 1 39 rfl rfl rfl ?_
  refine x_go 43 rfl rfl ?_
  refine x_st 3 1 0 44 [some (.ref m), some (.int x), some (.int 1), some (.int 1), some (.int 0), some (.int 1), some (.int (byt x 1))] rfl rfl rfl (Nat.le_of_ble_eq_true rfl) rfl rfl ?_
  refine x_ld 4 2 0 46 rfl rfl rfl rfl rfl ?_
  refine x_ifne 67 49 rfl rfl rfl (fun c => absurd (by decide) c) (fun _ => ?_)
  refine x_ld 3 1 0 50 rfl rfl rfl rfl rfl ?_
  refine x_ifeq 71 53 rfl rfl rfl (fun c => absurd c (by decide)) (fun _ => ?_)
  refine x_ld 6 2 0 55 rfl rfl rfl rfl rfl ?_
  refine x_cst (.int 32) 2 57 rfl rfl rfl ?_
  refine x_iclt 67 60 rfl rfl rfl (fun c => absurd c (Int32.not_lt.mpr K1.1)) (fun _ => ?_)
  refine x_ld 6 2 0 62 rfl rfl rfl rfl rfl ?_
  refine x_cst (.int 126) 2 64 rfl rfl rfl ?_
  refine x_icle 71 67 rfl rfl rfl (fun _ => ?_) (fun c => absurd K1.2 c)
  refine x_cst (.int 0) 1 72 rfl rfl rfl ?_
  refine x_st 4 2 0 74 [some (.ref m), some (.int x), some (.int 1), some (.int 1), some (.int 0), some (.int 1), some (.int (byt x 1))] rfl rfl rfl (Nat.le_of_ble_eq_true rfl) rfl rfl ?_
  refine x_ld 3 1 0 75 rfl rfl rfl rfl rfl ?_
  refine x_ifeq 84 78 rfl rfl rfl (fun c => absurd c (by decide)) (fun _ => ?_)
  refine x_ld 2 1 0 79 rfl rfl rfl rfl rfl ?_
  refine x_cst (.int 1) 1 80 rfl rfl rfl ?_
  refine x_bin (2) 81 rfl rfl rfl rfl ?_
  refine x_go 85 rfl rfl ?_
  refine x_st 2 1 0 86 [some (.ref m), some (.int x), some (.int 2), some (.int 1), some (.int 0), some (.int 1), some (.int (byt x 1))] rfl rfl rfl (Nat.le_of_ble_eq_true rfl) rfl rfl ?_
  refine x_inc 5 1 1 89 [some (.ref m), some (.int x), some (.int 2), some (.int 1), some (.int 0), some (.int 2), some (.int (byt x 1))] rfl rfl (Nat.le_of_ble_eq_true rfl) rfl rfl rfl ?_
  refine x_go 10 rfl rfl ?_
  refine x_ld 5 2 0 12 rfl rfl rfl rfl rfl ?_
  refine x_cst (.int 4) 1 13 rfl rfl rfl ?_
  refine x_icge 92 16 rfl rfl rfl (fun c => absurd c (by decide)) (fun _ => ?_)
  refine x_ld 1 1 0 17 rfl rfl rfl rfl rfl ?_
  refine x_cst (.int 8) 2 19 rfl rfl rfl ?_
  refine x_ld 5 2 0 21 rfl rfl rfl rfl rfl ?_
  refine x_bin (16) 22 rfl rfl rfl rfl ?_
  refine x_bin (x >>> (16 &&& 31)) 23 rfl rfl rfl rfl ?_
  refine x_cst (.int 255) 3 26 rfl rfl rfl ?_
  refine x_bin (byt x 2) 27 rfl rfl (byS_2 x) rfl ?_
  refine x_st 6 2 0 29 [some (.ref m), some (.int x), some (.int 2), some (.int 1), some (.int 0), some (.int 2), some (.int (byt x 2))] rfl rfl rfl (Nat.le_of_ble_eq_true rfl) rfl rfl ?_
  refine x_ld 3 1 0 30 rfl rfl rfl rfl rfl ?_
  refine x_ifeq 42 33 rfl rfl rfl (fun c => absurd c (by decide)) (fun _ => ?_)
  refine x_ld 6 2 0 35 rfl rfl rfl rfl rfl ?_
  refine x_ifeq 42 38 rfl rfl rfl (fun c => absurd c (nz32 K2.1)) (fun _ => ?_)
  refine x_cst (.int 1) 1 39 rfl rfl rfl ?_
  refine x_go 43 rfl rfl ?_
  refine x_st 3 1 0 44 [some (.ref m), some (.int x), some (.int 2), some (.int 1), some (.int 0), some (.int 2), some (.int (byt x 2))] rfl rfl rfl (Nat.le_of_ble_eq_true rfl) rfl rfl ?_
  refine x_ld 4 2 0 46 rfl rfl rfl rfl rfl ?_
  refine x_ifne 67 49 rfl rfl rfl (fun c => absurd (by decide) c) (fun _ => ?_)
  refine x_ld 3 1 0 50 rfl rfl rfl rfl rfl ?_
  refine x_ifeq 71 53 rfl rfl rfl (fun c => absurd c (by decide)) (fun _ => ?_)
  refine x_ld 6 2 0 55 rfl rfl rfl rfl rfl ?_
  refine x_cst (.int 32) 2 57 rfl rfl rfl ?_
  refine x_iclt 67 60 rfl rfl rfl (fun c => absurd c (Int32.not_lt.mpr K2.1)) (fun _ => ?_)
  refine x_ld 6 2 0 62 rfl rfl rfl rfl rfl ?_
  refine x_cst (.int 126) 2 64 rfl rfl rfl ?_
  refine x_icle 71 67 rfl rfl rfl (fun _ => ?_) (fun c => absurd K2.2 c)
  refine x_cst (.int 0) 1 72 rfl rfl rfl ?_
  refine x_st 4 2 0 74 [some (.ref m), some (.int x), some (.int 2), some (.int 1), some (.int 0), some (.int 2), some (.int (byt x 2))] rfl rfl rfl (Nat.le_of_ble_eq_true rfl) rfl rfl ?_
  refine x_ld 3 1 0 75 rfl rfl rfl rfl rfl ?_
  refine x_ifeq 84 78 rfl rfl rfl (fun c => absurd c (by decide)) (fun _ => ?_)
  refine x_ld 2 1 0 79 rfl rfl rfl rfl rfl ?_
  refine x_cst (.int 1) 1 80 rfl rfl rfl ?_
  refine x_bin (3) 81 rfl rfl rfl rfl ?_
  refine x_go 85 rfl rfl ?_
  refine x_st 2 1 0 86 [some (.ref m), some (.int x), some (.int 3), some (.int 1), some (.int 0), some (.int 2), some (.int (byt x 2))] rfl rfl rfl (Nat.le_of_ble_eq_true rfl) rfl rfl ?_
  refine x_inc 5 1 1 89 [some (.ref m), some (.int x), some (.int 3), some (.int 1), some (.int 0), some (.int 3), some (.int (byt x 2))] rfl rfl (Nat.le_of_ble_eq_true rfl) rfl rfl rfl ?_
  refine x_go 10 rfl rfl ?_
  refine x_ld 5 2 0 12 rfl rfl rfl rfl rfl ?_
  refine x_cst (.int 4) 1 13 rfl rfl rfl ?_
  refine x_icge 92 16 rfl rfl rfl (fun c => absurd c (by decide)) (fun _ => ?_)
  refine x_ld 1 1 0 17 rfl rfl rfl rfl rfl ?_
  refine x_cst (.int 8) 2 19 rfl rfl rfl ?_
  refine x_ld 5 2 0 21 rfl rfl rfl rfl rfl ?_
  refine x_bin (24) 22 rfl rfl rfl rfl ?_
  refine x_bin (x >>> (24 &&& 31)) 23 rfl rfl rfl rfl ?_
  refine x_cst (.int 255) 3 26 rfl rfl rfl ?_
  refine x_bin (byt x 3) 27 rfl rfl (byS_3 x) rfl ?_
  refine x_st 6 2 0 29 [some (.ref m), some (.int x), some (.int 3), some (.int 1), some (.int 0), some (.int 3), some (.int (byt x 3))] rfl rfl rfl (Nat.le_of_ble_eq_true rfl) rfl rfl ?_
  refine x_ld 3 1 0 30 rfl rfl rfl rfl rfl ?_
  refine x_ifeq 42 33 rfl rfl rfl (fun c => absurd c (by decide)) (fun _ => ?_)
  refine x_ld 6 2 0 35 rfl rfl rfl rfl rfl ?_
  refine x_ifeq 42 38 rfl rfl rfl (fun _ => ?_) (fun c => absurd Z c)
  refine x_cst (.int 0) 1 43 rfl rfl rfl ?_
  refine x_st 3 1 0 44 [some (.ref m), some (.int x), some (.int 3), some (.int 0), some (.int 0), some (.int 3), some (.int (byt x 3))] rfl rfl rfl (Nat.le_of_ble_eq_true rfl) rfl rfl ?_
  refine x_ld 4 2 0 46 rfl rfl rfl rfl rfl ?_
  refine x_ifne 67 49 rfl rfl rfl (fun c => absurd (by decide) c) (fun _ => ?_)
  refine x_ld 3 1 0 50 rfl rfl rfl rfl rfl ?_
  refine x_ifeq 71 53 rfl rfl rfl (fun _ => ?_) (fun c => absurd (by decide) c)
  refine x_cst (.int 0) 1 72 rfl rfl rfl ?_
  refine x_st 4 2 0 74 [some (.ref m), some (.int x), some (.int 3), some (.int 0), some (.int 0), some (.int 3), some (.int (byt x 3))] rfl rfl rfl (Nat.le_of_ble_eq_true rfl) rfl rfl ?_
  refine x_ld 3 1 0 75 rfl rfl rfl rfl rfl ?_
  refine x_ifeq 84 78 rfl rfl rfl (fun _ => ?_) (fun c => absurd (by decide) c)
  refine x_ld 2 1 0 85 rfl rfl rfl rfl rfl ?_
  refine x_st 2 1 0 86 [some (.ref m), some (.int x), some (.int 3), some (.int 0), some (.int 0), some (.int 3), some (.int (byt x 3))] rfl rfl rfl (Nat.le_of_ble_eq_true rfl) rfl rfl ?_
  refine x_inc 5 1 1 89 [some (.ref m), some (.int x), some (.int 3), some (.int 0), some (.int 0), some (.int 4), some (.int (byt x 3))] rfl rfl (Nat.le_of_ble_eq_true rfl) rfl rfl rfl ?_
  refine x_go 10 rfl rfl ?_
  refine x_ld 5 2 0 12 rfl rfl rfl rfl rfl ?_
  refine x_cst (.int 4) 1 13 rfl rfl rfl ?_
  refine x_icge 92 16 rfl rfl rfl (fun _ => ?_) (fun c => absurd (by decide) c)
  refine x_ld 0 1 2 93 rfl rfl rfl rfl rfl ?_
  refine x_ld 4 2 0 95 rfl rfl rfl rfl rfl ?_
  refine x_ifeq 102 98 rfl rfl rfl (fun _ => ?_) (fun c => absurd (by decide) c)
  refine x_cst (.int 0) 1 103 rfl rfl rfl ?_
  refine x_put 159 5 2 106 rfl rfl hm (by simp only [List.length_set, hfs]; omega) rfl rfl rfl _ rfl rfl ?_
  refine x_ld 4 2 0 108 rfl rfl rfl rfl rfl ?_
  refine x_ifne 122 111 rfl rfl rfl (fun c => absurd (by decide) c) (fun _ => ?_)
  refine x_ld 0 1 2 112 rfl rfl rfl rfl rfl ?_
  refine x_get 162 5 4 115 rfl rfl (set_at hm) ((fs_ne (by decide)).trans h4) rfl ?_
  refine x_ld 2 1 0 116 rfl rfl rfl rfl rfl ?_
  refine x_bin (Int32.ofNat (n + 3)) 117 rfl rfl (i32_add n 3) rfl ?_
  refine x_cst (.int 16) 2 119 rfl rfl rfl ?_
  refine x_icle 124 122 rfl rfl rfl (fun _ => ?_) (fun c => absurd ((i32_le 16 (n + 3) (by decide) (by omega)).mpr hf) c)
  refine x_cst (.int 0) 1 125 rfl rfl rfl ?_
  refine x_st 5 2 0 127 [some (.ref m), some (.int x), some (.int 3), some (.int 0), some (.int 0), some (.int 0), some (.int (byt x 3))] rfl rfl rfl (Nat.le_of_ble_eq_true rfl) rfl rfl ?_
  refine x_ld 5 2 0 129 rfl rfl rfl rfl rfl ?_
  refine x_ld 2 1 0 130 rfl rfl rfl rfl rfl ?_
  refine x_icge 169 133 rfl rfl rfl (fun c => absurd c (by decide)) (fun _ => ?_)
  refine x_ld 0 1 2 134 rfl rfl rfl rfl rfl ?_
  refine x_get 16 5 3 137 rfl rfl (set_at hm) ((fs_ne (by decide)).trans h3) rfl ?_
  refine x_ld 0 1 2 138 rfl rfl rfl rfl rfl ?_
  refine x_get 162 5 4 141 rfl rfl (set_at hm) ((fs_ne (by decide)).trans h4) rfl ?_
  refine x_ld 1 1 0 142 rfl rfl rfl rfl rfl ?_
  refine x_cst (.int 8) 2 144 rfl rfl rfl ?_
  refine x_ld 5 2 0 146 rfl rfl rfl rfl rfl ?_
  refine x_bin (0) 147 rfl rfl rfl rfl ?_
  refine x_bin (x >>> (0 &&& 31)) 148 rfl rfl rfl rfl ?_
  refine x_cst (.int 255) 3 151 rfl rfl rfl ?_
  refine x_bin (byt x 0) 152 rfl rfl (byS_0 x) rfl ?_
  refine x_ist 153 rfl ((set_ne (Ne.symm hne)).trans hl) rfl (i32_in n 16 (by omega) (by decide)) _ (by rw [i32_nat n (by omega)]) rfl ?_
  refine x_ld 0 1 2 154 rfl rfl rfl rfl rfl ?_
  refine x_dup 155 rfl rfl rfl ?_
  refine x_get 162 5 4 158 rfl rfl ((set_ne hne).trans (set_at hm)) ((fs_ne (by decide)).trans h4) rfl ?_
  refine x_cst (.int 1) 1 159 rfl rfl rfl ?_
  refine x_bin (Int32.ofNat (n + 1)) 160 rfl rfl (i32_add n 1) rfl ?_
  refine x_put 162 5 4 163 rfl rfl ((set_ne hne).trans (set_at hm)) (by simp only [List.length_set, hfs]; omega) rfl rfl rfl _ rfl rfl ?_
  refine x_inc 5 1 1 166 [some (.ref m), some (.int x), some (.int 3), some (.int 0), some (.int 0), some (.int 1), some (.int (byt x 3))] rfl rfl (Nat.le_of_ble_eq_true rfl) rfl rfl rfl ?_
  refine x_go 127 rfl rfl ?_
  refine x_ld 5 2 0 129 rfl rfl rfl rfl rfl ?_
  refine x_ld 2 1 0 130 rfl rfl rfl rfl rfl ?_
  refine x_icge 169 133 rfl rfl rfl (fun c => absurd c (by decide)) (fun _ => ?_)
  refine x_ld 0 1 2 134 rfl rfl rfl rfl rfl ?_
  refine x_get 16 5 3 137 rfl rfl (set_at ((set_ne hne).trans (set_at hm))) ((fs_ne (by decide)).trans ((fs_ne (by decide)).trans h3)) rfl ?_
  refine x_ld 0 1 2 138 rfl rfl rfl rfl rfl ?_
  refine x_get 162 5 4 141 rfl rfl (set_at ((set_ne hne).trans (set_at hm))) (fs_at (by simp only [List.length_set, hfs]; omega)) rfl ?_
  refine x_ld 1 1 0 142 rfl rfl rfl rfl rfl ?_
  refine x_cst (.int 8) 2 144 rfl rfl rfl ?_
  refine x_ld 5 2 0 146 rfl rfl rfl rfl rfl ?_
  refine x_bin (8) 147 rfl rfl rfl rfl ?_
  refine x_bin (x >>> (8 &&& 31)) 148 rfl rfl rfl rfl ?_
  refine x_cst (.int 255) 3 151 rfl rfl rfl ?_
  refine x_bin (byt x 1) 152 rfl rfl (byS_1 x) rfl ?_
  refine x_ist 153 rfl ((set_ne (Ne.symm hne)).trans (set_at ((set_ne (Ne.symm hne)).trans hl))) rfl (i32_in (n + 1) 16 (by omega) (by decide)) _ (by rw [i32_nat (n + 1) (by omega)]) rfl ?_
  refine x_ld 0 1 2 154 rfl rfl rfl rfl rfl ?_
  refine x_dup 155 rfl rfl rfl ?_
  refine x_get 162 5 4 158 rfl rfl ((set_ne hne).trans (set_at ((set_ne hne).trans (set_at hm)))) (fs_at (by simp only [List.length_set, hfs]; omega)) rfl ?_
  refine x_cst (.int 1) 1 159 rfl rfl rfl ?_
  refine x_bin (Int32.ofNat (n + 2)) 160 rfl rfl (i32_add (n + 1) 1) rfl ?_
  refine x_put 162 5 4 163 rfl rfl ((set_ne hne).trans (set_at ((set_ne hne).trans (set_at hm)))) (by simp only [List.length_set, hfs]; omega) rfl rfl rfl _ rfl rfl ?_
  refine x_inc 5 1 1 166 [some (.ref m), some (.int x), some (.int 3), some (.int 0), some (.int 0), some (.int 2), some (.int (byt x 3))] rfl rfl (Nat.le_of_ble_eq_true rfl) rfl rfl rfl ?_
  refine x_go 127 rfl rfl ?_
  refine x_ld 5 2 0 129 rfl rfl rfl rfl rfl ?_
  refine x_ld 2 1 0 130 rfl rfl rfl rfl rfl ?_
  refine x_icge 169 133 rfl rfl rfl (fun c => absurd c (by decide)) (fun _ => ?_)
  refine x_ld 0 1 2 134 rfl rfl rfl rfl rfl ?_
  refine x_get 16 5 3 137 rfl rfl (set_at ((set_ne hne).trans (set_at ((set_ne hne).trans (set_at hm))))) ((fs_ne (by decide)).trans ((fs_ne (by decide)).trans ((fs_ne (by decide)).trans h3))) rfl ?_
  refine x_ld 0 1 2 138 rfl rfl rfl rfl rfl ?_
  refine x_get 162 5 4 141 rfl rfl (set_at ((set_ne hne).trans (set_at ((set_ne hne).trans (set_at hm))))) (fs_at (by simp only [List.length_set, hfs]; omega)) rfl ?_
  refine x_ld 1 1 0 142 rfl rfl rfl rfl rfl ?_
  refine x_cst (.int 8) 2 144 rfl rfl rfl ?_
  refine x_ld 5 2 0 146 rfl rfl rfl rfl rfl ?_
  refine x_bin (16) 147 rfl rfl rfl rfl ?_
  refine x_bin (x >>> (16 &&& 31)) 148 rfl rfl rfl rfl ?_
  refine x_cst (.int 255) 3 151 rfl rfl rfl ?_
  refine x_bin (byt x 2) 152 rfl rfl (byS_2 x) rfl ?_
  refine x_ist 153 rfl ((set_ne (Ne.symm hne)).trans (set_at ((set_ne (Ne.symm hne)).trans (set_at ((set_ne (Ne.symm hne)).trans hl))))) rfl (i32_in (n + 2) 16 (by omega) (by decide)) _ (by rw [i32_nat (n + 2) (by omega)]) rfl ?_
  refine x_ld 0 1 2 154 rfl rfl rfl rfl rfl ?_
  refine x_dup 155 rfl rfl rfl ?_
  refine x_get 162 5 4 158 rfl rfl ((set_ne hne).trans (set_at ((set_ne hne).trans (set_at ((set_ne hne).trans (set_at hm)))))) (fs_at (by simp only [List.length_set, hfs]; omega)) rfl ?_
  refine x_cst (.int 1) 1 159 rfl rfl rfl ?_
  refine x_bin (Int32.ofNat (n + 3)) 160 rfl rfl (i32_add (n + 2) 1) rfl ?_
  refine x_put 162 5 4 163 rfl rfl ((set_ne hne).trans (set_at ((set_ne hne).trans (set_at ((set_ne hne).trans (set_at hm)))))) (by simp only [List.length_set, hfs]; omega) rfl rfl rfl _ rfl rfl ?_
  refine x_inc 5 1 1 166 [some (.ref m), some (.int x), some (.int 3), some (.int 0), some (.int 0), some (.int 3), some (.int (byt x 3))] rfl rfl (Nat.le_of_ble_eq_true rfl) rfl rfl rfl ?_
  refine x_go 127 rfl rfl ?_
  refine x_ld 5 2 0 129 rfl rfl rfl rfl rfl ?_
  refine x_ld 2 1 0 130 rfl rfl rfl rfl rfl ?_
  refine x_icge 169 133 rfl rfl rfl (fun _ => ?_) (fun c => absurd (by decide) c)
  refine x_cst (.int 1) 1 170 rfl rfl rfl ?_
  refine x_ret rfl rfl rfl rfl ?_
  exact ⟨rfl, t104_h3 hne⟩
theorem f104_3 (d : Nat) {h : ab_H} {m ml n : Nat} {x : Int32} {g : Nat → Int32} {fs : List Value} (hm : h[m]? = some (.inr (5, fs))) (hfs : fs.length = 68) (h3 : fs[3]? = some (.ref ml)) (h4 : fs[4]? = some (.int (Int32.ofNat n))) (hl : h[ml]? = some (.inl (0, 16, .inl g))) (hne : ml ≠ m) (hn : n ≤ 16) (H : okc x 3) (hf : ¬ n + 3 ≤ 16) : ab_S (pg_G L xs) (d + 1) 104 [.ref m, .int x] h (some (.int 0)) (h.set m (.inr (5, fs.set 2 (.int 0)))) := by
  show ab_W (pg_G L xs) (ab_X (pg_G L xs) d) 104 _ 0 [some (.ref m), some (.int x), none, none, none, none, none] [] h
  have K0 : 32 ≤ byt x 0 ∧ byt x 0 ≤ 126 := H.1 0 (by decide)
  have K1 : 32 ≤ byt x 1 ∧ byt x 1 ≤ 126 := H.1 1 (by decide)
  have K2 : 32 ≤ byt x 2 ∧ byt x 2 ≤ 126 := H.1 2 (by decide)
  have Z := H.2 (by decide)
  refine x_cst (.int 0) 1 1 rfl rfl rfl ?_
  refine x_st 2 1 0 2 [some (.ref m), some (.int x), some (.int 0), none, none, none, none] rfl rfl rfl (Nat.le_of_ble_eq_true rfl) rfl rfl ?_
  refine x_cst (.int 1) 1 3 rfl rfl rfl ?_
  refine x_st 3 1 0 4 [some (.ref m), some (.int x), some (.int 0), some (.int 1), none, none, none] rfl rfl rfl (Nat.le_of_ble_eq_true rfl) rfl rfl ?_
  refine x_cst (.int 0) 1 5 rfl rfl rfl ?_
  refine x_st 4 2 0 7 [some (.ref m), some (.int x), some (.int 0), some (.int 1), some (.int 0), none, none] rfl rfl rfl (Nat.le_of_ble_eq_true rfl) rfl rfl ?_
  refine x_cst (.int 0) 1 8 rfl rfl rfl ?_
  refine x_st 5 2 0 10 [some (.ref m), some (.int x), some (.int 0), some (.int 1), some (.int 0), some (.int 0), none] rfl rfl rfl (Nat.le_of_ble_eq_true rfl) rfl rfl ?_
  refine x_ld 5 2 0 12 rfl rfl rfl rfl rfl ?_
  refine x_cst (.int 4) 1 13 rfl rfl rfl ?_
  refine x_icge 92 16 rfl rfl rfl (fun c => absurd c (by decide)) (fun _ => ?_)
  refine x_ld 1 1 0 17 rfl rfl rfl rfl rfl ?_
  refine x_cst (.int 8) 2 19 rfl rfl rfl ?_
  refine x_ld 5 2 0 21 rfl rfl rfl rfl rfl ?_
  refine x_bin (0) 22 rfl rfl rfl rfl ?_
  refine x_bin (x >>> (0 &&& 31)) 23 rfl rfl rfl rfl ?_
  refine x_cst (.int 255) 3 26 rfl rfl rfl ?_
  refine x_bin (byt x 0) 27 rfl rfl (byS_0 x) rfl ?_
  refine x_st 6 2 0 29 [some (.ref m), some (.int x), some (.int 0), some (.int 1), some (.int 0), some (.int 0), some (.int (byt x 0))] rfl rfl rfl (Nat.le_of_ble_eq_true rfl) rfl rfl ?_
  refine x_ld 3 1 0 30 rfl rfl rfl rfl rfl ?_
  refine x_ifeq 42 33 rfl rfl rfl (fun c => absurd c (by decide)) (fun _ => ?_)
  refine x_ld 6 2 0 35 rfl rfl rfl rfl rfl ?_
  refine x_ifeq 42 38 rfl rfl rfl (fun c => absurd c (nz32 K0.1)) (fun _ => ?_)
  refine x_cst (.int 1) 1 39 rfl rfl rfl ?_
  refine x_go 43 rfl rfl ?_
  refine x_st 3 1 0 44 [some (.ref m), some (.int x), some (.int 0), some (.int 1), some (.int 0), some (.int 0), some (.int (byt x 0))] rfl rfl rfl (Nat.le_of_ble_eq_true rfl) rfl rfl ?_
  refine x_ld 4 2 0 46 rfl rfl rfl rfl rfl ?_
  refine x_ifne 67 49 rfl rfl rfl (fun c => absurd (by decide) c) (fun _ => ?_)
  refine x_ld 3 1 0 50 rfl rfl rfl rfl rfl ?_
  refine x_ifeq 71 53 rfl rfl rfl (fun c => absurd c (by decide)) (fun _ => ?_)
  refine x_ld 6 2 0 55 rfl rfl rfl rfl rfl ?_
  refine x_cst (.int 32) 2 57 rfl rfl rfl ?_
  refine x_iclt 67 60 rfl rfl rfl (fun c => absurd c (Int32.not_lt.mpr K0.1)) (fun _ => ?_)
  refine x_ld 6 2 0 62 rfl rfl rfl rfl rfl ?_
  refine x_cst (.int 126) 2 64 rfl rfl rfl ?_
  refine x_icle 71 67 rfl rfl rfl (fun _ => ?_) (fun c => absurd K0.2 c)
  refine x_cst (.int 0) 1 72 rfl rfl rfl ?_
  refine x_st 4 2 0 74 [some (.ref m), some (.int x), some (.int 0), some (.int 1), some (.int 0), some (.int 0), some (.int (byt x 0))] rfl rfl rfl (Nat.le_of_ble_eq_true rfl) rfl rfl ?_
  refine x_ld 3 1 0 75 rfl rfl rfl rfl rfl ?_
  refine x_ifeq 84 78 rfl rfl rfl (fun c => absurd c (by decide)) (fun _ => ?_)
  refine x_ld 2 1 0 79 rfl rfl rfl rfl rfl ?_
  refine x_cst (.int 1) 1 80 rfl rfl rfl ?_
  refine x_bin (1) 81 rfl rfl rfl rfl ?_
  refine x_go 85 rfl rfl ?_
  refine x_st 2 1 0 86 [some (.ref m), some (.int x), some (.int 1), some (.int 1), some (.int 0), some (.int 0), some (.int (byt x 0))] rfl rfl rfl (Nat.le_of_ble_eq_true rfl) rfl rfl ?_
  refine x_inc 5 1 1 89 [some (.ref m), some (.int x), some (.int 1), some (.int 1), some (.int 0), some (.int 1), some (.int (byt x 0))] rfl rfl (Nat.le_of_ble_eq_true rfl) rfl rfl rfl ?_
  refine x_go 10 rfl rfl ?_
  refine x_ld 5 2 0 12 rfl rfl rfl rfl rfl ?_
  refine x_cst (.int 4) 1 13 rfl rfl rfl ?_
  refine x_icge 92 16 rfl rfl rfl (fun c => absurd c (by decide)) (fun _ => ?_)
  refine x_ld 1 1 0 17 rfl rfl rfl rfl rfl ?_
  refine x_cst (.int 8) 2 19 rfl rfl rfl ?_
  refine x_ld 5 2 0 21 rfl rfl rfl rfl rfl ?_
  refine x_bin (8) 22 rfl rfl rfl rfl ?_
  refine x_bin (x >>> (8 &&& 31)) 23 rfl rfl rfl rfl ?_
  refine x_cst (.int 255) 3 26 rfl rfl rfl ?_
  refine x_bin (byt x 1) 27 rfl rfl (byS_1 x) rfl ?_
  refine x_st 6 2 0 29 [some (.ref m), some (.int x), some (.int 1), some (.int 1), some (.int 0), some (.int 1), some (.int (byt x 1))] rfl rfl rfl (Nat.le_of_ble_eq_true rfl) rfl rfl ?_
  refine x_ld 3 1 0 30 rfl rfl rfl rfl rfl ?_
  refine x_ifeq 42 33 rfl rfl rfl (fun c => absurd c (by decide)) (fun _ => ?_)
  refine x_ld 6 2 0 35 rfl rfl rfl rfl rfl ?_
  refine x_ifeq 42 38 rfl rfl rfl (fun c => absurd c (nz32 K1.1)) (fun _ => ?_)
  refine x_cst (.int 1) 1 39 rfl rfl rfl ?_
  refine x_go 43 rfl rfl ?_
  refine x_st 3 1 0 44 [some (.ref m), some (.int x), some (.int 1), some (.int 1), some (.int 0), some (.int 1), some (.int (byt x 1))] rfl rfl rfl (Nat.le_of_ble_eq_true rfl) rfl rfl ?_
  refine x_ld 4 2 0 46 rfl rfl rfl rfl rfl ?_
  refine x_ifne 67 49 rfl rfl rfl (fun c => absurd (by decide) c) (fun _ => ?_)
  refine x_ld 3 1 0 50 rfl rfl rfl rfl rfl ?_
  refine x_ifeq 71 53 rfl rfl rfl (fun c => absurd c (by decide)) (fun _ => ?_)
  refine x_ld 6 2 0 55 rfl rfl rfl rfl rfl ?_
  refine x_cst (.int 32) 2 57 rfl rfl rfl ?_
  refine x_iclt 67 60 rfl rfl rfl (fun c => absurd c (Int32.not_lt.mpr K1.1)) (fun _ => ?_)
  refine x_ld 6 2 0 62 rfl rfl rfl rfl rfl ?_
  refine x_cst (.int 126) 2 64 rfl rfl rfl ?_
  refine x_icle 71 67 rfl rfl rfl (fun _ => ?_) (fun c => absurd K1.2 c)
  refine x_cst (.int 0) 1 72 rfl rfl rfl ?_
  refine x_st 4 2 0 74 [some (.ref m), some (.int x), some (.int 1), some (.int 1), some (.int 0), some (.int 1), some (.int (byt x 1))] rfl rfl rfl (Nat.le_of_ble_eq_true rfl) rfl rfl ?_
  refine x_ld 3 1 0 75 rfl rfl rfl rfl rfl ?_
  refine x_ifeq 84 78 rfl rfl rfl (fun c => absurd c (by decide)) (fun _ => ?_)
  refine x_ld 2 1 0 79 rfl rfl rfl rfl rfl ?_
  refine x_cst (.int 1) 1 80 rfl rfl rfl ?_
  refine x_bin (2) 81 rfl rfl rfl rfl ?_
  refine x_go 85 rfl rfl ?_
  refine x_st 2 1 0 86 [some (.ref m), some (.int x), some (.int 2), some (.int 1), some (.int 0), some (.int 1), some (.int (byt x 1))] rfl rfl rfl (Nat.le_of_ble_eq_true rfl) rfl rfl ?_
  refine x_inc 5 1 1 89 [some (.ref m), some (.int x), some (.int 2), some (.int 1), some (.int 0), some (.int 2), some (.int (byt x 1))] rfl rfl (Nat.le_of_ble_eq_true rfl) rfl rfl rfl ?_
  refine x_go 10 rfl rfl ?_
  refine x_ld 5 2 0 12 rfl rfl rfl rfl rfl ?_
  refine x_cst (.int 4) 1 13 rfl rfl rfl ?_
  refine x_icge 92 16 rfl rfl rfl (fun c => absurd c (by decide)) (fun _ => ?_)
  refine x_ld 1 1 0 17 rfl rfl rfl rfl rfl ?_
  refine x_cst (.int 8) 2 19 rfl rfl rfl ?_
  refine x_ld 5 2 0 21 rfl rfl rfl rfl rfl ?_
  refine x_bin (16) 22 rfl rfl rfl rfl ?_
  refine x_bin (x >>> (16 &&& 31)) 23 rfl rfl rfl rfl ?_
  refine x_cst (.int 255) 3 26 rfl rfl rfl ?_
  refine x_bin (byt x 2) 27 rfl rfl (byS_2 x) rfl ?_
  refine x_st 6 2 0 29 [some (.ref m), some (.int x), some (.int 2), some (.int 1), some (.int 0), some (.int 2), some (.int (byt x 2))] rfl rfl rfl (Nat.le_of_ble_eq_true rfl) rfl rfl ?_
  refine x_ld 3 1 0 30 rfl rfl rfl rfl rfl ?_
  refine x_ifeq 42 33 rfl rfl rfl (fun c => absurd c (by decide)) (fun _ => ?_)
  refine x_ld 6 2 0 35 rfl rfl rfl rfl rfl ?_
  refine x_ifeq 42 38 rfl rfl rfl (fun c => absurd c (nz32 K2.1)) (fun _ => ?_)
  refine x_cst (.int 1) 1 39 rfl rfl rfl ?_
  refine x_go 43 rfl rfl ?_
  refine x_st 3 1 0 44 [some (.ref m), some (.int x), some (.int 2), some (.int 1), some (.int 0), some (.int 2), some (.int (byt x 2))] rfl rfl rfl (Nat.le_of_ble_eq_true rfl) rfl rfl ?_
  refine x_ld 4 2 0 46 rfl rfl rfl rfl rfl ?_
  refine x_ifne 67 49 rfl rfl rfl (fun c => absurd (by decide) c) (fun _ => ?_)
  refine x_ld 3 1 0 50 rfl rfl rfl rfl rfl ?_
  refine x_ifeq 71 53 rfl rfl rfl (fun c => absurd c (by decide)) (fun _ => ?_)
  refine x_ld 6 2 0 55 rfl rfl rfl rfl rfl ?_
  refine x_cst (.int 32) 2 57 rfl rfl rfl ?_
  refine x_iclt 67 60 rfl rfl rfl (fun c => absurd c (Int32.not_lt.mpr K2.1)) (fun _ => ?_)
  refine x_ld 6 2 0 62 rfl rfl rfl rfl rfl ?_
  refine x_cst (.int 126) 2 64 rfl rfl rfl ?_
  refine x_icle 71 67 rfl rfl rfl (fun _ => ?_) (fun c => absurd K2.2 c)
  refine x_cst (.int 0) 1 72 rfl rfl rfl ?_
  refine x_st 4 2 0 74 [some (.ref m), some (.int x), some (.int 2), some (.int 1), some (.int 0), some (.int 2), some (.int (byt x 2))] rfl rfl rfl (Nat.le_of_ble_eq_true rfl) rfl rfl ?_
  refine x_ld 3 1 0 75 rfl rfl rfl rfl rfl ?_
  refine x_ifeq 84 78 rfl rfl rfl (fun c => absurd c (by decide)) (fun _ => ?_)
  refine x_ld 2 1 0 79 rfl rfl rfl rfl rfl ?_
  refine x_cst (.int 1) 1 80 rfl rfl rfl ?_
  refine x_bin (3) 81 rfl rfl rfl rfl ?_
  refine x_go 85 rfl rfl ?_
  refine x_st 2 1 0 86 [some (.ref m), some (.int x), some (.int 3), some (.int 1), some (.int 0), some (.int 2), some (.int (byt x 2))] rfl rfl rfl (Nat.le_of_ble_eq_true rfl) rfl rfl ?_
  refine x_inc 5 1 1 89 [some (.ref m), some (.int x), some (.int 3), some (.int 1), some (.int 0), some (.int 3), some (.int (byt x 2))] rfl rfl (Nat.le_of_ble_eq_true rfl) rfl rfl rfl ?_
  refine x_go 10 rfl rfl ?_
  refine x_ld 5 2 0 12 rfl rfl rfl rfl rfl ?_
  refine x_cst (.int 4) 1 13 rfl rfl rfl ?_
  refine x_icge 92 16 rfl rfl rfl (fun c => absurd c (by decide)) (fun _ => ?_)
  refine x_ld 1 1 0 17 rfl rfl rfl rfl rfl ?_
  refine x_cst (.int 8) 2 19 rfl rfl rfl ?_
  refine x_ld 5 2 0 21 rfl rfl rfl rfl rfl ?_
  refine x_bin (24) 22 rfl rfl rfl rfl ?_
  refine x_bin (x >>> (24 &&& 31)) 23 rfl rfl rfl rfl ?_
  refine x_cst (.int 255) 3 26 rfl rfl rfl ?_
  refine x_bin (byt x 3) 27 rfl rfl (byS_3 x) rfl ?_
  refine x_st 6 2 0 29 [some (.ref m), some (.int x), some (.int 3), some (.int 1), some (.int 0), some (.int 3), some (.int (byt x 3))] rfl rfl rfl (Nat.le_of_ble_eq_true rfl) rfl rfl ?_
  refine x_ld 3 1 0 30 rfl rfl rfl rfl rfl ?_
  refine x_ifeq 42 33 rfl rfl rfl (fun c => absurd c (by decide)) (fun _ => ?_)
  refine x_ld 6 2 0 35 rfl rfl rfl rfl rfl ?_
  refine x_ifeq 42 38 rfl rfl rfl (fun _ => ?_) (fun c => absurd Z c)
  refine x_cst (.int 0) 1 43 rfl rfl rfl ?_
  refine x_st 3 1 0 44 [some (.ref m), some (.int x), some (.int 3), some (.int 0), some (.int 0), some (.int 3), some (.int (byt x 3))] rfl rfl rfl (Nat.le_of_ble_eq_true rfl) rfl rfl ?_
  refine x_ld 4 2 0 46 rfl rfl rfl rfl rfl ?_
  refine x_ifne 67 49 rfl rfl rfl (fun c => absurd (by decide) c) (fun _ => ?_)
  refine x_ld 3 1 0 50 rfl rfl rfl rfl rfl ?_
  refine x_ifeq 71 53 rfl rfl rfl (fun _ => ?_) (fun c => absurd (by decide) c)
  refine x_cst (.int 0) 1 72 rfl rfl rfl ?_
  refine x_st 4 2 0 74 [some (.ref m), some (.int x), some (.int 3), some (.int 0), some (.int 0), some (.int 3), some (.int (byt x 3))] rfl rfl rfl (Nat.le_of_ble_eq_true rfl) rfl rfl ?_
  refine x_ld 3 1 0 75 rfl rfl rfl rfl rfl ?_
  refine x_ifeq 84 78 rfl rfl rfl (fun _ => ?_) (fun c => absurd (by decide) c)
  refine x_ld 2 1 0 85 rfl rfl rfl rfl rfl ?_
  refine x_st 2 1 0 86 [some (.ref m), some (.int x), some (.int 3), some (.int 0), some (.int 0), some (.int 3), some (.int (byt x 3))] rfl rfl rfl (Nat.le_of_ble_eq_true rfl) rfl rfl ?_
  refine x_inc 5 1 1 89 [some (.ref m), some (.int x), some (.int 3), some (.int 0), some (.int 0), some (.int 4), some (.int (byt x 3))] rfl rfl (Nat.le_of_ble_eq_true rfl) rfl rfl rfl ?_
  refine x_go 10 rfl rfl ?_
  refine x_ld 5 2 0 12 rfl rfl rfl rfl rfl ?_
  refine x_cst (.int 4) 1 13 rfl rfl rfl ?_
  refine x_icge 92 16 rfl rfl rfl (fun _ => ?_) (fun c => absurd (by decide) c)
  refine x_ld 0 1 2 93 rfl rfl rfl rfl rfl ?_
  refine x_ld 4 2 0 95 rfl rfl rfl rfl rfl ?_
  refine x_ifeq 102 98 rfl rfl rfl (fun _ => ?_) (fun c => absurd (by decide) c)
  refine x_cst (.int 0) 1 103 rfl rfl rfl ?_
  refine x_put 159 5 2 106 rfl rfl hm (by simp only [List.length_set, hfs]; omega) rfl rfl rfl _ rfl rfl ?_
  refine x_ld 4 2 0 108 rfl rfl rfl rfl rfl ?_
  refine x_ifne 122 111 rfl rfl rfl (fun c => absurd (by decide) c) (fun _ => ?_)
  refine x_ld 0 1 2 112 rfl rfl rfl rfl rfl ?_
  refine x_get 162 5 4 115 rfl rfl (set_at hm) ((fs_ne (by decide)).trans h4) rfl ?_
  refine x_ld 2 1 0 116 rfl rfl rfl rfl rfl ?_
  refine x_bin (Int32.ofNat (n + 3)) 117 rfl rfl (i32_add n 3) rfl ?_
  refine x_cst (.int 16) 2 119 rfl rfl rfl ?_
  refine x_icle 124 122 rfl rfl rfl (fun c => absurd c (fun z => absurd ((i32_le 16 (n + 3) (by decide) (by omega)).mp z) (by omega))) (fun _ => ?_)
  refine x_cst (.int 0) 1 123 rfl rfl rfl ?_
  refine x_ret rfl rfl rfl rfl ?_
  exact ⟨rfl, rfl⟩
theorem b104_3 (d : Nat) {h : ab_H} {m ml n : Nat} {x : Int32} {g : Nat → Int32} {fs : List Value} (hm : h[m]? = some (.inr (5, fs))) (hfs : fs.length = 68) (h3 : fs[3]? = some (.ref ml)) (h4 : fs[4]? = some (.int (Int32.ofNat n))) (hl : h[ml]? = some (.inl (0, 16, .inl g))) (hne : ml ≠ m) (hn : n ≤ 16) (H : bdc x 3) : ab_S (pg_G L xs) (d + 1) 104 [.ref m, .int x] h (some (.int 0)) (h.set m (.inr (5, fs.set 2 (.int 1)))) := by
  show ab_W (pg_G L xs) (ab_X (pg_G L xs) d) 104 _ 0 [some (.ref m), some (.int x), none, none, none, none, none] [] h
  have K0 : 32 ≤ byt x 0 ∧ byt x 0 ≤ 126 := H.1 0 (by decide)
  have K1 : 32 ≤ byt x 1 ∧ byt x 1 ≤ 126 := H.1 1 (by decide)
  have K2 : 32 ≤ byt x 2 ∧ byt x 2 ≤ 126 := H.1 2 (by decide)
  obtain ⟨-, B0, B1 | ⟨B1, B2⟩⟩ := H
  · refine x_cst (.int 0) 1 1 rfl rfl rfl ?_
    refine x_st 2 1 0 2 [some (.ref m), some (.int x), some (.int 0), none, none, none, none] rfl rfl rfl (Nat.le_of_ble_eq_true rfl) rfl rfl ?_
    refine x_cst (.int 1) 1 3 rfl rfl rfl ?_
    refine x_st 3 1 0 4 [some (.ref m), some (.int x), some (.int 0), some (.int 1), none, none, none] rfl rfl rfl (Nat.le_of_ble_eq_true rfl) rfl rfl ?_
    refine x_cst (.int 0) 1 5 rfl rfl rfl ?_
    refine x_st 4 2 0 7 [some (.ref m), some (.int x), some (.int 0), some (.int 1), some (.int 0), none, none] rfl rfl rfl (Nat.le_of_ble_eq_true rfl) rfl rfl ?_
    refine x_cst (.int 0) 1 8 rfl rfl rfl ?_
    refine x_st 5 2 0 10 [some (.ref m), some (.int x), some (.int 0), some (.int 1), some (.int 0), some (.int 0), none] rfl rfl rfl (Nat.le_of_ble_eq_true rfl) rfl rfl ?_
    refine x_ld 5 2 0 12 rfl rfl rfl rfl rfl ?_
    refine x_cst (.int 4) 1 13 rfl rfl rfl ?_
    refine x_icge 92 16 rfl rfl rfl (fun c => absurd c (by decide)) (fun _ => ?_)
    refine x_ld 1 1 0 17 rfl rfl rfl rfl rfl ?_
    refine x_cst (.int 8) 2 19 rfl rfl rfl ?_
    refine x_ld 5 2 0 21 rfl rfl rfl rfl rfl ?_
    refine x_bin (0) 22 rfl rfl rfl rfl ?_
    refine x_bin (x >>> (0 &&& 31)) 23 rfl rfl rfl rfl ?_
    refine x_cst (.int 255) 3 26 rfl rfl rfl ?_
    refine x_bin (byt x 0) 27 rfl rfl (byS_0 x) rfl ?_
    refine x_st 6 2 0 29 [some (.ref m), some (.int x), some (.int 0), some (.int 1), some (.int 0), some (.int 0), some (.int (byt x 0))] rfl rfl rfl (Nat.le_of_ble_eq_true rfl) rfl rfl ?_
    refine x_ld 3 1 0 30 rfl rfl rfl rfl rfl ?_
    refine x_ifeq 42 33 rfl rfl rfl (fun c => absurd c (by decide)) (fun _ => ?_)
    refine x_ld 6 2 0 35 rfl rfl rfl rfl rfl ?_
    refine x_ifeq 42 38 rfl rfl rfl (fun c => absurd c (nz32 K0.1)) (fun _ => ?_)
    refine x_cst (.int 1) 1 39 rfl rfl rfl ?_
    refine x_go 43 rfl rfl ?_
    refine x_st 3 1 0 44 [some (.ref m), some (.int x), some (.int 0), some (.int 1), some (.int 0), some (.int 0), some (.int (byt x 0))] rfl rfl rfl (Nat.le_of_ble_eq_true rfl) rfl rfl ?_
    refine x_ld 4 2 0 46 rfl rfl rfl rfl rfl ?_
    refine x_ifne 67 49 rfl rfl rfl (fun c => absurd (by decide) c) (fun _ => ?_)
    refine x_ld 3 1 0 50 rfl rfl rfl rfl rfl ?_
    refine x_ifeq 71 53 rfl rfl rfl (fun c => absurd c (by decide)) (fun _ => ?_)
    refine x_ld 6 2 0 55 rfl rfl rfl rfl rfl ?_
    refine x_cst (.int 32) 2 57 rfl rfl rfl ?_
    refine x_iclt 67 60 rfl rfl rfl (fun c => absurd c (Int32.not_lt.mpr K0.1)) (fun _ => ?_)
    refine x_ld 6 2 0 62 rfl rfl rfl rfl rfl ?_
    refine x_cst (.int 126) 2 64 rfl rfl rfl ?_
    refine x_icle 71 67 rfl rfl rfl (fun _ => ?_) (fun c => absurd K0.2 c)
    refine x_cst (.int 0) 1 72 rfl rfl rfl ?_
    refine x_st 4 2 0 74 [some (.ref m), some (.int x), some (.int 0), some (.int 1), some (.int 0), some (.int 0), some (.int (byt x 0))] rfl rfl rfl (Nat.le_of_ble_eq_true rfl) rfl rfl ?_
    refine x_ld 3 1 0 75 rfl rfl rfl rfl rfl ?_
    refine x_ifeq 84 78 rfl rfl rfl (fun c => absurd c (by decide)) (fun _ => ?_)
    refine x_ld 2 1 0 79 rfl rfl rfl rfl rfl ?_
    refine x_cst (.int 1) 1 80 rfl rfl rfl ?_
    refine x_bin (1) 81 rfl rfl rfl rfl ?_
    refine x_go 85 rfl rfl ?_
    refine x_st 2 1 0 86 [some (.ref m), some (.int x), some (.int 1), some (.int 1), some (.int 0), some (.int 0), some (.int (byt x 0))] rfl rfl rfl (Nat.le_of_ble_eq_true rfl) rfl rfl ?_
    refine x_inc 5 1 1 89 [some (.ref m), some (.int x), some (.int 1), some (.int 1), some (.int 0), some (.int 1), some (.int (byt x 0))] rfl rfl (Nat.le_of_ble_eq_true rfl) rfl rfl rfl ?_
    refine x_go 10 rfl rfl ?_
    refine x_ld 5 2 0 12 rfl rfl rfl rfl rfl ?_
    refine x_cst (.int 4) 1 13 rfl rfl rfl ?_
    refine x_icge 92 16 rfl rfl rfl (fun c => absurd c (by decide)) (fun _ => ?_)
    refine x_ld 1 1 0 17 rfl rfl rfl rfl rfl ?_
    refine x_cst (.int 8) 2 19 rfl rfl rfl ?_
    refine x_ld 5 2 0 21 rfl rfl rfl rfl rfl ?_
    refine x_bin (8) 22 rfl rfl rfl rfl ?_
    refine x_bin (x >>> (8 &&& 31)) 23 rfl rfl rfl rfl ?_
    refine x_cst (.int 255) 3 26 rfl rfl rfl ?_
    refine x_bin (byt x 1) 27 rfl rfl (byS_1 x) rfl ?_
    refine x_st 6 2 0 29 [some (.ref m), some (.int x), some (.int 1), some (.int 1), some (.int 0), some (.int 1), some (.int (byt x 1))] rfl rfl rfl (Nat.le_of_ble_eq_true rfl) rfl rfl ?_
    refine x_ld 3 1 0 30 rfl rfl rfl rfl rfl ?_
    refine x_ifeq 42 33 rfl rfl rfl (fun c => absurd c (by decide)) (fun _ => ?_)
    refine x_ld 6 2 0 35 rfl rfl rfl rfl rfl ?_
    refine x_ifeq 42 38 rfl rfl rfl (fun c => absurd c (nz32 K1.1)) (fun _ => ?_)
    refine x_cst (.int 1) 1 39 rfl rfl rfl ?_
    refine x_go 43 rfl rfl ?_
    refine x_st 3 1 0 44 [some (.ref m), some (.int x), some (.int 1), some (.int 1), some (.int 0), some (.int 1), some (.int (byt x 1))] rfl rfl rfl (Nat.le_of_ble_eq_true rfl) rfl rfl ?_
    refine x_ld 4 2 0 46 rfl rfl rfl rfl rfl ?_
    refine x_ifne 67 49 rfl rfl rfl (fun c => absurd (by decide) c) (fun _ => ?_)
    refine x_ld 3 1 0 50 rfl rfl rfl rfl rfl ?_
    refine x_ifeq 71 53 rfl rfl rfl (fun c => absurd c (by decide)) (fun _ => ?_)
    refine x_ld 6 2 0 55 rfl rfl rfl rfl rfl ?_
    refine x_cst (.int 32) 2 57 rfl rfl rfl ?_
    refine x_iclt 67 60 rfl rfl rfl (fun c => absurd c (Int32.not_lt.mpr K1.1)) (fun _ => ?_)
    refine x_ld 6 2 0 62 rfl rfl rfl rfl rfl ?_
    refine x_cst (.int 126) 2 64 rfl rfl rfl ?_
    refine x_icle 71 67 rfl rfl rfl (fun _ => ?_) (fun c => absurd K1.2 c)
    refine x_cst (.int 0) 1 72 rfl rfl rfl ?_
    refine x_st 4 2 0 74 [some (.ref m), some (.int x), some (.int 1), some (.int 1), some (.int 0), some (.int 1), some (.int (byt x 1))] rfl rfl rfl (Nat.le_of_ble_eq_true rfl) rfl rfl ?_
    refine x_ld 3 1 0 75 rfl rfl rfl rfl rfl ?_
    refine x_ifeq 84 78 rfl rfl rfl (fun c => absurd c (by decide)) (fun _ => ?_)
    refine x_ld 2 1 0 79 rfl rfl rfl rfl rfl ?_
    refine x_cst (.int 1) 1 80 rfl rfl rfl ?_
    refine x_bin (2) 81 rfl rfl rfl rfl ?_
    refine x_go 85 rfl rfl ?_
    refine x_st 2 1 0 86 [some (.ref m), some (.int x), some (.int 2), some (.int 1), some (.int 0), some (.int 1), some (.int (byt x 1))] rfl rfl rfl (Nat.le_of_ble_eq_true rfl) rfl rfl ?_
    refine x_inc 5 1 1 89 [some (.ref m), some (.int x), some (.int 2), some (.int 1), some (.int 0), some (.int 2), some (.int (byt x 1))] rfl rfl (Nat.le_of_ble_eq_true rfl) rfl rfl rfl ?_
    refine x_go 10 rfl rfl ?_
    refine x_ld 5 2 0 12 rfl rfl rfl rfl rfl ?_
    refine x_cst (.int 4) 1 13 rfl rfl rfl ?_
    refine x_icge 92 16 rfl rfl rfl (fun c => absurd c (by decide)) (fun _ => ?_)
    refine x_ld 1 1 0 17 rfl rfl rfl rfl rfl ?_
    refine x_cst (.int 8) 2 19 rfl rfl rfl ?_
    refine x_ld 5 2 0 21 rfl rfl rfl rfl rfl ?_
    refine x_bin (16) 22 rfl rfl rfl rfl ?_
    refine x_bin (x >>> (16 &&& 31)) 23 rfl rfl rfl rfl ?_
    refine x_cst (.int 255) 3 26 rfl rfl rfl ?_
    refine x_bin (byt x 2) 27 rfl rfl (byS_2 x) rfl ?_
    refine x_st 6 2 0 29 [some (.ref m), some (.int x), some (.int 2), some (.int 1), some (.int 0), some (.int 2), some (.int (byt x 2))] rfl rfl rfl (Nat.le_of_ble_eq_true rfl) rfl rfl ?_
    refine x_ld 3 1 0 30 rfl rfl rfl rfl rfl ?_
    refine x_ifeq 42 33 rfl rfl rfl (fun c => absurd c (by decide)) (fun _ => ?_)
    refine x_ld 6 2 0 35 rfl rfl rfl rfl rfl ?_
    refine x_ifeq 42 38 rfl rfl rfl (fun c => absurd c (nz32 K2.1)) (fun _ => ?_)
    refine x_cst (.int 1) 1 39 rfl rfl rfl ?_
    refine x_go 43 rfl rfl ?_
    refine x_st 3 1 0 44 [some (.ref m), some (.int x), some (.int 2), some (.int 1), some (.int 0), some (.int 2), some (.int (byt x 2))] rfl rfl rfl (Nat.le_of_ble_eq_true rfl) rfl rfl ?_
    refine x_ld 4 2 0 46 rfl rfl rfl rfl rfl ?_
    refine x_ifne 67 49 rfl rfl rfl (fun c => absurd (by decide) c) (fun _ => ?_)
    refine x_ld 3 1 0 50 rfl rfl rfl rfl rfl ?_
    refine x_ifeq 71 53 rfl rfl rfl (fun c => absurd c (by decide)) (fun _ => ?_)
    refine x_ld 6 2 0 55 rfl rfl rfl rfl rfl ?_
    refine x_cst (.int 32) 2 57 rfl rfl rfl ?_
    refine x_iclt 67 60 rfl rfl rfl (fun c => absurd c (Int32.not_lt.mpr K2.1)) (fun _ => ?_)
    refine x_ld 6 2 0 62 rfl rfl rfl rfl rfl ?_
    refine x_cst (.int 126) 2 64 rfl rfl rfl ?_
    refine x_icle 71 67 rfl rfl rfl (fun _ => ?_) (fun c => absurd K2.2 c)
    refine x_cst (.int 0) 1 72 rfl rfl rfl ?_
    refine x_st 4 2 0 74 [some (.ref m), some (.int x), some (.int 2), some (.int 1), some (.int 0), some (.int 2), some (.int (byt x 2))] rfl rfl rfl (Nat.le_of_ble_eq_true rfl) rfl rfl ?_
    refine x_ld 3 1 0 75 rfl rfl rfl rfl rfl ?_
    refine x_ifeq 84 78 rfl rfl rfl (fun c => absurd c (by decide)) (fun _ => ?_)
    refine x_ld 2 1 0 79 rfl rfl rfl rfl rfl ?_
    refine x_cst (.int 1) 1 80 rfl rfl rfl ?_
    refine x_bin (3) 81 rfl rfl rfl rfl ?_
    refine x_go 85 rfl rfl ?_
    refine x_st 2 1 0 86 [some (.ref m), some (.int x), some (.int 3), some (.int 1), some (.int 0), some (.int 2), some (.int (byt x 2))] rfl rfl rfl (Nat.le_of_ble_eq_true rfl) rfl rfl ?_
    refine x_inc 5 1 1 89 [some (.ref m), some (.int x), some (.int 3), some (.int 1), some (.int 0), some (.int 3), some (.int (byt x 2))] rfl rfl (Nat.le_of_ble_eq_true rfl) rfl rfl rfl ?_
    refine x_go 10 rfl rfl ?_
    refine x_ld 5 2 0 12 rfl rfl rfl rfl rfl ?_
    refine x_cst (.int 4) 1 13 rfl rfl rfl ?_
    refine x_icge 92 16 rfl rfl rfl (fun c => absurd c (by decide)) (fun _ => ?_)
    refine x_ld 1 1 0 17 rfl rfl rfl rfl rfl ?_
    refine x_cst (.int 8) 2 19 rfl rfl rfl ?_
    refine x_ld 5 2 0 21 rfl rfl rfl rfl rfl ?_
    refine x_bin (24) 22 rfl rfl rfl rfl ?_
    refine x_bin (x >>> (24 &&& 31)) 23 rfl rfl rfl rfl ?_
    refine x_cst (.int 255) 3 26 rfl rfl rfl ?_
    refine x_bin (byt x 3) 27 rfl rfl (byS_3 x) rfl ?_
    refine x_st 6 2 0 29 [some (.ref m), some (.int x), some (.int 3), some (.int 1), some (.int 0), some (.int 3), some (.int (byt x 3))] rfl rfl rfl (Nat.le_of_ble_eq_true rfl) rfl rfl ?_
    refine x_ld 3 1 0 30 rfl rfl rfl rfl rfl ?_
    refine x_ifeq 42 33 rfl rfl rfl (fun c => absurd c (by decide)) (fun _ => ?_)
    refine x_ld 6 2 0 35 rfl rfl rfl rfl rfl ?_
    refine x_ifeq 42 38 rfl rfl rfl (fun c => absurd c B0) (fun _ => ?_)
    refine x_cst (.int 1) 1 39 rfl rfl rfl ?_
    refine x_go 43 rfl rfl ?_
    refine x_st 3 1 0 44 [some (.ref m), some (.int x), some (.int 3), some (.int 1), some (.int 0), some (.int 3), some (.int (byt x 3))] rfl rfl rfl (Nat.le_of_ble_eq_true rfl) rfl rfl ?_
    refine x_ld 4 2 0 46 rfl rfl rfl rfl rfl ?_
    refine x_ifne 67 49 rfl rfl rfl (fun c => absurd (by decide) c) (fun _ => ?_)
    refine x_ld 3 1 0 50 rfl rfl rfl rfl rfl ?_
    refine x_ifeq 71 53 rfl rfl rfl (fun c => absurd c (by decide)) (fun _ => ?_)
    refine x_ld 6 2 0 55 rfl rfl rfl rfl rfl ?_
    refine x_cst (.int 32) 2 57 rfl rfl rfl ?_
    refine x_iclt 67 60 rfl rfl rfl (fun _ => ?_) (fun c => absurd B1 c)
    refine x_cst (.int 1) 1 68 rfl rfl rfl ?_
    refine x_go 72 rfl rfl ?_
    refine x_st 4 2 0 74 [some (.ref m), some (.int x), some (.int 3), some (.int 1), some (.int 1), some (.int 3), some (.int (byt x 3))] rfl rfl rfl (Nat.le_of_ble_eq_true rfl) rfl rfl ?_
    refine x_ld 3 1 0 75 rfl rfl rfl rfl rfl ?_
    refine x_ifeq 84 78 rfl rfl rfl (fun c => absurd c (by decide)) (fun _ => ?_)
    refine x_ld 2 1 0 79 rfl rfl rfl rfl rfl ?_
    refine x_cst (.int 1) 1 80 rfl rfl rfl ?_
    refine x_bin (4) 81 rfl rfl rfl rfl ?_
    refine x_go 85 rfl rfl ?_
    refine x_st 2 1 0 86 [some (.ref m), some (.int x), some (.int 4), some (.int 1), some (.int 1), some (.int 3), some (.int (byt x 3))] rfl rfl rfl (Nat.le_of_ble_eq_true rfl) rfl rfl ?_
    refine x_inc 5 1 1 89 [some (.ref m), some (.int x), some (.int 4), some (.int 1), some (.int 1), some (.int 4), some (.int (byt x 3))] rfl rfl (Nat.le_of_ble_eq_true rfl) rfl rfl rfl ?_
    refine x_go 10 rfl rfl ?_
    refine x_ld 5 2 0 12 rfl rfl rfl rfl rfl ?_
    refine x_cst (.int 4) 1 13 rfl rfl rfl ?_
    refine x_icge 92 16 rfl rfl rfl (fun _ => ?_) (fun c => absurd (by decide) c)
    refine x_ld 0 1 2 93 rfl rfl rfl rfl rfl ?_
    refine x_ld 4 2 0 95 rfl rfl rfl rfl rfl ?_
    refine x_ifeq 102 98 rfl rfl rfl (fun c => absurd c (by decide)) (fun _ => ?_)
    refine x_cst (.int 1) 1 99 rfl rfl rfl ?_
    refine x_go 103 rfl rfl ?_
    refine x_put 159 5 2 106 rfl rfl hm (by simp only [List.length_set, hfs]; omega) rfl rfl rfl _ rfl rfl ?_
    refine x_ld 4 2 0 108 rfl rfl rfl rfl rfl ?_
    refine x_ifne 122 111 rfl rfl rfl (fun _ => ?_) (fun c => absurd c (by decide))
    refine x_cst (.int 0) 1 123 rfl rfl rfl ?_
    refine x_ret rfl rfl rfl rfl ?_
    exact ⟨rfl, rfl⟩
  · refine x_cst (.int 0) 1 1 rfl rfl rfl ?_
    refine x_st 2 1 0 2 [some (.ref m), some (.int x), some (.int 0), none, none, none, none] rfl rfl rfl (Nat.le_of_ble_eq_true rfl) rfl rfl ?_
    refine x_cst (.int 1) 1 3 rfl rfl rfl ?_
    refine x_st 3 1 0 4 [some (.ref m), some (.int x), some (.int 0), some (.int 1), none, none, none] rfl rfl rfl (Nat.le_of_ble_eq_true rfl) rfl rfl ?_
    refine x_cst (.int 0) 1 5 rfl rfl rfl ?_
    refine x_st 4 2 0 7 [some (.ref m), some (.int x), some (.int 0), some (.int 1), some (.int 0), none, none] rfl rfl rfl (Nat.le_of_ble_eq_true rfl) rfl rfl ?_
    refine x_cst (.int 0) 1 8 rfl rfl rfl ?_
    refine x_st 5 2 0 10 [some (.ref m), some (.int x), some (.int 0), some (.int 1), some (.int 0), some (.int 0), none] rfl rfl rfl (Nat.le_of_ble_eq_true rfl) rfl rfl ?_
    refine x_ld 5 2 0 12 rfl rfl rfl rfl rfl ?_
    refine x_cst (.int 4) 1 13 rfl rfl rfl ?_
    refine x_icge 92 16 rfl rfl rfl (fun c => absurd c (by decide)) (fun _ => ?_)
    refine x_ld 1 1 0 17 rfl rfl rfl rfl rfl ?_
    refine x_cst (.int 8) 2 19 rfl rfl rfl ?_
    refine x_ld 5 2 0 21 rfl rfl rfl rfl rfl ?_
    refine x_bin (0) 22 rfl rfl rfl rfl ?_
    refine x_bin (x >>> (0 &&& 31)) 23 rfl rfl rfl rfl ?_
    refine x_cst (.int 255) 3 26 rfl rfl rfl ?_
    refine x_bin (byt x 0) 27 rfl rfl (byS_0 x) rfl ?_
    refine x_st 6 2 0 29 [some (.ref m), some (.int x), some (.int 0), some (.int 1), some (.int 0), some (.int 0), some (.int (byt x 0))] rfl rfl rfl (Nat.le_of_ble_eq_true rfl) rfl rfl ?_
    refine x_ld 3 1 0 30 rfl rfl rfl rfl rfl ?_
    refine x_ifeq 42 33 rfl rfl rfl (fun c => absurd c (by decide)) (fun _ => ?_)
    refine x_ld 6 2 0 35 rfl rfl rfl rfl rfl ?_
    refine x_ifeq 42 38 rfl rfl rfl (fun c => absurd c (nz32 K0.1)) (fun _ => ?_)
    refine x_cst (.int 1) 1 39 rfl rfl rfl ?_
    refine x_go 43 rfl rfl ?_
    refine x_st 3 1 0 44 [some (.ref m), some (.int x), some (.int 0), some (.int 1), some (.int 0), some (.int 0), some (.int (byt x 0))] rfl rfl rfl (Nat.le_of_ble_eq_true rfl) rfl rfl ?_
    refine x_ld 4 2 0 46 rfl rfl rfl rfl rfl ?_
    refine x_ifne 67 49 rfl rfl rfl (fun c => absurd (by decide) c) (fun _ => ?_)
    refine x_ld 3 1 0 50 rfl rfl rfl rfl rfl ?_
    refine x_ifeq 71 53 rfl rfl rfl (fun c => absurd c (by decide)) (fun _ => ?_)
    refine x_ld 6 2 0 55 rfl rfl rfl rfl rfl ?_
    refine x_cst (.int 32) 2 57 rfl rfl rfl ?_
    refine x_iclt 67 60 rfl rfl rfl (fun c => absurd c (Int32.not_lt.mpr K0.1)) (fun _ => ?_)
    refine x_ld 6 2 0 62 rfl rfl rfl rfl rfl ?_
    refine x_cst (.int 126) 2 64 rfl rfl rfl ?_
    refine x_icle 71 67 rfl rfl rfl (fun _ => ?_) (fun c => absurd K0.2 c)
    refine x_cst (.int 0) 1 72 rfl rfl rfl ?_
    refine x_st 4 2 0 74 [some (.ref m), some (.int x), some (.int 0), some (.int 1), some (.int 0), some (.int 0), some (.int (byt x 0))] rfl rfl rfl (Nat.le_of_ble_eq_true rfl) rfl rfl ?_
    refine x_ld 3 1 0 75 rfl rfl rfl rfl rfl ?_
    refine x_ifeq 84 78 rfl rfl rfl (fun c => absurd c (by decide)) (fun _ => ?_)
    refine x_ld 2 1 0 79 rfl rfl rfl rfl rfl ?_
    refine x_cst (.int 1) 1 80 rfl rfl rfl ?_
    refine x_bin (1) 81 rfl rfl rfl rfl ?_
    refine x_go 85 rfl rfl ?_
    refine x_st 2 1 0 86 [some (.ref m), some (.int x), some (.int 1), some (.int 1), some (.int 0), some (.int 0), some (.int (byt x 0))] rfl rfl rfl (Nat.le_of_ble_eq_true rfl) rfl rfl ?_
    refine x_inc 5 1 1 89 [some (.ref m), some (.int x), some (.int 1), some (.int 1), some (.int 0), some (.int 1), some (.int (byt x 0))] rfl rfl (Nat.le_of_ble_eq_true rfl) rfl rfl rfl ?_
    refine x_go 10 rfl rfl ?_
    refine x_ld 5 2 0 12 rfl rfl rfl rfl rfl ?_
    refine x_cst (.int 4) 1 13 rfl rfl rfl ?_
    refine x_icge 92 16 rfl rfl rfl (fun c => absurd c (by decide)) (fun _ => ?_)
    refine x_ld 1 1 0 17 rfl rfl rfl rfl rfl ?_
    refine x_cst (.int 8) 2 19 rfl rfl rfl ?_
    refine x_ld 5 2 0 21 rfl rfl rfl rfl rfl ?_
    refine x_bin (8) 22 rfl rfl rfl rfl ?_
    refine x_bin (x >>> (8 &&& 31)) 23 rfl rfl rfl rfl ?_
    refine x_cst (.int 255) 3 26 rfl rfl rfl ?_
    refine x_bin (byt x 1) 27 rfl rfl (byS_1 x) rfl ?_
    refine x_st 6 2 0 29 [some (.ref m), some (.int x), some (.int 1), some (.int 1), some (.int 0), some (.int 1), some (.int (byt x 1))] rfl rfl rfl (Nat.le_of_ble_eq_true rfl) rfl rfl ?_
    refine x_ld 3 1 0 30 rfl rfl rfl rfl rfl ?_
    refine x_ifeq 42 33 rfl rfl rfl (fun c => absurd c (by decide)) (fun _ => ?_)
    refine x_ld 6 2 0 35 rfl rfl rfl rfl rfl ?_
    refine x_ifeq 42 38 rfl rfl rfl (fun c => absurd c (nz32 K1.1)) (fun _ => ?_)
    refine x_cst (.int 1) 1 39 rfl rfl rfl ?_
    refine x_go 43 rfl rfl ?_
    refine x_st 3 1 0 44 [some (.ref m), some (.int x), some (.int 1), some (.int 1), some (.int 0), some (.int 1), some (.int (byt x 1))] rfl rfl rfl (Nat.le_of_ble_eq_true rfl) rfl rfl ?_
    refine x_ld 4 2 0 46 rfl rfl rfl rfl rfl ?_
    refine x_ifne 67 49 rfl rfl rfl (fun c => absurd (by decide) c) (fun _ => ?_)
    refine x_ld 3 1 0 50 rfl rfl rfl rfl rfl ?_
    refine x_ifeq 71 53 rfl rfl rfl (fun c => absurd c (by decide)) (fun _ => ?_)
    refine x_ld 6 2 0 55 rfl rfl rfl rfl rfl ?_
    refine x_cst (.int 32) 2 57 rfl rfl rfl ?_
    refine x_iclt 67 60 rfl rfl rfl (fun c => absurd c (Int32.not_lt.mpr K1.1)) (fun _ => ?_)
    refine x_ld 6 2 0 62 rfl rfl rfl rfl rfl ?_
    refine x_cst (.int 126) 2 64 rfl rfl rfl ?_
    refine x_icle 71 67 rfl rfl rfl (fun _ => ?_) (fun c => absurd K1.2 c)
    refine x_cst (.int 0) 1 72 rfl rfl rfl ?_
    refine x_st 4 2 0 74 [some (.ref m), some (.int x), some (.int 1), some (.int 1), some (.int 0), some (.int 1), some (.int (byt x 1))] rfl rfl rfl (Nat.le_of_ble_eq_true rfl) rfl rfl ?_
    refine x_ld 3 1 0 75 rfl rfl rfl rfl rfl ?_
    refine x_ifeq 84 78 rfl rfl rfl (fun c => absurd c (by decide)) (fun _ => ?_)
    refine x_ld 2 1 0 79 rfl rfl rfl rfl rfl ?_
    refine x_cst (.int 1) 1 80 rfl rfl rfl ?_
    refine x_bin (2) 81 rfl rfl rfl rfl ?_
    refine x_go 85 rfl rfl ?_
    refine x_st 2 1 0 86 [some (.ref m), some (.int x), some (.int 2), some (.int 1), some (.int 0), some (.int 1), some (.int (byt x 1))] rfl rfl rfl (Nat.le_of_ble_eq_true rfl) rfl rfl ?_
    refine x_inc 5 1 1 89 [some (.ref m), some (.int x), some (.int 2), some (.int 1), some (.int 0), some (.int 2), some (.int (byt x 1))] rfl rfl (Nat.le_of_ble_eq_true rfl) rfl rfl rfl ?_
    refine x_go 10 rfl rfl ?_
    refine x_ld 5 2 0 12 rfl rfl rfl rfl rfl ?_
    refine x_cst (.int 4) 1 13 rfl rfl rfl ?_
    refine x_icge 92 16 rfl rfl rfl (fun c => absurd c (by decide)) (fun _ => ?_)
    refine x_ld 1 1 0 17 rfl rfl rfl rfl rfl ?_
    refine x_cst (.int 8) 2 19 rfl rfl rfl ?_
    refine x_ld 5 2 0 21 rfl rfl rfl rfl rfl ?_
    refine x_bin (16) 22 rfl rfl rfl rfl ?_
    refine x_bin (x >>> (16 &&& 31)) 23 rfl rfl rfl rfl ?_
    refine x_cst (.int 255) 3 26 rfl rfl rfl ?_
    refine x_bin (byt x 2) 27 rfl rfl (byS_2 x) rfl ?_
    refine x_st 6 2 0 29 [some (.ref m), some (.int x), some (.int 2), some (.int 1), some (.int 0), some (.int 2), some (.int (byt x 2))] rfl rfl rfl (Nat.le_of_ble_eq_true rfl) rfl rfl ?_
    refine x_ld 3 1 0 30 rfl rfl rfl rfl rfl ?_
    refine x_ifeq 42 33 rfl rfl rfl (fun c => absurd c (by decide)) (fun _ => ?_)
    refine x_ld 6 2 0 35 rfl rfl rfl rfl rfl ?_
    refine x_ifeq 42 38 rfl rfl rfl (fun c => absurd c (nz32 K2.1)) (fun _ => ?_)
    refine x_cst (.int 1) 1 39 rfl rfl rfl ?_
    refine x_go 43 rfl rfl ?_
    refine x_st 3 1 0 44 [some (.ref m), some (.int x), some (.int 2), some (.int 1), some (.int 0), some (.int 2), some (.int (byt x 2))] rfl rfl rfl (Nat.le_of_ble_eq_true rfl) rfl rfl ?_
    refine x_ld 4 2 0 46 rfl rfl rfl rfl rfl ?_
    refine x_ifne 67 49 rfl rfl rfl (fun c => absurd (by decide) c) (fun _ => ?_)
    refine x_ld 3 1 0 50 rfl rfl rfl rfl rfl ?_
    refine x_ifeq 71 53 rfl rfl rfl (fun c => absurd c (by decide)) (fun _ => ?_)
    refine x_ld 6 2 0 55 rfl rfl rfl rfl rfl ?_
    refine x_cst (.int 32) 2 57 rfl rfl rfl ?_
    refine x_iclt 67 60 rfl rfl rfl (fun c => absurd c (Int32.not_lt.mpr K2.1)) (fun _ => ?_)
    refine x_ld 6 2 0 62 rfl rfl rfl rfl rfl ?_
    refine x_cst (.int 126) 2 64 rfl rfl rfl ?_
    refine x_icle 71 67 rfl rfl rfl (fun _ => ?_) (fun c => absurd K2.2 c)
    refine x_cst (.int 0) 1 72 rfl rfl rfl ?_
    refine x_st 4 2 0 74 [some (.ref m), some (.int x), some (.int 2), some (.int 1), some (.int 0), some (.int 2), some (.int (byt x 2))] rfl rfl rfl (Nat.le_of_ble_eq_true rfl) rfl rfl ?_
    refine x_ld 3 1 0 75 rfl rfl rfl rfl rfl ?_
    refine x_ifeq 84 78 rfl rfl rfl (fun c => absurd c (by decide)) (fun _ => ?_)
    refine x_ld 2 1 0 79 rfl rfl rfl rfl rfl ?_
    refine x_cst (.int 1) 1 80 rfl rfl rfl ?_
    refine x_bin (3) 81 rfl rfl rfl rfl ?_
    refine x_go 85 rfl rfl ?_
    refine x_st 2 1 0 86 [some (.ref m), some (.int x), some (.int 3), some (.int 1), some (.int 0), some (.int 2), some (.int (byt x 2))] rfl rfl rfl (Nat.le_of_ble_eq_true rfl) rfl rfl ?_
    refine x_inc 5 1 1 89 [some (.ref m), some (.int x), some (.int 3), some (.int 1), some (.int 0), some (.int 3), some (.int (byt x 2))] rfl rfl (Nat.le_of_ble_eq_true rfl) rfl rfl rfl ?_
    refine x_go 10 rfl rfl ?_
    refine x_ld 5 2 0 12 rfl rfl rfl rfl rfl ?_
    refine x_cst (.int 4) 1 13 rfl rfl rfl ?_
    refine x_icge 92 16 rfl rfl rfl (fun c => absurd c (by decide)) (fun _ => ?_)
    refine x_ld 1 1 0 17 rfl rfl rfl rfl rfl ?_
    refine x_cst (.int 8) 2 19 rfl rfl rfl ?_
    refine x_ld 5 2 0 21 rfl rfl rfl rfl rfl ?_
    refine x_bin (24) 22 rfl rfl rfl rfl ?_
    refine x_bin (x >>> (24 &&& 31)) 23 rfl rfl rfl rfl ?_
    refine x_cst (.int 255) 3 26 rfl rfl rfl ?_
    refine x_bin (byt x 3) 27 rfl rfl (byS_3 x) rfl ?_
    refine x_st 6 2 0 29 [some (.ref m), some (.int x), some (.int 3), some (.int 1), some (.int 0), some (.int 3), some (.int (byt x 3))] rfl rfl rfl (Nat.le_of_ble_eq_true rfl) rfl rfl ?_
    refine x_ld 3 1 0 30 rfl rfl rfl rfl rfl ?_
    refine x_ifeq 42 33 rfl rfl rfl (fun c => absurd c (by decide)) (fun _ => ?_)
    refine x_ld 6 2 0 35 rfl rfl rfl rfl rfl ?_
    refine x_ifeq 42 38 rfl rfl rfl (fun c => absurd c B0) (fun _ => ?_)
    refine x_cst (.int 1) 1 39 rfl rfl rfl ?_
    refine x_go 43 rfl rfl ?_
    refine x_st 3 1 0 44 [some (.ref m), some (.int x), some (.int 3), some (.int 1), some (.int 0), some (.int 3), some (.int (byt x 3))] rfl rfl rfl (Nat.le_of_ble_eq_true rfl) rfl rfl ?_
    refine x_ld 4 2 0 46 rfl rfl rfl rfl rfl ?_
    refine x_ifne 67 49 rfl rfl rfl (fun c => absurd (by decide) c) (fun _ => ?_)
    refine x_ld 3 1 0 50 rfl rfl rfl rfl rfl ?_
    refine x_ifeq 71 53 rfl rfl rfl (fun c => absurd c (by decide)) (fun _ => ?_)
    refine x_ld 6 2 0 55 rfl rfl rfl rfl rfl ?_
    refine x_cst (.int 32) 2 57 rfl rfl rfl ?_
    refine x_iclt 67 60 rfl rfl rfl (fun c => absurd c B1) (fun _ => ?_)
    refine x_ld 6 2 0 62 rfl rfl rfl rfl rfl ?_
    refine x_cst (.int 126) 2 64 rfl rfl rfl ?_
    refine x_icle 71 67 rfl rfl rfl (fun c => absurd c B2) (fun _ => ?_)
    refine x_cst (.int 1) 1 68 rfl rfl rfl ?_
    refine x_go 72 rfl rfl ?_
    refine x_st 4 2 0 74 [some (.ref m), some (.int x), some (.int 3), some (.int 1), some (.int 1), some (.int 3), some (.int (byt x 3))] rfl rfl rfl (Nat.le_of_ble_eq_true rfl) rfl rfl ?_
    refine x_ld 3 1 0 75 rfl rfl rfl rfl rfl ?_
    refine x_ifeq 84 78 rfl rfl rfl (fun c => absurd c (by decide)) (fun _ => ?_)
    refine x_ld 2 1 0 79 rfl rfl rfl rfl rfl ?_
    refine x_cst (.int 1) 1 80 rfl rfl rfl ?_
    refine x_bin (4) 81 rfl rfl rfl rfl ?_
    refine x_go 85 rfl rfl ?_
    refine x_st 2 1 0 86 [some (.ref m), some (.int x), some (.int 4), some (.int 1), some (.int 1), some (.int 3), some (.int (byt x 3))] rfl rfl rfl (Nat.le_of_ble_eq_true rfl) rfl rfl ?_
    refine x_inc 5 1 1 89 [some (.ref m), some (.int x), some (.int 4), some (.int 1), some (.int 1), some (.int 4), some (.int (byt x 3))] rfl rfl (Nat.le_of_ble_eq_true rfl) rfl rfl rfl ?_
    refine x_go 10 rfl rfl ?_
    refine x_ld 5 2 0 12 rfl rfl rfl rfl rfl ?_
    refine x_cst (.int 4) 1 13 rfl rfl rfl ?_
    refine x_icge 92 16 rfl rfl rfl (fun _ => ?_) (fun c => absurd (by decide) c)
    refine x_ld 0 1 2 93 rfl rfl rfl rfl rfl ?_
    refine x_ld 4 2 0 95 rfl rfl rfl rfl rfl ?_
    refine x_ifeq 102 98 rfl rfl rfl (fun c => absurd c (by decide)) (fun _ => ?_)
    refine x_cst (.int 1) 1 99 rfl rfl rfl ?_
    refine x_go 103 rfl rfl ?_
    refine x_put 159 5 2 106 rfl rfl hm (by simp only [List.length_set, hfs]; omega) rfl rfl rfl _ rfl rfl ?_
    refine x_ld 4 2 0 108 rfl rfl rfl rfl rfl ?_
    refine x_ifne 122 111 rfl rfl rfl (fun _ => ?_) (fun c => absurd c (by decide))
    refine x_cst (.int 0) 1 123 rfl rfl rfl ?_
    refine x_ret rfl rfl rfl rfl ?_
    exact ⟨rfl, rfl⟩
theorem t104_h4 {h : ab_H} {m ml n : Nat} {x : Int32} {g : Nat → Int32} {fs : List Value} (hne : ml ≠ m) : (((((((((h.set m (.inr (5, (fs.set 2 (.int 0))))).set ml (.inl (0, 16, .inl (upd g n (byt x 0))))).set m (.inr (5, ((fs.set 2 (.int 0)).set 4 (.int (Int32.ofNat (n + 1))))))).set ml (.inl (0, 16, .inl (upd (upd g n (byt x 0)) (n + 1) (byt x 1))))).set m (.inr (5, (((fs.set 2 (.int 0)).set 4 (.int (Int32.ofNat (n + 1)))).set 4 (.int (Int32.ofNat (n + 2))))))).set ml (.inl (0, 16, .inl (upd (upd (upd g n (byt x 0)) (n + 1) (byt x 1)) (n + 2) (byt x 2))))).set m (.inr (5, ((((fs.set 2 (.int 0)).set 4 (.int (Int32.ofNat (n + 1)))).set 4 (.int (Int32.ofNat (n + 2)))).set 4 (.int (Int32.ofNat (n + 3))))))).set ml (.inl (0, 16, .inl (upd (upd (upd (upd g n (byt x 0)) (n + 1) (byt x 1)) (n + 2) (byt x 2)) (n + 3) (byt x 3))))).set m (.inr (5, (((((fs.set 2 (.int 0)).set 4 (.int (Int32.ofNat (n + 1)))).set 4 (.int (Int32.ofNat (n + 2)))).set 4 (.int (Int32.ofNat (n + 3)))).set 4 (.int (Int32.ofNat (n + 4))))))) = (h.set ml (.inl (0, 16, .inl (ups g n x 4)))).set m (.inr (5, (fs.set 2 (.int 0)).set 4 (.int (Int32.ofNat (n + 4))))) := by
  simp only [List.set_set, List.set_comm _ _ hne]
  rfl
theorem t104_4 (d : Nat) {h : ab_H} {m ml n : Nat} {x : Int32} {g : Nat → Int32} {fs : List Value} (hm : h[m]? = some (.inr (5, fs))) (hfs : fs.length = 68) (h3 : fs[3]? = some (.ref ml)) (h4 : fs[4]? = some (.int (Int32.ofNat n))) (hl : h[ml]? = some (.inl (0, 16, .inl g))) (hne : ml ≠ m) (hn : n ≤ 16) (H : okc x 4) (hf : n + 4 ≤ 16) : ab_S (pg_G L xs) (d + 1) 104 [.ref m, .int x] h (some (.int 1)) ((h.set ml (.inl (0, 16, .inl (ups g n x 4)))).set m (.inr (5, (fs.set 2 (.int 0)).set 4 (.int (Int32.ofNat (n + 4)))))) := by
  show ab_W (pg_G L xs) (ab_X (pg_G L xs) d) 104 _ 0 [some (.ref m), some (.int x), none, none, none, none, none] [] h
  have K0 : 32 ≤ byt x 0 ∧ byt x 0 ≤ 126 := H.1 0 (by decide)
  have K1 : 32 ≤ byt x 1 ∧ byt x 1 ≤ 126 := H.1 1 (by decide)
  have K2 : 32 ≤ byt x 2 ∧ byt x 2 ≤ 126 := H.1 2 (by decide)
  have K3 : 32 ≤ byt x 3 ∧ byt x 3 ≤ 126 := H.1 3 (by decide)
  refine x_cst (.int 0) 1 1 rfl rfl rfl ?_
  refine x_st 2 1 0 2 [some (.ref m), some (.int x), some (.int 0), none, none, none, none] rfl rfl rfl (Nat.le_of_ble_eq_true rfl) rfl rfl ?_
  refine x_cst (.int 1) 1 3 rfl rfl rfl ?_
  refine x_st 3 1 0 4 [some (.ref m), some (.int x), some (.int 0), some (.int 1), none, none, none] rfl rfl rfl (Nat.le_of_ble_eq_true rfl) rfl rfl ?_
  refine x_cst (.int 0) 1 5 rfl rfl rfl ?_
  refine x_st 4 2 0 7 [some (.ref m), some (.int x), some (.int 0), some (.int 1), some (.int 0), none, none] rfl rfl rfl (Nat.le_of_ble_eq_true rfl) rfl rfl ?_
  refine x_cst (.int 0) 1 8 rfl rfl rfl ?_
  refine x_st 5 2 0 10 [some (.ref m), some (.int x), some (.int 0), some (.int 1), some (.int 0), some (.int 0), none] rfl rfl rfl (Nat.le_of_ble_eq_true rfl) rfl rfl ?_
  refine x_ld 5 2 0 12 rfl rfl rfl rfl rfl ?_
  refine x_cst (.int 4) 1 13 rfl rfl rfl ?_
  refine x_icge 92 16 rfl rfl rfl (fun c => absurd c (by decide)) (fun _ => ?_)
  refine x_ld 1 1 0 17 rfl rfl rfl rfl rfl ?_
  refine x_cst (.int 8) 2 19 rfl rfl rfl ?_
  refine x_ld 5 2 0 21 rfl rfl rfl rfl rfl ?_
  refine x_bin (0) 22 rfl rfl rfl rfl ?_
  refine x_bin (x >>> (0 &&& 31)) 23 rfl rfl rfl rfl ?_
  refine x_cst (.int 255) 3 26 rfl rfl rfl ?_
  refine x_bin (byt x 0) 27 rfl rfl (byS_0 x) rfl ?_
  refine x_st 6 2 0 29 [some (.ref m), some (.int x), some (.int 0), some (.int 1), some (.int 0), some (.int 0), some (.int (byt x 0))] rfl rfl rfl (Nat.le_of_ble_eq_true rfl) rfl rfl ?_
  refine x_ld 3 1 0 30 rfl rfl rfl rfl rfl ?_
  refine x_ifeq 42 33 rfl rfl rfl (fun c => absurd c (by decide)) (fun _ => ?_)
  refine x_ld 6 2 0 35 rfl rfl rfl rfl rfl ?_
  refine x_ifeq 42 38 rfl rfl rfl (fun c => absurd c (nz32 K0.1)) (fun _ => ?_)
  refine x_cst (.int 1) 1 39 rfl rfl rfl ?_
  refine x_go 43 rfl rfl ?_
  refine x_st 3 1 0 44 [some (.ref m), some (.int x), some (.int 0), some (.int 1), some (.int 0), some (.int 0), some (.int (byt x 0))] rfl rfl rfl (Nat.le_of_ble_eq_true rfl) rfl rfl ?_
  refine x_ld 4 2 0 46 rfl rfl rfl rfl rfl ?_
  refine x_ifne 67 49 rfl rfl rfl (fun c => absurd (by decide) c) (fun _ => ?_)
  refine x_ld 3 1 0 50 rfl rfl rfl rfl rfl ?_
  refine x_ifeq 71 53 rfl rfl rfl (fun c => absurd c (by decide)) (fun _ => ?_)
  refine x_ld 6 2 0 55 rfl rfl rfl rfl rfl ?_
  refine x_cst (.int 32) 2 57 rfl rfl rfl ?_
  refine x_iclt 67 60 rfl rfl rfl (fun c => absurd c (Int32.not_lt.mpr K0.1)) (fun _ => ?_)
  refine x_ld 6 2 0 62 rfl rfl rfl rfl rfl ?_
  refine x_cst (.int 126) 2 64 rfl rfl rfl ?_
  refine x_icle 71 67 rfl rfl rfl (fun _ => ?_) (fun c => absurd K0.2 c)
  refine x_cst (.int 0) 1 72 rfl rfl rfl ?_
  refine x_st 4 2 0 74 [some (.ref m), some (.int x), some (.int 0), some (.int 1), some (.int 0), some (.int 0), some (.int (byt x 0))] rfl rfl rfl (Nat.le_of_ble_eq_true rfl) rfl rfl ?_
  refine x_ld 3 1 0 75 rfl rfl rfl rfl rfl ?_
  refine x_ifeq 84 78 rfl rfl rfl (fun c => absurd c (by decide)) (fun _ => ?_)
  refine x_ld 2 1 0 79 rfl rfl rfl rfl rfl ?_
  refine x_cst (.int 1) 1 80 rfl rfl rfl ?_
  refine x_bin (1) 81 rfl rfl rfl rfl ?_
  refine x_go 85 rfl rfl ?_
  refine x_st 2 1 0 86 [some (.ref m), some (.int x), some (.int 1), some (.int 1), some (.int 0), some (.int 0), some (.int (byt x 0))] rfl rfl rfl (Nat.le_of_ble_eq_true rfl) rfl rfl ?_
  refine x_inc 5 1 1 89 [some (.ref m), some (.int x), some (.int 1), some (.int 1), some (.int 0), some (.int 1), some (.int (byt x 0))] rfl rfl (Nat.le_of_ble_eq_true rfl) rfl rfl rfl ?_
  refine x_go 10 rfl rfl ?_
  refine x_ld 5 2 0 12 rfl rfl rfl rfl rfl ?_
  refine x_cst (.int 4) 1 13 rfl rfl rfl ?_
  refine x_icge 92 16 rfl rfl rfl (fun c => absurd c (by decide)) (fun _ => ?_)
  refine x_ld 1 1 0 17 rfl rfl rfl rfl rfl ?_
  refine x_cst (.int 8) 2 19 rfl rfl rfl ?_
  refine x_ld 5 2 0 21 rfl rfl rfl rfl rfl ?_
  refine x_bin (8) 22 rfl rfl rfl rfl ?_
  refine x_bin (x >>> (8 &&& 31)) 23 rfl rfl rfl rfl ?_
  refine x_cst (.int 255) 3 26 rfl rfl rfl ?_
  refine x_bin (byt x 1) 27 rfl rfl (byS_1 x) rfl ?_
  refine x_st 6 2 0 29 [some (.ref m), some (.int x), some (.int 1), some (.int 1), some (.int 0), some (.int 1), some (.int (byt x 1))] rfl rfl rfl (Nat.le_of_ble_eq_true rfl) rfl rfl ?_
  refine x_ld 3 1 0 30 rfl rfl rfl rfl rfl ?_
  refine x_ifeq 42 33 rfl rfl rfl (fun c => absurd c (by decide)) (fun _ => ?_)
  refine x_ld 6 2 0 35 rfl rfl rfl rfl rfl ?_
  refine x_ifeq 42 38 rfl rfl rfl (fun c => absurd c (nz32 K1.1)) (fun _ => ?_)
  refine x_cst (.int 1) 1 39 rfl rfl rfl ?_
  refine x_go 43 rfl rfl ?_
  refine x_st 3 1 0 44 [some (.ref m), some (.int x), some (.int 1), some (.int 1), some (.int 0), some (.int 1), some (.int (byt x 1))] rfl rfl rfl (Nat.le_of_ble_eq_true rfl) rfl rfl ?_
  refine x_ld 4 2 0 46 rfl rfl rfl rfl rfl ?_
  refine x_ifne 67 49 rfl rfl rfl (fun c => absurd (by decide) c) (fun _ => ?_)
  refine x_ld 3 1 0 50 rfl rfl rfl rfl rfl ?_
  refine x_ifeq 71 53 rfl rfl rfl (fun c => absurd c (by decide)) (fun _ => ?_)
  refine x_ld 6 2 0 55 rfl rfl rfl rfl rfl ?_
  refine x_cst (.int 32) 2 57 rfl rfl rfl ?_
  refine x_iclt 67 60 rfl rfl rfl (fun c => absurd c (Int32.not_lt.mpr K1.1)) (fun _ => ?_)
  refine x_ld 6 2 0 62 rfl rfl rfl rfl rfl ?_
  refine x_cst (.int 126) 2 64 rfl rfl rfl ?_
  refine x_icle 71 67 rfl rfl rfl (fun _ => ?_) (fun c => absurd K1.2 c)
  refine x_cst (.int 0) 1 72 rfl rfl rfl ?_
  refine x_st 4 2 0 74 [some (.ref m), some (.int x), some (.int 1), some (.int 1), some (.int 0), some (.int 1), some (.int (byt x 1))] rfl rfl rfl (Nat.le_of_ble_eq_true rfl) rfl rfl ?_
  refine x_ld 3 1 0 75 rfl rfl rfl rfl rfl ?_
  refine x_ifeq 84 78 rfl rfl rfl (fun c => absurd c (by decide)) (fun _ => ?_)
  refine x_ld 2 1 0 79 rfl rfl rfl rfl rfl ?_
  refine x_cst (.int 1) 1 80 rfl rfl rfl ?_
  refine x_bin (2) 81 rfl rfl rfl rfl ?_
  refine x_go 85 rfl rfl ?_
  refine x_st 2 1 0 86 [some (.ref m), some (.int x), some (.int 2), some (.int 1), some (.int 0), some (.int 1), some (.int (byt x 1))] rfl rfl rfl (Nat.le_of_ble_eq_true rfl) rfl rfl ?_
  refine x_inc 5 1 1 89 [some (.ref m), some (.int x), some (.int 2), some (.int 1), some (.int 0), some (.int 2), some (.int (byt x 1))] rfl rfl (Nat.le_of_ble_eq_true rfl) rfl rfl rfl ?_
  refine x_go 10 rfl rfl ?_
  refine x_ld 5 2 0 12 rfl rfl rfl rfl rfl ?_
  refine x_cst (.int 4) 1 13 rfl rfl rfl ?_
  refine x_icge 92 16 rfl rfl rfl (fun c => absurd c (by decide)) (fun _ => ?_)
  refine x_ld 1 1 0 17 rfl rfl rfl rfl rfl ?_
  refine x_cst (.int 8) 2 19 rfl rfl rfl ?_
  refine x_ld 5 2 0 21 rfl rfl rfl rfl rfl ?_
  refine x_bin (16) 22 rfl rfl rfl rfl ?_
  refine x_bin (x >>> (16 &&& 31)) 23 rfl rfl rfl rfl ?_
  refine x_cst (.int 255) 3 26 rfl rfl rfl ?_
  refine x_bin (byt x 2) 27 rfl rfl (byS_2 x) rfl ?_
  refine x_st 6 2 0 29 [some (.ref m), some (.int x), some (.int 2), some (.int 1), some (.int 0), some (.int 2), some (.int (byt x 2))] rfl rfl rfl (Nat.le_of_ble_eq_true rfl) rfl rfl ?_
  refine x_ld 3 1 0 30 rfl rfl rfl rfl rfl ?_
  refine x_ifeq 42 33 rfl rfl rfl (fun c => absurd c (by decide)) (fun _ => ?_)
  refine x_ld 6 2 0 35 rfl rfl rfl rfl rfl ?_
  refine x_ifeq 42 38 rfl rfl rfl (fun c => absurd c (nz32 K2.1)) (fun _ => ?_)
  refine x_cst (.int 1) 1 39 rfl rfl rfl ?_
  refine x_go 43 rfl rfl ?_
  refine x_st 3 1 0 44 [some (.ref m), some (.int x), some (.int 2), some (.int 1), some (.int 0), some (.int 2), some (.int (byt x 2))] rfl rfl rfl (Nat.le_of_ble_eq_true rfl) rfl rfl ?_
  refine x_ld 4 2 0 46 rfl rfl rfl rfl rfl ?_
  refine x_ifne 67 49 rfl rfl rfl (fun c => absurd (by decide) c) (fun _ => ?_)
  refine x_ld 3 1 0 50 rfl rfl rfl rfl rfl ?_
  refine x_ifeq 71 53 rfl rfl rfl (fun c => absurd c (by decide)) (fun _ => ?_)
  refine x_ld 6 2 0 55 rfl rfl rfl rfl rfl ?_
  refine x_cst (.int 32) 2 57 rfl rfl rfl ?_
  refine x_iclt 67 60 rfl rfl rfl (fun c => absurd c (Int32.not_lt.mpr K2.1)) (fun _ => ?_)
  refine x_ld 6 2 0 62 rfl rfl rfl rfl rfl ?_
  refine x_cst (.int 126) 2 64 rfl rfl rfl ?_
  refine x_icle 71 67 rfl rfl rfl (fun _ => ?_) (fun c => absurd K2.2 c)
  refine x_cst (.int 0) 1 72 rfl rfl rfl ?_
  refine x_st 4 2 0 74 [some (.ref m), some (.int x), some (.int 2), some (.int 1), some (.int 0), some (.int 2), some (.int (byt x 2))] rfl rfl rfl (Nat.le_of_ble_eq_true rfl) rfl rfl ?_
  refine x_ld 3 1 0 75 rfl rfl rfl rfl rfl ?_
  refine x_ifeq 84 78 rfl rfl rfl (fun c => absurd c (by decide)) (fun _ => ?_)
  refine x_ld 2 1 0 79 rfl rfl rfl rfl rfl ?_
  refine x_cst (.int 1) 1 80 rfl rfl rfl ?_
  refine x_bin (3) 81 rfl rfl rfl rfl ?_
  refine x_go 85 rfl rfl ?_
  refine x_st 2 1 0 86 [some (.ref m), some (.int x), some (.int 3), some (.int 1), some (.int 0), some (.int 2), some (.int (byt x 2))] rfl rfl rfl (Nat.le_of_ble_eq_true rfl) rfl rfl ?_
  refine x_inc 5 1 1 89 [some (.ref m), some (.int x), some (.int 3), some (.int 1), some (.int 0), some (.int 3), some (.int (byt x 2))] rfl rfl (Nat.le_of_ble_eq_true rfl) rfl rfl rfl ?_
  refine x_go 10 rfl rfl ?_
  refine x_ld 5 2 0 12 rfl rfl rfl rfl rfl ?_
  refine x_cst (.int 4) 1 13 rfl rfl rfl ?_
  refine x_icge 92 16 rfl rfl rfl (fun c => absurd c (by decide)) (fun _ => ?_)
  refine x_ld 1 1 0 17 rfl rfl rfl rfl rfl ?_
  refine x_cst (.int 8) 2 19 rfl rfl rfl ?_
  refine x_ld 5 2 0 21 rfl rfl rfl rfl rfl ?_
  refine x_bin (24) 22 rfl rfl rfl rfl ?_
  refine x_bin (x >>> (24 &&& 31)) 23 rfl rfl rfl rfl ?_
  refine x_cst (.int 255) 3 26 rfl rfl rfl ?_
  refine x_bin (byt x 3) 27 rfl rfl (byS_3 x) rfl ?_
  refine x_st 6 2 0 29 [some (.ref m), some (.int x), some (.int 3), some (.int 1), some (.int 0), some (.int 3), some (.int (byt x 3))] rfl rfl rfl (Nat.le_of_ble_eq_true rfl) rfl rfl ?_
  refine x_ld 3 1 0 30 rfl rfl rfl rfl rfl ?_
  refine x_ifeq 42 33 rfl rfl rfl (fun c => absurd c (by decide)) (fun _ => ?_)
  refine x_ld 6 2 0 35 rfl rfl rfl rfl rfl ?_
  refine x_ifeq 42 38 rfl rfl rfl (fun c => absurd c (nz32 K3.1)) (fun _ => ?_)
  refine x_cst (.int 1) 1 39 rfl rfl rfl ?_
  refine x_go 43 rfl rfl ?_
  refine x_st 3 1 0 44 [some (.ref m), some (.int x), some (.int 3), some (.int 1), some (.int 0), some (.int 3), some (.int (byt x 3))] rfl rfl rfl (Nat.le_of_ble_eq_true rfl) rfl rfl ?_
  refine x_ld 4 2 0 46 rfl rfl rfl rfl rfl ?_
  refine x_ifne 67 49 rfl rfl rfl (fun c => absurd (by decide) c) (fun _ => ?_)
  refine x_ld 3 1 0 50 rfl rfl rfl rfl rfl ?_
  refine x_ifeq 71 53 rfl rfl rfl (fun c => absurd c (by decide)) (fun _ => ?_)
  refine x_ld 6 2 0 55 rfl rfl rfl rfl rfl ?_
  refine x_cst (.int 32) 2 57 rfl rfl rfl ?_
  refine x_iclt 67 60 rfl rfl rfl (fun c => absurd c (Int32.not_lt.mpr K3.1)) (fun _ => ?_)
  refine x_ld 6 2 0 62 rfl rfl rfl rfl rfl ?_
  refine x_cst (.int 126) 2 64 rfl rfl rfl ?_
  refine x_icle 71 67 rfl rfl rfl (fun _ => ?_) (fun c => absurd K3.2 c)
  refine x_cst (.int 0) 1 72 rfl rfl rfl ?_
  refine x_st 4 2 0 74 [some (.ref m), some (.int x), some (.int 3), some (.int 1), some (.int 0), some (.int 3), some (.int (byt x 3))] rfl rfl rfl (Nat.le_of_ble_eq_true rfl) rfl rfl ?_
  refine x_ld 3 1 0 75 rfl rfl rfl rfl rfl ?_
  refine x_ifeq 84 78 rfl rfl rfl (fun c => absurd c (by decide)) (fun _ => ?_)
  refine x_ld 2 1 0 79 rfl rfl rfl rfl rfl ?_
  refine x_cst (.int 1) 1 80 rfl rfl rfl ?_
  refine x_bin (4) 81 rfl rfl rfl rfl ?_
  refine x_go 85 rfl rfl ?_
  refine x_st 2 1 0 86 [some (.ref m), some (.int x), some (.int 4), some (.int 1), some (.int 0), some (.int 3), some (.int (byt x 3))] rfl rfl rfl (Nat.le_of_ble_eq_true rfl) rfl rfl ?_
  refine x_inc 5 1 1 89 [some (.ref m), some (.int x), some (.int 4), some (.int 1), some (.int 0), some (.int 4), some (.int (byt x 3))] rfl rfl (Nat.le_of_ble_eq_true rfl) rfl rfl rfl ?_
  refine x_go 10 rfl rfl ?_
  refine x_ld 5 2 0 12 rfl rfl rfl rfl rfl ?_
  refine x_cst (.int 4) 1 13 rfl rfl rfl ?_
  refine x_icge 92 16 rfl rfl rfl (fun _ => ?_) (fun c => absurd (by decide) c)
  refine x_ld 0 1 2 93 rfl rfl rfl rfl rfl ?_
  refine x_ld 4 2 0 95 rfl rfl rfl rfl rfl ?_
  refine x_ifeq 102 98 rfl rfl rfl (fun _ => ?_) (fun c => absurd (by decide) c)
  refine x_cst (.int 0) 1 103 rfl rfl rfl ?_
  refine x_put 159 5 2 106 rfl rfl hm (by simp only [List.length_set, hfs]; omega) rfl rfl rfl _ rfl rfl ?_
  refine x_ld 4 2 0 108 rfl rfl rfl rfl rfl ?_
  refine x_ifne 122 111 rfl rfl rfl (fun c => absurd (by decide) c) (fun _ => ?_)
  refine x_ld 0 1 2 112 rfl rfl rfl rfl rfl ?_
  refine x_get 162 5 4 115 rfl rfl (set_at hm) ((fs_ne (by decide)).trans h4) rfl ?_
  refine x_ld 2 1 0 116 rfl rfl rfl rfl rfl ?_
  refine x_bin (Int32.ofNat (n + 4)) 117 rfl rfl (i32_add n 4) rfl ?_
  refine x_cst (.int 16) 2 119 rfl rfl rfl ?_
  refine x_icle 124 122 rfl rfl rfl (fun _ => ?_) (fun c => absurd ((i32_le 16 (n + 4) (by decide) (by omega)).mpr hf) c)
  refine x_cst (.int 0) 1 125 rfl rfl rfl ?_
  refine x_st 5 2 0 127 [some (.ref m), some (.int x), some (.int 4), some (.int 1), some (.int 0), some (.int 0), some (.int (byt x 3))] rfl rfl rfl (Nat.le_of_ble_eq_true rfl) rfl rfl ?_
  refine x_ld 5 2 0 129 rfl rfl rfl rfl rfl ?_
  refine x_ld 2 1 0 130 rfl rfl rfl rfl rfl ?_
  refine x_icge 169 133 rfl rfl rfl (fun c => absurd c (by decide)) (fun _ => ?_)
  refine x_ld 0 1 2 134 rfl rfl rfl rfl rfl ?_
  refine x_get 16 5 3 137 rfl rfl (set_at hm) ((fs_ne (by decide)).trans h3) rfl ?_
  refine x_ld 0 1 2 138 rfl rfl rfl rfl rfl ?_
  refine x_get 162 5 4 141 rfl rfl (set_at hm) ((fs_ne (by decide)).trans h4) rfl ?_
  refine x_ld 1 1 0 142 rfl rfl rfl rfl rfl ?_
  refine x_cst (.int 8) 2 144 rfl rfl rfl ?_
  refine x_ld 5 2 0 146 rfl rfl rfl rfl rfl ?_
  refine x_bin (0) 147 rfl rfl rfl rfl ?_
  refine x_bin (x >>> (0 &&& 31)) 148 rfl rfl rfl rfl ?_
  refine x_cst (.int 255) 3 151 rfl rfl rfl ?_
  refine x_bin (byt x 0) 152 rfl rfl (byS_0 x) rfl ?_
  refine x_ist 153 rfl ((set_ne (Ne.symm hne)).trans hl) rfl (i32_in n 16 (by omega) (by decide)) _ (by rw [i32_nat n (by omega)]) rfl ?_
  refine x_ld 0 1 2 154 rfl rfl rfl rfl rfl ?_
  refine x_dup 155 rfl rfl rfl ?_
  refine x_get 162 5 4 158 rfl rfl ((set_ne hne).trans (set_at hm)) ((fs_ne (by decide)).trans h4) rfl ?_
  refine x_cst (.int 1) 1 159 rfl rfl rfl ?_
  refine x_bin (Int32.ofNat (n + 1)) 160 rfl rfl (i32_add n 1) rfl ?_
  refine x_put 162 5 4 163 rfl rfl ((set_ne hne).trans (set_at hm)) (by simp only [List.length_set, hfs]; omega) rfl rfl rfl _ rfl rfl ?_
  refine x_inc 5 1 1 166 [some (.ref m), some (.int x), some (.int 4), some (.int 1), some (.int 0), some (.int 1), some (.int (byt x 3))] rfl rfl (Nat.le_of_ble_eq_true rfl) rfl rfl rfl ?_
  refine x_go 127 rfl rfl ?_
  refine x_ld 5 2 0 129 rfl rfl rfl rfl rfl ?_
  refine x_ld 2 1 0 130 rfl rfl rfl rfl rfl ?_
  refine x_icge 169 133 rfl rfl rfl (fun c => absurd c (by decide)) (fun _ => ?_)
  refine x_ld 0 1 2 134 rfl rfl rfl rfl rfl ?_
  refine x_get 16 5 3 137 rfl rfl (set_at ((set_ne hne).trans (set_at hm))) ((fs_ne (by decide)).trans ((fs_ne (by decide)).trans h3)) rfl ?_
  refine x_ld 0 1 2 138 rfl rfl rfl rfl rfl ?_
  refine x_get 162 5 4 141 rfl rfl (set_at ((set_ne hne).trans (set_at hm))) (fs_at (by simp only [List.length_set, hfs]; omega)) rfl ?_
  refine x_ld 1 1 0 142 rfl rfl rfl rfl rfl ?_
  refine x_cst (.int 8) 2 144 rfl rfl rfl ?_
  refine x_ld 5 2 0 146 rfl rfl rfl rfl rfl ?_
  refine x_bin (8) 147 rfl rfl rfl rfl ?_
  refine x_bin (x >>> (8 &&& 31)) 148 rfl rfl rfl rfl ?_
  refine x_cst (.int 255) 3 151 rfl rfl rfl ?_
  refine x_bin (byt x 1) 152 rfl rfl (byS_1 x) rfl ?_
  refine x_ist 153 rfl ((set_ne (Ne.symm hne)).trans (set_at ((set_ne (Ne.symm hne)).trans hl))) rfl (i32_in (n + 1) 16 (by omega) (by decide)) _ (by rw [i32_nat (n + 1) (by omega)]) rfl ?_
  refine x_ld 0 1 2 154 rfl rfl rfl rfl rfl ?_
  refine x_dup 155 rfl rfl rfl ?_
  refine x_get 162 5 4 158 rfl rfl ((set_ne hne).trans (set_at ((set_ne hne).trans (set_at hm)))) (fs_at (by simp only [List.length_set, hfs]; omega)) rfl ?_
  refine x_cst (.int 1) 1 159 rfl rfl rfl ?_
  refine x_bin (Int32.ofNat (n + 2)) 160 rfl rfl (i32_add (n + 1) 1) rfl ?_
  refine x_put 162 5 4 163 rfl rfl ((set_ne hne).trans (set_at ((set_ne hne).trans (set_at hm)))) (by simp only [List.length_set, hfs]; omega) rfl rfl rfl _ rfl rfl ?_
  refine x_inc 5 1 1 166 [some (.ref m), some (.int x), some (.int 4), some (.int 1), some (.int 0), some (.int 2), some (.int (byt x 3))] rfl rfl (Nat.le_of_ble_eq_true rfl) rfl rfl rfl ?_
  refine x_go 127 rfl rfl ?_
  refine x_ld 5 2 0 129 rfl rfl rfl rfl rfl ?_
  refine x_ld 2 1 0 130 rfl rfl rfl rfl rfl ?_
  refine x_icge 169 133 rfl rfl rfl (fun c => absurd c (by decide)) (fun _ => ?_)
  refine x_ld 0 1 2 134 rfl rfl rfl rfl rfl ?_
  refine x_get 16 5 3 137 rfl rfl (set_at ((set_ne hne).trans (set_at ((set_ne hne).trans (set_at hm))))) ((fs_ne (by decide)).trans ((fs_ne (by decide)).trans ((fs_ne (by decide)).trans h3))) rfl ?_
  refine x_ld 0 1 2 138 rfl rfl rfl rfl rfl ?_
  refine x_get 162 5 4 141 rfl rfl (set_at ((set_ne hne).trans (set_at ((set_ne hne).trans (set_at hm))))) (fs_at (by simp only [List.length_set, hfs]; omega)) rfl ?_
  refine x_ld 1 1 0 142 rfl rfl rfl rfl rfl ?_
  refine x_cst (.int 8) 2 144 rfl rfl rfl ?_
  refine x_ld 5 2 0 146 rfl rfl rfl rfl rfl ?_
  refine x_bin (16) 147 rfl rfl rfl rfl ?_
  refine x_bin (x >>> (16 &&& 31)) 148 rfl rfl rfl rfl ?_
  refine x_cst (.int 255) 3 151 rfl rfl rfl ?_
  refine x_bin (byt x 2) 152 rfl rfl (byS_2 x) rfl ?_
  refine x_ist 153 rfl ((set_ne (Ne.symm hne)).trans (set_at ((set_ne (Ne.symm hne)).trans (set_at ((set_ne (Ne.symm hne)).trans hl))))) rfl (i32_in (n + 2) 16 (by omega) (by decide)) _ (by rw [i32_nat (n + 2) (by omega)]) rfl ?_
  refine x_ld 0 1 2 154 rfl rfl rfl rfl rfl ?_
  refine x_dup 155 rfl rfl rfl ?_
  refine x_get 162 5 4 158 rfl rfl ((set_ne hne).trans (set_at ((set_ne hne).trans (set_at ((set_ne hne).trans (set_at hm)))))) (fs_at (by simp only [List.length_set, hfs]; omega)) rfl ?_
  refine x_cst (.int 1) 1 159 rfl rfl rfl ?_
  refine x_bin (Int32.ofNat (n + 3)) 160 rfl rfl (i32_add (n + 2) 1) rfl ?_
  refine x_put 162 5 4 163 rfl rfl ((set_ne hne).trans (set_at ((set_ne hne).trans (set_at ((set_ne hne).trans (set_at hm)))))) (by simp only [List.length_set, hfs]; omega) rfl rfl rfl _ rfl rfl ?_
  refine x_inc 5 1 1 166 [some (.ref m), some (.int x), some (.int 4), some (.int 1), some (.int 0), some (.int 3), some (.int (byt x 3))] rfl rfl (Nat.le_of_ble_eq_true rfl) rfl rfl rfl ?_
  refine x_go 127 rfl rfl ?_
  refine x_ld 5 2 0 129 rfl rfl rfl rfl rfl ?_
  refine x_ld 2 1 0 130 rfl rfl rfl rfl rfl ?_
  refine x_icge 169 133 rfl rfl rfl (fun c => absurd c (by decide)) (fun _ => ?_)
  refine x_ld 0 1 2 134 rfl rfl rfl rfl rfl ?_
  refine x_get 16 5 3 137 rfl rfl (set_at ((set_ne hne).trans (set_at ((set_ne hne).trans (set_at ((set_ne hne).trans (set_at hm))))))) ((fs_ne (by decide)).trans ((fs_ne (by decide)).trans ((fs_ne (by decide)).trans ((fs_ne (by decide)).trans h3)))) rfl ?_
  refine x_ld 0 1 2 138 rfl rfl rfl rfl rfl ?_
  refine x_get 162 5 4 141 rfl rfl (set_at ((set_ne hne).trans (set_at ((set_ne hne).trans (set_at ((set_ne hne).trans (set_at hm))))))) (fs_at (by simp only [List.length_set, hfs]; omega)) rfl ?_
  refine x_ld 1 1 0 142 rfl rfl rfl rfl rfl ?_
  refine x_cst (.int 8) 2 144 rfl rfl rfl ?_
  refine x_ld 5 2 0 146 rfl rfl rfl rfl rfl ?_
  refine x_bin (24) 147 rfl rfl rfl rfl ?_
  refine x_bin (x >>> (24 &&& 31)) 148 rfl rfl rfl rfl ?_
  refine x_cst (.int 255) 3 151 rfl rfl rfl ?_
  refine x_bin (byt x 3) 152 rfl rfl (byS_3 x) rfl ?_
  refine x_ist 153 rfl ((set_ne (Ne.symm hne)).trans (set_at ((set_ne (Ne.symm hne)).trans (set_at ((set_ne (Ne.symm hne)).trans (set_at ((set_ne (Ne.symm hne)).trans hl))))))) rfl (i32_in (n + 3) 16 (by omega) (by decide)) _ (by rw [i32_nat (n + 3) (by omega)]) rfl ?_
  refine x_ld 0 1 2 154 rfl rfl rfl rfl rfl ?_
  refine x_dup 155 rfl rfl rfl ?_
  refine x_get 162 5 4 158 rfl rfl ((set_ne hne).trans (set_at ((set_ne hne).trans (set_at ((set_ne hne).trans (set_at ((set_ne hne).trans (set_at hm)))))))) (fs_at (by simp only [List.length_set, hfs]; omega)) rfl ?_
  refine x_cst (.int 1) 1 159 rfl rfl rfl ?_
  refine x_bin (Int32.ofNat (n + 4)) 160 rfl rfl (i32_add (n + 3) 1) rfl ?_
  refine x_put 162 5 4 163 rfl rfl ((set_ne hne).trans (set_at ((set_ne hne).trans (set_at ((set_ne hne).trans (set_at ((set_ne hne).trans (set_at hm)))))))) (by simp only [List.length_set, hfs]; omega) rfl rfl rfl _ rfl rfl ?_
  refine x_inc 5 1 1 166 [some (.ref m), some (.int x), some (.int 4), some (.int 1), some (.int 0), some (.int 4), some (.int (byt x 3))] rfl rfl (Nat.le_of_ble_eq_true rfl) rfl rfl rfl ?_
  refine x_go 127 rfl rfl ?_
  refine x_ld 5 2 0 129 rfl rfl rfl rfl rfl ?_
  refine x_ld 2 1 0 130 rfl rfl rfl rfl rfl ?_
  refine x_icge 169 133 rfl rfl rfl (fun _ => ?_) (fun c => absurd (by decide) c)
  refine x_cst (.int 1) 1 170 rfl rfl rfl ?_
  refine x_ret rfl rfl rfl rfl ?_
  exact ⟨rfl, t104_h4 hne⟩
theorem f104_4 (d : Nat) {h : ab_H} {m ml n : Nat} {x : Int32} {g : Nat → Int32} {fs : List Value} (hm : h[m]? = some (.inr (5, fs))) (hfs : fs.length = 68) (h3 : fs[3]? = some (.ref ml)) (h4 : fs[4]? = some (.int (Int32.ofNat n))) (hl : h[ml]? = some (.inl (0, 16, .inl g))) (hne : ml ≠ m) (hn : n ≤ 16) (H : okc x 4) (hf : ¬ n + 4 ≤ 16) : ab_S (pg_G L xs) (d + 1) 104 [.ref m, .int x] h (some (.int 0)) (h.set m (.inr (5, fs.set 2 (.int 0)))) := by
  show ab_W (pg_G L xs) (ab_X (pg_G L xs) d) 104 _ 0 [some (.ref m), some (.int x), none, none, none, none, none] [] h
  have K0 : 32 ≤ byt x 0 ∧ byt x 0 ≤ 126 := H.1 0 (by decide)
  have K1 : 32 ≤ byt x 1 ∧ byt x 1 ≤ 126 := H.1 1 (by decide)
  have K2 : 32 ≤ byt x 2 ∧ byt x 2 ≤ 126 := H.1 2 (by decide)
  have K3 : 32 ≤ byt x 3 ∧ byt x 3 ≤ 126 := H.1 3 (by decide)
  refine x_cst (.int 0) 1 1 rfl rfl rfl ?_
  refine x_st 2 1 0 2 [some (.ref m), some (.int x), some (.int 0), none, none, none, none] rfl rfl rfl (Nat.le_of_ble_eq_true rfl) rfl rfl ?_
  refine x_cst (.int 1) 1 3 rfl rfl rfl ?_
  refine x_st 3 1 0 4 [some (.ref m), some (.int x), some (.int 0), some (.int 1), none, none, none] rfl rfl rfl (Nat.le_of_ble_eq_true rfl) rfl rfl ?_
  refine x_cst (.int 0) 1 5 rfl rfl rfl ?_
  refine x_st 4 2 0 7 [some (.ref m), some (.int x), some (.int 0), some (.int 1), some (.int 0), none, none] rfl rfl rfl (Nat.le_of_ble_eq_true rfl) rfl rfl ?_
  refine x_cst (.int 0) 1 8 rfl rfl rfl ?_
  refine x_st 5 2 0 10 [some (.ref m), some (.int x), some (.int 0), some (.int 1), some (.int 0), some (.int 0), none] rfl rfl rfl (Nat.le_of_ble_eq_true rfl) rfl rfl ?_
  refine x_ld 5 2 0 12 rfl rfl rfl rfl rfl ?_
  refine x_cst (.int 4) 1 13 rfl rfl rfl ?_
  refine x_icge 92 16 rfl rfl rfl (fun c => absurd c (by decide)) (fun _ => ?_)
  refine x_ld 1 1 0 17 rfl rfl rfl rfl rfl ?_
  refine x_cst (.int 8) 2 19 rfl rfl rfl ?_
  refine x_ld 5 2 0 21 rfl rfl rfl rfl rfl ?_
  refine x_bin (0) 22 rfl rfl rfl rfl ?_
  refine x_bin (x >>> (0 &&& 31)) 23 rfl rfl rfl rfl ?_
  refine x_cst (.int 255) 3 26 rfl rfl rfl ?_
  refine x_bin (byt x 0) 27 rfl rfl (byS_0 x) rfl ?_
  refine x_st 6 2 0 29 [some (.ref m), some (.int x), some (.int 0), some (.int 1), some (.int 0), some (.int 0), some (.int (byt x 0))] rfl rfl rfl (Nat.le_of_ble_eq_true rfl) rfl rfl ?_
  refine x_ld 3 1 0 30 rfl rfl rfl rfl rfl ?_
  refine x_ifeq 42 33 rfl rfl rfl (fun c => absurd c (by decide)) (fun _ => ?_)
  refine x_ld 6 2 0 35 rfl rfl rfl rfl rfl ?_
  refine x_ifeq 42 38 rfl rfl rfl (fun c => absurd c (nz32 K0.1)) (fun _ => ?_)
  refine x_cst (.int 1) 1 39 rfl rfl rfl ?_
  refine x_go 43 rfl rfl ?_
  refine x_st 3 1 0 44 [some (.ref m), some (.int x), some (.int 0), some (.int 1), some (.int 0), some (.int 0), some (.int (byt x 0))] rfl rfl rfl (Nat.le_of_ble_eq_true rfl) rfl rfl ?_
  refine x_ld 4 2 0 46 rfl rfl rfl rfl rfl ?_
  refine x_ifne 67 49 rfl rfl rfl (fun c => absurd (by decide) c) (fun _ => ?_)
  refine x_ld 3 1 0 50 rfl rfl rfl rfl rfl ?_
  refine x_ifeq 71 53 rfl rfl rfl (fun c => absurd c (by decide)) (fun _ => ?_)
  refine x_ld 6 2 0 55 rfl rfl rfl rfl rfl ?_
  refine x_cst (.int 32) 2 57 rfl rfl rfl ?_
  refine x_iclt 67 60 rfl rfl rfl (fun c => absurd c (Int32.not_lt.mpr K0.1)) (fun _ => ?_)
  refine x_ld 6 2 0 62 rfl rfl rfl rfl rfl ?_
  refine x_cst (.int 126) 2 64 rfl rfl rfl ?_
  refine x_icle 71 67 rfl rfl rfl (fun _ => ?_) (fun c => absurd K0.2 c)
  refine x_cst (.int 0) 1 72 rfl rfl rfl ?_
  refine x_st 4 2 0 74 [some (.ref m), some (.int x), some (.int 0), some (.int 1), some (.int 0), some (.int 0), some (.int (byt x 0))] rfl rfl rfl (Nat.le_of_ble_eq_true rfl) rfl rfl ?_
  refine x_ld 3 1 0 75 rfl rfl rfl rfl rfl ?_
  refine x_ifeq 84 78 rfl rfl rfl (fun c => absurd c (by decide)) (fun _ => ?_)
  refine x_ld 2 1 0 79 rfl rfl rfl rfl rfl ?_
  refine x_cst (.int 1) 1 80 rfl rfl rfl ?_
  refine x_bin (1) 81 rfl rfl rfl rfl ?_
  refine x_go 85 rfl rfl ?_
  refine x_st 2 1 0 86 [some (.ref m), some (.int x), some (.int 1), some (.int 1), some (.int 0), some (.int 0), some (.int (byt x 0))] rfl rfl rfl (Nat.le_of_ble_eq_true rfl) rfl rfl ?_
  refine x_inc 5 1 1 89 [some (.ref m), some (.int x), some (.int 1), some (.int 1), some (.int 0), some (.int 1), some (.int (byt x 0))] rfl rfl (Nat.le_of_ble_eq_true rfl) rfl rfl rfl ?_
  refine x_go 10 rfl rfl ?_
  refine x_ld 5 2 0 12 rfl rfl rfl rfl rfl ?_
  refine x_cst (.int 4) 1 13 rfl rfl rfl ?_
  refine x_icge 92 16 rfl rfl rfl (fun c => absurd c (by decide)) (fun _ => ?_)
  refine x_ld 1 1 0 17 rfl rfl rfl rfl rfl ?_
  refine x_cst (.int 8) 2 19 rfl rfl rfl ?_
  refine x_ld 5 2 0 21 rfl rfl rfl rfl rfl ?_
  refine x_bin (8) 22 rfl rfl rfl rfl ?_
  refine x_bin (x >>> (8 &&& 31)) 23 rfl rfl rfl rfl ?_
  refine x_cst (.int 255) 3 26 rfl rfl rfl ?_
  refine x_bin (byt x 1) 27 rfl rfl (byS_1 x) rfl ?_
  refine x_st 6 2 0 29 [some (.ref m), some (.int x), some (.int 1), some (.int 1), some (.int 0), some (.int 1), some (.int (byt x 1))] rfl rfl rfl (Nat.le_of_ble_eq_true rfl) rfl rfl ?_
  refine x_ld 3 1 0 30 rfl rfl rfl rfl rfl ?_
  refine x_ifeq 42 33 rfl rfl rfl (fun c => absurd c (by decide)) (fun _ => ?_)
  refine x_ld 6 2 0 35 rfl rfl rfl rfl rfl ?_
  refine x_ifeq 42 38 rfl rfl rfl (fun c => absurd c (nz32 K1.1)) (fun _ => ?_)
  refine x_cst (.int 1) 1 39 rfl rfl rfl ?_
  refine x_go 43 rfl rfl ?_
  refine x_st 3 1 0 44 [some (.ref m), some (.int x), some (.int 1), some (.int 1), some (.int 0), some (.int 1), some (.int (byt x 1))] rfl rfl rfl (Nat.le_of_ble_eq_true rfl) rfl rfl ?_
  refine x_ld 4 2 0 46 rfl rfl rfl rfl rfl ?_
  refine x_ifne 67 49 rfl rfl rfl (fun c => absurd (by decide) c) (fun _ => ?_)
  refine x_ld 3 1 0 50 rfl rfl rfl rfl rfl ?_
  refine x_ifeq 71 53 rfl rfl rfl (fun c => absurd c (by decide)) (fun _ => ?_)
  refine x_ld 6 2 0 55 rfl rfl rfl rfl rfl ?_
  refine x_cst (.int 32) 2 57 rfl rfl rfl ?_
  refine x_iclt 67 60 rfl rfl rfl (fun c => absurd c (Int32.not_lt.mpr K1.1)) (fun _ => ?_)
  refine x_ld 6 2 0 62 rfl rfl rfl rfl rfl ?_
  refine x_cst (.int 126) 2 64 rfl rfl rfl ?_
  refine x_icle 71 67 rfl rfl rfl (fun _ => ?_) (fun c => absurd K1.2 c)
  refine x_cst (.int 0) 1 72 rfl rfl rfl ?_
  refine x_st 4 2 0 74 [some (.ref m), some (.int x), some (.int 1), some (.int 1), some (.int 0), some (.int 1), some (.int (byt x 1))] rfl rfl rfl (Nat.le_of_ble_eq_true rfl) rfl rfl ?_
  refine x_ld 3 1 0 75 rfl rfl rfl rfl rfl ?_
  refine x_ifeq 84 78 rfl rfl rfl (fun c => absurd c (by decide)) (fun _ => ?_)
  refine x_ld 2 1 0 79 rfl rfl rfl rfl rfl ?_
  refine x_cst (.int 1) 1 80 rfl rfl rfl ?_
  refine x_bin (2) 81 rfl rfl rfl rfl ?_
  refine x_go 85 rfl rfl ?_
  refine x_st 2 1 0 86 [some (.ref m), some (.int x), some (.int 2), some (.int 1), some (.int 0), some (.int 1), some (.int (byt x 1))] rfl rfl rfl (Nat.le_of_ble_eq_true rfl) rfl rfl ?_
  refine x_inc 5 1 1 89 [some (.ref m), some (.int x), some (.int 2), some (.int 1), some (.int 0), some (.int 2), some (.int (byt x 1))] rfl rfl (Nat.le_of_ble_eq_true rfl) rfl rfl rfl ?_
  refine x_go 10 rfl rfl ?_
  refine x_ld 5 2 0 12 rfl rfl rfl rfl rfl ?_
  refine x_cst (.int 4) 1 13 rfl rfl rfl ?_
  refine x_icge 92 16 rfl rfl rfl (fun c => absurd c (by decide)) (fun _ => ?_)
  refine x_ld 1 1 0 17 rfl rfl rfl rfl rfl ?_
  refine x_cst (.int 8) 2 19 rfl rfl rfl ?_
  refine x_ld 5 2 0 21 rfl rfl rfl rfl rfl ?_
  refine x_bin (16) 22 rfl rfl rfl rfl ?_
  refine x_bin (x >>> (16 &&& 31)) 23 rfl rfl rfl rfl ?_
  refine x_cst (.int 255) 3 26 rfl rfl rfl ?_
  refine x_bin (byt x 2) 27 rfl rfl (byS_2 x) rfl ?_
  refine x_st 6 2 0 29 [some (.ref m), some (.int x), some (.int 2), some (.int 1), some (.int 0), some (.int 2), some (.int (byt x 2))] rfl rfl rfl (Nat.le_of_ble_eq_true rfl) rfl rfl ?_
  refine x_ld 3 1 0 30 rfl rfl rfl rfl rfl ?_
  refine x_ifeq 42 33 rfl rfl rfl (fun c => absurd c (by decide)) (fun _ => ?_)
  refine x_ld 6 2 0 35 rfl rfl rfl rfl rfl ?_
  refine x_ifeq 42 38 rfl rfl rfl (fun c => absurd c (nz32 K2.1)) (fun _ => ?_)
  refine x_cst (.int 1) 1 39 rfl rfl rfl ?_
  refine x_go 43 rfl rfl ?_
  refine x_st 3 1 0 44 [some (.ref m), some (.int x), some (.int 2), some (.int 1), some (.int 0), some (.int 2), some (.int (byt x 2))] rfl rfl rfl (Nat.le_of_ble_eq_true rfl) rfl rfl ?_
  refine x_ld 4 2 0 46 rfl rfl rfl rfl rfl ?_
  refine x_ifne 67 49 rfl rfl rfl (fun c => absurd (by decide) c) (fun _ => ?_)
  refine x_ld 3 1 0 50 rfl rfl rfl rfl rfl ?_
  refine x_ifeq 71 53 rfl rfl rfl (fun c => absurd c (by decide)) (fun _ => ?_)
  refine x_ld 6 2 0 55 rfl rfl rfl rfl rfl ?_
  refine x_cst (.int 32) 2 57 rfl rfl rfl ?_
  refine x_iclt 67 60 rfl rfl rfl (fun c => absurd c (Int32.not_lt.mpr K2.1)) (fun _ => ?_)
  refine x_ld 6 2 0 62 rfl rfl rfl rfl rfl ?_
  refine x_cst (.int 126) 2 64 rfl rfl rfl ?_
  refine x_icle 71 67 rfl rfl rfl (fun _ => ?_) (fun c => absurd K2.2 c)
  refine x_cst (.int 0) 1 72 rfl rfl rfl ?_
  refine x_st 4 2 0 74 [some (.ref m), some (.int x), some (.int 2), some (.int 1), some (.int 0), some (.int 2), some (.int (byt x 2))] rfl rfl rfl (Nat.le_of_ble_eq_true rfl) rfl rfl ?_
  refine x_ld 3 1 0 75 rfl rfl rfl rfl rfl ?_
  refine x_ifeq 84 78 rfl rfl rfl (fun c => absurd c (by decide)) (fun _ => ?_)
  refine x_ld 2 1 0 79 rfl rfl rfl rfl rfl ?_
  refine x_cst (.int 1) 1 80 rfl rfl rfl ?_
  refine x_bin (3) 81 rfl rfl rfl rfl ?_
  refine x_go 85 rfl rfl ?_
  refine x_st 2 1 0 86 [some (.ref m), some (.int x), some (.int 3), some (.int 1), some (.int 0), some (.int 2), some (.int (byt x 2))] rfl rfl rfl (Nat.le_of_ble_eq_true rfl) rfl rfl ?_
  refine x_inc 5 1 1 89 [some (.ref m), some (.int x), some (.int 3), some (.int 1), some (.int 0), some (.int 3), some (.int (byt x 2))] rfl rfl (Nat.le_of_ble_eq_true rfl) rfl rfl rfl ?_
  refine x_go 10 rfl rfl ?_
  refine x_ld 5 2 0 12 rfl rfl rfl rfl rfl ?_
  refine x_cst (.int 4) 1 13 rfl rfl rfl ?_
  refine x_icge 92 16 rfl rfl rfl (fun c => absurd c (by decide)) (fun _ => ?_)
  refine x_ld 1 1 0 17 rfl rfl rfl rfl rfl ?_
  refine x_cst (.int 8) 2 19 rfl rfl rfl ?_
  refine x_ld 5 2 0 21 rfl rfl rfl rfl rfl ?_
  refine x_bin (24) 22 rfl rfl rfl rfl ?_
  refine x_bin (x >>> (24 &&& 31)) 23 rfl rfl rfl rfl ?_
  refine x_cst (.int 255) 3 26 rfl rfl rfl ?_
  refine x_bin (byt x 3) 27 rfl rfl (byS_3 x) rfl ?_
  refine x_st 6 2 0 29 [some (.ref m), some (.int x), some (.int 3), some (.int 1), some (.int 0), some (.int 3), some (.int (byt x 3))] rfl rfl rfl (Nat.le_of_ble_eq_true rfl) rfl rfl ?_
  refine x_ld 3 1 0 30 rfl rfl rfl rfl rfl ?_
  refine x_ifeq 42 33 rfl rfl rfl (fun c => absurd c (by decide)) (fun _ => ?_)
  refine x_ld 6 2 0 35 rfl rfl rfl rfl rfl ?_
  refine x_ifeq 42 38 rfl rfl rfl (fun c => absurd c (nz32 K3.1)) (fun _ => ?_)
  refine x_cst (.int 1) 1 39 rfl rfl rfl ?_
  refine x_go 43 rfl rfl ?_
  refine x_st 3 1 0 44 [some (.ref m), some (.int x), some (.int 3), some (.int 1), some (.int 0), some (.int 3), some (.int (byt x 3))] rfl rfl rfl (Nat.le_of_ble_eq_true rfl) rfl rfl ?_
  refine x_ld 4 2 0 46 rfl rfl rfl rfl rfl ?_
  refine x_ifne 67 49 rfl rfl rfl (fun c => absurd (by decide) c) (fun _ => ?_)
  refine x_ld 3 1 0 50 rfl rfl rfl rfl rfl ?_
  refine x_ifeq 71 53 rfl rfl rfl (fun c => absurd c (by decide)) (fun _ => ?_)
  refine x_ld 6 2 0 55 rfl rfl rfl rfl rfl ?_
  refine x_cst (.int 32) 2 57 rfl rfl rfl ?_
  refine x_iclt 67 60 rfl rfl rfl (fun c => absurd c (Int32.not_lt.mpr K3.1)) (fun _ => ?_)
  refine x_ld 6 2 0 62 rfl rfl rfl rfl rfl ?_
  refine x_cst (.int 126) 2 64 rfl rfl rfl ?_
  refine x_icle 71 67 rfl rfl rfl (fun _ => ?_) (fun c => absurd K3.2 c)
  refine x_cst (.int 0) 1 72 rfl rfl rfl ?_
  refine x_st 4 2 0 74 [some (.ref m), some (.int x), some (.int 3), some (.int 1), some (.int 0), some (.int 3), some (.int (byt x 3))] rfl rfl rfl (Nat.le_of_ble_eq_true rfl) rfl rfl ?_
  refine x_ld 3 1 0 75 rfl rfl rfl rfl rfl ?_
  refine x_ifeq 84 78 rfl rfl rfl (fun c => absurd c (by decide)) (fun _ => ?_)
  refine x_ld 2 1 0 79 rfl rfl rfl rfl rfl ?_
  refine x_cst (.int 1) 1 80 rfl rfl rfl ?_
  refine x_bin (4) 81 rfl rfl rfl rfl ?_
  refine x_go 85 rfl rfl ?_
  refine x_st 2 1 0 86 [some (.ref m), some (.int x), some (.int 4), some (.int 1), some (.int 0), some (.int 3), some (.int (byt x 3))] rfl rfl rfl (Nat.le_of_ble_eq_true rfl) rfl rfl ?_
  refine x_inc 5 1 1 89 [some (.ref m), some (.int x), some (.int 4), some (.int 1), some (.int 0), some (.int 4), some (.int (byt x 3))] rfl rfl (Nat.le_of_ble_eq_true rfl) rfl rfl rfl ?_
  refine x_go 10 rfl rfl ?_
  refine x_ld 5 2 0 12 rfl rfl rfl rfl rfl ?_
  refine x_cst (.int 4) 1 13 rfl rfl rfl ?_
  refine x_icge 92 16 rfl rfl rfl (fun _ => ?_) (fun c => absurd (by decide) c)
  refine x_ld 0 1 2 93 rfl rfl rfl rfl rfl ?_
  refine x_ld 4 2 0 95 rfl rfl rfl rfl rfl ?_
  refine x_ifeq 102 98 rfl rfl rfl (fun _ => ?_) (fun c => absurd (by decide) c)
  refine x_cst (.int 0) 1 103 rfl rfl rfl ?_
  refine x_put 159 5 2 106 rfl rfl hm (by simp only [List.length_set, hfs]; omega) rfl rfl rfl _ rfl rfl ?_
  refine x_ld 4 2 0 108 rfl rfl rfl rfl rfl ?_
  refine x_ifne 122 111 rfl rfl rfl (fun c => absurd (by decide) c) (fun _ => ?_)
  refine x_ld 0 1 2 112 rfl rfl rfl rfl rfl ?_
  refine x_get 162 5 4 115 rfl rfl (set_at hm) ((fs_ne (by decide)).trans h4) rfl ?_
  refine x_ld 2 1 0 116 rfl rfl rfl rfl rfl ?_
  refine x_bin (Int32.ofNat (n + 4)) 117 rfl rfl (i32_add n 4) rfl ?_
  refine x_cst (.int 16) 2 119 rfl rfl rfl ?_
  refine x_icle 124 122 rfl rfl rfl (fun c => absurd c (fun z => absurd ((i32_le 16 (n + 4) (by decide) (by omega)).mp z) (by omega))) (fun _ => ?_)
  refine x_cst (.int 0) 1 123 rfl rfl rfl ?_
  refine x_ret rfl rfl rfl rfl ?_
  exact ⟨rfl, rfl⟩
end Ty
