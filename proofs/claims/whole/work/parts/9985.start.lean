/-! OURS, printed by wip/tools/gen9985.py: new objects, as memory; the law from its start. -/
def M0 : mm := (fun a j => if (a = 0 ∧ (j = 7 ∨ j = 8)) ∨ (a = 2 ∧ j = 3) ∨ (a = 572 ∧ (j = 31 ∨ j = 32)) ∨ (j = 8 ∧ ((8 ≤ a ∧ a < 287 ∧ (a - 8) % 9 = 0) ∨ (290 ≤ a ∧ a < 569 ∧ (a - 290) % 9 = 0))) then -1 else 0, fun _ _ => false, fun a j => if a = 0 then (if j = 3 then 5 else 287) else if j = 5 then a + 3 else a)
theorem m0z {a : Nat} {j : Int} (h : ¬ ((a = 0 ∧ (j = 7 ∨ j = 8)) ∨ (a = 2 ∧ j = 3) ∨ (a = 572 ∧ (j = 31 ∨ j = 32)) ∨ (j = 8 ∧ ((8 ≤ a ∧ a < 287 ∧ (a - 8) % 9 = 0) ∨ (290 ≤ a ∧ a < 569 ∧ (a - 290) % 9 = 0))))) : M0.1 a j = 0 := if_neg h
theorem m0n {a : Nat} {j : Int} (h : (a = 0 ∧ (j = 7 ∨ j = 8)) ∨ (a = 2 ∧ j = 3) ∨ (a = 572 ∧ (j = 31 ∨ j = 32)) ∨ (j = 8 ∧ ((8 ≤ a ∧ a < 287 ∧ (a - 8) % 9 = 0) ∨ (290 ≤ a ∧ a < 569 ∧ (a - 290) % 9 = 0)))) : M0.1 a j = -1 := if_pos h
/-- a stretch of the heap that M0 renders -/
def sg (n : Nat) (l : ab_H) : Prop := ∀ i, i < l.length → l[i]? = some (ob M0 (n + i))
theorem sg_nil (n : Nat) : sg n [] := fun i hi => absurd hi (Nat.not_lt_zero i)
theorem sg_cons {n : Nat} {o : ab_O} {l : ab_H} (h : o = ob M0 n) (t : sg (n + 1) l) : sg n (o :: l) := by
  intro i hi
  cases i with
  | zero => rw [h]; rfl
  | succ i =>
    have q := t i (by rw [List.length_cons] at hi; omega)
    rw [List.getElem?_cons_succ, q, show n + 1 + i = n + (i + 1) by omega]
theorem sg_app {n m : Nat} {u v : ab_H} (hm : n + u.length = m) (h : sg n u) (t : sg m v) : sg n (u ++ v) := by
  subst hm
  intro i hi
  rw [List.length_append] at hi
  by_cases q : i < u.length
  · rw [List.getElem?_append_left q]; exact h i q
  · rw [List.getElem?_append_right (by omega), t (i - u.length) (by omega), show n + u.length + (i - u.length) = n + i by omega]
theorem ob_of {a : Nat} {X : ab_O} (h : a < 619) (e : (hp M0 ++ [])[a]? = some X) : X = ob M0 a := by
  rw [hp_at M0 [] h] at e
  exact (Option.some.inj e).symm
theorem zI {a n : Nat} (ha : isI a n) (h : ∀ j, M0.1 a j = 0) : (.inl (0, n, .inl (fun _ => 0)) : ab_O) = ob M0 a := by
  unfold ob
  rw [ha.2.2, show M0.1 a = fun _ => 0 from funext h]; rfl
theorem zC {a n : Nat} (ha : isC a n) (h : ∀ j, M0.1 a j = 0) : (.inl (2, n, .inl (fun _ => 0)) : ab_O) = ob M0 a := by
  unfold ob
  rw [ha.2.2, show M0.1 a = fun _ => 0 from funext h]; rfl
theorem zL {a n : Nat} (ha : isL a n) : (.inl (1, n, .inr (.inl (fun _ => 0))) : ab_O) = ob M0 a := by
  unfold ob
  rw [ha.2.2]
  show _ = (.inl (1, n, .inr (.inl (fun _ => wd (fun _ => false)))) : ab_O)
  rw [wd_zero]
theorem zT {s w : Nat} (h : isT s w) : (.inr (4, [.ref w]) : ab_O) = ob M0 s := (h.2.2 _ _ _).symm
theorem sg_part {p : Nat} (h : isP p) : sg p (b_part p) := by
  obtain ⟨k, hk, e⟩ := id h
  have z : ∀ j : Int, j ≠ 8 → M0.1 p j = 0 := fun j hj => m0z (by omega)
  have y : M0.1 p 8 = -1 := m0n (by omega)
  have r : ∀ j : Nat, j ≠ 5 → M0.2.2 p j = p := fun j hj => by show (if p = 0 then _ else if j = 5 then p + 3 else p) = p; rw [if_neg (by omega), if_neg hj]
  have ho := oP (M := M0) (es := []) h
  rw [z 0 (by decide), z 1 (by decide), z 2 (by decide), z 7 (by decide), z 13 (by decide), y, r 3 (by decide), r 4 (by decide)] at ho
  have w : ∀ m : Nat, 5 ≤ m → m ≤ 8 → ∀ j, M0.1 (p + m) j = 0 := fun m h1 h2 j => m0z (by omega)
  show sg p [_, .inr (4, [.ref (p + 2)]), .inl (1, 18, .inr (.inl (fun _ => 0))), .inr (4, [.ref (p + 4)]), .inl (1, 18, .inr (.inl (fun _ => 0))), .inl (0, 6, .inl (fun _ => 0)), .inl (0, 6, .inl (fun _ => 0)), .inl (0, 6, .inl (fun _ => 0)), .inl (0, 6, .inl (fun _ => 0))]
  exact sg_cons (ob_of (by have := isP_lt h; omega) ho) (sg_cons (zT (iT_P1 h)) (sg_cons (zL (iP2 h)) (sg_cons (zT (iT_P3 h)) (sg_cons (zL (iP4 h)) (sg_cons (zI (iP5 h) (w 5 (by decide) (by decide))) (sg_cons (zI (iP6 h) (w 6 (by decide) (by decide))) (sg_cons (zI (iP7 h) (w 7 (by decide) (by decide))) (sg_cons (zI (iP8 h) (w 8 (by decide) (by decide))) (sg_nil _)))))))))
theorem sg_parts {n : Nat} (hn : n = 8 ∨ n = 290) : ∀ i, i ≤ 31 → sg n (b_parts n i)
  | 0, _ => sg_nil n
  | i + 1, h => by
    rw [b_parts_succ]
    exact sg_app (by rw [b_parts_len]) (sg_parts hn i (by omega)) (sg_part ⟨i, by omega, by omega⟩)
theorem sg_prog5 : sg 5 (b_prog 5) := by
  have ho := oG (M := M0) (es := []) (n := 5) (.inl rfl)
  rw [show M0.1 5 1 = 0 from m0z (by omega), show M0.1 5 2 = 0 from m0z (by omega), show M0.1 5 4 = 0 from m0z (by omega), show M0.2.2 5 5 = 8 from rfl] at ho
  exact sg_cons (ob_of (by decide) ho) (sg_cons (zC i_6 (fun j => m0z (by omega))) (sg_cons rfl (sg_parts (n := 8) (.inl rfl) 31 (by decide))))
theorem sg_prog287 : sg 287 (b_prog 287) := by
  have ho := oG (M := M0) (es := []) (n := 287) (.inr rfl)
  rw [show M0.1 287 1 = 0 from m0z (by omega), show M0.1 287 2 = 0 from m0z (by omega), show M0.1 287 4 = 0 from m0z (by omega), show M0.2.2 287 5 = 290 from rfl] at ho
  exact sg_cons (ob_of (by decide) ho) (sg_cons (zC i_288 (fun j => m0z (by omega))) (sg_cons rfl (sg_parts (n := 290) (.inr rfl) 31 (by decide))))
theorem sg_cls : sg 0 (b_cls 0) := by
  have h0 := o_0 (M := M0) (es := [])
  rw [show M0.1 0 1 = 0 from m0z (by omega), show M0.1 0 5 = 0 from m0z (by omega), show M0.1 0 6 = 0 from m0z (by omega), show M0.1 0 7 = -1 from m0n (by omega), show M0.1 0 8 = -1 from m0n (by omega), show M0.1 0 10 = 0 from m0z (by omega), show M0.1 0 12 = 0 from m0z (by omega), show M0.2.2 0 3 = 5 from rfl, show M0.2.2 0 4 = 287 from rfl] at h0
  have h2 := o_2 (M := M0) (es := [])
  rw [show M0.1 2 2 = 0 from m0z (by omega), show M0.1 2 3 = -1 from m0n (by omega)] at h2
  have j2 : sg 2 (b_join 2) := sg_cons (ob_of (by decide) h2) (sg_cons (zI i_3 (fun j => m0z (by omega))) (sg_cons (zI i_4 (fun j => m0z (by omega))) (sg_nil _)))
  have s1 : sg 1 ([] ++ [.inl (2, 16, .inl (fun _ => 0))]) := sg_cons (zC i_1 (fun j => m0z (by omega))) (sg_nil _)
  have s9 : sg 569 [.inl (0, 6, .inl (fun _ => 0))] := sg_cons (zI i_569 (fun j => m0z (by omega))) (sg_nil _)
  have t0 : sg 570 (b_set 570) := sg_cons (zT iT_570) (sg_cons (zL i_571) (sg_nil _))
  refine sg_cons (ob_of (by decide) h0) ?_
  refine sg_app ?_ (sg_app ?_ (sg_app ?_ (sg_app ?_ (sg_app ?_ s1 j2) sg_prog5) sg_prog287) s9) t0 <;> simp only [List.length_append, List.length_cons, List.length_nil, b_prog_len, b_join_len, b_set_len]
theorem sg_mod : sg 572 (b_mod 572) := by
  have h2 := o_572 (M := M0) (es := [])
  rw [show M0.1 572 2 = 0 from m0z (by omega), show M0.1 572 4 = 0 from m0z (by omega), show M0.1 572 5 = 0 from m0z (by omega), show M0.1 572 6 = 0 from m0z (by omega), show M0.1 572 13 = 0 from m0z (by omega), show M0.1 572 23 = 0 from m0z (by omega), show M0.1 572 27 = 0 from m0z (by omega), show M0.1 572 28 = 0 from m0z (by omega), show M0.1 572 29 = 0 from m0z (by omega), show M0.1 572 30 = 0 from m0z (by omega), show M0.1 572 34 = 0 from m0z (by omega), show M0.1 572 35 = 0 from m0z (by omega), show M0.1 572 40 = 0 from m0z (by omega), show M0.1 572 41 = 0 from m0z (by omega), show M0.1 572 47 = 0 from m0z (by omega), show M0.1 572 52 = 0 from m0z (by omega), show M0.1 572 53 = 0 from m0z (by omega), show M0.1 572 59 = 0 from m0z (by omega), show M0.1 572 63 = 0 from m0z (by omega), show M0.1 572 67 = 0 from m0z (by omega), show M0.1 572 31 = -1 from m0n (by omega), show M0.1 572 32 = -1 from m0n (by omega)] at h2
  exact (sg_cons (ob_of (by decide) h2) (sg_cons rfl (sg_cons rfl (sg_cons (zI i_575 (fun j => m0z (by omega))) (sg_cons (zI i_576 (fun j => m0z (by omega))) (sg_cons (zI i_577 (fun j => m0z (by omega))) (sg_cons (zI i_578 (fun j => m0z (by omega))) (sg_cons (zI i_579 (fun j => m0z (by omega))) (sg_cons (zL i_580) (sg_cons (zL i_581) (sg_cons (zI i_582 (fun j => m0z (by omega))) (sg_cons (zI i_583 (fun j => m0z (by omega))) (sg_cons (zI i_584 (fun j => m0z (by omega))) (sg_cons (zI i_585 (fun j => m0z (by omega))) (sg_cons (zI i_586 (fun j => m0z (by omega))) (sg_cons (zL i_587) (sg_cons (zL i_588) (sg_cons (zI i_589 (fun j => m0z (by omega))) (sg_cons (zI i_590 (fun j => m0z (by omega))) (sg_cons (zI i_591 (fun j => m0z (by omega))) (sg_cons (zI i_592 (fun j => m0z (by omega))) (sg_cons (zI i_593 (fun j => m0z (by omega))) (sg_cons (zL i_594) (sg_cons (zI i_595 (fun j => m0z (by omega))) (sg_cons (zI i_596 (fun j => m0z (by omega))) (sg_cons (zI i_597 (fun j => m0z (by omega))) (sg_cons (zI i_598 (fun j => m0z (by omega))) (sg_cons (zI i_599 (fun j => m0z (by omega))) (sg_cons (zI i_600 (fun j => m0z (by omega))) (sg_cons (zI i_601 (fun j => m0z (by omega))) (sg_cons (zI i_602 (fun j => m0z (by omega))) (sg_cons (zI i_603 (fun j => m0z (by omega))) (sg_cons (zI i_604 (fun j => m0z (by omega))) (sg_cons (zI i_605 (fun j => m0z (by omega))) (sg_cons (zI i_606 (fun j => m0z (by omega))) (sg_cons (zI i_607 (fun j => m0z (by omega))) (sg_cons (zI i_608 (fun j => m0z (by omega))) (sg_cons (zI i_609 (fun j => m0z (by omega))) (sg_cons (zI i_610 (fun j => m0z (by omega))) (sg_cons (zI i_611 (fun j => m0z (by omega))) (sg_cons (zI i_612 (fun j => m0z (by omega))) (sg_cons (zI i_613 (fun j => m0z (by omega))) (sg_cons (zI i_614 (fun j => m0z (by omega))) (sg_cons (zI i_615 (fun j => m0z (by omega))) (sg_cons (zI i_616 (fun j => m0z (by omega))) (sg_cons (zI i_617 (fun j => m0z (by omega))) (sg_cons (zI i_618 (fun j => m0z (by omega))) (sg_nil _))))))))))))))))))))))))))))))))))))))))))))))))
theorem hp_M0 : hp M0 = b_cls 0 ++ b_mod 572 := by
  have h := sg_app (by rw [b_cls_len]) sg_cls sg_mod
  have hl : (b_cls 0 ++ b_mod 572).length = 619 := by rw [List.length_append, b_cls_len]; rfl
  apply List.ext_getElem?
  intro i
  by_cases q : i < 619
  · rw [h i (by rw [hl]; exact q), Nat.zero_add, ← hp_at M0 [] q, List.append_nil]
  · rw [List.getElem?_eq_none (by rw [hp_len]; omega), List.getElem?_eq_none (by rw [hl]; omega)]
theorem H0_hp : H0 = hp M0 ++ (oO (fun _ => 0) :: []) := by
  unfold H0
  rw [hp_M0, List.append_assoc]; rfl
theorem Iv_M0 : Iv M0 := by
  have z : ∀ a j, (a = 0 ∧ (j = 1 ∨ j = 5 ∨ j = 6 ∨ j = 10 ∨ j = 12)) ∨ (a = 572 ∧ (j = 4 ∨ j = 5 ∨ j = 30 ∨ j = 34 ∨ j = 35)) → M0.1 a j = 0 := fun a j h => m0z (by omega)
  refine ⟨(0, fun _ => 0), 5, 287, ⟨⟨by decide, z 572 4 (by omega), fun i hi => absurd hi (Nat.not_lt_zero i)⟩, ⟨z 0 1 (by omega), fun i hi => absurd hi (Nat.not_lt_zero i)⟩, rfl, rfl, .inl rfl, .inr rfl, by decide, (z 0 6 (by omega)).trans (z 572 30 (by omega)).symm, ?_⟩, .inl ⟨z 0 5 (by omega), z 572 5 (by omega)⟩, ⟨0, by decide, by decide, z 0 10 (by omega), z 572 35 (by omega), fun i i0 i1 => by omega⟩, .inl ⟨z 0 12 (by omega), z 572 34 (by omega)⟩⟩
  exact (show M0.1 0 7 = -1 from m0n (by omega)).trans (show M0.1 572 31 = -1 from m0n (by omega)).symm
theorem law_top {L : Nat} {xs : Nat → Int32} (hL : L ≤ 1024) : ab_X (pg_G L xs) 1000 0 [.ref 1000002] [] (fun r _ => r = .inl (some (.int 1))) := by
  show ab_W (pg_G L xs) (ab_X (pg_G L xs) 999) 0 _ 0 [some (.ref 1000002), none, none, none, none, none, none] [] []
  refine lw_init 995 ?_
  rw [H0_hp]
  exact law_loop (d := 799) hL (fun h => rfl) _ 0 rfl (Nat.zero_le _) M0 [] _ none none Iv_M0 ⟨Nat.le_refl _, Nat.le_refl _⟩
