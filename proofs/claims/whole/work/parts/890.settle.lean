/-! OURS, printed by wip/tools/gen890.py: settling, kind by kind. -/
section C8
variable {L : Nat} {xs : Nat → Int32} {M : mm} {es : ab_H}
theorem c44_0 (d : Nat) {p : Nat} (h : isP p) {T : Nat} (hT : M.1 p 2 = (T : Int)) (hT3 : T ≤ 3) (f0 : M.1 p 7 = 0) (d0 : M.1 p 8 = -1) (hk : M.1 p 0 = 0) (Sl Sr Vl Vr : Nat → Bool) : ab_Z (pg_G L xs) (d + 3) 44 [.ref p] M es (fun v M' => v = none ∧ Fp p M M' ∧ stO 0 T Sl Sr Vl Vr (M'.1 p 7) (M'.1 p 8) (M'.2.1 (p + 2)) (M'.2.1 (p + 4))) := by
  show ab_W (pg_G L xs) (ab_X (pg_G L xs) (d + 2)) 44 _ 0 [some (.ref p)] [] (hp M ++ es)
  refine x_ld 0 1 2 1 rfl rfl rfl rfl rfl ?_
  refine g_P_5 h 24 4 rfl rfl rfl ?_
  refine x_cv 77 33 7 [.ref (p + 1)] rfl rfl rfl (Nat.le_of_ble_eq_true rfl) rfl rfl (Nat.le_of_ble_eq_true rfl) ⟨_, _, _, rfl, oT (iT_P1 h)⟩ (Nat.le_of_ble_eq_true rfl) (c33 d (iT_P1 h)) rfl ?_
  refine x_ld 0 1 2 8 rfl rfl rfl rfl rfl ?_
  refine g_P_6 h 28 11 rfl rfl rfl ?_
  refine x_cv 77 33 14 [.ref (p + 3)] rfl rfl rfl (Nat.le_of_ble_eq_true rfl) rfl rfl (Nat.le_of_ble_eq_true rfl) ⟨_, _, _, rfl, oT (iT_P3 h)⟩ (Nat.le_of_ble_eq_true rfl) (c33 (M := (rB M (p + 2) (clN (M.2.1 (p + 2)) 18))) d (iT_P3 h)) rfl ?_
  refine x_ld 0 1 2 15 rfl rfl rfl rfl rfl ?_
  refine x_ld 0 1 2 16 rfl rfl rfl rfl rfl ?_
  refine g_P_0 h 9 19 rfl rfl hk rfl ?_
  refine x_cst (zi 2) 1 20 rfl rfl rfl ?_
  refine z_icne 30 23 rfl rfl rfl (rg_lit 0 rfl) (rg_lit 2 rfl) (fun _ => ?_) (fun c => absurd c (by decide))
  refine x_ld 0 1 2 31 rfl rfl rfl rfl rfl ?_
  refine g_P_5 h 24 34 rfl rfl rfl ?_
  refine x_cv 80 45 37 [.ref p, .ref (p + 1)] rfl rfl rfl (Nat.le_of_ble_eq_true rfl) rfl rfl (Nat.le_of_ble_eq_true rfl) ⟨_, _, _, rfl, oP h⟩ (Nat.le_of_ble_eq_true rfl) (c45 (M := (rB (rB M (p + 2) (clN (M.2.1 (p + 2)) 18)) (p + 4) (clN ((rB M (p + 2) (clN (M.2.1 (p + 2)) 18)).2.1 (p + 4)) 18))) d h (iT_P1 h) hT hT3) rfl ?_
  refine x_ld 0 1 2 38 rfl rfl rfl rfl rfl ?_
  refine g_P_0 h 9 41 rfl rfl hk rfl ?_
  refine z_ifne 55 44 rfl rfl rfl (rg_lit 0 rfl) (fun c => absurd c (by decide)) (fun _ => ?_)
  refine x_ld 0 1 2 45 rfl rfl rfl rfl rfl ?_
  refine x_ld 0 1 2 46 rfl rfl rfl rfl rfl ?_
  refine g_P_6 h 28 49 rfl rfl rfl ?_
  refine x_cv 80 45 52 [.ref p, .ref (p + 3)] rfl rfl rfl (Nat.le_of_ble_eq_true rfl) rfl rfl (Nat.le_of_ble_eq_true rfl) ⟨_, _, _, rfl, oP h⟩ (Nat.le_of_ble_eq_true rfl) (c45 (M := (rB (rB (rB M (p + 2) (clN (M.2.1 (p + 2)) 18)) (p + 4) (clN ((rB M (p + 2) (clN (M.2.1 (p + 2)) 18)).2.1 (p + 4)) 18)) (p + 2) (fun j => (rB (rB M (p + 2) (clN (M.2.1 (p + 2)) 18)) (p + 4) (clN ((rB M (p + 2) (clN (M.2.1 (p + 2)) 18)).2.1 (p + 4)) 18)).2.1 (p + 2) j || ltrI T j))) d h (iT_P3 h) hT hT3) rfl ?_
  refine x_go 82 rfl rfl ?_
  refine x_rtv rfl rfl ?_
  refine ⟨_, _, rfl, rfl, rfl, ?_, .inr (.inr ⟨fun _ e => e, fun _ e => e, f0, d0, fun t ht => ?_⟩)⟩
  · exact Fp_trans (Fp_trans (Fp_trans (Fp_B2 ..) (Fp_B4 ..)) (Fp_B2 ..)) (Fp_B4 ..)
  · have h24 : ¬ p + 2 = p + 4 := by omega
    have h42 : ¬ p + 4 = p + 2 := by omega
    have hlt : (0 : Int) ≤ (t : Int) ∧ (t : Int) < 64 * ((18 : Nat) : Int) := by omega
    simp only [rB, adB, clN, h24, h42, ↓reduceIte, if_pos hlt, Bool.false_or]
    rw [ltrI_n]
    show (_ ↔ _) ∧ (_ ↔ _)
    constructor
    · show _ ↔ ltr T t = true
      exact Iff.rfl
    · show _ ↔ ltr T t = true
      exact Iff.rfl
theorem c44_1 (d : Nat) {p : Nat} (h : isP p) {T : Nat} (hT : M.1 p 2 = (T : Int)) (hT3 : T ≤ 3) (f0 : M.1 p 7 = 0) (d0 : M.1 p 8 = -1) (hk : M.1 p 0 = 1) (Sl Sr Vl Vr : Nat → Bool) : ab_Z (pg_G L xs) (d + 3) 44 [.ref p] M es (fun v M' => v = none ∧ Fp p M M' ∧ stO 1 T Sl Sr Vl Vr (M'.1 p 7) (M'.1 p 8) (M'.2.1 (p + 2)) (M'.2.1 (p + 4))) := by
  show ab_W (pg_G L xs) (ab_X (pg_G L xs) (d + 2)) 44 _ 0 [some (.ref p)] [] (hp M ++ es)
  refine x_ld 0 1 2 1 rfl rfl rfl rfl rfl ?_
  refine g_P_5 h 24 4 rfl rfl rfl ?_
  refine x_cv 77 33 7 [.ref (p + 1)] rfl rfl rfl (Nat.le_of_ble_eq_true rfl) rfl rfl (Nat.le_of_ble_eq_true rfl) ⟨_, _, _, rfl, oT (iT_P1 h)⟩ (Nat.le_of_ble_eq_true rfl) (c33 d (iT_P1 h)) rfl ?_
  refine x_ld 0 1 2 8 rfl rfl rfl rfl rfl ?_
  refine g_P_6 h 28 11 rfl rfl rfl ?_
  refine x_cv 77 33 14 [.ref (p + 3)] rfl rfl rfl (Nat.le_of_ble_eq_true rfl) rfl rfl (Nat.le_of_ble_eq_true rfl) ⟨_, _, _, rfl, oT (iT_P3 h)⟩ (Nat.le_of_ble_eq_true rfl) (c33 (M := (rB M (p + 2) (clN (M.2.1 (p + 2)) 18))) d (iT_P3 h)) rfl ?_
  refine x_ld 0 1 2 15 rfl rfl rfl rfl rfl ?_
  refine x_ld 0 1 2 16 rfl rfl rfl rfl rfl ?_
  refine g_P_0 h 9 19 rfl rfl hk rfl ?_
  refine x_cst (zi 2) 1 20 rfl rfl rfl ?_
  refine z_icne 30 23 rfl rfl rfl (rg_lit 1 rfl) (rg_lit 2 rfl) (fun _ => ?_) (fun c => absurd c (by decide))
  refine x_ld 0 1 2 31 rfl rfl rfl rfl rfl ?_
  refine g_P_5 h 24 34 rfl rfl rfl ?_
  refine x_cv 80 45 37 [.ref p, .ref (p + 1)] rfl rfl rfl (Nat.le_of_ble_eq_true rfl) rfl rfl (Nat.le_of_ble_eq_true rfl) ⟨_, _, _, rfl, oP h⟩ (Nat.le_of_ble_eq_true rfl) (c45 (M := (rB (rB M (p + 2) (clN (M.2.1 (p + 2)) 18)) (p + 4) (clN ((rB M (p + 2) (clN (M.2.1 (p + 2)) 18)).2.1 (p + 4)) 18))) d h (iT_P1 h) hT hT3) rfl ?_
  refine x_ld 0 1 2 38 rfl rfl rfl rfl rfl ?_
  refine g_P_0 h 9 41 rfl rfl hk rfl ?_
  refine z_ifne 55 44 rfl rfl rfl (rg_lit 1 rfl) (fun _ => ?_) (fun c => absurd c (by decide))
  refine x_ld 0 1 2 56 rfl rfl rfl rfl rfl ?_
  refine g_P_0 h 9 59 rfl rfl hk rfl ?_
  refine x_cst (zi 1) 1 60 rfl rfl rfl ?_
  refine z_icne 74 63 rfl rfl rfl (rg_lit 1 rfl) (rg_lit 1 rfl) (fun c => absurd c (by decide)) (fun _ => ?_)
  refine x_ld 0 1 2 64 rfl rfl rfl rfl rfl ?_
  refine g_P_6 h 28 67 rfl rfl rfl ?_
  refine x_cst (zi 0) 1 68 rfl rfl rfl ?_
  refine x_cv 83 39 71 [.ref (p + 3), zi 0] rfl rfl rfl (Nat.le_of_ble_eq_true rfl) rfl rfl (Nat.le_of_ble_eq_true rfl) ⟨_, _, _, rfl, oT (iT_P3 h)⟩ (Nat.le_of_ble_eq_true rfl) (c39 (M := (rB (rB (rB M (p + 2) (clN (M.2.1 (p + 2)) 18)) (p + 4) (clN ((rB M (p + 2) (clN (M.2.1 (p + 2)) 18)).2.1 (p + 4)) 18)) (p + 2) (fun j => (rB (rB M (p + 2) (clN (M.2.1 (p + 2)) 18)) (p + 4) (clN ((rB M (p + 2) (clN (M.2.1 (p + 2)) 18)).2.1 (p + 4)) 18)).2.1 (p + 2) j || ltrI T j))) (d + 1) (iT_P3 h) (t := 0) (by decide) (by decide)) rfl ?_
  refine x_go 82 rfl rfl ?_
  refine x_rtv rfl rfl ?_
  refine ⟨_, _, rfl, rfl, rfl, ?_, .inr (.inr ⟨fun _ e => e, fun _ e => e, f0, d0, fun t ht => ?_⟩)⟩
  · exact Fp_trans (Fp_trans (Fp_trans (Fp_B2 ..) (Fp_B4 ..)) (Fp_B2 ..)) (Fp_B4 ..)
  · have h24 : ¬ p + 2 = p + 4 := by omega
    have h42 : ¬ p + 4 = p + 2 := by omega
    have hlt : (0 : Int) ≤ (t : Int) ∧ (t : Int) < 64 * ((18 : Nat) : Int) := by omega
    simp only [rB, adB, clN, h24, h42, ↓reduceIte, if_pos hlt, Bool.false_or]
    rw [ltrI_n]
    show (_ ↔ _) ∧ (_ ↔ _)
    constructor
    · show _ ↔ ltr T t = true
      exact Iff.rfl
    · show _ ↔ t = 0
      rw [decide_eq_true_eq]; omega
theorem c44_2 (d : Nat) {p : Nat} (h : isP p) {T : Nat} (hT : M.1 p 2 = (T : Int)) (hT3 : T ≤ 3) (f0 : M.1 p 7 = 0) (d0 : M.1 p 8 = -1) (hk : M.1 p 0 = 2) (Sl Sr Vl Vr : Nat → Bool) : ab_Z (pg_G L xs) (d + 3) 44 [.ref p] M es (fun v M' => v = none ∧ Fp p M M' ∧ stO 2 T Sl Sr Vl Vr (M'.1 p 7) (M'.1 p 8) (M'.2.1 (p + 2)) (M'.2.1 (p + 4))) := by
  show ab_W (pg_G L xs) (ab_X (pg_G L xs) (d + 2)) 44 _ 0 [some (.ref p)] [] (hp M ++ es)
  refine x_ld 0 1 2 1 rfl rfl rfl rfl rfl ?_
  refine g_P_5 h 24 4 rfl rfl rfl ?_
  refine x_cv 77 33 7 [.ref (p + 1)] rfl rfl rfl (Nat.le_of_ble_eq_true rfl) rfl rfl (Nat.le_of_ble_eq_true rfl) ⟨_, _, _, rfl, oT (iT_P1 h)⟩ (Nat.le_of_ble_eq_true rfl) (c33 d (iT_P1 h)) rfl ?_
  refine x_ld 0 1 2 8 rfl rfl rfl rfl rfl ?_
  refine g_P_6 h 28 11 rfl rfl rfl ?_
  refine x_cv 77 33 14 [.ref (p + 3)] rfl rfl rfl (Nat.le_of_ble_eq_true rfl) rfl rfl (Nat.le_of_ble_eq_true rfl) ⟨_, _, _, rfl, oT (iT_P3 h)⟩ (Nat.le_of_ble_eq_true rfl) (c33 (M := (rB M (p + 2) (clN (M.2.1 (p + 2)) 18))) d (iT_P3 h)) rfl ?_
  refine x_ld 0 1 2 15 rfl rfl rfl rfl rfl ?_
  refine x_ld 0 1 2 16 rfl rfl rfl rfl rfl ?_
  refine g_P_0 h 9 19 rfl rfl hk rfl ?_
  refine x_cst (zi 2) 1 20 rfl rfl rfl ?_
  refine z_icne 30 23 rfl rfl rfl (rg_lit 2 rfl) (rg_lit 2 rfl) (fun c => absurd c (by decide)) (fun _ => ?_)
  refine x_ld 0 1 2 24 rfl rfl rfl rfl rfl ?_
  refine g_P_6 h 28 27 rfl rfl rfl ?_
  refine x_go 34 rfl rfl ?_
  refine x_cv 80 45 37 [.ref p, .ref (p + 3)] rfl rfl rfl (Nat.le_of_ble_eq_true rfl) rfl rfl (Nat.le_of_ble_eq_true rfl) ⟨_, _, _, rfl, oP h⟩ (Nat.le_of_ble_eq_true rfl) (c45 (M := (rB (rB M (p + 2) (clN (M.2.1 (p + 2)) 18)) (p + 4) (clN ((rB M (p + 2) (clN (M.2.1 (p + 2)) 18)).2.1 (p + 4)) 18))) d h (iT_P3 h) hT hT3) rfl ?_
  refine x_ld 0 1 2 38 rfl rfl rfl rfl rfl ?_
  refine g_P_0 h 9 41 rfl rfl hk rfl ?_
  refine z_ifne 55 44 rfl rfl rfl (rg_lit 2 rfl) (fun _ => ?_) (fun c => absurd c (by decide))
  refine x_ld 0 1 2 56 rfl rfl rfl rfl rfl ?_
  refine g_P_0 h 9 59 rfl rfl hk rfl ?_
  refine x_cst (zi 1) 1 60 rfl rfl rfl ?_
  refine z_icne 74 63 rfl rfl rfl (rg_lit 2 rfl) (rg_lit 1 rfl) (fun _ => ?_) (fun c => absurd c (by decide))
  refine x_ld 0 1 2 75 rfl rfl rfl rfl rfl ?_
  refine g_P_5 h 24 78 rfl rfl rfl ?_
  refine x_cst (zi 0) 1 79 rfl rfl rfl ?_
  refine x_cv 83 39 82 [.ref (p + 1), zi 0] rfl rfl rfl (Nat.le_of_ble_eq_true rfl) rfl rfl (Nat.le_of_ble_eq_true rfl) ⟨_, _, _, rfl, oT (iT_P1 h)⟩ (Nat.le_of_ble_eq_true rfl) (c39 (M := (rB (rB (rB M (p + 2) (clN (M.2.1 (p + 2)) 18)) (p + 4) (clN ((rB M (p + 2) (clN (M.2.1 (p + 2)) 18)).2.1 (p + 4)) 18)) (p + 4) (fun j => (rB (rB M (p + 2) (clN (M.2.1 (p + 2)) 18)) (p + 4) (clN ((rB M (p + 2) (clN (M.2.1 (p + 2)) 18)).2.1 (p + 4)) 18)).2.1 (p + 4) j || ltrI T j))) (d + 1) (iT_P1 h) (t := 0) (by decide) (by decide)) rfl ?_
  refine x_rtv rfl rfl ?_
  refine ⟨_, _, rfl, rfl, rfl, ?_, .inr (.inr ⟨fun _ e => e, fun _ e => e, f0, d0, fun t ht => ?_⟩)⟩
  · exact Fp_trans (Fp_trans (Fp_trans (Fp_B2 ..) (Fp_B4 ..)) (Fp_B4 ..)) (Fp_B2 ..)
  · have h24 : ¬ p + 2 = p + 4 := by omega
    have h42 : ¬ p + 4 = p + 2 := by omega
    have hlt : (0 : Int) ≤ (t : Int) ∧ (t : Int) < 64 * ((18 : Nat) : Int) := by omega
    simp only [rB, adB, clN, h24, h42, ↓reduceIte, if_pos hlt, Bool.false_or]
    rw [ltrI_n]
    show (_ ↔ _) ∧ (_ ↔ _)
    constructor
    · show _ ↔ t = 0
      rw [decide_eq_true_eq]; omega
    · show _ ↔ ltr T t = true
      exact Iff.rfl
theorem lst_rg2 {D : Nat → Prop} {x : Int} (h : lst (fun t => t < 1152 ∧ D t) x) : -1 ≤ x ∧ x < 1152 := by
  rcases h with ⟨h1, _⟩ | ⟨t, h1, h2, _⟩
  · omega
  · have := h2.1
    omega
set_option maxRecDepth 16000 in
theorem c24 (d : Nat) {p q r : Nat} (h : isP p) (hq : isP q) (hr : isP r) (eq : M.2.2 p 3 = q) (er : M.2.2 p 4 = r) (nq : q ≠ p) (nr : r ≠ p) (f0 : M.1 p 7 = 0) (d0 : M.1 p 8 = -1) (T : Nat) : ab_Z (pg_G L xs) (d + 4) 24 [.ref p] M es (fun v M' => v = none ∧ Fp p M M' ∧ stO 4 T (sN (M.2.1 (q + 2))) (sN (M.2.1 (r + 2))) (sN (M.2.1 (q + 4))) (sN (M.2.1 (r + 4))) (M'.1 p 7) (M'.1 p 8) (M'.2.1 (p + 2)) (M'.2.1 (p + 4))) := by
  have gp := isP_ge h
  have sq := isP_sep hq h nq
  have sr := isP_sep hr h nr
  show ab_W (pg_G L xs) (ab_X (pg_G L xs) (d + 3)) 24 _ 0 [some (.ref p)] [] (hp M ++ es)
  refine x_ld 0 1 2 1 rfl rfl rfl rfl rfl ?_
  refine x_cst (zi 6) 2 3 rfl rfl rfl ?_
  refine x_ld 0 1 2 4 rfl rfl rfl rfl rfl ?_
  refine g_P_3 h 53 7 rfl rfl eq rfl ?_
  refine g_P_5 hq 24 10 rfl rfl rfl ?_
  refine x_ld 0 1 2 11 rfl rfl rfl rfl rfl ?_
  refine g_P_4 h 57 14 rfl rfl er rfl ?_
  refine g_P_5 hr 24 17 rfl rfl rfl ?_
  refine x_ce 87 25 20 [.ref (q + 1), .ref (r + 1)] rfl rfl rfl (Nat.le_of_ble_eq_true rfl) rfl rfl (Nat.le_of_ble_eq_true rfl) ⟨_, _, _, rfl, oT (iT_P1 hq)⟩ (Nat.le_of_ble_eq_true rfl) (c25 d (iT_P1 hq) (iT_P1 hr)) rfl ?_
  rintro v M' ⟨e, x, ev, hx⟩
  subst ev
  rw [e]
  have hrg := lst_rg2 hx
  by_cases hx1 : x = -1
  · subst hx1
    refine x_cv 91 28 23 [.ref p, zi 6, zi (-1)] rfl rfl rfl (Nat.le_of_ble_eq_true rfl) rfl rfl (Nat.le_of_ble_eq_true rfl) ⟨_, _, _, rfl, oP h⟩ (Nat.le_of_ble_eq_true rfl) (c28n (M := M) (d + 2) h) rfl ?_
    refine x_ld 0 1 2 24 rfl rfl rfl rfl rfl ?_
    refine g_P_5 h 24 27 rfl rfl rfl ?_
    refine x_ld 0 1 2 28 rfl rfl rfl rfl rfl ?_
    refine g_P_3 h 53 31 rfl rfl eq rfl ?_
    refine g_P_5 hq 24 34 rfl rfl rfl ?_
    refine x_cv 60 23 37 [.ref (p + 1), .ref (q + 1)] rfl rfl rfl (Nat.le_of_ble_eq_true rfl) rfl rfl (Nat.le_of_ble_eq_true rfl) ⟨_, _, _, rfl, oT (iT_P1 h)⟩ (Nat.le_of_ble_eq_true rfl) (c23 (M := M) (d + 2) (iT_P1 h) (iT_P1 hq)) rfl ?_
    refine x_ld 0 1 2 38 rfl rfl rfl rfl rfl ?_
    refine g_P_5 h 24 41 rfl rfl rfl ?_
    refine x_ld 0 1 2 42 rfl rfl rfl rfl rfl ?_
    refine g_P_4 h 57 45 rfl rfl er rfl ?_
    refine g_P_5 hr 24 48 rfl rfl rfl ?_
    refine x_cv 95 29 51 [.ref (p + 1), .ref (r + 1)] rfl rfl rfl (Nat.le_of_ble_eq_true rfl) rfl rfl (Nat.le_of_ble_eq_true rfl) ⟨_, _, _, rfl, oT (iT_P1 h)⟩ (Nat.le_of_ble_eq_true rfl) (c29 (M := (rB M (p + 2) (cpB (M.2.1 (q + 2)) (M.2.1 (p + 2))))) (d + 2) (iT_P1 h) (iT_P1 hr) (by omega)) rfl ?_
    refine x_ld 0 1 2 52 rfl rfl rfl rfl rfl ?_
    refine g_P_6 h 28 55 rfl rfl rfl ?_
    refine x_ld 0 1 2 56 rfl rfl rfl rfl rfl ?_
    refine g_P_3 h 53 59 rfl rfl eq rfl ?_
    refine g_P_6 hq 28 62 rfl rfl rfl ?_
    refine x_cv 60 23 65 [.ref (p + 3), .ref (q + 3)] rfl rfl rfl (Nat.le_of_ble_eq_true rfl) rfl rfl (Nat.le_of_ble_eq_true rfl) ⟨_, _, _, rfl, oT (iT_P3 h)⟩ (Nat.le_of_ble_eq_true rfl) (c23 (M := (rB (rB M (p + 2) (cpB (M.2.1 (q + 2)) (M.2.1 (p + 2)))) (p + 2) (orN ((rB M (p + 2) (cpB (M.2.1 (q + 2)) (M.2.1 (p + 2)))).2.1 (p + 2)) ((rB M (p + 2) (cpB (M.2.1 (q + 2)) (M.2.1 (p + 2)))).2.1 (r + 2)) 18))) (d + 2) (iT_P3 h) (iT_P3 hq)) rfl ?_
    refine x_ld 0 1 2 66 rfl rfl rfl rfl rfl ?_
    refine g_P_6 h 28 69 rfl rfl rfl ?_
    refine x_ld 0 1 2 70 rfl rfl rfl rfl rfl ?_
    refine g_P_4 h 57 73 rfl rfl er rfl ?_
    refine g_P_6 hr 28 76 rfl rfl rfl ?_
    refine x_cv 95 29 79 [.ref (p + 3), .ref (r + 3)] rfl rfl rfl (Nat.le_of_ble_eq_true rfl) rfl rfl (Nat.le_of_ble_eq_true rfl) ⟨_, _, _, rfl, oT (iT_P3 h)⟩ (Nat.le_of_ble_eq_true rfl) (c29 (M := (rB (rB (rB M (p + 2) (cpB (M.2.1 (q + 2)) (M.2.1 (p + 2)))) (p + 2) (orN ((rB M (p + 2) (cpB (M.2.1 (q + 2)) (M.2.1 (p + 2)))).2.1 (p + 2)) ((rB M (p + 2) (cpB (M.2.1 (q + 2)) (M.2.1 (p + 2)))).2.1 (r + 2)) 18)) (p + 4) (cpB ((rB (rB M (p + 2) (cpB (M.2.1 (q + 2)) (M.2.1 (p + 2)))) (p + 2) (orN ((rB M (p + 2) (cpB (M.2.1 (q + 2)) (M.2.1 (p + 2)))).2.1 (p + 2)) ((rB M (p + 2) (cpB (M.2.1 (q + 2)) (M.2.1 (p + 2)))).2.1 (r + 2)) 18)).2.1 (q + 4)) ((rB (rB M (p + 2) (cpB (M.2.1 (q + 2)) (M.2.1 (p + 2)))) (p + 2) (orN ((rB M (p + 2) (cpB (M.2.1 (q + 2)) (M.2.1 (p + 2)))).2.1 (p + 2)) ((rB M (p + 2) (cpB (M.2.1 (q + 2)) (M.2.1 (p + 2)))).2.1 (r + 2)) 18)).2.1 (p + 4))))) (d + 2) (iT_P3 h) (iT_P3 hr) (by omega)) rfl ?_
    refine x_rtv rfl rfl ?_
    refine ⟨_, _, rfl, rfl, rfl, ?_, .inr (.inr ⟨lst_neg hx rfl, fun _ e => e, f0, d0, fun t ht => ?_⟩)⟩
    · exact Fp_trans (Fp_trans (Fp_trans (Fp_B2 ..) (Fp_B2 ..)) (Fp_B4 ..)) (Fp_B4 ..)
    · have h24 : ¬ p + 2 = p + 4 := by omega
      have h42 : ¬ p + 4 = p + 2 := by omega
      have e1 : ¬ q + 2 = p + 2 := by omega
      have e2 : ¬ r + 2 = p + 2 := by omega
      have e3 : ¬ q + 4 = p + 4 := by omega
      have e4 : ¬ r + 4 = p + 4 := by omega
      have e5 : ¬ q + 4 = p + 2 := by omega
      have e6 : ¬ r + 4 = p + 2 := by omega
      have hlt : (0 : Int) ≤ (t : Int) ∧ (t : Int) < 64 * ((18 : Nat) : Int) := by omega
      have hlu : (0 : Int) ≤ (t : Int) ∧ (t : Int) < 1152 := by omega
      simp only [rB, orN, cpB, h24, h42, e1, e2, e3, e4, e5, e6, ↓reduceIte, if_pos hlt, if_pos hlu]
      exact ⟨Iff.rfl, Iff.rfl⟩
  · refine x_cv 91 28 23 [.ref p, zi 6, zi x] rfl rfl rfl (Nat.le_of_ble_eq_true rfl) rfl rfl (Nat.le_of_ble_eq_true rfl) ⟨_, _, _, rfl, oP h⟩ (Nat.le_of_ble_eq_true rfl) (c28y (M := M) (d + 2) h ⟨by omega, by omega⟩ hx1) rfl ?_
    refine x_ld 0 1 2 24 rfl rfl rfl rfl rfl ?_
    refine g_P_5 h 24 27 rfl rfl rfl ?_
    refine x_ld 0 1 2 28 rfl rfl rfl rfl rfl ?_
    refine g_P_3 h 53 31 rfl rfl eq rfl ?_
    refine g_P_5 hq 24 34 rfl rfl rfl ?_
    refine x_cv 60 23 37 [.ref (p + 1), .ref (q + 1)] rfl rfl rfl (Nat.le_of_ble_eq_true rfl) rfl rfl (Nat.le_of_ble_eq_true rfl) ⟨_, _, _, rfl, oT (iT_P1 h)⟩ (Nat.le_of_ble_eq_true rfl) (c23 (M := (sI (sI M p 7 6) p 8 x)) (d + 2) (iT_P1 h) (iT_P1 hq)) rfl ?_
    refine x_ld 0 1 2 38 rfl rfl rfl rfl rfl ?_
    refine g_P_5 h 24 41 rfl rfl rfl ?_
    refine x_ld 0 1 2 42 rfl rfl rfl rfl rfl ?_
    refine g_P_4 h 57 45 rfl rfl er rfl ?_
    refine g_P_5 hr 24 48 rfl rfl rfl ?_
    refine x_cv 95 29 51 [.ref (p + 1), .ref (r + 1)] rfl rfl rfl (Nat.le_of_ble_eq_true rfl) rfl rfl (Nat.le_of_ble_eq_true rfl) ⟨_, _, _, rfl, oT (iT_P1 h)⟩ (Nat.le_of_ble_eq_true rfl) (c29 (M := (rB (sI (sI M p 7 6) p 8 x) (p + 2) (cpB ((sI (sI M p 7 6) p 8 x).2.1 (q + 2)) ((sI (sI M p 7 6) p 8 x).2.1 (p + 2))))) (d + 2) (iT_P1 h) (iT_P1 hr) (by omega)) rfl ?_
    refine x_ld 0 1 2 52 rfl rfl rfl rfl rfl ?_
    refine g_P_6 h 28 55 rfl rfl rfl ?_
    refine x_ld 0 1 2 56 rfl rfl rfl rfl rfl ?_
    refine g_P_3 h 53 59 rfl rfl eq rfl ?_
    refine g_P_6 hq 28 62 rfl rfl rfl ?_
    refine x_cv 60 23 65 [.ref (p + 3), .ref (q + 3)] rfl rfl rfl (Nat.le_of_ble_eq_true rfl) rfl rfl (Nat.le_of_ble_eq_true rfl) ⟨_, _, _, rfl, oT (iT_P3 h)⟩ (Nat.le_of_ble_eq_true rfl) (c23 (M := (rB (rB (sI (sI M p 7 6) p 8 x) (p + 2) (cpB ((sI (sI M p 7 6) p 8 x).2.1 (q + 2)) ((sI (sI M p 7 6) p 8 x).2.1 (p + 2)))) (p + 2) (orN ((rB (sI (sI M p 7 6) p 8 x) (p + 2) (cpB ((sI (sI M p 7 6) p 8 x).2.1 (q + 2)) ((sI (sI M p 7 6) p 8 x).2.1 (p + 2)))).2.1 (p + 2)) ((rB (sI (sI M p 7 6) p 8 x) (p + 2) (cpB ((sI (sI M p 7 6) p 8 x).2.1 (q + 2)) ((sI (sI M p 7 6) p 8 x).2.1 (p + 2)))).2.1 (r + 2)) 18))) (d + 2) (iT_P3 h) (iT_P3 hq)) rfl ?_
    refine x_ld 0 1 2 66 rfl rfl rfl rfl rfl ?_
    refine g_P_6 h 28 69 rfl rfl rfl ?_
    refine x_ld 0 1 2 70 rfl rfl rfl rfl rfl ?_
    refine g_P_4 h 57 73 rfl rfl er rfl ?_
    refine g_P_6 hr 28 76 rfl rfl rfl ?_
    refine x_cv 95 29 79 [.ref (p + 3), .ref (r + 3)] rfl rfl rfl (Nat.le_of_ble_eq_true rfl) rfl rfl (Nat.le_of_ble_eq_true rfl) ⟨_, _, _, rfl, oT (iT_P3 h)⟩ (Nat.le_of_ble_eq_true rfl) (c29 (M := (rB (rB (rB (sI (sI M p 7 6) p 8 x) (p + 2) (cpB ((sI (sI M p 7 6) p 8 x).2.1 (q + 2)) ((sI (sI M p 7 6) p 8 x).2.1 (p + 2)))) (p + 2) (orN ((rB (sI (sI M p 7 6) p 8 x) (p + 2) (cpB ((sI (sI M p 7 6) p 8 x).2.1 (q + 2)) ((sI (sI M p 7 6) p 8 x).2.1 (p + 2)))).2.1 (p + 2)) ((rB (sI (sI M p 7 6) p 8 x) (p + 2) (cpB ((sI (sI M p 7 6) p 8 x).2.1 (q + 2)) ((sI (sI M p 7 6) p 8 x).2.1 (p + 2)))).2.1 (r + 2)) 18)) (p + 4) (cpB ((rB (rB (sI (sI M p 7 6) p 8 x) (p + 2) (cpB ((sI (sI M p 7 6) p 8 x).2.1 (q + 2)) ((sI (sI M p 7 6) p 8 x).2.1 (p + 2)))) (p + 2) (orN ((rB (sI (sI M p 7 6) p 8 x) (p + 2) (cpB ((sI (sI M p 7 6) p 8 x).2.1 (q + 2)) ((sI (sI M p 7 6) p 8 x).2.1 (p + 2)))).2.1 (p + 2)) ((rB (sI (sI M p 7 6) p 8 x) (p + 2) (cpB ((sI (sI M p 7 6) p 8 x).2.1 (q + 2)) ((sI (sI M p 7 6) p 8 x).2.1 (p + 2)))).2.1 (r + 2)) 18)).2.1 (q + 4)) ((rB (rB (sI (sI M p 7 6) p 8 x) (p + 2) (cpB ((sI (sI M p 7 6) p 8 x).2.1 (q + 2)) ((sI (sI M p 7 6) p 8 x).2.1 (p + 2)))) (p + 2) (orN ((rB (sI (sI M p 7 6) p 8 x) (p + 2) (cpB ((sI (sI M p 7 6) p 8 x).2.1 (q + 2)) ((sI (sI M p 7 6) p 8 x).2.1 (p + 2)))).2.1 (p + 2)) ((rB (sI (sI M p 7 6) p 8 x) (p + 2) (cpB ((sI (sI M p 7 6) p 8 x).2.1 (q + 2)) ((sI (sI M p 7 6) p 8 x).2.1 (p + 2)))).2.1 (r + 2)) 18)).2.1 (p + 4))))) (d + 2) (iT_P3 h) (iT_P3 hr) (by omega)) rfl ?_
    refine x_rtv rfl rfl ?_
    obtain ⟨t, et, hl⟩ := lst_pos hx hx1
    refine ⟨_, _, rfl, rfl, rfl, ?_, .inl ⟨t, hl, ?_, ?_⟩⟩
    · exact Fp_trans (Fp_trans (Fp_I7 ..) (Fp_I8 ..)) (Fp_trans (Fp_trans (Fp_trans (Fp_B2 ..) (Fp_B2 ..)) (Fp_B4 ..)) (Fp_B4 ..))
    · show (sI (sI M p 7 6) p 8 x).1 p 7 = 6
      rw [rd_nk (by decide), rd_eq]
    · show (sI (sI M p 7 6) p 8 x).1 p 8 = t
      rw [rd_eq]; exact et
theorem c30_5 (d : Nat) {p q r : Nat} (h : isP p) (hq : isP q) (hr : isP r) (eq : M.2.2 p 3 = q) (er : M.2.2 p 4 = r) (nq : q ≠ p) (nr : r ≠ p) (f0 : M.1 p 7 = 0) (d0 : M.1 p 8 = -1) (T : Nat) (hk : M.1 p 0 = 5) (zs : ∀ a, (a = q + 2 ∨ a = q + 4 ∨ a = r + 2 ∨ a = r + 4) → ∀ t : Nat, 1093 ≤ t → t < 1152 → M.2.1 a (t : Int) = false) : ab_Z (pg_G L xs) (d + 5) 30 [.ref p, .ref 2] M es (fun v M' => v = none ∧ Fp p M M' ∧ stO 5 T (sN (M.2.1 (q + 2))) (sN (M.2.1 (r + 2))) (sN (M.2.1 (q + 4))) (sN (M.2.1 (r + 4))) (M'.1 p 7) (M'.1 p 8) (M'.2.1 (p + 2)) (M'.2.1 (p + 4))) := by
  have gp := isP_ge h
  have sq := isP_sep hq h nq
  have sr := isP_sep hr h nr
  show ab_W (pg_G L xs) (ab_X (pg_G L xs) (d + 4)) 30 _ 0 [some (.ref p), some (.ref 2)] [] (hp M ++ es)
  refine x_ld 0 1 2 1 rfl rfl rfl rfl rfl ?_
  refine x_cst (zi 2) 1 2 rfl rfl rfl ?_
  refine x_ld 1 1 2 3 rfl rfl rfl rfl rfl ?_
  refine x_ld 0 1 2 4 rfl rfl rfl rfl rfl ?_
  refine g_P_3 h 53 7 rfl rfl eq rfl ?_
  refine g_P_5 hq 24 10 rfl rfl rfl ?_
  refine x_ld 0 1 2 11 rfl rfl rfl rfl rfl ?_
  refine g_P_4 h 57 14 rfl rfl er rfl ?_
  refine g_P_5 hr 24 17 rfl rfl rfl ?_
  refine x_ld 0 1 2 18 rfl rfl rfl rfl rfl ?_
  refine g_P_5 h 24 21 rfl rfl rfl ?_
  refine x_ce 98 31 24 [.ref 2, .ref (q + 1), .ref (r + 1), .ref (p + 1)] rfl rfl rfl (Nat.le_of_ble_eq_true rfl) rfl rfl (Nat.le_of_ble_eq_true rfl) ⟨_, _, _, rfl, o_2⟩ (Nat.le_of_ble_eq_true rfl) (c31 d (iT_P1 hq) (iT_P1 hr) (iT_P1 h) (zs _ (.inl rfl)) (zs _ (.inr (.inr (.inl rfl))))) rfl ?_
  rintro v1 M1 ⟨x, ev1, hx1, hs1, F1⟩
  subst ev1
  have hrg1 := lst_rg hx1 (fun t ht => ht.1)
  by_cases hz1 : x = -1
  · subst hz1
    refine x_cv 91 28 27 [.ref p, zi 2, zi (-1)] rfl rfl rfl (Nat.le_of_ble_eq_true rfl) rfl rfl (Nat.le_of_ble_eq_true rfl) ⟨_, _, _, rfl, oP h⟩ (Nat.le_of_ble_eq_true rfl) (c28n (M := M1) (d + 3) h) rfl ?_
    refine x_ld 0 1 2 28 rfl rfl rfl rfl rfl ?_
    refine g_P_7 h 31 31 rfl rfl ((congrFun (F1.1 p (by omega) (by omega) (by omega)) 7).trans f0) rfl ?_
    refine z_ifne 61 34 rfl rfl rfl (rg_lit 0 rfl) (fun c => absurd c (by decide)) (fun _ => ?_)
    refine x_ld 0 1 2 35 rfl rfl rfl rfl rfl ?_
    refine x_cst (zi 3) 1 36 rfl rfl rfl ?_
    refine x_ld 1 1 2 37 rfl rfl rfl rfl rfl ?_
    refine x_ld 0 1 2 38 rfl rfl rfl rfl rfl ?_
    refine x_cv 104 40 41 [.ref p] rfl rfl rfl (Nat.le_of_ble_eq_true rfl) rfl rfl (Nat.le_of_ble_eq_true rfl) ⟨_, _, _, rfl, oP h⟩ (Nat.le_of_ble_eq_true rfl) (c40j (M := M1) (d + 3) h ((congrFun (F1.1 p (by omega) (by omega) (by omega)) 0).trans hk)) rfl ?_
    rw [show M1.2.2 p 3 = q from (congrFun (congrFun F1.2.2 p) 3).trans eq]
    refine g_P_6 hq 28 44 rfl rfl rfl ?_
    refine x_ld 0 1 2 45 rfl rfl rfl rfl rfl ?_
    refine x_cv 108 41 48 [.ref p] rfl rfl rfl (Nat.le_of_ble_eq_true rfl) rfl rfl (Nat.le_of_ble_eq_true rfl) ⟨_, _, _, rfl, oP h⟩ (Nat.le_of_ble_eq_true rfl) (c41j (M := M1) (d + 3) h ((congrFun (F1.1 p (by omega) (by omega) (by omega)) 0).trans hk)) rfl ?_
    rw [show M1.2.2 p 4 = r from (congrFun (congrFun F1.2.2 p) 4).trans er]
    refine g_P_6 hr 28 51 rfl rfl rfl ?_
    refine x_ld 0 1 2 52 rfl rfl rfl rfl rfl ?_
    refine g_P_6 h 28 55 rfl rfl rfl ?_
    refine x_ce 98 31 58 [.ref 2, .ref (q + 3), .ref (r + 3), .ref (p + 3)] rfl rfl rfl (Nat.le_of_ble_eq_true rfl) rfl rfl (Nat.le_of_ble_eq_true rfl) ⟨_, _, _, rfl, o_2⟩ (Nat.le_of_ble_eq_true rfl) (c31 (M := M1) d (iT_P3 hq) (iT_P3 hr) (iT_P3 h) (by rw [F1.2.1 _ (by omega)]; exact zs _ (.inr (.inl rfl))) (by rw [F1.2.1 _ (by omega)]; exact zs _ (.inr (.inr (.inr rfl))))) rfl ?_
    rintro v2 M2 ⟨y, ev2, hx2, hs2, F2⟩
    subst ev2
    rw [F1.2.1 _ (by omega), F1.2.1 _ (by omega)] at hx2 hs2
    have hrg2 := lst_rg hx2 (fun t ht => ht.1)
    by_cases hz2 : y = -1
    · subst hz2
      refine x_cv 91 28 61 [.ref p, zi 3, zi (-1)] rfl rfl rfl (Nat.le_of_ble_eq_true rfl) rfl rfl (Nat.le_of_ble_eq_true rfl) ⟨_, _, _, rfl, oP h⟩ (Nat.le_of_ble_eq_true rfl) (c28n (M := M2) (d + 3) h) rfl ?_
      refine x_rtv rfl rfl ?_
      refine ⟨_, _, rfl, rfl, rfl, ?_, .inr (.inr ⟨lst_neg hx1 rfl, lst_neg hx2 rfl, ?_, ?_, fun t ht => ⟨?_, ?_⟩⟩)⟩
      · exact Fp_trans (Fp_J2 gp.1 F1) (Fp_J4 gp.1 F2)
      · rw [F2.1 p (by omega) (by omega) (by omega), F1.1 p (by omega) (by omega) (by omega)]; exact f0
      · rw [F2.1 p (by omega) (by omega) (by omega), F1.1 p (by omega) (by omega) (by omega)]; exact d0
      · rw [F2.2.1 _ (by omega)]; exact hs1 t ht
      · exact hs2 t ht
    · refine x_cv 91 28 61 [.ref p, zi 3, zi y] rfl rfl rfl (Nat.le_of_ble_eq_true rfl) rfl rfl (Nat.le_of_ble_eq_true rfl) ⟨_, _, _, rfl, oP h⟩ (Nat.le_of_ble_eq_true rfl) (c28y (M := M2) (d + 3) h ⟨by omega, by omega⟩ hz2) rfl ?_
      refine x_rtv rfl rfl ?_
      obtain ⟨t, et, hl⟩ := lst_pos hx2 hz2
      refine ⟨_, _, rfl, rfl, rfl, ?_, .inr (.inl ⟨lst_neg hx1 rfl, t, hl, ?_, ?_⟩)⟩
      · exact Fp_trans (Fp_trans (Fp_J2 gp.1 F1) (Fp_J4 gp.1 F2)) (Fp_trans (Fp_I7 ..) (Fp_I8 ..))
      · show (sI (sI M2 p 7 3) p 8 y).1 p 7 = 3
        rw [rd_nk (by decide), rd_eq]
      · show (sI (sI M2 p 7 3) p 8 y).1 p 8 = t
        rw [rd_eq]; exact et
  · refine x_cv 91 28 27 [.ref p, zi 2, zi x] rfl rfl rfl (Nat.le_of_ble_eq_true rfl) rfl rfl (Nat.le_of_ble_eq_true rfl) ⟨_, _, _, rfl, oP h⟩ (Nat.le_of_ble_eq_true rfl) (c28y (M := M1) (d + 3) h ⟨by omega, by omega⟩ hz1) rfl ?_
    refine x_ld 0 1 2 28 rfl rfl rfl rfl rfl ?_
    refine g_P_7 h 31 31 rfl rfl ((rd_nk (Ne.symm (by decide))).trans rd_eq) rfl ?_
    refine z_ifne 61 34 rfl rfl rfl (rg_lit 2 rfl) (fun _ => ?_) (fun c => absurd c (by decide))
    refine x_rtv rfl rfl ?_
    obtain ⟨t, et, hl⟩ := lst_pos hx1 hz1
    refine ⟨_, _, rfl, rfl, rfl, ?_, .inl ⟨t, hl, ?_, ?_⟩⟩
    · exact Fp_trans (Fp_J2 gp.1 F1) (Fp_trans (Fp_I7 ..) (Fp_I8 ..))
    · show (sI (sI M1 p 7 2) p 8 x).1 p 7 = 2
      rw [rd_nk (by decide), rd_eq]
    · show (sI (sI M1 p 7 2) p 8 x).1 p 8 = t
      rw [rd_eq]; exact et
theorem c30_6 (d : Nat) {p q r : Nat} (h : isP p) (hq : isP q) (hr : isP r) (eq : M.2.2 p 3 = q) (er : M.2.2 p 4 = r) (nq : q ≠ p) (nr : r ≠ p) (f0 : M.1 p 7 = 0) (d0 : M.1 p 8 = -1) (T : Nat) (hk : M.1 p 0 = 6) (zs : ∀ a, (a = q + 2 ∨ a = q + 4 ∨ a = r + 2 ∨ a = r + 4) → ∀ t : Nat, 1093 ≤ t → t < 1152 → M.2.1 a (t : Int) = false) : ab_Z (pg_G L xs) (d + 5) 30 [.ref p, .ref 2] M es (fun v M' => v = none ∧ Fp p M M' ∧ stO 6 T (sN (M.2.1 (q + 2))) (sN (M.2.1 (r + 2))) (sN (M.2.1 (q + 4))) (sN (M.2.1 (r + 4))) (M'.1 p 7) (M'.1 p 8) (M'.2.1 (p + 2)) (M'.2.1 (p + 4))) := by
  have gp := isP_ge h
  have sq := isP_sep hq h nq
  have sr := isP_sep hr h nr
  show ab_W (pg_G L xs) (ab_X (pg_G L xs) (d + 4)) 30 _ 0 [some (.ref p), some (.ref 2)] [] (hp M ++ es)
  refine x_ld 0 1 2 1 rfl rfl rfl rfl rfl ?_
  refine x_cst (zi 2) 1 2 rfl rfl rfl ?_
  refine x_ld 1 1 2 3 rfl rfl rfl rfl rfl ?_
  refine x_ld 0 1 2 4 rfl rfl rfl rfl rfl ?_
  refine g_P_3 h 53 7 rfl rfl eq rfl ?_
  refine g_P_5 hq 24 10 rfl rfl rfl ?_
  refine x_ld 0 1 2 11 rfl rfl rfl rfl rfl ?_
  refine g_P_4 h 57 14 rfl rfl er rfl ?_
  refine g_P_5 hr 24 17 rfl rfl rfl ?_
  refine x_ld 0 1 2 18 rfl rfl rfl rfl rfl ?_
  refine g_P_5 h 24 21 rfl rfl rfl ?_
  refine x_ce 98 31 24 [.ref 2, .ref (q + 1), .ref (r + 1), .ref (p + 1)] rfl rfl rfl (Nat.le_of_ble_eq_true rfl) rfl rfl (Nat.le_of_ble_eq_true rfl) ⟨_, _, _, rfl, o_2⟩ (Nat.le_of_ble_eq_true rfl) (c31 d (iT_P1 hq) (iT_P1 hr) (iT_P1 h) (zs _ (.inl rfl)) (zs _ (.inr (.inr (.inl rfl))))) rfl ?_
  rintro v1 M1 ⟨x, ev1, hx1, hs1, F1⟩
  subst ev1
  have hrg1 := lst_rg hx1 (fun t ht => ht.1)
  by_cases hz1 : x = -1
  · subst hz1
    refine x_cv 91 28 27 [.ref p, zi 2, zi (-1)] rfl rfl rfl (Nat.le_of_ble_eq_true rfl) rfl rfl (Nat.le_of_ble_eq_true rfl) ⟨_, _, _, rfl, oP h⟩ (Nat.le_of_ble_eq_true rfl) (c28n (M := M1) (d + 3) h) rfl ?_
    refine x_ld 0 1 2 28 rfl rfl rfl rfl rfl ?_
    refine g_P_7 h 31 31 rfl rfl ((congrFun (F1.1 p (by omega) (by omega) (by omega)) 7).trans f0) rfl ?_
    refine z_ifne 61 34 rfl rfl rfl (rg_lit 0 rfl) (fun c => absurd c (by decide)) (fun _ => ?_)
    refine x_ld 0 1 2 35 rfl rfl rfl rfl rfl ?_
    refine x_cst (zi 3) 1 36 rfl rfl rfl ?_
    refine x_ld 1 1 2 37 rfl rfl rfl rfl rfl ?_
    refine x_ld 0 1 2 38 rfl rfl rfl rfl rfl ?_
    refine x_cv 104 40 41 [.ref p] rfl rfl rfl (Nat.le_of_ble_eq_true rfl) rfl rfl (Nat.le_of_ble_eq_true rfl) ⟨_, _, _, rfl, oP h⟩ (Nat.le_of_ble_eq_true rfl) (c40x (M := M1) (d + 3) h ((congrFun (F1.1 p (by omega) (by omega) (by omega)) 0).trans hk)) rfl ?_
    rw [show M1.2.2 p 4 = r from (congrFun (congrFun F1.2.2 p) 4).trans er]
    refine g_P_6 hr 28 44 rfl rfl rfl ?_
    refine x_ld 0 1 2 45 rfl rfl rfl rfl rfl ?_
    refine x_cv 108 41 48 [.ref p] rfl rfl rfl (Nat.le_of_ble_eq_true rfl) rfl rfl (Nat.le_of_ble_eq_true rfl) ⟨_, _, _, rfl, oP h⟩ (Nat.le_of_ble_eq_true rfl) (c41x (M := M1) (d + 3) h ((congrFun (F1.1 p (by omega) (by omega) (by omega)) 0).trans hk)) rfl ?_
    rw [show M1.2.2 p 3 = q from (congrFun (congrFun F1.2.2 p) 3).trans eq]
    refine g_P_6 hq 28 51 rfl rfl rfl ?_
    refine x_ld 0 1 2 52 rfl rfl rfl rfl rfl ?_
    refine g_P_6 h 28 55 rfl rfl rfl ?_
    refine x_ce 98 31 58 [.ref 2, .ref (r + 3), .ref (q + 3), .ref (p + 3)] rfl rfl rfl (Nat.le_of_ble_eq_true rfl) rfl rfl (Nat.le_of_ble_eq_true rfl) ⟨_, _, _, rfl, o_2⟩ (Nat.le_of_ble_eq_true rfl) (c31 (M := M1) d (iT_P3 hr) (iT_P3 hq) (iT_P3 h) (by rw [F1.2.1 _ (by omega)]; exact zs _ (.inr (.inr (.inr rfl)))) (by rw [F1.2.1 _ (by omega)]; exact zs _ (.inr (.inl rfl)))) rfl ?_
    rintro v2 M2 ⟨y, ev2, hx2, hs2, F2⟩
    subst ev2
    rw [F1.2.1 _ (by omega), F1.2.1 _ (by omega)] at hx2 hs2
    have hrg2 := lst_rg hx2 (fun t ht => ht.1)
    by_cases hz2 : y = -1
    · subst hz2
      refine x_cv 91 28 61 [.ref p, zi 3, zi (-1)] rfl rfl rfl (Nat.le_of_ble_eq_true rfl) rfl rfl (Nat.le_of_ble_eq_true rfl) ⟨_, _, _, rfl, oP h⟩ (Nat.le_of_ble_eq_true rfl) (c28n (M := M2) (d + 3) h) rfl ?_
      refine x_rtv rfl rfl ?_
      refine ⟨_, _, rfl, rfl, rfl, ?_, .inr (.inr ⟨lst_neg hx1 rfl, lst_neg hx2 rfl, ?_, ?_, fun t ht => ⟨?_, ?_⟩⟩)⟩
      · exact Fp_trans (Fp_J2 gp.1 F1) (Fp_J4 gp.1 F2)
      · rw [F2.1 p (by omega) (by omega) (by omega), F1.1 p (by omega) (by omega) (by omega)]; exact f0
      · rw [F2.1 p (by omega) (by omega) (by omega), F1.1 p (by omega) (by omega) (by omega)]; exact d0
      · rw [F2.2.1 _ (by omega)]; exact hs1 t ht
      · exact hs2 t ht
    · refine x_cv 91 28 61 [.ref p, zi 3, zi y] rfl rfl rfl (Nat.le_of_ble_eq_true rfl) rfl rfl (Nat.le_of_ble_eq_true rfl) ⟨_, _, _, rfl, oP h⟩ (Nat.le_of_ble_eq_true rfl) (c28y (M := M2) (d + 3) h ⟨by omega, by omega⟩ hz2) rfl ?_
      refine x_rtv rfl rfl ?_
      obtain ⟨t, et, hl⟩ := lst_pos hx2 hz2
      refine ⟨_, _, rfl, rfl, rfl, ?_, .inr (.inl ⟨lst_neg hx1 rfl, t, hl, ?_, ?_⟩)⟩
      · exact Fp_trans (Fp_trans (Fp_J2 gp.1 F1) (Fp_J4 gp.1 F2)) (Fp_trans (Fp_I7 ..) (Fp_I8 ..))
      · show (sI (sI M2 p 7 3) p 8 y).1 p 7 = 3
        rw [rd_nk (by decide), rd_eq]
      · show (sI (sI M2 p 7 3) p 8 y).1 p 8 = t
        rw [rd_eq]; exact et
  · refine x_cv 91 28 27 [.ref p, zi 2, zi x] rfl rfl rfl (Nat.le_of_ble_eq_true rfl) rfl rfl (Nat.le_of_ble_eq_true rfl) ⟨_, _, _, rfl, oP h⟩ (Nat.le_of_ble_eq_true rfl) (c28y (M := M1) (d + 3) h ⟨by omega, by omega⟩ hz1) rfl ?_
    refine x_ld 0 1 2 28 rfl rfl rfl rfl rfl ?_
    refine g_P_7 h 31 31 rfl rfl ((rd_nk (Ne.symm (by decide))).trans rd_eq) rfl ?_
    refine z_ifne 61 34 rfl rfl rfl (rg_lit 2 rfl) (fun _ => ?_) (fun c => absurd c (by decide))
    refine x_rtv rfl rfl ?_
    obtain ⟨t, et, hl⟩ := lst_pos hx1 hz1
    refine ⟨_, _, rfl, rfl, rfl, ?_, .inl ⟨t, hl, ?_, ?_⟩⟩
    · exact Fp_trans (Fp_J2 gp.1 F1) (Fp_trans (Fp_I7 ..) (Fp_I8 ..))
    · show (sI (sI M1 p 7 2) p 8 x).1 p 7 = 2
      rw [rd_nk (by decide), rd_eq]
    · show (sI (sI M1 p 7 2) p 8 x).1 p 8 = t
      rw [rd_eq]; exact et
theorem c42_7 (d : Nat) {p q r : Nat} (h : isP p) (hq : isP q) (hr : isP r) (eq : M.2.2 p 3 = q) (er : M.2.2 p 4 = r) (nq : q ≠ p) (nr : r ≠ p) (f0 : M.1 p 7 = 0) (d0 : M.1 p 8 = -1) (T : Nat) (hk : M.1 p 0 = 7) (zs : ∀ a, (a = q + 2 ∨ a = q + 4 ∨ a = r + 2 ∨ a = r + 4) → ∀ t : Nat, 1093 ≤ t → t < 1152 → M.2.1 a (t : Int) = false) : ab_Z (pg_G L xs) (d + 5) 42 [.ref p, .ref 2] M es (fun v M' => v = none ∧ Fp p M M' ∧ stO 7 T (sN (M.2.1 (q + 2))) (sN (M.2.1 (r + 2))) (sN (M.2.1 (q + 4))) (sN (M.2.1 (r + 4))) (M'.1 p 7) (M'.1 p 8) (M'.2.1 (p + 2)) (M'.2.1 (p + 4))) := by
  have gp := isP_ge h
  have sq := isP_sep hq h nq
  have sr := isP_sep hr h nr
  show ab_W (pg_G L xs) (ab_X (pg_G L xs) (d + 4)) 42 _ 0 [some (.ref p), some (.ref 2)] [] (hp M ++ es)
  refine x_ld 0 1 2 1 rfl rfl rfl rfl rfl ?_
  refine x_cst (zi 4) 1 2 rfl rfl rfl ?_
  refine x_ld 1 1 2 3 rfl rfl rfl rfl rfl ?_
  refine x_ld 0 1 2 4 rfl rfl rfl rfl rfl ?_
  refine g_P_3 h 53 7 rfl rfl eq rfl ?_
  refine g_P_5 hq 24 10 rfl rfl rfl ?_
  refine x_ld 0 1 2 11 rfl rfl rfl rfl rfl ?_
  refine g_P_5 h 24 14 rfl rfl rfl ?_
  refine x_ce 111 43 17 [.ref 2, .ref (q + 1), .ref (p + 1)] rfl rfl rfl (Nat.le_of_ble_eq_true rfl) rfl rfl (Nat.le_of_ble_eq_true rfl) ⟨_, _, _, rfl, o_2⟩ (Nat.le_of_ble_eq_true rfl) (c43 d (iT_P1 hq) (iT_P1 h) (zs _ (.inl rfl))) rfl ?_
  rintro v1 M1 ⟨x, ev1, ha1, hb1, F1⟩
  subst ev1
  have hx1 := lst_rD (A := sN (M.2.1 (q + 2))) ha1 (fun e => (hb1 e).1)
  have hrg1 := lst_rg hx1 (fun t ht => by rcases ht with ht | ht; (· have := ht.2; omega); (· exact ht.2.1))
  by_cases hz1 : x = -1
  · subst hz1
    refine x_cv 91 28 20 [.ref p, zi 4, zi (-1)] rfl rfl rfl (Nat.le_of_ble_eq_true rfl) rfl rfl (Nat.le_of_ble_eq_true rfl) ⟨_, _, _, rfl, oP h⟩ (Nat.le_of_ble_eq_true rfl) (c28n (M := M1) (d + 3) h) rfl ?_
    refine x_ld 0 1 2 21 rfl rfl rfl rfl rfl ?_
    refine g_P_7 h 31 24 rfl rfl ((congrFun (F1.1 p (by omega) (by omega) (by omega)) 7).trans f0) rfl ?_
    refine z_ifne 47 27 rfl rfl rfl (rg_lit 0 rfl) (fun c => absurd c (by decide)) (fun _ => ?_)
    refine x_ld 0 1 2 28 rfl rfl rfl rfl rfl ?_
    refine x_cst (zi 5) 1 29 rfl rfl rfl ?_
    refine x_ld 1 1 2 30 rfl rfl rfl rfl rfl ?_
    refine x_ld 0 1 2 31 rfl rfl rfl rfl rfl ?_
    refine g_P_3 h 53 34 rfl rfl ((congrFun (congrFun F1.2.2 p) 3).trans eq) rfl ?_
    refine g_P_6 hq 28 37 rfl rfl rfl ?_
    refine x_ld 0 1 2 38 rfl rfl rfl rfl rfl ?_
    refine g_P_6 h 28 41 rfl rfl rfl ?_
    refine x_ce 111 43 44 [.ref 2, .ref (q + 3), .ref (p + 3)] rfl rfl rfl (Nat.le_of_ble_eq_true rfl) rfl rfl (Nat.le_of_ble_eq_true rfl) ⟨_, _, _, rfl, o_2⟩ (Nat.le_of_ble_eq_true rfl) (c43 (M := M1) d (iT_P3 hq) (iT_P3 h) (by rw [F1.2.1 _ (by omega)]; exact zs _ (.inr (.inl rfl)))) rfl ?_
    rintro v2 M2 ⟨y, ev2, ha2, hb2, F2⟩
    subst ev2
    have hx2 := lst_rD (A := sN (M1.2.1 (q + 4))) ha2 (fun e => (hb2 e).1)
    rw [F1.2.1 _ (by omega)] at hx2 hb2
    have hrg2 := lst_rg hx2 (fun t ht => by rcases ht with ht | ht; (· have := ht.2; omega); (· exact ht.2.1))
    by_cases hz2 : y = -1
    · subst hz2
      refine x_cv 91 28 47 [.ref p, zi 5, zi (-1)] rfl rfl rfl (Nat.le_of_ble_eq_true rfl) rfl rfl (Nat.le_of_ble_eq_true rfl) ⟨_, _, _, rfl, oP h⟩ (Nat.le_of_ble_eq_true rfl) (c28n (M := M2) (d + 3) h) rfl ?_
      refine x_rtv rfl rfl ?_
      refine ⟨_, _, rfl, rfl, rfl, ?_, .inr (.inr ⟨lst_neg hx1 rfl, lst_neg hx2 rfl, ?_, ?_, fun t ht => ⟨?_, ?_⟩⟩)⟩
      · exact Fp_trans (Fp_J2 gp.1 F1) (Fp_J4 gp.1 F2)
      · rw [F2.1 p (by omega) (by omega) (by omega), F1.1 p (by omega) (by omega) (by omega)]; exact f0
      · rw [F2.1 p (by omega) (by omega) (by omega), F1.1 p (by omega) (by omega) (by omega)]; exact d0
      · rw [F2.2.1 _ (by omega)]; exact (hb1 (rD_none (lst_neg hx1 rfl))).2 t ht
      · exact (hb2 (rD_none (lst_neg hx2 rfl))).2 t ht
    · refine x_cv 91 28 47 [.ref p, zi 5, zi y] rfl rfl rfl (Nat.le_of_ble_eq_true rfl) rfl rfl (Nat.le_of_ble_eq_true rfl) ⟨_, _, _, rfl, oP h⟩ (Nat.le_of_ble_eq_true rfl) (c28y (M := M2) (d + 3) h ⟨by omega, by omega⟩ hz2) rfl ?_
      refine x_rtv rfl rfl ?_
      obtain ⟨t, et, hl⟩ := lst_pos hx2 hz2
      refine ⟨_, _, rfl, rfl, rfl, ?_, .inr (.inl ⟨lst_neg hx1 rfl, t, hl, ?_, ?_⟩)⟩
      · exact Fp_trans (Fp_trans (Fp_J2 gp.1 F1) (Fp_J4 gp.1 F2)) (Fp_trans (Fp_I7 ..) (Fp_I8 ..))
      · show (sI (sI M2 p 7 5) p 8 y).1 p 7 = 5
        rw [rd_nk (by decide), rd_eq]
      · show (sI (sI M2 p 7 5) p 8 y).1 p 8 = t
        rw [rd_eq]; exact et
  · refine x_cv 91 28 20 [.ref p, zi 4, zi x] rfl rfl rfl (Nat.le_of_ble_eq_true rfl) rfl rfl (Nat.le_of_ble_eq_true rfl) ⟨_, _, _, rfl, oP h⟩ (Nat.le_of_ble_eq_true rfl) (c28y (M := M1) (d + 3) h ⟨by omega, by omega⟩ hz1) rfl ?_
    refine x_ld 0 1 2 21 rfl rfl rfl rfl rfl ?_
    refine g_P_7 h 31 24 rfl rfl ((rd_nk (Ne.symm (by decide))).trans rd_eq) rfl ?_
    refine z_ifne 47 27 rfl rfl rfl (rg_lit 4 rfl) (fun _ => ?_) (fun c => absurd c (by decide))
    refine x_rtv rfl rfl ?_
    obtain ⟨t, et, hl⟩ := lst_pos hx1 hz1
    refine ⟨_, _, rfl, rfl, rfl, ?_, .inl ⟨t, hl, ?_, ?_⟩⟩
    · exact Fp_trans (Fp_J2 gp.1 F1) (Fp_trans (Fp_I7 ..) (Fp_I8 ..))
    · show (sI (sI M1 p 7 4) p 8 x).1 p 7 = 4
      rw [rd_nk (by decide), rd_eq]
    · show (sI (sI M1 p 7 4) p 8 x).1 p 8 = t
      rw [rd_eq]; exact et
theorem c42_8 (d : Nat) {p q r : Nat} (h : isP p) (hq : isP q) (hr : isP r) (eq : M.2.2 p 3 = q) (er : M.2.2 p 4 = r) (nq : q ≠ p) (nr : r ≠ p) (f0 : M.1 p 7 = 0) (d0 : M.1 p 8 = -1) (T : Nat) (hk : M.1 p 0 = 8) (zs : ∀ a, (a = q + 2 ∨ a = q + 4 ∨ a = r + 2 ∨ a = r + 4) → ∀ t : Nat, 1093 ≤ t → t < 1152 → M.2.1 a (t : Int) = false) : ab_Z (pg_G L xs) (d + 5) 42 [.ref p, .ref 2] M es (fun v M' => v = none ∧ Fp p M M' ∧ stO 8 T (sN (M.2.1 (q + 2))) (sN (M.2.1 (r + 2))) (sN (M.2.1 (q + 4))) (sN (M.2.1 (r + 4))) (M'.1 p 7) (M'.1 p 8) (M'.2.1 (p + 2)) (M'.2.1 (p + 4))) := by
  have gp := isP_ge h
  have sq := isP_sep hq h nq
  have sr := isP_sep hr h nr
  show ab_W (pg_G L xs) (ab_X (pg_G L xs) (d + 4)) 42 _ 0 [some (.ref p), some (.ref 2)] [] (hp M ++ es)
  refine x_ld 0 1 2 1 rfl rfl rfl rfl rfl ?_
  refine x_cst (zi 4) 1 2 rfl rfl rfl ?_
  refine x_ld 1 1 2 3 rfl rfl rfl rfl rfl ?_
  refine x_ld 0 1 2 4 rfl rfl rfl rfl rfl ?_
  refine g_P_3 h 53 7 rfl rfl eq rfl ?_
  refine g_P_5 hq 24 10 rfl rfl rfl ?_
  refine x_ld 0 1 2 11 rfl rfl rfl rfl rfl ?_
  refine g_P_5 h 24 14 rfl rfl rfl ?_
  refine x_ce 111 43 17 [.ref 2, .ref (q + 1), .ref (p + 1)] rfl rfl rfl (Nat.le_of_ble_eq_true rfl) rfl rfl (Nat.le_of_ble_eq_true rfl) ⟨_, _, _, rfl, o_2⟩ (Nat.le_of_ble_eq_true rfl) (c43 d (iT_P1 hq) (iT_P1 h) (zs _ (.inl rfl))) rfl ?_
  rintro v1 M1 ⟨x, ev1, ha1, hb1, F1⟩
  subst ev1
  have hx1 := lst_rD (A := sN (M.2.1 (q + 2))) ha1 (fun e => (hb1 e).1)
  have hrg1 := lst_rg hx1 (fun t ht => by rcases ht with ht | ht; (· have := ht.2; omega); (· exact ht.2.1))
  by_cases hz1 : x = -1
  · subst hz1
    refine x_cv 91 28 20 [.ref p, zi 4, zi (-1)] rfl rfl rfl (Nat.le_of_ble_eq_true rfl) rfl rfl (Nat.le_of_ble_eq_true rfl) ⟨_, _, _, rfl, oP h⟩ (Nat.le_of_ble_eq_true rfl) (c28n (M := M1) (d + 3) h) rfl ?_
    refine x_ld 0 1 2 21 rfl rfl rfl rfl rfl ?_
    refine g_P_7 h 31 24 rfl rfl ((congrFun (F1.1 p (by omega) (by omega) (by omega)) 7).trans f0) rfl ?_
    refine z_ifne 47 27 rfl rfl rfl (rg_lit 0 rfl) (fun c => absurd c (by decide)) (fun _ => ?_)
    refine x_ld 0 1 2 28 rfl rfl rfl rfl rfl ?_
    refine x_cst (zi 5) 1 29 rfl rfl rfl ?_
    refine x_ld 1 1 2 30 rfl rfl rfl rfl rfl ?_
    refine x_ld 0 1 2 31 rfl rfl rfl rfl rfl ?_
    refine g_P_3 h 53 34 rfl rfl ((congrFun (congrFun F1.2.2 p) 3).trans eq) rfl ?_
    refine g_P_6 hq 28 37 rfl rfl rfl ?_
    refine x_ld 0 1 2 38 rfl rfl rfl rfl rfl ?_
    refine g_P_6 h 28 41 rfl rfl rfl ?_
    refine x_ce 111 43 44 [.ref 2, .ref (q + 3), .ref (p + 3)] rfl rfl rfl (Nat.le_of_ble_eq_true rfl) rfl rfl (Nat.le_of_ble_eq_true rfl) ⟨_, _, _, rfl, o_2⟩ (Nat.le_of_ble_eq_true rfl) (c43 (M := M1) d (iT_P3 hq) (iT_P3 h) (by rw [F1.2.1 _ (by omega)]; exact zs _ (.inr (.inl rfl)))) rfl ?_
    rintro v2 M2 ⟨y, ev2, ha2, hb2, F2⟩
    subst ev2
    have hx2 := lst_rD (A := sN (M1.2.1 (q + 4))) ha2 (fun e => (hb2 e).1)
    rw [F1.2.1 _ (by omega)] at hx2 hb2
    have hrg2 := lst_rg hx2 (fun t ht => by rcases ht with ht | ht; (· have := ht.2; omega); (· exact ht.2.1))
    by_cases hz2 : y = -1
    · subst hz2
      refine x_cv 91 28 47 [.ref p, zi 5, zi (-1)] rfl rfl rfl (Nat.le_of_ble_eq_true rfl) rfl rfl (Nat.le_of_ble_eq_true rfl) ⟨_, _, _, rfl, oP h⟩ (Nat.le_of_ble_eq_true rfl) (c28n (M := M2) (d + 3) h) rfl ?_
      refine x_rtv rfl rfl ?_
      refine ⟨_, _, rfl, rfl, rfl, ?_, .inr (.inr ⟨lst_neg hx1 rfl, lst_neg hx2 rfl, ?_, ?_, fun t ht => ⟨?_, ?_⟩⟩)⟩
      · exact Fp_trans (Fp_J2 gp.1 F1) (Fp_J4 gp.1 F2)
      · rw [F2.1 p (by omega) (by omega) (by omega), F1.1 p (by omega) (by omega) (by omega)]; exact f0
      · rw [F2.1 p (by omega) (by omega) (by omega), F1.1 p (by omega) (by omega) (by omega)]; exact d0
      · rw [F2.2.1 _ (by omega)]; exact (hb1 (rD_none (lst_neg hx1 rfl))).2 t ht
      · exact (hb2 (rD_none (lst_neg hx2 rfl))).2 t ht
    · refine x_cv 91 28 47 [.ref p, zi 5, zi y] rfl rfl rfl (Nat.le_of_ble_eq_true rfl) rfl rfl (Nat.le_of_ble_eq_true rfl) ⟨_, _, _, rfl, oP h⟩ (Nat.le_of_ble_eq_true rfl) (c28y (M := M2) (d + 3) h ⟨by omega, by omega⟩ hz2) rfl ?_
      refine x_rtv rfl rfl ?_
      obtain ⟨t, et, hl⟩ := lst_pos hx2 hz2
      refine ⟨_, _, rfl, rfl, rfl, ?_, .inr (.inl ⟨lst_neg hx1 rfl, t, hl, ?_, ?_⟩)⟩
      · exact Fp_trans (Fp_trans (Fp_J2 gp.1 F1) (Fp_J4 gp.1 F2)) (Fp_trans (Fp_I7 ..) (Fp_I8 ..))
      · show (sI (sI M2 p 7 5) p 8 y).1 p 7 = 5
        rw [rd_nk (by decide), rd_eq]
      · show (sI (sI M2 p 7 5) p 8 y).1 p 8 = t
        rw [rd_eq]; exact et
  · refine x_cv 91 28 20 [.ref p, zi 4, zi x] rfl rfl rfl (Nat.le_of_ble_eq_true rfl) rfl rfl (Nat.le_of_ble_eq_true rfl) ⟨_, _, _, rfl, oP h⟩ (Nat.le_of_ble_eq_true rfl) (c28y (M := M1) (d + 3) h ⟨by omega, by omega⟩ hz1) rfl ?_
    refine x_ld 0 1 2 21 rfl rfl rfl rfl rfl ?_
    refine g_P_7 h 31 24 rfl rfl ((rd_nk (Ne.symm (by decide))).trans rd_eq) rfl ?_
    refine z_ifne 47 27 rfl rfl rfl (rg_lit 4 rfl) (fun _ => ?_) (fun c => absurd c (by decide))
    refine x_rtv rfl rfl ?_
    obtain ⟨t, et, hl⟩ := lst_pos hx1 hz1
    refine ⟨_, _, rfl, rfl, rfl, ?_, .inl ⟨t, hl, ?_, ?_⟩⟩
    · exact Fp_trans (Fp_J2 gp.1 F1) (Fp_trans (Fp_I7 ..) (Fp_I8 ..))
    · show (sI (sI M1 p 7 4) p 8 x).1 p 7 = 4
      rw [rd_nk (by decide), rd_eq]
    · show (sI (sI M1 p 7 4) p 8 x).1 p 8 = t
      rw [rd_eq]; exact et
end C8
