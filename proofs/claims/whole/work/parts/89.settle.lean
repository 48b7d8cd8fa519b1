/-! OURS, printed by wip/tools/gen89.py: a part settled. -/
/-- a repeated set's least doubt -/
def rD (A : Nat → Bool) (t : Nat) : Prop := (A 0 = true ∧ t = 0) ∨ (A 0 = false ∧ am2 A t)
def sD1 (K : Nat) (Sl Sr : Nat → Bool) : Nat → Prop := match K with
  | 4 => fun t => t < 1152 ∧ (Sl t && Sr t) = true
  | 5 => jn2 Sl Sr
  | 6 => jn2 Sl Sr
  | 7 => rD Sl
  | 8 => rD Sl
  | _ => fun _ => False
def sD2 (K : Nat) (Vl Vr : Nat → Bool) : Nat → Prop := match K with
  | 5 => jn2 Vl Vr
  | 6 => jn2 Vr Vl
  | 7 => rD Vl
  | 8 => rD Vl
  | _ => fun _ => False
def sS (K T : Nat) (Sl Sr : Nat → Bool) : Nat → Prop := match K with
  | 0 => fun t => ltr T t = true
  | 1 => fun t => ltr T t = true
  | 2 => fun t => t = 0
  | 3 => fun t => Sl t = true
  | 4 => fun t => (Sl t || Sr t) = true
  | 5 => jn Sl Sr
  | 6 => jn Sl Sr
  | _ => rq Sl
def sV (K T : Nat) (Vl Vr : Nat → Bool) : Nat → Prop := match K with
  | 0 => fun t => ltr T t = true
  | 1 => fun t => t = 0
  | 2 => fun t => ltr T t = true
  | 3 => fun t => Vl t = true
  | 4 => fun t => (Vl t || Vr t) = true
  | 5 => jn Vl Vr
  | 6 => jn Vr Vl
  | _ => rq Vl
def sWhy (K : Nat) : Int := match K with
  | 4 => 6
  | 5 => 2
  | 6 => 2
  | _ => 4
/-- what comes of settling: fault, doubt, sources, views -/
def stO (K T : Nat) (Sl Sr Vl Vr : Nat → Bool) (f d : Int) (S V : Int → Bool) : Prop := (∃ t : Nat, lst (sD1 K Sl Sr) t ∧ f = sWhy K ∧ d = t) ∨ ((∀ t, ¬ sD1 K Sl Sr t) ∧ ∃ t : Nat, lst (sD2 K Vl Vr) t ∧ f = sWhy K + 1 ∧ d = t) ∨ ((∀ t, ¬ sD1 K Sl Sr t) ∧ (∀ t, ¬ sD2 K Vl Vr t) ∧ f = 0 ∧ d = -1 ∧ ∀ t : Nat, t < 1152 → (S t = true ↔ sS K T Sl Sr t) ∧ (V t = true ↔ sV K T Vl Vr t))
def Fp (p : Nat) (M M' : mm) : Prop := (∀ a, a ≠ 2 → a ≠ 3 → a ≠ 4 → a ≠ p → M'.1 a = M.1 a) ∧ (∀ k, k ≠ 7 → k ≠ 8 → M'.1 p k = M.1 p k) ∧ (∀ a, a ≠ p + 2 → a ≠ p + 4 → M'.2.1 a = M.2.1 a) ∧ M'.2.2 = M.2.2
theorem Fp_trans {p : Nat} {M M' M'' : mm} (h : Fp p M M') (k : Fp p M' M'') : Fp p M M'' := ⟨fun a h1 h2 h3 h4 => (k.1 a h1 h2 h3 h4).trans (h.1 a h1 h2 h3 h4), fun a h1 h2 => (k.2.1 a h1 h2).trans (h.2.1 a h1 h2), fun a h1 h2 => (k.2.2.1 a h1 h2).trans (h.2.2.1 a h1 h2), k.2.2.2.trans h.2.2.2⟩
theorem Fp_refl (p : Nat) (M : mm) : Fp p M M := ⟨fun _ _ _ _ _ => rfl, fun _ _ _ => rfl, fun _ _ _ => rfl, rfl⟩
theorem Fp_I7 (p : Nat) (M : mm) (x : Int) : Fp p M (sI M p 7 x) := ⟨fun a _ _ _ h => sI_ne h, fun k h _ => rd_nk h, fun _ _ _ => rfl, rfl⟩
theorem Fp_I8 (p : Nat) (M : mm) (x : Int) : Fp p M (sI M p 8 x) := ⟨fun a _ _ _ h => sI_ne h, fun k _ h => rd_nk h, fun _ _ _ => rfl, rfl⟩
theorem Fp_B2 (p : Nat) (M : mm) (f : Int → Bool) : Fp p M (rB M (p + 2) f) := ⟨fun _ _ _ _ _ => rfl, fun _ _ _ => rfl, fun a h _ => rB_ne h, rfl⟩
theorem Fp_B4 (p : Nat) (M : mm) (f : Int → Bool) : Fp p M (rB M (p + 4) f) := ⟨fun _ _ _ _ _ => rfl, fun _ _ _ => rfl, fun a _ h => rB_ne h, rfl⟩
theorem Fp_J2 {p : Nat} (hp : 8 ≤ p) {M M' : mm} (h : Fj (p + 2) M M') : Fp p M M' := ⟨fun a h1 h2 h3 _ => h.1 a h1 h2 h3, fun k _ _ => by rw [h.1 p (by omega) (by omega) (by omega)], fun a h1 _ => h.2.1 a h1, h.2.2⟩
theorem Fp_J4 {p : Nat} (hp : 8 ≤ p) {M M' : mm} (h : Fj (p + 4) M M') : Fp p M M' := ⟨fun a h1 h2 h3 _ => h.1 a h1 h2 h3, fun k _ _ => by rw [h.1 p (by omega) (by omega) (by omega)], fun a _ h1 => h.2.1 a h1, h.2.2⟩
theorem isP_ge {p : Nat} (h : isP p) : 8 ≤ p ∧ p + 8 < 569 := by
  obtain ⟨k, hk, e⟩ := h
  omega
theorem isP_sep {p q : Nat} (hp : isP p) (hq : isP q) (h : p ≠ q) : p + 8 < q ∨ q + 8 < p := by
  obtain ⟨k, hk, e⟩ := hp
  obtain ⟨l, hl, f⟩ := hq
  omega
theorem lst_pos {D : Nat → Prop} {x : Int} (h : lst D x) (hx : ¬ x = -1) : ∃ t : Nat, x = t ∧ lst D t := by
  rcases h with ⟨h1, _⟩ | ⟨t, h1, h2, h3⟩
  · exact absurd h1 hx
  · exact ⟨t, h1, .inr ⟨t, rfl, h2, h3⟩⟩
theorem lst_neg {D : Nat → Prop} {x : Int} (h : lst D x) (hx : x = -1) : ∀ t, ¬ D t := by
  rcases h with ⟨_, h2⟩ | ⟨t, h1, _, _⟩
  · exact h2
  · omega
theorem lst_rD {A : Nat → Bool} {x : Int} (h1 : A 0 = true → x = 0) (h2 : A 0 = false → lst (am2 A) x) : lst (rD A) x := by
  rcases Bool.eq_false_or_eq_true (A 0) with h | h
  · exact .inr ⟨0, h1 h, .inl ⟨h, rfl⟩, fun s hs => absurd hs (Nat.not_lt_zero s)⟩
  · exact lst_congr (fun t => ⟨fun e => .inr ⟨h, e⟩, fun e => e.elim (fun e => by rw [h] at e; cases e.1) (fun e => e.2)⟩) (h2 h)
theorem rD_none {A : Nat → Bool} (h : ∀ t, ¬ rD A t) : A 0 = false := by
  rcases Bool.eq_false_or_eq_true (A 0) with e | e
  · exact absurd (.inl ⟨e, rfl⟩) (h 0)
  · exact e
def ltrI (T j : Int) : Bool := decide (1 ≤ j) && decide (j ≤ 3) && (decide (T = 0) || decide (T = j))
theorem ltrI_n (T t : Nat) : ltrI T t = ltr T t := by
  unfold ltrI ltr
  apply Bool.eq_iff_iff.mpr
  simp only [Bool.and_eq_true, Bool.or_eq_true, decide_eq_true_eq, beq_iff_eq]
  omega
section C7
variable {L : Nat} {xs : Nat → Int32} {M : mm} {es : ab_H}
theorem c28n (d : Nat) {p : Nat} (h : isP p) {f : Int} : ab_S (pg_G L xs) (d + 1) 28 [.ref p, zi f, zi (-1)] (hp M ++ es) none (hp M ++ es) := by
  show ab_W (pg_G L xs) (ab_X (pg_G L xs) d) 28 _ 0 [some (.ref p), some (zi f), some (zi (-1))] [] (hp M ++ es)
  refine x_ld 2 1 0 1 rfl rfl rfl rfl rfl ?_
  refine x_cst (zi (-1)) 1 2 rfl rfl rfl ?_
  refine z_iceq 15 5 rfl rfl rfl (rg_lit (-1) rfl) (rg_lit (-1) rfl) (fun _ => ?_) (fun c => absurd c (by decide))
  refine x_rtv rfl rfl ?_
  exact ⟨rfl, rfl⟩
theorem c28y (d : Nat) {p : Nat} (h : isP p) {f t : Int} (hr : rg t) (ht : ¬ t = -1) : ab_S (pg_G L xs) (d + 1) 28 [.ref p, zi f, zi t] (hp M ++ es) none (hp (sI (sI M p 7 f) p 8 t) ++ es) := by
  show ab_W (pg_G L xs) (ab_X (pg_G L xs) d) 28 _ 0 [some (.ref p), some (zi f), some (zi t)] [] (hp M ++ es)
  refine x_ld 2 1 0 1 rfl rfl rfl rfl rfl ?_
  refine x_cst (zi (-1)) 1 2 rfl rfl rfl ?_
  refine z_iceq 15 5 rfl rfl rfl hr (rg_lit (-1) rfl) (fun c => absurd c ht) (fun _ => ?_)
  refine x_ld 0 1 2 6 rfl rfl rfl rfl rfl ?_
  refine x_ld 1 1 0 7 rfl rfl rfl rfl rfl ?_
  refine s_P_7 h 31 10 rfl rfl rfl rfl rfl rfl ?_
  refine x_ld 0 1 2 11 rfl rfl rfl rfl rfl ?_
  refine x_ld 2 1 0 12 rfl rfl rfl rfl rfl ?_
  refine s_P_8 h 34 15 rfl rfl rfl rfl rfl rfl ?_
  refine x_rtv rfl rfl ?_
  exact ⟨rfl, rfl⟩
theorem c40x (d : Nat) {p : Nat} (h : isP p) (hk : M.1 p 0 = 6) : ab_S (pg_G L xs) (d + 1) 40 [.ref p] (hp M ++ es) (some (.ref (M.2.2 p 4))) (hp M ++ es) := by
  show ab_W (pg_G L xs) (ab_X (pg_G L xs) d) 40 _ 0 [some (.ref p)] [] (hp M ++ es)
  refine x_ld 0 1 2 1 rfl rfl rfl rfl rfl ?_
  refine g_P_0 h 9 4 rfl rfl hk rfl ?_
  refine x_cst (zi 6) 2 6 rfl rfl rfl ?_
  refine z_icne 16 9 rfl rfl rfl (rg_lit 6 rfl) (rg_lit 6 rfl) (fun c => absurd c (by decide)) (fun _ => ?_)
  refine x_ld 0 1 2 10 rfl rfl rfl rfl rfl ?_
  refine g_P_4 h 57 13 rfl rfl rfl rfl ?_
  refine x_go 20 rfl rfl ?_
  refine x_ret rfl rfl rfl rfl ?_
  exact ⟨rfl, rfl⟩
theorem c40j (d : Nat) {p : Nat} (h : isP p) (hk : M.1 p 0 = 5) : ab_S (pg_G L xs) (d + 1) 40 [.ref p] (hp M ++ es) (some (.ref (M.2.2 p 3))) (hp M ++ es) := by
  show ab_W (pg_G L xs) (ab_X (pg_G L xs) d) 40 _ 0 [some (.ref p)] [] (hp M ++ es)
  refine x_ld 0 1 2 1 rfl rfl rfl rfl rfl ?_
  refine g_P_0 h 9 4 rfl rfl hk rfl ?_
  refine x_cst (zi 6) 2 6 rfl rfl rfl ?_
  refine z_icne 16 9 rfl rfl rfl (rg_lit 5 rfl) (rg_lit 6 rfl) (fun _ => ?_) (fun c => absurd c (by decide))
  refine x_ld 0 1 2 17 rfl rfl rfl rfl rfl ?_
  refine g_P_3 h 53 20 rfl rfl rfl rfl ?_
  refine x_ret rfl rfl rfl rfl ?_
  exact ⟨rfl, rfl⟩
theorem c41x (d : Nat) {p : Nat} (h : isP p) (hk : M.1 p 0 = 6) : ab_S (pg_G L xs) (d + 1) 41 [.ref p] (hp M ++ es) (some (.ref (M.2.2 p 3))) (hp M ++ es) := by
  show ab_W (pg_G L xs) (ab_X (pg_G L xs) d) 41 _ 0 [some (.ref p)] [] (hp M ++ es)
  refine x_ld 0 1 2 1 rfl rfl rfl rfl rfl ?_
  refine g_P_0 h 9 4 rfl rfl hk rfl ?_
  refine x_cst (zi 6) 2 6 rfl rfl rfl ?_
  refine z_icne 16 9 rfl rfl rfl (rg_lit 6 rfl) (rg_lit 6 rfl) (fun c => absurd c (by decide)) (fun _ => ?_)
  refine x_ld 0 1 2 10 rfl rfl rfl rfl rfl ?_
  refine g_P_3 h 53 13 rfl rfl rfl rfl ?_
  refine x_go 20 rfl rfl ?_
  refine x_ret rfl rfl rfl rfl ?_
  exact ⟨rfl, rfl⟩
theorem c41j (d : Nat) {p : Nat} (h : isP p) (hk : M.1 p 0 = 5) : ab_S (pg_G L xs) (d + 1) 41 [.ref p] (hp M ++ es) (some (.ref (M.2.2 p 4))) (hp M ++ es) := by
  show ab_W (pg_G L xs) (ab_X (pg_G L xs) d) 41 _ 0 [some (.ref p)] [] (hp M ++ es)
  refine x_ld 0 1 2 1 rfl rfl rfl rfl rfl ?_
  refine g_P_0 h 9 4 rfl rfl hk rfl ?_
  refine x_cst (zi 6) 2 6 rfl rfl rfl ?_
  refine z_icne 16 9 rfl rfl rfl (rg_lit 5 rfl) (rg_lit 6 rfl) (fun _ => ?_) (fun c => absurd c (by decide))
  refine x_ld 0 1 2 17 rfl rfl rfl rfl rfl ?_
  refine g_P_4 h 57 20 rfl rfl rfl rfl ?_
  refine x_ret rfl rfl rfl rfl ?_
  exact ⟨rfl, rfl⟩
theorem c45 (d : Nat) {p s w : Nat} (hP : isP p) (h : isT s w) {T : Nat} (hT : M.1 p 2 = (T : Int)) (hT3 : T ≤ 3) : ab_S (pg_G L xs) (d + 2) 45 [.ref p, .ref s] (hp M ++ es) none (hp (rB M w (fun j => M.2.1 w j || ltrI T j)) ++ es) := by
  rcases (show T = 0 ∨ T = 1 ∨ T = 2 ∨ T = 3 by omega) with rfl | rfl | rfl | rfl
  · show ab_W (pg_G L xs) (ab_X (pg_G L xs) (d + 1)) 45 _ 0 [some (.ref p), some (.ref s), none] [] (hp M ++ es)
    refine x_cst (zi 1) 1 1 rfl rfl rfl ?_
    refine x_st 2 1 0 2 [some (.ref p), some (.ref s), some (zi 1)] rfl rfl rfl (Nat.le_of_ble_eq_true rfl) rfl rfl ?_
    refine x_ld 2 1 0 3 rfl rfl rfl rfl rfl ?_
    refine x_cst (zi 3) 1 4 rfl rfl rfl ?_
    refine z_icgt 33 7 rfl rfl rfl (rg_lit 1 rfl) (rg_lit 3 rfl) (fun c => absurd c (by decide)) (fun _ => ?_)
    refine x_ld 0 1 2 8 rfl rfl rfl rfl rfl ?_
    refine g_P_2 hP 18 11 rfl rfl hT rfl ?_
    refine z_ifeq 22 14 rfl rfl rfl (rg_lit 0 rfl) (fun _ => ?_) (fun c => absurd c (by decide))
    refine x_ld 1 1 2 23 rfl rfl rfl rfl rfl ?_
    refine x_ld 2 1 0 24 rfl rfl rfl rfl rfl ?_
    refine x_cv 83 39 27 [.ref s, zi 1] rfl rfl rfl (Nat.le_of_ble_eq_true rfl) rfl rfl (Nat.le_of_ble_eq_true rfl) ⟨_, _, _, rfl, oT h⟩ (Nat.le_of_ble_eq_true rfl) (c39 (M := M) d h (t := 1) (by decide) (by decide)) rfl ?_
    refine z_inc 2 30 [some (.ref p), some (.ref s), some (zi 2)] rfl rfl (Nat.le_of_ble_eq_true rfl) rfl rfl ?_
    refine x_go 2 rfl rfl ?_
    refine x_ld 2 1 0 3 rfl rfl rfl rfl rfl ?_
    refine x_cst (zi 3) 1 4 rfl rfl rfl ?_
    refine z_icgt 33 7 rfl rfl rfl (rg_lit 2 rfl) (rg_lit 3 rfl) (fun c => absurd c (by decide)) (fun _ => ?_)
    refine x_ld 0 1 2 8 rfl rfl rfl rfl rfl ?_
    refine g_P_2 hP 18 11 rfl rfl hT rfl ?_
    refine z_ifeq 22 14 rfl rfl rfl (rg_lit 0 rfl) (fun _ => ?_) (fun c => absurd c (by decide))
    refine x_ld 1 1 2 23 rfl rfl rfl rfl rfl ?_
    refine x_ld 2 1 0 24 rfl rfl rfl rfl rfl ?_
    refine x_cv 83 39 27 [.ref s, zi 2] rfl rfl rfl (Nat.le_of_ble_eq_true rfl) rfl rfl (Nat.le_of_ble_eq_true rfl) ⟨_, _, _, rfl, oT h⟩ (Nat.le_of_ble_eq_true rfl) (c39 (M := (rB M w (adB (M.2.1 w) 1))) d h (t := 2) (by decide) (by decide)) rfl ?_
    refine z_inc 2 30 [some (.ref p), some (.ref s), some (zi 3)] rfl rfl (Nat.le_of_ble_eq_true rfl) rfl rfl ?_
    refine x_go 2 rfl rfl ?_
    refine x_ld 2 1 0 3 rfl rfl rfl rfl rfl ?_
    refine x_cst (zi 3) 1 4 rfl rfl rfl ?_
    refine z_icgt 33 7 rfl rfl rfl (rg_lit 3 rfl) (rg_lit 3 rfl) (fun c => absurd c (by decide)) (fun _ => ?_)
    refine x_ld 0 1 2 8 rfl rfl rfl rfl rfl ?_
    refine g_P_2 hP 18 11 rfl rfl hT rfl ?_
    refine z_ifeq 22 14 rfl rfl rfl (rg_lit 0 rfl) (fun _ => ?_) (fun c => absurd c (by decide))
    refine x_ld 1 1 2 23 rfl rfl rfl rfl rfl ?_
    refine x_ld 2 1 0 24 rfl rfl rfl rfl rfl ?_
    refine x_cv 83 39 27 [.ref s, zi 3] rfl rfl rfl (Nat.le_of_ble_eq_true rfl) rfl rfl (Nat.le_of_ble_eq_true rfl) ⟨_, _, _, rfl, oT h⟩ (Nat.le_of_ble_eq_true rfl) (c39 (M := (rB (rB M w (adB (M.2.1 w) 1)) w (adB ((rB M w (adB (M.2.1 w) 1)).2.1 w) 2))) d h (t := 3) (by decide) (by decide)) rfl ?_
    refine z_inc 2 30 [some (.ref p), some (.ref s), some (zi 4)] rfl rfl (Nat.le_of_ble_eq_true rfl) rfl rfl ?_
    refine x_go 2 rfl rfl ?_
    refine x_ld 2 1 0 3 rfl rfl rfl rfl rfl ?_
    refine x_cst (zi 3) 1 4 rfl rfl rfl ?_
    refine z_icgt 33 7 rfl rfl rfl (rg_lit 4 rfl) (rg_lit 3 rfl) (fun _ => ?_) (fun c => absurd c (by decide))
    refine x_rtv rfl rfl ?_
    refine ⟨rfl, ?_⟩
    rw [rB_at, rB_at, rB_rB, rB_rB]
    refine congrArg (fun F => hp (rB M w F) ++ es) (funext fun j => ?_)
    unfold adB ltrI
    apply Bool.eq_iff_iff.mpr
    simp only [Bool.and_eq_true, Bool.or_eq_true, decide_eq_true_eq]
    cases M.2.1 w j
    · simp only [Bool.false_eq_true, false_or]; omega
    · simp only [true_or]
  · show ab_W (pg_G L xs) (ab_X (pg_G L xs) (d + 1)) 45 _ 0 [some (.ref p), some (.ref s), none] [] (hp M ++ es)
    refine x_cst (zi 1) 1 1 rfl rfl rfl ?_
    refine x_st 2 1 0 2 [some (.ref p), some (.ref s), some (zi 1)] rfl rfl rfl (Nat.le_of_ble_eq_true rfl) rfl rfl ?_
    refine x_ld 2 1 0 3 rfl rfl rfl rfl rfl ?_
    refine x_cst (zi 3) 1 4 rfl rfl rfl ?_
    refine z_icgt 33 7 rfl rfl rfl (rg_lit 1 rfl) (rg_lit 3 rfl) (fun c => absurd c (by decide)) (fun _ => ?_)
    refine x_ld 0 1 2 8 rfl rfl rfl rfl rfl ?_
    refine g_P_2 hP 18 11 rfl rfl hT rfl ?_
    refine z_ifeq 22 14 rfl rfl rfl (rg_lit 1 rfl) (fun c => absurd c (by decide)) (fun _ => ?_)
    refine x_ld 0 1 2 15 rfl rfl rfl rfl rfl ?_
    refine g_P_2 hP 18 18 rfl rfl hT rfl ?_
    refine x_ld 2 1 0 19 rfl rfl rfl rfl rfl ?_
    refine z_icne 27 22 rfl rfl rfl (rg_lit 1 rfl) (rg_lit 1 rfl) (fun c => absurd c (by decide)) (fun _ => ?_)
    refine x_ld 1 1 2 23 rfl rfl rfl rfl rfl ?_
    refine x_ld 2 1 0 24 rfl rfl rfl rfl rfl ?_
    refine x_cv 83 39 27 [.ref s, zi 1] rfl rfl rfl (Nat.le_of_ble_eq_true rfl) rfl rfl (Nat.le_of_ble_eq_true rfl) ⟨_, _, _, rfl, oT h⟩ (Nat.le_of_ble_eq_true rfl) (c39 (M := M) d h (t := 1) (by decide) (by decide)) rfl ?_
    refine z_inc 2 30 [some (.ref p), some (.ref s), some (zi 2)] rfl rfl (Nat.le_of_ble_eq_true rfl) rfl rfl ?_
    refine x_go 2 rfl rfl ?_
    refine x_ld 2 1 0 3 rfl rfl rfl rfl rfl ?_
    refine x_cst (zi 3) 1 4 rfl rfl rfl ?_
    refine z_icgt 33 7 rfl rfl rfl (rg_lit 2 rfl) (rg_lit 3 rfl) (fun c => absurd c (by decide)) (fun _ => ?_)
    refine x_ld 0 1 2 8 rfl rfl rfl rfl rfl ?_
    refine g_P_2 hP 18 11 rfl rfl hT rfl ?_
    refine z_ifeq 22 14 rfl rfl rfl (rg_lit 1 rfl) (fun c => absurd c (by decide)) (fun _ => ?_)
    refine x_ld 0 1 2 15 rfl rfl rfl rfl rfl ?_
    refine g_P_2 hP 18 18 rfl rfl hT rfl ?_
    refine x_ld 2 1 0 19 rfl rfl rfl rfl rfl ?_
    refine z_icne 27 22 rfl rfl rfl (rg_lit 1 rfl) (rg_lit 2 rfl) (fun _ => ?_) (fun c => absurd c (by decide))
    refine z_inc 2 30 [some (.ref p), some (.ref s), some (zi 3)] rfl rfl (Nat.le_of_ble_eq_true rfl) rfl rfl ?_
    refine x_go 2 rfl rfl ?_
    refine x_ld 2 1 0 3 rfl rfl rfl rfl rfl ?_
    refine x_cst (zi 3) 1 4 rfl rfl rfl ?_
    refine z_icgt 33 7 rfl rfl rfl (rg_lit 3 rfl) (rg_lit 3 rfl) (fun c => absurd c (by decide)) (fun _ => ?_)
    refine x_ld 0 1 2 8 rfl rfl rfl rfl rfl ?_
    refine g_P_2 hP 18 11 rfl rfl hT rfl ?_
    refine z_ifeq 22 14 rfl rfl rfl (rg_lit 1 rfl) (fun c => absurd c (by decide)) (fun _ => ?_)
    refine x_ld 0 1 2 15 rfl rfl rfl rfl rfl ?_
    refine g_P_2 hP 18 18 rfl rfl hT rfl ?_
    refine x_ld 2 1 0 19 rfl rfl rfl rfl rfl ?_
    refine z_icne 27 22 rfl rfl rfl (rg_lit 1 rfl) (rg_lit 3 rfl) (fun _ => ?_) (fun c => absurd c (by decide))
    refine z_inc 2 30 [some (.ref p), some (.ref s), some (zi 4)] rfl rfl (Nat.le_of_ble_eq_true rfl) rfl rfl ?_
    refine x_go 2 rfl rfl ?_
    refine x_ld 2 1 0 3 rfl rfl rfl rfl rfl ?_
    refine x_cst (zi 3) 1 4 rfl rfl rfl ?_
    refine z_icgt 33 7 rfl rfl rfl (rg_lit 4 rfl) (rg_lit 3 rfl) (fun _ => ?_) (fun c => absurd c (by decide))
    refine x_rtv rfl rfl ?_
    refine ⟨rfl, ?_⟩
    refine congrArg (fun F => hp (rB M w F) ++ es) (funext fun j => ?_)
    unfold adB ltrI
    apply Bool.eq_iff_iff.mpr
    simp only [Bool.and_eq_true, Bool.or_eq_true, decide_eq_true_eq]
    cases M.2.1 w j
    · simp only [Bool.false_eq_true, false_or]; omega
    · simp only [true_or]
  · show ab_W (pg_G L xs) (ab_X (pg_G L xs) (d + 1)) 45 _ 0 [some (.ref p), some (.ref s), none] [] (hp M ++ es)
    refine x_cst (zi 1) 1 1 rfl rfl rfl ?_
    refine x_st 2 1 0 2 [some (.ref p), some (.ref s), some (zi 1)] rfl rfl rfl (Nat.le_of_ble_eq_true rfl) rfl rfl ?_
    refine x_ld 2 1 0 3 rfl rfl rfl rfl rfl ?_
    refine x_cst (zi 3) 1 4 rfl rfl rfl ?_
    refine z_icgt 33 7 rfl rfl rfl (rg_lit 1 rfl) (rg_lit 3 rfl) (fun c => absurd c (by decide)) (fun _ => ?_)
    refine x_ld 0 1 2 8 rfl rfl rfl rfl rfl ?_
    refine g_P_2 hP 18 11 rfl rfl hT rfl ?_
    refine z_ifeq 22 14 rfl rfl rfl (rg_lit 2 rfl) (fun c => absurd c (by decide)) (fun _ => ?_)
    refine x_ld 0 1 2 15 rfl rfl rfl rfl rfl ?_
    refine g_P_2 hP 18 18 rfl rfl hT rfl ?_
    refine x_ld 2 1 0 19 rfl rfl rfl rfl rfl ?_
    refine z_icne 27 22 rfl rfl rfl (rg_lit 2 rfl) (rg_lit 1 rfl) (fun _ => ?_) (fun c => absurd c (by decide))
    refine z_inc 2 30 [some (.ref p), some (.ref s), some (zi 2)] rfl rfl (Nat.le_of_ble_eq_true rfl) rfl rfl ?_
    refine x_go 2 rfl rfl ?_
    refine x_ld 2 1 0 3 rfl rfl rfl rfl rfl ?_
    refine x_cst (zi 3) 1 4 rfl rfl rfl ?_
    refine z_icgt 33 7 rfl rfl rfl (rg_lit 2 rfl) (rg_lit 3 rfl) (fun c => absurd c (by decide)) (fun _ => ?_)
    refine x_ld 0 1 2 8 rfl rfl rfl rfl rfl ?_
    refine g_P_2 hP 18 11 rfl rfl hT rfl ?_
    refine z_ifeq 22 14 rfl rfl rfl (rg_lit 2 rfl) (fun c => absurd c (by decide)) (fun _ => ?_)
    refine x_ld 0 1 2 15 rfl rfl rfl rfl rfl ?_
    refine g_P_2 hP 18 18 rfl rfl hT rfl ?_
    refine x_ld 2 1 0 19 rfl rfl rfl rfl rfl ?_
    refine z_icne 27 22 rfl rfl rfl (rg_lit 2 rfl) (rg_lit 2 rfl) (fun c => absurd c (by decide)) (fun _ => ?_)
    refine x_ld 1 1 2 23 rfl rfl rfl rfl rfl ?_
    refine x_ld 2 1 0 24 rfl rfl rfl rfl rfl ?_
    refine x_cv 83 39 27 [.ref s, zi 2] rfl rfl rfl (Nat.le_of_ble_eq_true rfl) rfl rfl (Nat.le_of_ble_eq_true rfl) ⟨_, _, _, rfl, oT h⟩ (Nat.le_of_ble_eq_true rfl) (c39 (M := M) d h (t := 2) (by decide) (by decide)) rfl ?_
    refine z_inc 2 30 [some (.ref p), some (.ref s), some (zi 3)] rfl rfl (Nat.le_of_ble_eq_true rfl) rfl rfl ?_
    refine x_go 2 rfl rfl ?_
    refine x_ld 2 1 0 3 rfl rfl rfl rfl rfl ?_
    refine x_cst (zi 3) 1 4 rfl rfl rfl ?_
    refine z_icgt 33 7 rfl rfl rfl (rg_lit 3 rfl) (rg_lit 3 rfl) (fun c => absurd c (by decide)) (fun _ => ?_)
    refine x_ld 0 1 2 8 rfl rfl rfl rfl rfl ?_
    refine g_P_2 hP 18 11 rfl rfl hT rfl ?_
    refine z_ifeq 22 14 rfl rfl rfl (rg_lit 2 rfl) (fun c => absurd c (by decide)) (fun _ => ?_)
    refine x_ld 0 1 2 15 rfl rfl rfl rfl rfl ?_
    refine g_P_2 hP 18 18 rfl rfl hT rfl ?_
    refine x_ld 2 1 0 19 rfl rfl rfl rfl rfl ?_
    refine z_icne 27 22 rfl rfl rfl (rg_lit 2 rfl) (rg_lit 3 rfl) (fun _ => ?_) (fun c => absurd c (by decide))
    refine z_inc 2 30 [some (.ref p), some (.ref s), some (zi 4)] rfl rfl (Nat.le_of_ble_eq_true rfl) rfl rfl ?_
    refine x_go 2 rfl rfl ?_
    refine x_ld 2 1 0 3 rfl rfl rfl rfl rfl ?_
    refine x_cst (zi 3) 1 4 rfl rfl rfl ?_
    refine z_icgt 33 7 rfl rfl rfl (rg_lit 4 rfl) (rg_lit 3 rfl) (fun _ => ?_) (fun c => absurd c (by decide))
    refine x_rtv rfl rfl ?_
    refine ⟨rfl, ?_⟩
    refine congrArg (fun F => hp (rB M w F) ++ es) (funext fun j => ?_)
    unfold adB ltrI
    apply Bool.eq_iff_iff.mpr
    simp only [Bool.and_eq_true, Bool.or_eq_true, decide_eq_true_eq]
    cases M.2.1 w j
    · simp only [Bool.false_eq_true, false_or]; omega
    · simp only [true_or]
  · show ab_W (pg_G L xs) (ab_X (pg_G L xs) (d + 1)) 45 _ 0 [some (.ref p), some (.ref s), none] [] (hp M ++ es)
    refine x_cst (zi 1) 1 1 rfl rfl rfl ?_
    refine x_st 2 1 0 2 [some (.ref p), some (.ref s), some (zi 1)] rfl rfl rfl (Nat.le_of_ble_eq_true rfl) rfl rfl ?_
    refine x_ld 2 1 0 3 rfl rfl rfl rfl rfl ?_
    refine x_cst (zi 3) 1 4 rfl rfl rfl ?_
    refine z_icgt 33 7 rfl rfl rfl (rg_lit 1 rfl) (rg_lit 3 rfl) (fun c => absurd c (by decide)) (fun _ => ?_)
    refine x_ld 0 1 2 8 rfl rfl rfl rfl rfl ?_
    refine g_P_2 hP 18 11 rfl rfl hT rfl ?_
    refine z_ifeq 22 14 rfl rfl rfl (rg_lit 3 rfl) (fun c => absurd c (by decide)) (fun _ => ?_)
    refine x_ld 0 1 2 15 rfl rfl rfl rfl rfl ?_
    refine g_P_2 hP 18 18 rfl rfl hT rfl ?_
    refine x_ld 2 1 0 19 rfl rfl rfl rfl rfl ?_
    refine z_icne 27 22 rfl rfl rfl (rg_lit 3 rfl) (rg_lit 1 rfl) (fun _ => ?_) (fun c => absurd c (by decide))
    refine z_inc 2 30 [some (.ref p), some (.ref s), some (zi 2)] rfl rfl (Nat.le_of_ble_eq_true rfl) rfl rfl ?_
    refine x_go 2 rfl rfl ?_
    refine x_ld 2 1 0 3 rfl rfl rfl rfl rfl ?_
    refine x_cst (zi 3) 1 4 rfl rfl rfl ?_
    refine z_icgt 33 7 rfl rfl rfl (rg_lit 2 rfl) (rg_lit 3 rfl) (fun c => absurd c (by decide)) (fun _ => ?_)
    refine x_ld 0 1 2 8 rfl rfl rfl rfl rfl ?_
    refine g_P_2 hP 18 11 rfl rfl hT rfl ?_
    refine z_ifeq 22 14 rfl rfl rfl (rg_lit 3 rfl) (fun c => absurd c (by decide)) (fun _ => ?_)
    refine x_ld 0 1 2 15 rfl rfl rfl rfl rfl ?_
    refine g_P_2 hP 18 18 rfl rfl hT rfl ?_
    refine x_ld 2 1 0 19 rfl rfl rfl rfl rfl ?_
    refine z_icne 27 22 rfl rfl rfl (rg_lit 3 rfl) (rg_lit 2 rfl) (fun _ => ?_) (fun c => absurd c (by decide))
    refine z_inc 2 30 [some (.ref p), some (.ref s), some (zi 3)] rfl rfl (Nat.le_of_ble_eq_true rfl) rfl rfl ?_
    refine x_go 2 rfl rfl ?_
    refine x_ld 2 1 0 3 rfl rfl rfl rfl rfl ?_
    refine x_cst (zi 3) 1 4 rfl rfl rfl ?_
    refine z_icgt 33 7 rfl rfl rfl (rg_lit 3 rfl) (rg_lit 3 rfl) (fun c => absurd c (by decide)) (fun _ => ?_)
    refine x_ld 0 1 2 8 rfl rfl rfl rfl rfl ?_
    refine g_P_2 hP 18 11 rfl rfl hT rfl ?_
    refine z_ifeq 22 14 rfl rfl rfl (rg_lit 3 rfl) (fun c => absurd c (by decide)) (fun _ => ?_)
    refine x_ld 0 1 2 15 rfl rfl rfl rfl rfl ?_
    refine g_P_2 hP 18 18 rfl rfl hT rfl ?_
    refine x_ld 2 1 0 19 rfl rfl rfl rfl rfl ?_
    refine z_icne 27 22 rfl rfl rfl (rg_lit 3 rfl) (rg_lit 3 rfl) (fun c => absurd c (by decide)) (fun _ => ?_)
    refine x_ld 1 1 2 23 rfl rfl rfl rfl rfl ?_
    refine x_ld 2 1 0 24 rfl rfl rfl rfl rfl ?_
    refine x_cv 83 39 27 [.ref s, zi 3] rfl rfl rfl (Nat.le_of_ble_eq_true rfl) rfl rfl (Nat.le_of_ble_eq_true rfl) ⟨_, _, _, rfl, oT h⟩ (Nat.le_of_ble_eq_true rfl) (c39 (M := M) d h (t := 3) (by decide) (by decide)) rfl ?_
    refine z_inc 2 30 [some (.ref p), some (.ref s), some (zi 4)] rfl rfl (Nat.le_of_ble_eq_true rfl) rfl rfl ?_
    refine x_go 2 rfl rfl ?_
    refine x_ld 2 1 0 3 rfl rfl rfl rfl rfl ?_
    refine x_cst (zi 3) 1 4 rfl rfl rfl ?_
    refine z_icgt 33 7 rfl rfl rfl (rg_lit 4 rfl) (rg_lit 3 rfl) (fun _ => ?_) (fun c => absurd c (by decide))
    refine x_rtv rfl rfl ?_
    refine ⟨rfl, ?_⟩
    refine congrArg (fun F => hp (rB M w F) ++ es) (funext fun j => ?_)
    unfold adB ltrI
    apply Bool.eq_iff_iff.mpr
    simp only [Bool.and_eq_true, Bool.or_eq_true, decide_eq_true_eq]
    cases M.2.1 w j
    · simp only [Bool.false_eq_true, false_or]; omega
    · simp only [true_or]
end C7
