/-! OURS, printed by wip/tools/gen893.py: programs' objects; the first bad part. -/
def isG (n : Nat) : Prop := n = 5 ∨ n = 287
theorem isP_A {n k : Nat} (h : isG n) (hk : k < 31) : isP ((n + 3 + 9 * k)) := by
  rcases h with h | h
  · exact ⟨k, hk, .inl (by omega)⟩
  · exact ⟨k, hk, .inr (by omega)⟩
theorem isG_lt {n : Nat} (h : isG n) : 5 ≤ n ∧ n + 282 ≤ 569 := by
  rcases h with h | h <;> omega
theorem rn_G {n : Nat} (h : isG n) (I : Int → Int) (B : Int → Bool) (R : Nat → Nat) : rn I B R n = .inr (3, [.ref (n + 1), zi (I 1), zi (I 2), .ref (n + 2), zi (I 4), .ref (R 5)]) := by
  rcases h with rfl | rfl <;> rfl
theorem rn_G1 {n : Nat} (h : isG n) (I : Int → Int) (B : Int → Bool) (R : Nat → Nat) : rn I B R (n + 1) = oC 16 I := by
  rcases h with rfl | rfl <;> rfl
theorem rn_G2 {n : Nat} (h : isG n) (I : Int → Int) (B : Int → Bool) (R : Nat → Nat) : rn I B R (n + 2) = .inl (3, 31, .inr (.inr (.inr (.inr (a_parts (n + 3) 31))))) := by
  rcases h with rfl | rfl <;> rfl
theorem iG1 {n : Nat} (h : isG n) : isC (n + 1) 16 := ⟨by have := isG_lt h; omega, by decide, fun I B R => rn_G1 h I B R⟩
section Gg
variable {G : ab_G} {E : ab_E} {j : Nat} {Q : ab_Q} {pc : Nat} {ls : ab_L} {st : List Value} {M : mm} {es : ab_H}
theorem oG {n : Nat} (h : isG n) : (hp M ++ es)[n]? = some (.inr (3, [.ref (n + 1), zi (M.1 n 1), zi (M.1 n 2), .ref (n + 2), zi (M.1 n 4), .ref (M.2.2 n 5)])) := hp_ob (by have := isG_lt h; omega) (rn_G h _ _ _)
theorem g_G_0 {n : Nat} (h : isG n) (idx pc' : Nat) (hf : ab_f G j pc = some (.getfield idx)) (hl : ab_lf G j idx = some (3, 0)) (hq : pc + 3 = pc') (kk : ab_W G E j Q pc' ls (.ref (n + 1) :: st) (hp M ++ es)) : ab_W G E j Q pc ls (.ref n :: st) (hp M ++ es) := x_get idx 3 0 pc' hf hl (oG h) rfl hq kk
theorem g_G_1 {v : Int} {n : Nat} (h : isG n) (idx pc' : Nat) (hf : ab_f G j pc = some (.getfield idx)) (hl : ab_lf G j idx = some (3, 1)) (hv : M.1 n 1 = v) (hq : pc + 3 = pc') (kk : ab_W G E j Q pc' ls (zi v :: st) (hp M ++ es)) : ab_W G E j Q pc ls (.ref n :: st) (hp M ++ es) := x_get idx 3 1 pc' hf hl (oG h) rfl hq (hv ▸ kk)
theorem s_G_1 {x : Int} {ty : FieldType} {n : Nat} (h : isG n) (idx pc' : Nat) (hf : ab_f G j pc = some (.putfield idx)) (hl : ab_lf G j idx = some (3, 1)) (ht : ab_tf G 3 1 = some ty) (hn : narrow ty (zi x) = zi x) (hb : fits ty (zi x) = true) (hq : pc + 3 = pc') (kk : ab_W G E j Q pc' ls st (hp (sI M n 1 x) ++ es)) : ab_W G E j Q pc ls (zi x :: .ref n :: st) (hp M ++ es) := x_put idx 3 1 pc' hf hl (oG h) (Nat.le_of_ble_eq_true rfl) ht hn hb _ (hp_sI (by have := isG_lt h; omega) ((rn_G h _ _ _).trans rfl)) hq kk
theorem g_G_2 {v : Int} {n : Nat} (h : isG n) (idx pc' : Nat) (hf : ab_f G j pc = some (.getfield idx)) (hl : ab_lf G j idx = some (3, 2)) (hv : M.1 n 2 = v) (hq : pc + 3 = pc') (kk : ab_W G E j Q pc' ls (zi v :: st) (hp M ++ es)) : ab_W G E j Q pc ls (.ref n :: st) (hp M ++ es) := x_get idx 3 2 pc' hf hl (oG h) rfl hq (hv ▸ kk)
theorem s_G_2 {x : Int} {ty : FieldType} {n : Nat} (h : isG n) (idx pc' : Nat) (hf : ab_f G j pc = some (.putfield idx)) (hl : ab_lf G j idx = some (3, 2)) (ht : ab_tf G 3 2 = some ty) (hn : narrow ty (zi x) = zi x) (hb : fits ty (zi x) = true) (hq : pc + 3 = pc') (kk : ab_W G E j Q pc' ls st (hp (sI M n 2 x) ++ es)) : ab_W G E j Q pc ls (zi x :: .ref n :: st) (hp M ++ es) := x_put idx 3 2 pc' hf hl (oG h) (Nat.le_of_ble_eq_true rfl) ht hn hb _ (hp_sI (by have := isG_lt h; omega) ((rn_G h _ _ _).trans rfl)) hq kk
theorem g_G_3 {n : Nat} (h : isG n) (idx pc' : Nat) (hf : ab_f G j pc = some (.getfield idx)) (hl : ab_lf G j idx = some (3, 3)) (hq : pc + 3 = pc') (kk : ab_W G E j Q pc' ls (.ref (n + 2) :: st) (hp M ++ es)) : ab_W G E j Q pc ls (.ref n :: st) (hp M ++ es) := x_get idx 3 3 pc' hf hl (oG h) rfl hq kk
theorem g_G_4 {v : Int} {n : Nat} (h : isG n) (idx pc' : Nat) (hf : ab_f G j pc = some (.getfield idx)) (hl : ab_lf G j idx = some (3, 4)) (hv : M.1 n 4 = v) (hq : pc + 3 = pc') (kk : ab_W G E j Q pc' ls (zi v :: st) (hp M ++ es)) : ab_W G E j Q pc ls (.ref n :: st) (hp M ++ es) := x_get idx 3 4 pc' hf hl (oG h) rfl hq (hv ▸ kk)
theorem s_G_4 {x : Int} {ty : FieldType} {n : Nat} (h : isG n) (idx pc' : Nat) (hf : ab_f G j pc = some (.putfield idx)) (hl : ab_lf G j idx = some (3, 4)) (ht : ab_tf G 3 4 = some ty) (hn : narrow ty (zi x) = zi x) (hb : fits ty (zi x) = true) (hq : pc + 3 = pc') (kk : ab_W G E j Q pc' ls st (hp (sI M n 4 x) ++ es)) : ab_W G E j Q pc ls (zi x :: .ref n :: st) (hp M ++ es) := x_put idx 3 4 pc' hf hl (oG h) (Nat.le_of_ble_eq_true rfl) ht hn hb _ (hp_sI (by have := isG_lt h; omega) ((rn_G h _ _ _).trans rfl)) hq kk
theorem g_G_5 {v : Nat} {n : Nat} (h : isG n) (idx pc' : Nat) (hf : ab_f G j pc = some (.getfield idx)) (hl : ab_lf G j idx = some (3, 5)) (hv : M.2.2 n 5 = v) (hq : pc + 3 = pc') (kk : ab_W G E j Q pc' ls (.ref v :: st) (hp M ++ es)) : ab_W G E j Q pc ls (.ref n :: st) (hp M ++ es) := x_get idx 3 5 pc' hf hl (oG h) rfl hq (hv ▸ kk)
theorem s_G_5 {x : Nat} {ty : FieldType} {n : Nat} (h : isG n) (idx pc' : Nat) (hf : ab_f G j pc = some (.putfield idx)) (hl : ab_lf G j idx = some (3, 5)) (ht : ab_tf G 3 5 = some ty) (hn : narrow ty (.ref x) = .ref x) (hb : fits ty (.ref x) = true) (hq : pc + 3 = pc') (kk : ab_W G E j Q pc' ls st (hp (sR M n 5 x) ++ es)) : ab_W G E j Q pc ls (.ref x :: .ref n :: st) (hp M ++ es) := x_put idx 3 5 pc' hf hl (oG h) (Nat.le_of_ble_eq_true rfl) ht hn hb _ (hp_sR (by have := isG_lt h; omega) ((rn_G h _ _ _).trans rfl)) hq kk
end Gg
section Ga
variable {L : Nat} {xs : Nat → Int32} {E : ab_E} {j : Nat} {Q : ab_Q} {pc : Nat} {ls : ab_L} {st : List Value} {M : mm} {es : ab_H}
theorem z_ald {n : Nat} (h : isG n) {z : Int} (i pc' : Nat) (hf : ab_f (pg_G L xs) j pc = some .aaload) (hz : z = (i : Int)) (hi : i < 31) (hq : pc + 1 = pc') (kk : ab_W (pg_G L xs) E j Q pc' ls (.ref ((n + 3 + 9 * i)) :: st) (hp M ++ es)) : ab_W (pg_G L xs) E j Q pc ls (zi z :: .ref (n + 2) :: st) (hp M ++ es) := by
  subst hz
  refine x_ald (t := 3) (n := 31) (xs := a_parts (n + 3) 31) (some ((n + 3 + 9 * i))) pc' hf (hp_ob (by have := isG_lt h; omega) (rn_G2 h _ _ _)) rfl (in32 (by omega) (by omega) (by decide)) ?_ hq kk
  rw [nat32 (by omega) (by omega), Int.toNat_natCast]
  unfold a_parts
  rw [if_pos hi]
end Ga
/-- the parts of a program as memory holds them -/
def mPs (n : Nat) (M : mm) (ps : Nat → prt) (c : Nat) : Prop := ∀ k, k < c → M.1 ((n + 3 + 9 * k)) 0 = ((ps k).1 : Nat) ∧ ((ps k).1 < 3 → M.1 ((n + 3 + 9 * k)) 2 = ((ps k).2.2.2 : Nat)) ∧ (3 ≤ (ps k).1 → M.2.2 ((n + 3 + 9 * k)) 3 = (n + 3 + 9 * (ps k).2.1) ∧ M.2.2 ((n + 3 + 9 * k)) 4 = (n + 3 + 9 * (ps k).2.2.1))
/-- only settling has gone on in a program -/
def Fq (n : Nat) (M M' : mm) : Prop := (∀ a, a ≠ 2 → a ≠ 3 → a ≠ 4 → (∀ k, k < 31 → a ≠ (n + 3 + 9 * k)) → M'.1 a = M.1 a) ∧ (∀ k, k < 31 → ∀ j, j ≠ 7 → j ≠ 8 → M'.1 ((n + 3 + 9 * k)) j = M.1 ((n + 3 + 9 * k)) j) ∧ (∀ a, (∀ k, k < 31 → a ≠ (n + 3 + 9 * k) + 2 ∧ a ≠ (n + 3 + 9 * k) + 4) → M'.2.1 a = M.2.1 a) ∧ M'.2.2 = M.2.2
theorem Fq_refl (n : Nat) (M : mm) : Fq n M M := ⟨fun _ _ _ _ _ => rfl, fun _ _ _ _ _ => rfl, fun _ _ => rfl, rfl⟩
theorem Fq_trans {n : Nat} {M M' M'' : mm} (h : Fq n M M') (k : Fq n M' M'') : Fq n M M'' := ⟨fun a h1 h2 h3 h4 => (k.1 a h1 h2 h3 h4).trans (h.1 a h1 h2 h3 h4), fun i hi j h1 h2 => (k.2.1 i hi j h1 h2).trans (h.2.1 i hi j h1 h2), fun a ha => (k.2.2.1 a ha).trans (h.2.2.1 a ha), k.2.2.2.trans h.2.2.2⟩
theorem Fq_of {n i : Nat} (hG : isG n) (hi : i < 31) {M M' : mm} (h : Fp ((n + 3 + 9 * i)) M M') : Fq n M M' := by
  have hg := isG_lt hG
  refine ⟨fun a h1 h2 h3 h4 => h.1 a h1 h2 h3 (h4 i hi), fun k hk j h1 h2 => ?_, fun a ha => h.2.2.1 a (ha i hi).1 (ha i hi).2, h.2.2.2⟩
  by_cases e : k = i
  · subst e; exact h.2.1 j h1 h2
  · rw [h.1 ((n + 3 + 9 * k)) (by omega) (by omega) (by omega) (by omega)]
theorem mPs_Fq {n : Nat} {M M' : mm} {ps : Nat → prt} {c : Nat} (hc : c ≤ 31) (h : mPs n M ps c) (hF : Fq n M M') : mPs n M' ps c := by
  intro k hk
  have := h k hk
  refine ⟨(hF.2.1 k (by omega) 0 (by decide) (by decide)).trans this.1, fun e => (hF.2.1 k (by omega) 2 (by decide) (by decide)).trans (this.2.1 e), fun e => ?_⟩
  rw [hF.2.2.2]; exact this.2.2 e
/-- sets of the parts below i are the program's -/
def okS (n : Nat) (M : mm) (ps : Nat → prt) (i : Nat) : Prop := ∀ j, j < i → okp ps j ∧ ag (sN (M.2.1 ((n + 3 + 9 * j) + 2))) (sts ps j).1 ∧ ag (sN (M.2.1 ((n + 3 + 9 * j) + 4))) (sts ps j).2
section C10
variable {L : Nat} {xs : Nat → Int32} {M : mm} {es : ab_H}
theorem c21_loop (d : Nat) {n : Nat} (hG : isG n) {ps : Nat → prt} {c : Nat} (hc : c ≤ 31) (hcount : M.1 n 4 = (c : Int)) (hps : mPs n M ps c) (hw : ∀ k, k < c → wfp ps k) {Q : ab_Q} (kk : ∀ v M', (fun v M' => Fq n M M' ∧ ((v = some .null ∧ okS n M' ps c) ∨ ∃ k, k < c ∧ v = some (.ref ((n + 3 + 9 * k))) ∧ (∀ j, j < k → okp ps j) ∧ bdO ps k (M'.1 ((n + 3 + 9 * k)) 7) (M'.1 ((n + 3 + 9 * k)) 8))) v M' → Q (.inl v) (hp M' ++ es)) : ∀ m i : Nat, c - i = m → i ≤ c → ∀ M', Fq n M M' → okS n M' ps i → ab_W (pg_G L xs) (ab_X (pg_G L xs) (d + 6)) 21 Q 2 [some (.ref n), some (.ref 2), some (zi (i : Nat))] [] (hp M' ++ es) := by
  have hg := isG_lt hG
  intro m
  induction m using Nat.strongRecOn with
  | _ m ih =>
    intro i hm hi M' hF hS
    have hc' : M'.1 n 4 = (c : Int) := by rw [hF.1 n (by omega) (by omega) (by omega) (fun k hk => by omega)]; exact hcount
    refine x_ld 2 1 0 3 rfl rfl rfl rfl rfl ?_
    refine x_ld 0 1 2 4 rfl rfl rfl rfl rfl ?_
    refine g_G_4 hG 28 7 rfl rfl hc' rfl ?_
    refine z_icge 36 10 rfl rfl rfl ⟨by omega, by omega⟩ ⟨by omega, by omega⟩ (fun c7 => ?_) (fun c7 => ?_)
    · refine x_cst .null 1 37 rfl rfl rfl ?_
      refine x_ret rfl rfl rfl rfl ?_
      have e : i = c := by omega
      subst e; exact kk _ M' ⟨hF, .inl ⟨rfl, hS⟩⟩
    · have hil : i < c := by omega
      have hm' := mPs_Fq hc hps hF i hil
      have hwi := hw i hil
      have hchild : 3 ≤ (ps i).1 → isP ((n + 3 + 9 * (ps i).2.1)) ∧ isP ((n + 3 + 9 * (ps i).2.2.1)) ∧ M'.2.2 ((n + 3 + 9 * i)) 3 = (n + 3 + 9 * (ps i).2.1) ∧ M'.2.2 ((n + 3 + 9 * i)) 4 = (n + 3 + 9 * (ps i).2.2.1) ∧ (n + 3 + 9 * (ps i).2.1) ≠ (n + 3 + 9 * i) ∧ (n + 3 + 9 * (ps i).2.2.1) ≠ (n + 3 + 9 * i) ∧ (∀ a, (a = (n + 3 + 9 * (ps i).2.1) + 2 ∨ a = (n + 3 + 9 * (ps i).2.1) + 4 ∨ a = (n + 3 + 9 * (ps i).2.2.1) + 2 ∨ a = (n + 3 + 9 * (ps i).2.2.1) + 4) → ∀ t : Nat, 1093 ≤ t → t < 1152 → M'.2.1 a (t : Int) = false) := by
        intro h3
        have hl := hwi.2.2.2 h3
        have s1 := hS _ hl.1
        have s2 := hS _ hl.2
        refine ⟨isP_A hG (by omega), isP_A hG (by omega), (hm'.2.2 h3).1, (hm'.2.2 h3).2, by omega, by omega, ?_⟩
        intro a ha t t1 t2
        have z1 := sts_z1 (ps := ps) (ps i).2.1 (fun j hj => hw j (by omega)) t t1
        have z2 := sts_z1 (ps := ps) (ps i).2.2.1 (fun j hj => hw j (by omega)) t t1
        rcases ha with ha | ha | ha | ha
        · rw [ha]; exact (s1.2.1 t t2).trans z1.1
        · rw [ha]; exact (s1.2.2 t t2).trans z1.2
        · rw [ha]; exact (s2.2.1 t t2).trans z2.1
        · rw [ha]; exact (s2.2.2 t t2).trans z2.2
      refine x_ld 0 1 2 11 rfl rfl rfl rfl rfl ?_
      refine g_G_3 hG 24 14 rfl rfl rfl ?_
      refine x_ld 2 1 0 15 rfl rfl rfl rfl rfl ?_
      refine z_ald hG i 16 rfl rfl (by omega) rfl ?_
      refine x_ld 1 1 2 17 rfl rfl rfl rfl rfl ?_
      refine x_ce 56 22 20 [.ref ((n + 3 + 9 * i)), .ref 2] rfl rfl rfl (Nat.le_of_ble_eq_true rfl) rfl rfl (Nat.le_of_ble_eq_true rfl) ⟨_, _, _, rfl, oP (isP_A hG (by omega))⟩ (Nat.le_of_ble_eq_true rfl) (c22 (M := M') d (isP_A hG (by omega)) (K := (ps i).1) hm'.1 hwi.1 (T := (ps i).2.2.2) hm'.2.1 hwi.2.1 hchild) rfl ?_
      rintro v2 M2 ⟨ev, hF2, hO⟩
      subst ev
      have hF3 := Fq_trans hF (Fq_of hG (by omega) hF2)
      have hto := stO_to hwi hO (fun q => (hS _ (hwi.2.2.2 q).1).2.1) (fun q => (hS _ (hwi.2.2.2 q).2).2.1) (fun q => (hS _ (hwi.2.2.2 q).1).2.2) (fun q => (hS _ (hwi.2.2.2 q).2).2.2)
      rcases hto with ⟨f0, hb⟩ | ⟨f0, d0, ho, a1, a2⟩
      · rw [decide_eq_false f0]
        refine z_ifne 30 23 rfl rfl rfl (rg_lit 0 rfl) (fun c => absurd c (by decide)) (fun _ => ?_)
        refine x_ld 0 1 2 24 rfl rfl rfl rfl rfl ?_
        refine g_G_3 hG 24 27 rfl rfl rfl ?_
        refine x_ld 2 1 0 28 rfl rfl rfl rfl rfl ?_
        refine z_ald hG i 29 rfl rfl (by omega) rfl ?_
        refine x_ret rfl rfl rfl rfl ?_
        exact kk _ M2 ⟨hF3, .inr ⟨i, hil, rfl, fun j hj => (hS j hj).1, hb⟩⟩
      · rw [decide_eq_true f0]
        refine z_ifne 30 23 rfl rfl rfl (rg_lit 1 rfl) (fun _ => ?_) (fun c => absurd c (by decide))
        refine z_inc 2 33 [some (.ref n), some (.ref 2), some (zi (((i : Nat) : Int) + 1))] rfl rfl (Nat.le_of_ble_eq_true rfl) rfl rfl ?_
        refine x_go 2 rfl rfl ?_
        refine ih (c - (i + 1)) (by omega) (i + 1) rfl (by omega) M2 hF3 (fun j hj => ?_)
        rcases Nat.eq_or_lt_of_le (Nat.le_of_lt_succ hj) with e | e
        · subst e; exact ⟨ho, a1, a2⟩
        · have := hS j e
          refine ⟨this.1, ?_, ?_⟩
          · rw [hF2.2.2.1 _ (by omega) (by omega)]; exact this.2.1
          · rw [hF2.2.2.1 _ (by omega) (by omega)]; exact this.2.2
theorem c21 (d : Nat) {n : Nat} (hG : isG n) {ps : Nat → prt} {c : Nat} (hc : c ≤ 31) (hcount : M.1 n 4 = (c : Int)) (hps : mPs n M ps c) (hw : ∀ k, k < c → wfp ps k) : ab_Z (pg_G L xs) (d + 7) 21 [.ref n, .ref 2] M es (fun v M' => Fq n M M' ∧ ((v = some .null ∧ okS n M' ps c) ∨ ∃ k, k < c ∧ v = some (.ref ((n + 3 + 9 * k))) ∧ (∀ j, j < k → okp ps j) ∧ bdO ps k (M'.1 ((n + 3 + 9 * k)) 7) (M'.1 ((n + 3 + 9 * k)) 8))) := by
  show ab_W (pg_G L xs) (ab_X (pg_G L xs) (d + 6)) 21 _ 0 [some (.ref n), some (.ref 2), none] [] (hp M ++ es)
  refine x_cst (zi 0) 1 1 rfl rfl rfl ?_
  refine x_st 2 1 0 2 [some (.ref n), some (.ref 2), some (zi 0)] rfl rfl rfl (Nat.le_of_ble_eq_true rfl) rfl rfl ?_
  exact c21_loop d hG hc hcount hps hw (fun v M' hq => ⟨v, M', rfl, rfl, hq⟩) _ 0 rfl (Nat.zero_le _) M (Fq_refl n M) (fun j hj => absurd hj (Nat.not_lt_zero j))
end C10
