/-! OURS. What holds of both objects between the law's calls. -/
/-- the line, as the class holds it -/
def cLn (M : mm) (x : lne) : Prop := M.1 0 1 = (x.1 : Int) ∧ ∀ i : Nat, i < x.1 → M.1 1 (i : Int) = ((x.2 i : Nat) : Int)
def Bv (M : mm) (x : lne) (b1 b2 : Nat) : Prop := rLn M x ∧ cLn M x ∧ M.2.2 0 3 = b1 ∧ M.2.2 0 4 = b2 ∧ isG b1 ∧ isG b2 ∧ b1 ≠ b2 ∧ M.1 0 6 = M.1 572 30 ∧ M.1 0 7 = M.1 572 31
def Qv (M : mm) (b : Nat) (ps : Nat → prt) (k : Nat) : Prop := cls b M ps (k + 1) ∧ mdl M ps (k + 1) ∧ M.1 572 6 = ((k + 1 : Nat) : Int) ∧ M.2.2 b 5 = b + 3 + 9 * k ∧ lv (pgo ps) k ≤ 16
def Kv (M : mm) (ps : Nat → prt) (k : Nat) : Prop := (M.1 0 8 = -1 ∧ M.1 572 32 = -1) ∨ ∃ s, tx_L s ∧ s.length ≤ 6 ∧ M.1 0 8 = ((tx_num s : Nat) : Int) ∧ M.1 572 32 = ((tx_num s : Nat) : Int) ∧ (sts ps k).1 (tx_num s) = true ∧ (sem_sh (pgo ps) k s).length ≤ 6
def Ov (M : mm) : Prop := ∃ m : Int, 0 ≤ m ∧ m ≤ 6 ∧ M.1 0 10 = m ∧ M.1 572 35 = m ∧ ∀ i : Int, 0 ≤ i → i < m → M.1 569 i = M.1 595 i
def Nv (M : mm) : Prop := (M.1 0 12 = 0 ∧ M.1 572 34 = 0) ∨ (M.1 0 12 = 1 ∧ M.1 572 34 = 1 ∧ ∃ N : Nat → Bool, (∀ t, 1093 ≤ t → N t = false) ∧ ag (sN (M.2.1 571)) N ∧ ag (sN (M.2.1 594)) N)
def Pv (M : mm) (b : Nat) : Prop := (M.1 0 5 = 0 ∧ M.1 572 5 = 0) ∨ (M.1 0 5 = 1 ∧ M.1 572 5 = 1 ∧ ∃ ps k, Qv M b ps k ∧ Kv M ps k)
def Iv (M : mm) : Prop := ∃ x b1 b2, Bv M x b1 b2 ∧ Pv M b1 ∧ Ov M ∧ Nv M
/-- a program's block is left as it was -/
theorem cls_of {b : Nat} {M M' : mm} {ps : Nat → prt} {c : Nat} (h : cls b M ps c) (e : ∀ a, b ≤ a → a < b + 282 → M'.1 a = M.1 a ∧ M'.2.1 a = M.2.1 a ∧ M'.2.2 a = M.2.2 a) : cls b M' ps c := by
  have hc := h.2.1
  refine ⟨h.1, hc, fun k hk => ?_, fun k hk => ?_, h.2.2.2.2⟩
  · have t := h.2.2.1 k hk
    have q := e (b + 3 + 9 * k) (by omega) (by omega)
    rw [q.1, q.2.2]; exact t
  · have t := h.2.2.2.1 k hk
    rw [(e (b + 3 + 9 * k + 2) (by omega) (by omega)).2.1, (e (b + 3 + 9 * k + 4) (by omega) (by omega)).2.1]; exact t
theorem Fzt_f {th : Int} {M M' : mm} (h : Fzt th M M') (j : Int) (hj : j = 4 ∨ j = 5 ∨ j = 6 ∨ j = 30 ∨ j = 31) : M'.1 572 j = M.1 572 j := h.2.1 j (by unfold cF; omega) (by omega) (by omega) (by omega) (by omega)
theorem Bv_z {th : Int} {M M' : mm} {x : lne} {b1 b2 : Nat} (h : Bv M x b1 b2) (hF : Fzt th M M') : Bv M' x b1 b2 := by
  obtain ⟨h1, h2, h3, h4, h5, h6, h7, h8, h9⟩ := h
  refine ⟨⟨h1.1, (Fzt_f hF 4 (by omega)).trans h1.2.1, fun i hi => by rw [hF.1 575 (by decide) (by decide)]; exact h1.2.2 i hi⟩, ⟨by rw [hF.1 0 (by decide) (by decide)]; exact h2.1, fun i hi => by rw [hF.1 1 (by decide) (by decide)]; exact h2.2 i hi⟩, by rw [hF.2.2.2.1]; exact h3, by rw [hF.2.2.2.1]; exact h4, h5, h6, h7, ?_, ?_⟩
  · rw [hF.1 0 (by decide) (by decide), Fzt_f hF 30 (by omega)]; exact h8
  · rw [hF.1 0 (by decide) (by decide), Fzt_f hF 31 (by omega)]; exact h9
theorem Qv_z {th : Int} {M M' : mm} {b : Nat} {ps : Nat → prt} {k : Nat} (h : Qv M b ps k) (hF : Fzt th M M') : Qv M' b ps k := by
  obtain ⟨h1, h2, h3, h4, h5⟩ := h
  have hg := isG_lt h1.1
  refine ⟨cls_of h1 (fun a g1 g2 => ⟨hF.1 a (by omega) (by omega), hF.2.2.1 a (by omega), by rw [hF.2.2.2.1]⟩), ?_, (Fzt_f hF 6 (by omega)).trans h3, by rw [hF.2.2.2.1]; exact h4, h5⟩
  refine ⟨h2.1, fun q hq => ?_⟩
  have t := h2.2 q hq
  rw [hF.1 576 (by decide) (by decide), hF.1 577 (by decide) (by decide), hF.1 578 (by decide) (by decide), hF.1 579 (by decide) (by decide), hF.2.2.1 580 (by decide), hF.2.2.1 581 (by decide)]; exact t
theorem Kv_z {th : Int} {M M' : mm} {ps : Nat → prt} {k : Nat} (h : Kv M ps k) (hF : Fzt th M M') (e : M'.1 572 32 = M.1 572 32) : Kv M' ps k := by
  unfold Kv; rw [e, hF.1 0 (by decide) (by decide)]; exact h
theorem Pv_z {th : Int} {M M' : mm} {b : Nat} (h : Pv M b) (hF : Fzt th M M') (e : M'.1 572 32 = M.1 572 32) : Pv M' b := by
  rcases h with h | ⟨h1, h2, ps, k, h3, h4⟩
  · exact .inl ⟨by rw [hF.1 0 (by decide) (by decide)]; exact h.1, (Fzt_f hF 5 (by omega)).trans h.2⟩
  · exact .inr ⟨by rw [hF.1 0 (by decide) (by decide)]; exact h1, (Fzt_f hF 5 (by omega)).trans h2, ps, k, Qv_z h3 hF, Kv_z h4 hF e⟩
theorem Ov_z {th : Int} {M M' : mm} (h : Ov M) (hF : Fzt th M M') (e : M'.1 572 35 = M.1 572 35) (e2 : M'.1 595 = M.1 595) : Ov M' := by
  unfold Ov; rw [e, e2, hF.1 0 (by decide) (by decide), hF.1 569 (by decide) (by decide)]; exact h
theorem Nv_z {th : Int} {M M' : mm} (h : Nv M) (hF : Fzt th M M') (e : M'.1 572 34 = M.1 572 34) (e2 : M'.2.1 594 = M.2.1 594) : Nv M' := by
  unfold Nv; rw [e, e2, hF.1 0 (by decide) (by decide), hF.2.2.1 571 (by decide)]; exact h
/-- asking changes nothing that counts -/
theorem Iv_q {th : Int} {M M' : mm} (h : Iv M) (hF : Fzq th M M') : Iv M' := by
  obtain ⟨x, b1, b2, h1, h2, h3, h4⟩ := h
  obtain ⟨hF, k1, k2, k3, k4, k5⟩ := hF
  exact ⟨x, b1, b2, Bv_z h1 hF, Pv_z h2 hF k1, Ov_z h3 hF k3 k4, Nv_z h4 hF k2 k5⟩
/-- small changes of the class -/
def Fcs (b : Nat) (M M' : mm) : Prop := (∀ a, a ≠ 0 → a ≠ 569 → ¬ (b ≤ a ∧ a < b + 282) → M'.1 a = M.1 a) ∧ (∀ j, j ≠ 8 → j ≠ 10 → j ≠ 12 → M'.1 0 j = M.1 0 j) ∧ (∀ a, a ≠ 571 → M'.2.1 a = M.2.1 a) ∧ M'.2.2 = M.2.2
theorem Fcs_s {b : Nat} {M : mm} {j y : Int} (h : j = 8 ∨ j = 10 ∨ j = 12) : Fcs b M (sI M 0 j y) := ⟨fun a h1 _ _ => sI_ne h1, fun i h1 h2 h3 => rd_nk (by omega), fun _ _ => rfl, rfl⟩
theorem Fcs_pt {b : Nat} {M M' : mm} (h : Fpt b M M') : Fcs b M M' := ⟨h.1, fun j _ h2 _ => h.2.1 j h2, fun a _ => by rw [h.2.2], by rw [h.2.2]⟩
theorem Fcs_nt {b p : Nat} {M : mm} : Fcs b M (ntM M p) := ⟨fun a h1 _ _ => by unfold ntM; rw [sI_ne h1]; rfl, fun i h1 h2 h3 => by unfold ntM; exact rd_nk h3, fun a ha => by unfold ntM; exact rB_ne ha, rfl⟩
theorem Bv_c {b : Nat} {M M' : mm} {x : lne} {b1 b2 : Nat} (hg : isG b) (h : Bv M x b1 b2) (hF : Fcs b M M') : Bv M' x b1 b2 := by
  have hgl := isG_lt hg
  obtain ⟨h1, h2, h3, h4, h5, h6, h7, h8, h9⟩ := h
  have e572 := hF.1 572 (by decide) (by decide) (by omega)
  refine ⟨⟨h1.1, by rw [e572]; exact h1.2.1, fun i hi => by rw [hF.1 575 (by decide) (by decide) (by omega)]; exact h1.2.2 i hi⟩, ⟨(hF.2.1 1 (by decide) (by decide) (by decide)).trans h2.1, fun i hi => by rw [hF.1 1 (by decide) (by decide) (by omega)]; exact h2.2 i hi⟩, by rw [hF.2.2.2]; exact h3, by rw [hF.2.2.2]; exact h4, h5, h6, h7, ?_, ?_⟩
  · rw [e572]; exact (hF.2.1 6 (by decide) (by decide) (by decide)).trans h8
  · rw [e572]; exact (hF.2.1 7 (by decide) (by decide) (by decide)).trans h9
theorem Qv_c {b : Nat} {M M' : mm} {ps : Nat → prt} {k : Nat} (h : Qv M b ps k) (hF : Fcs b M M') (hc : cls b M' ps (k + 1)) : Qv M' b ps k := by
  obtain ⟨h1, h2, h3, h4, h5⟩ := h
  have hgl := isG_lt h1.1
  refine ⟨hc, ⟨h2.1, fun q hq => ?_⟩, by rw [hF.1 572 (by decide) (by decide) (by omega)]; exact h3, by rw [hF.2.2.2]; exact h4, h5⟩
  have t := h2.2 q hq
  rw [hF.1 576 (by decide) (by decide) (by omega), hF.1 577 (by decide) (by decide) (by omega), hF.1 578 (by decide) (by decide) (by omega), hF.1 579 (by decide) (by decide) (by omega), hF.2.2.1 580 (by decide), hF.2.2.1 581 (by decide)]; exact t
/-- the places of both sides -/
theorem ogQ_both {ps : Nat → prt} {k : Nat} {s w : List Nat} {m m' : Int} {f f' : Int → Int} (hw : w.length ≤ 6) (h : ogQ ps k s w m f) (g : ogQ ps k s w m' f') : 0 ≤ m ∧ m ≤ 6 ∧ m' = m ∧ ∀ i : Int, 0 ≤ i → i < m → f i = f' i := by
  have hl := rps_len (sts ps (ps k).2.1).2 (sts ps k).2 w
  rcases h with ⟨h0, h1, h2⟩ | ⟨h0, h1⟩
  · rcases g with ⟨g0, g1, g2⟩ | ⟨g0, g1⟩
    · refine ⟨by omega, by omega, by omega, fun i i0 i1 => ?_⟩
      have e : i = ((i.toNat : Nat) : Int) := by omega
      rw [e, h2 i.toNat (by omega), g2 i.toNat (by omega)]
    · exact absurd h0 g0
  · rcases g with ⟨g0, g1, g2⟩ | ⟨g0, g1⟩
    · exact absurd g0 h0
    · refine ⟨by omega, by omega, by omega, fun i i0 i1 => by omega⟩
theorem lv16 {ps : List (prt × Nat)} {a : Nat} {ls : List Nat} {x : lne} (h : Rch x s0 (7, a, ps, ls, [])) (h16 : x.1 ≤ 16) : 1 ≤ ps.length ∧ lv (pgo (psf ps)) (ps.length - 1) ≤ 16 := by
  have hi := inv_Rch h (inv_s0 x)
  have h1 : a ≤ x.1 := hi.1
  have h2 : hd ls + 1 = ps.length := hi.2.2.2.2.1 (show 1 ≤ 7 by decide) (show (7 : Nat) ≠ 6 by decide)
  have h3 : LSs ps ls ≤ a := hi.2.2.2.2.2.2.2.1
  have h4 : ls.length = 1 := hi.2.2.2.2.2.2.2.2 rfl
  match ls, h4 with
  | [p], _ =>
    have e : hd [p] = p := rfl
    rw [LSs_cons] at h3
    rw [e] at h2
    rw [show ps.length - 1 = p by omega]
    exact ⟨by omega, by omega⟩
/-- both compiled -/
theorem Iv_cm {M M1 M2 : mm} {x : lne} {b1 b2 : Nat} (hB : Bv M x b1 b2) (hP : Pv M b1) (hO : Ov M) (hN : Nv M) {r r' : Int} (f1 : Fcm b2 M M1) (c1 : cmO x r (M1.1 0 6) (M1.1 0 7)) (a1 : (r ≠ 0 ∧ M1.2.2 0 = M.2.2 0 ∧ M1.1 0 5 = M.1 0 5 ∧ M1.1 0 8 = M.1 0 8 ∧ M1.1 0 10 = M.1 0 10) ∨ (r = 0 ∧ M1.2.2 0 3 = b2 ∧ M1.2.2 0 4 = b1 ∧ M1.1 0 5 = 1 ∧ M1.1 0 8 = -1 ∧ M1.1 0 10 = 0 ∧ ∃ a ps ls, Rch x s0 (7, a, ps, ls, []) ∧ cls b2 M1 (psf ps) ps.length ∧ M1.2.2 b2 5 = b2 + 3 + 9 * (ps.length - 1))) (f2 : Fmc M1 M2) (z4 : M2.1 572 4 = 0) (c2 : cmO x r' (M2.1 572 30) (M2.1 572 31)) (a2 : (r' ≠ 0 ∧ Kmc M1 M2) ∨ (r' = 0 ∧ M2.1 572 5 = 1 ∧ M2.1 572 32 = -1 ∧ M2.1 572 35 = 0 ∧ ∃ a ps ls, Rch x s0 (7, a, ps, ls, []) ∧ mdl M2 (psf ps) ps.length ∧ M2.1 572 6 = (ps.length : Int))) : r = r' ∧ Iv M2 := by
  obtain ⟨er, ef, ed⟩ := cmO_uniq c1 c2
  refine ⟨er, ?_⟩
  subst er
  obtain ⟨h1, h2, h3, h4, h5, h6, h7, h8, h9⟩ := hB
  have g1 := isG_lt h5
  have g2 := isG_lt h6
  have gd : ∀ a, b1 ≤ a → a < b1 + 282 → ¬ (b2 ≤ a ∧ a < b2 + 282) := by
    intro a q1 q2
    rcases h5 with e | e <;> rcases h6 with e' | e' <;> omega
  have o1 : ∀ a, 569 ≤ a → M1.1 a = M.1 a ∧ M1.2.1 a = M.2.1 a ∧ M1.2.2 a = M.2.2 a := fun a q => f1.1 a (by omega) (by omega) (by omega) (by omega) (by omega)
  have r0 : ∀ y : lne, y.1 = 0 → rLn M2 y ∧ cLn M2 y := by
    intro y hy
    refine ⟨⟨by omega, by rw [z4, hy]; rfl, fun i hi => by omega⟩, ⟨?_, fun i hi => by omega⟩⟩
    rw [f2.1 0 (by decide), f1.2.2, hy]; rfl
  have hN2 : Nv M2 := by
    unfold Nv
    rw [f2.1 0 (by decide), f1.2.1, f2.2.2.2.2, (o1 572 (by decide)).1, f2.2.2.1 571 (.inl (by decide)), f2.2.2.1 594 (.inr rfl), (o1 571 (by decide)).2.1, (o1 594 (by decide)).2.1]
    exact hN
  have hz := r0 (0, fun _ => 0) rfl
  rcases a1 with ⟨hr, s1, s2, s3, s4⟩ | ⟨hr, s1, s2, s3, s4, s5, a, ps, ls, hR, hcl, hrt⟩
  · rcases a2 with ⟨hr', t⟩ | ⟨hr', t⟩
    · obtain ⟨t1, t2, t3, t4, t5, t6⟩ := t
      refine ⟨(0, fun _ => 0), b1, b2, ⟨hz.1, hz.2, ?_, ?_, h5, h6, h7, ?_, ?_⟩, ?_, ?_, hN2⟩
      · rw [f2.2.2.2.1, s1]; exact h3
      · rw [f2.2.2.2.1, s1]; exact h4
      · rw [f2.1 0 (by decide)]; exact ef
      · rw [f2.1 0 (by decide)]; exact ed
      · rcases hP with hp | ⟨p1, p2, qs, k, ⟨q1, q2, q3, q4, q5⟩, hk⟩
        · refine .inl ⟨?_, ?_⟩
          · rw [f2.1 0 (by decide), s2]; exact hp.1
          · rw [t3, (o1 572 (by decide)).1]; exact hp.2
        · refine .inr ⟨?_, ?_, qs, k, ⟨?_, ?_, ?_, ?_, q5⟩, ?_⟩
          · rw [f2.1 0 (by decide), s2]; exact p1
          · rw [t3, (o1 572 (by decide)).1]; exact p2
          · refine cls_of q1 (fun a u1 u2 => ?_)
            have v := f1.1 a (by omega) (by omega) (by omega) (by omega) (gd a u1 u2)
            exact ⟨(f2.1 a (by omega)).trans v.1, (f2.2.2.1 a (.inl (by omega))).trans v.2.1, by rw [f2.2.2.2.1]; exact v.2.2⟩
          · refine ⟨q2.1, fun q hq => ?_⟩
            have v := q2.2 q hq
            rw [t1 576 (by decide) (by decide), t1 577 (by decide) (by decide), t1 578 (by decide) (by decide), t1 579 (by decide) (by decide), t2 580 (.inl rfl), t2 581 (.inr rfl), (o1 576 (by decide)).1, (o1 577 (by decide)).1, (o1 578 (by decide)).1, (o1 579 (by decide)).1, (o1 580 (by decide)).2.1, (o1 581 (by decide)).2.1]
            exact v
          · rw [t4, (o1 572 (by decide)).1]; exact q3
          · rw [f2.2.2.2.1, (f1.1 b1 (by omega) (by omega) (by omega) (by omega) (gd b1 (by omega) (by omega))).2.2]; exact q4
          · unfold Kv; rw [f2.1 0 (by decide), s3, t5, (o1 572 (by decide)).1]; exact hk
      · unfold Ov; rw [f2.1 0 (by decide), s4, t6, (o1 572 (by decide)).1, f2.1 569 (by decide), (o1 569 (by decide)).1, f2.2.1, (o1 595 (by decide)).1]; exact hO
    · exact absurd hr' hr
  · rcases a2 with ⟨hr', t⟩ | ⟨hr', t1, t2, t3, a', ps', ls', hR', hml, h6c⟩
    · exact absurd hr hr'
    · have e := Rch_fin hR hR' (show 6 ≤ 7 by decide) (show 6 ≤ 7 by decide)
      have ep : ps = ps' := congrArg (fun s : pst => s.2.2.1) e
      subst ep
      obtain ⟨l1, l2⟩ := lv16 hR h1.1
      obtain ⟨k, ek⟩ : ∃ k, ps.length = k + 1 := ⟨ps.length - 1, by omega⟩
      have ek' : ps.length - 1 = k := by omega
      rw [ek'] at l2 hrt
      rw [ek] at hcl hml h6c
      refine ⟨(0, fun _ => 0), b2, b1, ⟨hz.1, hz.2, by rw [f2.2.2.2.1]; exact s1, by rw [f2.2.2.2.1]; exact s2, h6, h5, fun e => h7 e.symm, by rw [f2.1 0 (by decide)]; exact ef, by rw [f2.1 0 (by decide)]; exact ed⟩, .inr ⟨by rw [f2.1 0 (by decide)]; exact s3, t1, psf ps, k, ⟨?_, hml, h6c, by rw [f2.2.2.2.1]; exact hrt, l2⟩, .inl ⟨by rw [f2.1 0 (by decide)]; exact s4, t2⟩⟩, ⟨0, by decide, by decide, by rw [f2.1 0 (by decide)]; exact s5, t3, fun i i0 i1 => by omega⟩, hN2⟩
      exact cls_of hcl (fun a u1 u2 => ⟨f2.1 a (by omega), f2.2.2.1 a (.inl (by omega)), by rw [f2.2.2.2.1]⟩)
