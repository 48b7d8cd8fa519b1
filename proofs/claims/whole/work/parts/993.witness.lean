/-! OURS, printed by wip/tools/gen993.py: what a run comes to can be named. -/
section Wit
variable {G : ab_G}
/-- some end, and a run to it -/
def ab_N (G : ab_G) (E : ab_E) (j : Nat) (Q : ab_Q) : ab_P := fun pc ls st h => ∃ r h', ab_W G E j (fun r' h'' => r' = r ∧ h'' = h') pc ls st h ∧ Q r h'
def ab_Ew (E : ab_E) : Prop := ∀ j as h (Q : ab_Q), E j as h Q → ∃ r h', E j as h (fun r' h'' => r' = r ∧ h'' = h') ∧ Q r h' 
theorem wt_Rcst {E : ab_E} {j : Nat} {Q : ab_Q} : ab_Rcst G j (ab_N G E j Q) := fun v0 v1 v2 v3 v4 v5 v6 p0 p1 ⟨r, h', hW, hQ⟩ => ⟨r, h', fun P hC => hC.1.1 v0 v1 v2 v3 v4 v5 v6 p0 p1 (hW P hC), hQ⟩
theorem wt_Rld {E : ab_E} {j : Nat} {Q : ab_Q} : ab_Rld G j (ab_N G E j Q) := fun v0 v1 v2 v3 v4 v5 v6 v7 v8 p0 p1 p2 p3 ⟨r, h', hW, hQ⟩ => ⟨r, h', fun P hC => hC.1.2.1 v0 v1 v2 v3 v4 v5 v6 v7 v8 p0 p1 p2 p3 (hW P hC), hQ⟩
theorem wt_Rst {E : ab_E} {j : Nat} {Q : ab_Q} : ab_Rst G j (ab_N G E j Q) := fun v0 v1 v2 v3 v4 v5 v6 v7 v8 p0 p1 p2 p3 ⟨r, h', hW, hQ⟩ => ⟨r, h', fun P hC => hC.1.2.2.1 v0 v1 v2 v3 v4 v5 v6 v7 v8 p0 p1 p2 p3 (hW P hC), hQ⟩
theorem wt_Rsl {E : ab_E} {j : Nat} {Q : ab_Q} : ab_Rsl G j (ab_N G E j Q) := fun v0 v1 v2 v3 v4 v5 v6 v7 p0 p1 p2 ⟨r, h', hW, hQ⟩ => ⟨r, h', fun P hC => hC.1.2.2.2.1 v0 v1 v2 v3 v4 v5 v6 v7 p0 p1 p2 (hW P hC), hQ⟩
theorem wt_Rinc {E : ab_E} {j : Nat} {Q : ab_Q} : ab_Rinc G j (ab_N G E j Q) := fun v0 v1 v2 v3 v4 v5 v6 p0 p1 p2 ⟨r, h', hW, hQ⟩ => ⟨r, h', fun P hC => hC.1.2.2.2.2.1 v0 v1 v2 v3 v4 v5 v6 p0 p1 p2 (hW P hC), hQ⟩
theorem wt_Rbin {E : ab_E} {j : Nat} {Q : ab_Q} : ab_Rbin G j (ab_N G E j Q) := fun v0 v1 v2 v3 v4 v5 v6 v7 p0 p1 ⟨r, h', hW, hQ⟩ => ⟨r, h', fun P hC => hC.1.2.2.2.2.2.1 v0 v1 v2 v3 v4 v5 v6 v7 p0 p1 (hW P hC), hQ⟩
theorem wt_Rdiv {E : ab_E} {j : Nat} {Q : ab_Q} : ab_Rdiv G j (ab_N G E j Q) := fun v0 v1 v2 v3 v4 v5 p0 p1 ⟨r, h', hW, hQ⟩ => ⟨r, h', fun P hC => hC.1.2.2.2.2.2.2.1 v0 v1 v2 v3 v4 v5 p0 p1 (hW P hC), hQ⟩
theorem wt_Rrem {E : ab_E} {j : Nat} {Q : ab_Q} : ab_Rrem G j (ab_N G E j Q) := fun v0 v1 v2 v3 v4 v5 p0 p1 ⟨r, h', hW, hQ⟩ => ⟨r, h', fun P hC => hC.1.2.2.2.2.2.2.2.1 v0 v1 v2 v3 v4 v5 p0 p1 (hW P hC), hQ⟩
theorem wt_Rlbn {E : ab_E} {j : Nat} {Q : ab_Q} : ab_Rlbn G j (ab_N G E j Q) := fun v0 v1 v2 v3 v4 v5 v6 v7 p0 p1 ⟨r, h', hW, hQ⟩ => ⟨r, h', fun P hC => hC.1.2.2.2.2.2.2.2.2.1 v0 v1 v2 v3 v4 v5 v6 v7 p0 p1 (hW P hC), hQ⟩
theorem wt_Rlsh {E : ab_E} {j : Nat} {Q : ab_Q} : ab_Rlsh G j (ab_N G E j Q) := fun v0 v1 v2 v3 v4 v5 v6 v7 p0 p1 ⟨r, h', hW, hQ⟩ => ⟨r, h', fun P hC => hC.1.2.2.2.2.2.2.2.2.2.1 v0 v1 v2 v3 v4 v5 v6 v7 p0 p1 (hW P hC), hQ⟩
theorem wt_Run {E : ab_E} {j : Nat} {Q : ab_Q} : ab_Run G j (ab_N G E j Q) := fun v0 v1 v2 v3 v4 v5 v6 p0 p1 ⟨r, h', hW, hQ⟩ => ⟨r, h', fun P hC => hC.1.2.2.2.2.2.2.2.2.2.2.1 v0 v1 v2 v3 v4 v5 v6 p0 p1 (hW P hC), hQ⟩
theorem wt_Rcmp {E : ab_E} {j : Nat} {Q : ab_Q} : ab_Rcmp G j (ab_N G E j Q) := fun v0 v1 v2 v3 v4 v5 p0 ⟨r, h', hW, hQ⟩ => ⟨r, h', fun P hC => hC.1.2.2.2.2.2.2.2.2.2.2.2.1 v0 v1 v2 v3 v4 v5 p0 (hW P hC), hQ⟩
theorem wt_Rdup {E : ab_E} {j : Nat} {Q : ab_Q} : ab_Rdup G j (ab_N G E j Q) := fun v0 v1 v2 v3 v4 p0 p1 ⟨r, h', hW, hQ⟩ => ⟨r, h', fun P hC => hC.1.2.2.2.2.2.2.2.2.2.2.2.2.1 v0 v1 v2 v3 v4 p0 p1 (hW P hC), hQ⟩
theorem wt_Rdp2 {E : ab_E} {j : Nat} {Q : ab_Q} : ab_Rdp2 G j (ab_N G E j Q) := fun v0 v1 v2 v3 v4 v5 p0 p1 p2 ⟨r, h', hW, hQ⟩ => ⟨r, h', fun P hC => hC.1.2.2.2.2.2.2.2.2.2.2.2.2.2.1 v0 v1 v2 v3 v4 v5 p0 p1 p2 (hW P hC), hQ⟩
theorem wt_Rdpl {E : ab_E} {j : Nat} {Q : ab_Q} : ab_Rdpl G j (ab_N G E j Q) := fun v0 v1 v2 v3 v4 p0 p1 ⟨r, h', hW, hQ⟩ => ⟨r, h', fun P hC => hC.1.2.2.2.2.2.2.2.2.2.2.2.2.2.2.1 v0 v1 v2 v3 v4 p0 p1 (hW P hC), hQ⟩
theorem wt_Rpop {E : ab_E} {j : Nat} {Q : ab_Q} : ab_Rpop G j (ab_N G E j Q) := fun v0 v1 v2 v3 v4 p0 p1 ⟨r, h', hW, hQ⟩ => ⟨r, h', fun P hC => hC.1.2.2.2.2.2.2.2.2.2.2.2.2.2.2.2 v0 v1 v2 v3 v4 p0 p1 (hW P hC), hQ⟩
theorem wt_Rif {E : ab_E} {j : Nat} {Q : ab_Q} : ab_Rif G j (ab_N G E j Q) := by
  intro v0 v1 v2 v3 v4 v5 v6 v7 p0 p1 a b
  by_cases hc : ab_if v4 v7 0
  · obtain ⟨r, h', hW, hQ⟩ := a hc
    exact ⟨r, h', fun P hC => hC.2.1.1 v0 v1 v2 v3 v4 v5 v6 v7 p0 p1 (fun _ => hW P hC) (fun n => absurd hc n), hQ⟩
  · obtain ⟨r, h', hW, hQ⟩ := b hc
    exact ⟨r, h', fun P hC => hC.2.1.1 v0 v1 v2 v3 v4 v5 v6 v7 p0 p1 (fun n => absurd n hc) (fun _ => hW P hC), hQ⟩
theorem wt_Ric {E : ab_E} {j : Nat} {Q : ab_Q} : ab_Ric G j (ab_N G E j Q) := by
  intro v0 v1 v2 v3 v4 v5 v6 v7 v8 p0 p1 a b
  by_cases hc : ab_if v4 v7 v8
  · obtain ⟨r, h', hW, hQ⟩ := a hc
    exact ⟨r, h', fun P hC => hC.2.1.2.1 v0 v1 v2 v3 v4 v5 v6 v7 v8 p0 p1 (fun _ => hW P hC) (fun n => absurd hc n), hQ⟩
  · obtain ⟨r, h', hW, hQ⟩ := b hc
    exact ⟨r, h', fun P hC => hC.2.1.2.1 v0 v1 v2 v3 v4 v5 v6 v7 v8 p0 p1 (fun n => absurd n hc) (fun _ => hW P hC), hQ⟩
theorem wt_Rnu {E : ab_E} {j : Nat} {Q : ab_Q} : ab_Rnu G j (ab_N G E j Q) := by
  intro v0 v1 v2 v3 v4 v5 v6 p0 p1 a b
  cases v6 with
  | none =>
    obtain ⟨r, h', hW, hQ⟩ := a rfl
    exact ⟨r, h', fun P hC => hC.2.1.2.2.1 v0 v1 v2 v3 v4 v5 none p0 p1 (fun _ => hW P hC) (fun _ e => by cases e), hQ⟩
  | some q =>
    obtain ⟨r, h', hW, hQ⟩ := b q rfl
    exact ⟨r, h', fun P hC => hC.2.1.2.2.1 v0 v1 v2 v3 v4 v5 (some q) p0 p1 (fun e => by cases e) (fun _ _ => hW P hC), hQ⟩
theorem wt_Rnn {E : ab_E} {j : Nat} {Q : ab_Q} : ab_Rnn G j (ab_N G E j Q) := by
  intro v0 v1 v2 v3 v4 v5 v6 p0 p1 a b
  cases v6 with
  | none =>
    obtain ⟨r, h', hW, hQ⟩ := a rfl
    exact ⟨r, h', fun P hC => hC.2.1.2.2.2.1 v0 v1 v2 v3 v4 v5 none p0 p1 (fun _ => hW P hC) (fun _ e => by cases e), hQ⟩
  | some q =>
    obtain ⟨r, h', hW, hQ⟩ := b q rfl
    exact ⟨r, h', fun P hC => hC.2.1.2.2.2.1 v0 v1 v2 v3 v4 v5 (some q) p0 p1 (fun e => by cases e) (fun _ _ => hW P hC), hQ⟩
theorem wt_Rac {E : ab_E} {j : Nat} {Q : ab_Q} : ab_Rac G j (ab_N G E j Q) := by
  intro v0 v1 v2 v3 v4 v5 v6 v7 p0 p1 p2 p3 a b
  by_cases hc : ¬ v6 = v7
  · obtain ⟨r, h', hW, hQ⟩ := a hc
    exact ⟨r, h', fun P hC => hC.2.1.2.2.2.2.1 v0 v1 v2 v3 v4 v5 v6 v7 p0 p1 p2 p3 (fun _ => hW P hC) (fun n => absurd n hc), hQ⟩
  · obtain ⟨r, h', hW, hQ⟩ := b (Classical.not_not.mp hc)
    exact ⟨r, h', fun P hC => hC.2.1.2.2.2.2.1 v0 v1 v2 v3 v4 v5 v6 v7 p0 p1 p2 p3 (fun n => absurd n hc) (fun _ => hW P hC), hQ⟩
theorem wt_Rgo {E : ab_E} {j : Nat} {Q : ab_Q} : ab_Rgo G j (ab_N G E j Q) := fun v0 v1 v2 v3 v4 v5 p0 p1 ⟨r, h', hW, hQ⟩ => ⟨r, h', fun P hC => hC.2.1.2.2.2.2.2.1 v0 v1 v2 v3 v4 v5 p0 p1 (hW P hC), hQ⟩
theorem wt_Rtin {E : ab_E} {j : Nat} {Q : ab_Q} : ab_Rtin G j (ab_N G E j Q) := fun v0 v1 v2 v3 v4 v5 v6 v7 v8 v9 v10 p0 p1 p2 p3 p4 ⟨r, h', hW, hQ⟩ => ⟨r, h', fun P hC => hC.2.1.2.2.2.2.2.2.1 v0 v1 v2 v3 v4 v5 v6 v7 v8 v9 v10 p0 p1 p2 p3 p4 (hW P hC), hQ⟩
theorem wt_Rtou {E : ab_E} {j : Nat} {Q : ab_Q} : ab_Rtou G j (ab_N G E j Q) := fun v0 v1 v2 v3 v4 v5 v6 v7 v8 v9 p0 p1 p2 ⟨r, h', hW, hQ⟩ => ⟨r, h', fun P hC => hC.2.1.2.2.2.2.2.2.2.1 v0 v1 v2 v3 v4 v5 v6 v7 v8 v9 p0 p1 p2 (hW P hC), hQ⟩
theorem wt_Rlku {E : ab_E} {j : Nat} {Q : ab_Q} : ab_Rlku G j (ab_N G E j Q) := fun v0 v1 v2 v3 v4 v5 v6 v7 v8 p0 p1 p2 p3 ⟨r, h', hW, hQ⟩ => ⟨r, h', fun P hC => hC.2.1.2.2.2.2.2.2.2.2 v0 v1 v2 v3 v4 v5 v6 v7 v8 p0 p1 p2 p3 (hW P hC), hQ⟩
theorem wt_Rget {E : ab_E} {j : Nat} {Q : ab_Q} : ab_Rget G j (ab_N G E j Q) := fun v0 v1 v2 v3 v4 v5 v6 v7 v8 v9 p0 p1 p2 p3 ⟨r, h', hW, hQ⟩ => ⟨r, h', fun P hC => hC.2.2.1.1 v0 v1 v2 v3 v4 v5 v6 v7 v8 v9 p0 p1 p2 p3 (hW P hC), hQ⟩
theorem wt_Rput {E : ab_E} {j : Nat} {Q : ab_Q} : ab_Rput G j (ab_N G E j Q) := fun v0 v1 v2 v3 v4 v5 v6 v7 v8 v9 v10 p0 p1 p2 p3 p4 p5 p6 ⟨r, h', hW, hQ⟩ => ⟨r, h', fun P hC => hC.2.2.1.2.1 v0 v1 v2 v3 v4 v5 v6 v7 v8 v9 v10 p0 p1 p2 p3 p4 p5 p6 (hW P hC), hQ⟩
theorem wt_Rsta {E : ab_E} {j : Nat} {Q : ab_Q} : ab_Rsta G j (ab_N G E j Q) := fun v0 v1 v2 v3 v4 v5 p0 p1 ⟨r, h', hW, hQ⟩ => ⟨r, h', fun P hC => hC.2.2.1.2.2.1 v0 v1 v2 v3 v4 v5 p0 p1 (hW P hC), hQ⟩
theorem wt_Rkld {E : ab_E} {j : Nat} {Q : ab_Q} : ab_Rkld G j (ab_N G E j Q) := fun v0 v1 v2 v3 v4 v5 v6 v7 p0 p1 p2 ⟨r, h', hW, hQ⟩ => ⟨r, h', fun P hC => hC.2.2.1.2.2.2.1 v0 v1 v2 v3 v4 v5 v6 v7 p0 p1 p2 (hW P hC), hQ⟩
theorem wt_Rkln {E : ab_E} {j : Nat} {Q : ab_Q} : ab_Rkln G j (ab_N G E j Q) := fun v0 v1 v2 v3 v4 v5 v6 p0 p1 ⟨r, h', hW, hQ⟩ => ⟨r, h', fun P hC => hC.2.2.1.2.2.2.2.1 v0 v1 v2 v3 v4 v5 v6 p0 p1 (hW P hC), hQ⟩
theorem wt_Rild {E : ab_E} {j : Nat} {Q : ab_Q} : ab_Rild G j (ab_N G E j Q) := fun v0 v1 v2 v3 v4 v5 v6 v7 v8 p0 p1 p2 p3 ⟨r, h', hW, hQ⟩ => ⟨r, h', fun P hC => hC.2.2.1.2.2.2.2.2.1 v0 v1 v2 v3 v4 v5 v6 v7 v8 p0 p1 p2 p3 (hW P hC), hQ⟩
theorem wt_Rcld {E : ab_E} {j : Nat} {Q : ab_Q} : ab_Rcld G j (ab_N G E j Q) := fun v0 v1 v2 v3 v4 v5 v6 v7 v8 p0 p1 p2 p3 ⟨r, h', hW, hQ⟩ => ⟨r, h', fun P hC => hC.2.2.1.2.2.2.2.2.2.1 v0 v1 v2 v3 v4 v5 v6 v7 v8 p0 p1 p2 p3 (hW P hC), hQ⟩
theorem wt_Rlld {E : ab_E} {j : Nat} {Q : ab_Q} : ab_Rlld G j (ab_N G E j Q) := fun v0 v1 v2 v3 v4 v5 v6 v7 v8 p0 p1 p2 p3 ⟨r, h', hW, hQ⟩ => ⟨r, h', fun P hC => hC.2.2.1.2.2.2.2.2.2.2.1 v0 v1 v2 v3 v4 v5 v6 v7 v8 p0 p1 p2 p3 (hW P hC), hQ⟩
theorem wt_Rald {E : ab_E} {j : Nat} {Q : ab_Q} : ab_Rald G j (ab_N G E j Q) := fun v0 v1 v2 v3 v4 v5 v6 v7 v8 v9 p0 p1 p2 p3 ⟨r, h', hW, hQ⟩ => ⟨r, h', fun P hC => hC.2.2.1.2.2.2.2.2.2.2.2.1 v0 v1 v2 v3 v4 v5 v6 v7 v8 v9 p0 p1 p2 p3 (hW P hC), hQ⟩
theorem wt_Rist {E : ab_E} {j : Nat} {Q : ab_Q} : ab_Rist G j (ab_N G E j Q) := fun v0 v1 v2 v3 v4 v5 v6 v7 v8 v9 p0 p1 p2 p3 ⟨r, h', hW, hQ⟩ => ⟨r, h', fun P hC => hC.2.2.1.2.2.2.2.2.2.2.2.2.1 v0 v1 v2 v3 v4 v5 v6 v7 v8 v9 p0 p1 p2 p3 (hW P hC), hQ⟩
theorem wt_Rcts {E : ab_E} {j : Nat} {Q : ab_Q} : ab_Rcts G j (ab_N G E j Q) := fun v0 v1 v2 v3 v4 v5 v6 v7 v8 v9 p0 p1 p2 p3 ⟨r, h', hW, hQ⟩ => ⟨r, h', fun P hC => hC.2.2.1.2.2.2.2.2.2.2.2.2.2.1 v0 v1 v2 v3 v4 v5 v6 v7 v8 v9 p0 p1 p2 p3 (hW P hC), hQ⟩
theorem wt_Rlst {E : ab_E} {j : Nat} {Q : ab_Q} : ab_Rlst G j (ab_N G E j Q) := fun v0 v1 v2 v3 v4 v5 v6 v7 v8 v9 p0 p1 p2 p3 ⟨r, h', hW, hQ⟩ => ⟨r, h', fun P hC => hC.2.2.1.2.2.2.2.2.2.2.2.2.2.2.1 v0 v1 v2 v3 v4 v5 v6 v7 v8 v9 p0 p1 p2 p3 (hW P hC), hQ⟩
theorem wt_Rast {E : ab_E} {j : Nat} {Q : ab_Q} : ab_Rast G j (ab_N G E j Q) := fun v0 v1 v2 v3 v4 v5 v6 v7 v8 v9 v10 v11 v12 p0 p1 p2 p3 p4 p5 ⟨r, h', hW, hQ⟩ => ⟨r, h', fun P hC => hC.2.2.1.2.2.2.2.2.2.2.2.2.2.2.2.1 v0 v1 v2 v3 v4 v5 v6 v7 v8 v9 v10 v11 v12 p0 p1 p2 p3 p4 p5 (hW P hC), hQ⟩
theorem wt_Rlen {E : ab_E} {j : Nat} {Q : ab_Q} : ab_Rlen G j (ab_N G E j Q) := fun v0 v1 v2 v3 v4 v5 v6 v7 p0 p1 p2 ⟨r, h', hW, hQ⟩ => ⟨r, h', fun P hC => hC.2.2.1.2.2.2.2.2.2.2.2.2.2.2.2.2.1 v0 v1 v2 v3 v4 v5 v6 v7 p0 p1 p2 (hW P hC), hQ⟩
theorem wt_Rnew {E : ab_E} {j : Nat} {Q : ab_Q} : ab_Rnew G j (ab_N G E j Q) := fun v0 v1 v2 v3 v4 v5 v6 p0 p1 p2 p3 p4 ⟨r, h', hW, hQ⟩ => ⟨r, h', fun P hC => hC.2.2.1.2.2.2.2.2.2.2.2.2.2.2.2.2.2.1 v0 v1 v2 v3 v4 v5 v6 p0 p1 p2 p3 p4 (hW P hC), hQ⟩
theorem wt_Rna {E : ab_E} {j : Nat} {Q : ab_Q} : ab_Rna G j (ab_N G E j Q) := fun v0 v1 v2 v3 v4 v5 v6 v7 v8 v9 p0 p1 p2 p3 p4 p5 p6 p7 p8 ⟨r, h', hW, hQ⟩ => ⟨r, h', fun P hC => hC.2.2.1.2.2.2.2.2.2.2.2.2.2.2.2.2.2.2.1 v0 v1 v2 v3 v4 v5 v6 v7 v8 v9 p0 p1 p2 p3 p4 p5 p6 p7 p8 (hW P hC), hQ⟩
theorem wt_Rnq {E : ab_E} {j : Nat} {Q : ab_Q} : ab_Rnq G j (ab_N G E j Q) := fun v0 v1 v2 v3 v4 v5 v6 v7 v8 v9 p0 p1 p2 p3 p4 p5 p6 p7 p8 ⟨r, h', hW, hQ⟩ => ⟨r, h', fun P hC => hC.2.2.1.2.2.2.2.2.2.2.2.2.2.2.2.2.2.2.2.1 v0 v1 v2 v3 v4 v5 v6 v7 v8 v9 p0 p1 p2 p3 p4 p5 p6 p7 p8 (hW P hC), hQ⟩
theorem wt_Rkl {E : ab_E} {j : Nat} {Q : ab_Q} : ab_Rkl G j (ab_N G E j Q) := fun v0 v1 v2 v3 v4 v5 p0 p1 ⟨r, h', hW, hQ⟩ => ⟨r, h', fun P hC => hC.2.2.1.2.2.2.2.2.2.2.2.2.2.2.2.2.2.2.2.2 v0 v1 v2 v3 v4 v5 p0 p1 (hW P hC), hQ⟩
theorem wt_Robj {E : ab_E} {j : Nat} {Q : ab_Q} : ab_Robj G j (ab_N G E j Q) := fun v0 v1 v2 v3 v4 v5 p0 p1 p2 ⟨r, h', hW, hQ⟩ => ⟨r, h', fun P hC => hC.2.2.2.1.1 v0 v1 v2 v3 v4 v5 p0 p1 p2 (hW P hC), hQ⟩
theorem wt_Rcpi {E : ab_E} {j : Nat} {Q : ab_Q} : ab_Rcpi G j (ab_N G E j Q) := fun v0 v1 v2 v3 v4 v5 v6 v7 v8 v9 v10 v11 v12 v13 v14 v15 p0 p1 p2 p3 p4 p5 p6 p7 p8 p9 p10 p11 p12 ⟨r, h', hW, hQ⟩ => ⟨r, h', fun P hC => hC.2.2.2.1.2.1 v0 v1 v2 v3 v4 v5 v6 v7 v8 v9 v10 v11 v12 v13 v14 v15 p0 p1 p2 p3 p4 p5 p6 p7 p8 p9 p10 p11 p12 (hW P hC), hQ⟩
theorem wt_Rcpl {E : ab_E} {j : Nat} {Q : ab_Q} : ab_Rcpl G j (ab_N G E j Q) := fun v0 v1 v2 v3 v4 v5 v6 v7 v8 v9 v10 v11 v12 v13 v14 p0 p1 p2 p3 p4 p5 p6 p7 p8 p9 p10 ⟨r, h', hW, hQ⟩ => ⟨r, h', fun P hC => hC.2.2.2.1.2.2.1 v0 v1 v2 v3 v4 v5 v6 v7 v8 v9 v10 v11 v12 v13 v14 p0 p1 p2 p3 p4 p5 p6 p7 p8 p9 p10 (hW P hC), hQ⟩
theorem wt_Rmax {E : ab_E} {j : Nat} {Q : ab_Q} : ab_Rmax G j (ab_N G E j Q) := fun v0 v1 v2 v3 v4 v5 v6 p0 p1 p2 ⟨r, h', hW, hQ⟩ => ⟨r, h', fun P hC => hC.2.2.2.1.2.2.2.1 v0 v1 v2 v3 v4 v5 v6 p0 p1 p2 (hW P hC), hQ⟩
theorem wt_Rmin {E : ab_E} {j : Nat} {Q : ab_Q} : ab_Rmin G j (ab_N G E j Q) := fun v0 v1 v2 v3 v4 v5 v6 p0 p1 p2 ⟨r, h', hW, hQ⟩ => ⟨r, h', fun P hC => hC.2.2.2.1.2.2.2.2 v0 v1 v2 v3 v4 v5 v6 p0 p1 p2 (hW P hC), hQ⟩
theorem wt_Rcall {E : ab_E} (hE : ab_Em E) (hw : ab_Ew E) {j : Nat} {Q : ab_Q} : ab_Rcall G E j Q (ab_N G E j Q) := by
  intro v0 v1 v2 v3 v4 v5 v6 v7 p0 p1 p2 p3 p4 p5 p6 p7 a
  obtain ⟨r1, h1, hX, hk⟩ := hw _ _ _ _ a
  cases r1 with
  | inl v =>
    obtain ⟨r, h', hW, hQ⟩ := hk
    exact ⟨r, h', fun P hC => hC.2.2.2.2.1 v0 v1 v2 v3 v4 v5 v6 v7 p0 p1 p2 p3 p4 p5 p6 p7 (hE _ _ _ _ _ (fun r'' h'' e => by obtain ⟨rfl, rfl⟩ := e; exact hW P hC) hX), hQ⟩
  | inr x =>
    obtain ⟨ci, fs, hh, hm⟩ := hk
    cases hct : ab_ct G j v0 ci with
    | none => rw [hct] at hm; exact hm.elim
    | some t =>
      rw [hct] at hm
      cases t with
      | zero => exact ⟨.inr x, h1, fun P hC => hC.2.2.2.2.1 v0 v1 v2 v3 v4 v5 v6 v7 p0 p1 p2 p3 p4 p5 p6 p7 (hE _ _ _ _ _ (fun r'' h'' e => by obtain ⟨rfl, rfl⟩ := e; exact ⟨ci, fs, hh, by rw [hct]; exact ⟨rfl, rfl⟩⟩) hX), hm⟩
      | succ t =>
        obtain ⟨r, h', hW, hQ⟩ := hm
        exact ⟨r, h', fun P hC => hC.2.2.2.2.1 v0 v1 v2 v3 v4 v5 v6 v7 p0 p1 p2 p3 p4 p5 p6 p7 (hE _ _ _ _ _ (fun r'' h'' e => by obtain ⟨rfl, rfl⟩ := e; exact ⟨ci, fs, hh, by rw [hct]; exact hW P hC⟩) hX), hQ⟩
theorem wt_Rret {E : ab_E} {j : Nat} {Q : ab_Q} : ab_Rret G j Q (ab_N G E j Q) := fun v0 v1 v2 v3 v4 v5 p0 p1 p2 p3 q => ⟨.inl (some v4), v2, fun P hC => hC.2.2.2.2.2.1 v0 v1 v2 v3 v4 v5 p0 p1 p2 p3 ⟨rfl, rfl⟩, q⟩
theorem wt_Rrtv {E : ab_E} {j : Nat} {Q : ab_Q} : ab_Rrtv G j Q (ab_N G E j Q) := fun v0 v1 v2 p0 p1 q => ⟨.inl none, v2, fun P hC => hC.2.2.2.2.2.2.1 v0 v1 v2 p0 p1 ⟨rfl, rfl⟩, q⟩
theorem wt_Rthr {E : ab_E} {j : Nat} {Q : ab_Q} : ab_Rthr G j Q (ab_N G E j Q) := fun v0 v1 v2 v3 v4 v5 v6 v7 p0 p1 p2 p3 p4 p5 p6 p7 p8 p9 p10 q => ⟨.inr v3.length, v3 ++ [.inr (v5, [])], fun P hC => hC.2.2.2.2.2.2.2 v0 v1 v2 v3 v4 v5 v6 v7 p0 p1 p2 p3 p4 p5 p6 p7 p8 p9 p10 ⟨rfl, rfl⟩, q⟩
theorem ab_wC {E : ab_E} (hE : ab_Em E) (hw : ab_Ew E) {j : Nat} {Q : ab_Q} : ab_C G E j Q (ab_N G E j Q) := ⟨⟨wt_Rcst, wt_Rld, wt_Rst, wt_Rsl, wt_Rinc, wt_Rbin, wt_Rdiv, wt_Rrem, wt_Rlbn, wt_Rlsh, wt_Run, wt_Rcmp, wt_Rdup, wt_Rdp2, wt_Rdpl, wt_Rpop⟩, ⟨wt_Rif, wt_Ric, wt_Rnu, wt_Rnn, wt_Rac, wt_Rgo, wt_Rtin, wt_Rtou, wt_Rlku⟩, ⟨wt_Rget, wt_Rput, wt_Rsta, wt_Rkld, wt_Rkln, wt_Rild, wt_Rcld, wt_Rlld, wt_Rald, wt_Rist, wt_Rcts, wt_Rlst, wt_Rast, wt_Rlen, wt_Rnew, wt_Rna, wt_Rnq, wt_Rkl⟩, ⟨wt_Robj, wt_Rcpi, wt_Rcpl, wt_Rmax, wt_Rmin⟩, ⟨wt_Rcall hE hw, wt_Rret, wt_Rrtv, wt_Rthr⟩⟩
theorem ab_wit : ∀ d, ab_Ew (ab_X G d)
  | 0 => fun _ _ _ _ h => h.elim
  | d + 1 => fun j as h Q hw => hw _ (ab_wC (ab_X_mono d) (ab_wit d))
theorem Z_S {d jj : Nat} {as : List Value} {M : mm} {es : ab_H} {F : Option Value → mm → Prop} (h : ab_Z G d jj as M es F) : ∃ v M', ab_S G d jj as (hp M ++ es) v (hp M' ++ es) ∧ F v M' := by
  obtain ⟨r, h', hX, v, M', e1, e2, hF⟩ := ab_wit d _ _ _ _ h
  subst e1; subst e2
  exact ⟨v, M', hX, hF⟩
end Wit
