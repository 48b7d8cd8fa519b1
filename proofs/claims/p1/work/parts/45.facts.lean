/-! OURS. What the tables' words give at every state that the law's run comes to: fa s0 U says that U is such a state. -/
theorem ck_d_ok : ∀ j, j < 167 → (pg_hd j = [] ∧ TT[pg_cp j]? = some (.code (pg_yn j) (pg_cd j) (pg_n j) (pg_rt j))) ∨ (pg_hd j ≠ [] ∧ TT[pg_cp j]? = some (.codeWith (pg_yn j) (pg_cd j) (pg_n j) (pg_rt j) (pg_hd j))) := by
  intro j hj
  match j, hj with
  | 0, _ => exact Or.inl ⟨rfl, ck_d0⟩
  | 1, _ => exact Or.inl ⟨rfl, ck_d1⟩
  | 2, _ => exact Or.inl ⟨rfl, ck_d2⟩
  | 3, _ => exact Or.inl ⟨rfl, ck_d3⟩
  | 4, _ => exact Or.inl ⟨rfl, ck_d4⟩
  | 5, _ => exact Or.inl ⟨rfl, ck_d5⟩
  | 6, _ => exact Or.inl ⟨rfl, ck_d6⟩
  | 7, _ => exact Or.inl ⟨rfl, ck_d7⟩
  | 8, _ => exact Or.inl ⟨rfl, ck_d8⟩
  | 9, _ => exact Or.inl ⟨rfl, ck_d9⟩
  | 10, _ => exact Or.inl ⟨rfl, ck_d10⟩
  | 11, _ => exact Or.inl ⟨rfl, ck_d11⟩
  | 12, _ => exact Or.inl ⟨rfl, ck_d12⟩
  | 13, _ => exact Or.inl ⟨rfl, ck_d13⟩
  | 14, _ => exact Or.inl ⟨rfl, ck_d14⟩
  | 15, _ => exact Or.inl ⟨rfl, ck_d15⟩
  | 16, _ => exact Or.inl ⟨rfl, ck_d16⟩
  | 17, _ => exact Or.inl ⟨rfl, ck_d17⟩
  | 18, _ => exact Or.inl ⟨rfl, ck_d18⟩
  | 19, _ => exact Or.inl ⟨rfl, ck_d19⟩
  | 20, _ => exact Or.inl ⟨rfl, ck_d20⟩
  | 21, _ => exact Or.inl ⟨rfl, ck_d21⟩
  | 22, _ => exact Or.inl ⟨rfl, ck_d22⟩
  | 23, _ => exact Or.inl ⟨rfl, ck_d23⟩
  | 24, _ => exact Or.inl ⟨rfl, ck_d24⟩
  | 25, _ => exact Or.inl ⟨rfl, ck_d25⟩
  | 26, _ => exact Or.inl ⟨rfl, ck_d26⟩
  | 27, _ => exact Or.inl ⟨rfl, ck_d27⟩
  | 28, _ => exact Or.inl ⟨rfl, ck_d28⟩
  | 29, _ => exact Or.inl ⟨rfl, ck_d29⟩
  | 30, _ => exact Or.inl ⟨rfl, ck_d30⟩
  | 31, _ => exact Or.inl ⟨rfl, ck_d31⟩
  | 32, _ => exact Or.inl ⟨rfl, ck_d32⟩
  | 33, _ => exact Or.inl ⟨rfl, ck_d33⟩
  | 34, _ => exact Or.inl ⟨rfl, ck_d34⟩
  | 35, _ => exact Or.inl ⟨rfl, ck_d35⟩
  | 36, _ => exact Or.inl ⟨rfl, ck_d36⟩
  | 37, _ => exact Or.inl ⟨rfl, ck_d37⟩
  | 38, _ => exact Or.inl ⟨rfl, ck_d38⟩
  | 39, _ => exact Or.inl ⟨rfl, ck_d39⟩
  | 40, _ => exact Or.inl ⟨rfl, ck_d40⟩
  | 41, _ => exact Or.inl ⟨rfl, ck_d41⟩
  | 42, _ => exact Or.inl ⟨rfl, ck_d42⟩
  | 43, _ => exact Or.inl ⟨rfl, ck_d43⟩
  | 44, _ => exact Or.inl ⟨rfl, ck_d44⟩
  | 45, _ => exact Or.inl ⟨rfl, ck_d45⟩
  | 46, _ => exact Or.inl ⟨rfl, ck_d46⟩
  | 47, _ => exact Or.inl ⟨rfl, ck_d47⟩
  | 48, _ => exact Or.inl ⟨rfl, ck_d48⟩
  | 49, _ => exact Or.inl ⟨rfl, ck_d49⟩
  | 50, _ => exact Or.inr ⟨List.cons_ne_nil _ _, ck_d50⟩
  | 51, _ => exact Or.inl ⟨rfl, ck_d51⟩
  | 52, _ => exact Or.inl ⟨rfl, ck_d52⟩
  | 53, _ => exact Or.inr ⟨List.cons_ne_nil _ _, ck_d53⟩
  | 54, _ => exact Or.inl ⟨rfl, ck_d54⟩
  | 55, _ => exact Or.inl ⟨rfl, ck_d55⟩
  | 56, _ => exact Or.inl ⟨rfl, ck_d56⟩
  | 57, _ => exact Or.inr ⟨List.cons_ne_nil _ _, ck_d57⟩
  | 58, _ => exact Or.inl ⟨rfl, ck_d58⟩
  | 59, _ => exact Or.inl ⟨rfl, ck_d59⟩
  | 60, _ => exact Or.inr ⟨List.cons_ne_nil _ _, ck_d60⟩
  | 61, _ => exact Or.inl ⟨rfl, ck_d61⟩
  | 62, _ => exact Or.inr ⟨List.cons_ne_nil _ _, ck_d62⟩
  | 63, _ => exact Or.inl ⟨rfl, ck_d63⟩
  | 64, _ => exact Or.inl ⟨rfl, ck_d64⟩
  | 65, _ => exact Or.inl ⟨rfl, ck_d65⟩
  | 66, _ => exact Or.inl ⟨rfl, ck_d66⟩
  | 67, _ => exact Or.inl ⟨rfl, ck_d67⟩
  | 68, _ => exact Or.inl ⟨rfl, ck_d68⟩
  | 69, _ => exact Or.inl ⟨rfl, ck_d69⟩
  | 70, _ => exact Or.inl ⟨rfl, ck_d70⟩
  | 71, _ => exact Or.inl ⟨rfl, ck_d71⟩
  | 72, _ => exact Or.inr ⟨List.cons_ne_nil _ _, ck_d72⟩
  | 73, _ => exact Or.inl ⟨rfl, ck_d73⟩
  | 74, _ => exact Or.inr ⟨List.cons_ne_nil _ _, ck_d74⟩
  | 75, _ => exact Or.inl ⟨rfl, ck_d75⟩
  | 76, _ => exact Or.inl ⟨rfl, ck_d76⟩
  | 77, _ => exact Or.inl ⟨rfl, ck_d77⟩
  | 78, _ => exact Or.inl ⟨rfl, ck_d78⟩
  | 79, _ => exact Or.inl ⟨rfl, ck_d79⟩
  | 80, _ => exact Or.inl ⟨rfl, ck_d80⟩
  | 81, _ => exact Or.inl ⟨rfl, ck_d81⟩
  | 82, _ => exact Or.inl ⟨rfl, ck_d82⟩
  | 83, _ => exact Or.inl ⟨rfl, ck_d83⟩
  | 84, _ => exact Or.inl ⟨rfl, ck_d84⟩
  | 85, _ => exact Or.inl ⟨rfl, ck_d85⟩
  | 86, _ => exact Or.inl ⟨rfl, ck_d86⟩
  | 87, _ => exact Or.inl ⟨rfl, ck_d87⟩
  | 88, _ => exact Or.inl ⟨rfl, ck_d88⟩
  | 89, _ => exact Or.inl ⟨rfl, ck_d89⟩
  | 90, _ => exact Or.inl ⟨rfl, ck_d90⟩
  | 91, _ => exact Or.inl ⟨rfl, ck_d91⟩
  | 92, _ => exact Or.inl ⟨rfl, ck_d92⟩
  | 93, _ => exact Or.inr ⟨List.cons_ne_nil _ _, ck_d93⟩
  | 94, _ => exact Or.inl ⟨rfl, ck_d94⟩
  | 95, _ => exact Or.inr ⟨List.cons_ne_nil _ _, ck_d95⟩
  | 96, _ => exact Or.inl ⟨rfl, ck_d96⟩
  | 97, _ => exact Or.inr ⟨List.cons_ne_nil _ _, ck_d97⟩
  | 98, _ => exact Or.inl ⟨rfl, ck_d98⟩
  | 99, _ => exact Or.inr ⟨List.cons_ne_nil _ _, ck_d99⟩
  | 100, _ => exact Or.inl ⟨rfl, ck_d100⟩
  | 101, _ => exact Or.inl ⟨rfl, ck_d101⟩
  | 102, _ => exact Or.inl ⟨rfl, ck_d102⟩
  | 103, _ => exact Or.inl ⟨rfl, ck_d103⟩
  | 104, _ => exact Or.inl ⟨rfl, ck_d104⟩
  | 105, _ => exact Or.inl ⟨rfl, ck_d105⟩
  | 106, _ => exact Or.inl ⟨rfl, ck_d106⟩
  | 107, _ => exact Or.inl ⟨rfl, ck_d107⟩
  | 108, _ => exact Or.inl ⟨rfl, ck_d108⟩
  | 109, _ => exact Or.inl ⟨rfl, ck_d109⟩
  | 110, _ => exact Or.inl ⟨rfl, ck_d110⟩
  | 111, _ => exact Or.inl ⟨rfl, ck_d111⟩
  | 112, _ => exact Or.inl ⟨rfl, ck_d112⟩
  | 113, _ => exact Or.inl ⟨rfl, ck_d113⟩
  | 114, _ => exact Or.inl ⟨rfl, ck_d114⟩
  | 115, _ => exact Or.inl ⟨rfl, ck_d115⟩
  | 116, _ => exact Or.inl ⟨rfl, ck_d116⟩
  | 117, _ => exact Or.inl ⟨rfl, ck_d117⟩
  | 118, _ => exact Or.inl ⟨rfl, ck_d118⟩
  | 119, _ => exact Or.inl ⟨rfl, ck_d119⟩
  | 120, _ => exact Or.inl ⟨rfl, ck_d120⟩
  | 121, _ => exact Or.inl ⟨rfl, ck_d121⟩
  | 122, _ => exact Or.inl ⟨rfl, ck_d122⟩
  | 123, _ => exact Or.inl ⟨rfl, ck_d123⟩
  | 124, _ => exact Or.inl ⟨rfl, ck_d124⟩
  | 125, _ => exact Or.inl ⟨rfl, ck_d125⟩
  | 126, _ => exact Or.inl ⟨rfl, ck_d126⟩
  | 127, _ => exact Or.inl ⟨rfl, ck_d127⟩
  | 128, _ => exact Or.inl ⟨rfl, ck_d128⟩
  | 129, _ => exact Or.inl ⟨rfl, ck_d129⟩
  | 130, _ => exact Or.inl ⟨rfl, ck_d130⟩
  | 131, _ => exact Or.inl ⟨rfl, ck_d131⟩
  | 132, _ => exact Or.inl ⟨rfl, ck_d132⟩
  | 133, _ => exact Or.inl ⟨rfl, ck_d133⟩
  | 134, _ => exact Or.inl ⟨rfl, ck_d134⟩
  | 135, _ => exact Or.inl ⟨rfl, ck_d135⟩
  | 136, _ => exact Or.inl ⟨rfl, ck_d136⟩
  | 137, _ => exact Or.inl ⟨rfl, ck_d137⟩
  | 138, _ => exact Or.inl ⟨rfl, ck_d138⟩
  | 139, _ => exact Or.inl ⟨rfl, ck_d139⟩
  | 140, _ => exact Or.inl ⟨rfl, ck_d140⟩
  | 141, _ => exact Or.inl ⟨rfl, ck_d141⟩
  | 142, _ => exact Or.inl ⟨rfl, ck_d142⟩
  | 143, _ => exact Or.inl ⟨rfl, ck_d143⟩
  | 144, _ => exact Or.inl ⟨rfl, ck_d144⟩
  | 145, _ => exact Or.inl ⟨rfl, ck_d145⟩
  | 146, _ => exact Or.inl ⟨rfl, ck_d146⟩
  | 147, _ => exact Or.inl ⟨rfl, ck_d147⟩
  | 148, _ => exact Or.inl ⟨rfl, ck_d148⟩
  | 149, _ => exact Or.inl ⟨rfl, ck_d149⟩
  | 150, _ => exact Or.inl ⟨rfl, ck_d150⟩
  | 151, _ => exact Or.inl ⟨rfl, ck_d151⟩
  | 152, _ => exact Or.inl ⟨rfl, ck_d152⟩
  | 153, _ => exact Or.inl ⟨rfl, ck_d153⟩
  | 154, _ => exact Or.inl ⟨rfl, ck_d154⟩
  | 155, _ => exact Or.inl ⟨rfl, ck_d155⟩
  | 156, _ => exact Or.inl ⟨rfl, ck_d156⟩
  | 157, _ => exact Or.inl ⟨rfl, ck_d157⟩
  | 158, _ => exact Or.inl ⟨rfl, ck_d158⟩
  | 159, _ => exact Or.inl ⟨rfl, ck_d159⟩
  | 160, _ => exact Or.inl ⟨rfl, ck_d160⟩
  | 161, _ => exact Or.inl ⟨rfl, ck_d161⟩
  | 162, _ => exact Or.inl ⟨rfl, ck_d162⟩
  | 163, _ => exact Or.inl ⟨rfl, ck_d163⟩
  | 164, _ => exact Or.inl ⟨rfl, ck_d164⟩
  | 165, _ => exact Or.inl ⟨rfl, ck_d165⟩
  | 166, _ => exact Or.inl ⟨rfl, ck_d166⟩
  | k + 167, h => omega

def fa (s0 U : State) : Prop := s0.WarmedH U.vm ∧ ∀ q, q < s0.heap.size → U.heap[q]? = s0.heap[q]?
theorem fa_mv {s0 s U : State} (h : fa s0 s) (hW : s.WarmedH U.vm) (hq : ∀ q, q < s0.heap.size → U.heap[q]? = s.heap[q]?) : fa s0 U := ⟨State.WarmedH.trans h.1 hW, fun q hl => (hq q hl).trans (h.2 q hl)⟩
theorem fa_rf (s0 : State) : fa s0 s0 := ⟨State.WarmedH.refl s0, fun _ _ => rfl⟩
theorem fa_at {s0 : State} {a0 : Array Value} (h0 : ∀ w ∈ TT, w.before a0 s0 = true) {w : Cond} {i : Nat} (hi : TT[i]? = some w) (hg : goodWord w = true) {U : State} (hU : fa s0 U) {args : Array Value} : w.before args U = true := word_at hU.1 (good_of_word hg) (h0 w (List.mem_of_getElem? hi))
theorem fa_nf {s0 : State} {a0 : Array Value} (h0 : ∀ w ∈ TT, w.before a0 s0 = true) {i : Nat} {a b n d h : String} {k : Nat} (hi : TT[i]? = some (.fieldLinkNest a k b n d h)) {U : State} (hU : fa s0 U) {args : Array Value} : (Cond.fieldLinkNest a k b n d h).before args U = true := va_Nw.use rfl (va_Nw.warmF hU.1 (va_Nw.of rfl (h0 _ (List.mem_of_getElem? hi))))
theorem fa_nm {s0 : State} {a0 : Array Value} (h0 : ∀ w ∈ TT, w.before a0 s0 = true) {i : Nat} {a h : String} {y : MethodName} {k : Nat} (hi : TT[i]? = some (.methodLinkNest a k y h)) {U : State} (hU : fa s0 U) {args : Array Value} : (Cond.methodLinkNest a k y h).before args U = true := va_Nw.use rfl (va_Nw.warmM hU.1 (va_Nw.of rfl (h0 _ (List.mem_of_getElem? hi))))
theorem fa_de {s0 : State} {a0 : Array Value} (h0 : ∀ w ∈ TT, w.before a0 s0 = true) {y : MethodName} (hi : Cond.declares y ∈ TT) {U : State} (hU : fa s0 U) {args : Array Value} : (Cond.declares y).before args U = true := va_Nw.use rfl (va_Nw.warmD hU.1 (va_Nw.of rfl (h0 _ hi)))
theorem pg_look_in {α : Type} {l : List (List (Nat × α))} {o i : Nat} {v : α} (h : pg_look l o i = some v) : (i, v) ∈ l.getD o [] := by
  unfold pg_look at h
  cases hf : (l.getD o []).find? (fun q => q.1 == i) with
  | none => rw [hf] at h; cases h
  | some q =>
    rw [hf] at h
    have h1 := List.mem_of_find?_eq_some hf
    have h2 := List.find?_some hf
    simp only [beq_iff_eq] at h2
    have h3 : q.2 = v := Option.some.inj h
    rw [← h2, ← h3]
    exact h1
theorem pg_zip {α β : Type} {l : List α} {p : List β} (hl : l.length = p.length) {a : α} (h : a ∈ l) : ∃ b, (a, b) ∈ l.zip p := by
  obtain ⟨n, hn, e⟩ := List.mem_iff_getElem.mp h
  refine ⟨p[n]'(by omega), ?_⟩
  rw [List.mem_iff_getElem]
  exact ⟨n, by rw [List.length_zip]; omega, by rw [List.getElem_zip, e]⟩
theorem fa_ts {s0 : State} {a0 : Array Value} (h0 : ∀ w ∈ TT, w.before a0 s0 = true) (U : State) (args : Array Value) (hU : fa s0 U) : ∀ w ∈ pg_ts, w.before args U = true := by
  intro w hw
  have hg := List.all_eq_true.mp ck_ts.2 w hw
  rw [ck_ts.1] at hw
  obtain ⟨i, -, hi⟩ := List.mem_filterMap.mp hw
  exact fa_at h0 hi hg hU
theorem ck_md {j : Nat} (hj : j < 167) : (pg_yn j).cls = pg_on.getD (pg_o j) "" ∧ pg_o j < 11 ∧ plainName (pg_yn j).cls = true ∧ (pg_yn j).cls ≠ "java/lang/invoke/MethodHandle" ∧ (pg_yn j).cls ≠ "java/lang/invoke/VarHandle" ∧ pg_n j ≤ 40 ∧ TT[pg_ip (pg_o j)]? = some (.initialized (pg_yn j).cls) ∧ (match pg_rc j with
  | none => (j = 0 ∨ TT[pg_sp j]? = some (.static (pg_yn j))) ∧ (parseMethodDescriptor (pg_yn j).desc).map (fun d => d.parameters.length) = some (pg_na j)
  | some ci => TT[pg_sp j]? = some (.instanceMethod (pg_yn j)) ∧ (parseMethodDescriptor (pg_yn j).desc).map (fun d => d.parameters.length + 1) = some (pg_na j) ∧ (pg_cl[ci]?).map (fun r => r.1) = some (pg_yn j).cls ∧ (((pg_yn j).name = "<init>" ∧ pg_rt j = none ∧ pg_hd j = []) ∨ TT[pg_lp j]? = some (.selects (pg_yn j).cls (pg_yn j) (pg_yn j)))) := by
  have h := ck_m j hj
  unfold ck_mo at h
  simp only [Bool.and_eq_true, decide_eq_true_eq] at h
  obtain ⟨⟨⟨⟨⟨⟨⟨a1, a2⟩, a3⟩, a4⟩, a5⟩, a6⟩, a7⟩, a8⟩ := h
  refine ⟨a1, a2, a3, a4, a5, a6, a7, ?_⟩
  cases hr : pg_rc j with
  | none =>
    rw [hr] at a8
    simp only [Bool.and_eq_true, Bool.or_eq_true, beq_iff_eq, decide_eq_true_eq] at a8
    exact a8
  | some ci =>
    rw [hr] at a8
    simp only [Bool.and_eq_true, Bool.or_eq_true, decide_eq_true_eq] at a8
    exact ⟨a8.1.1.1, a8.1.1.2, a8.1.2, a8.2⟩
theorem fa_mt {L : Nat} {xs : Nat → Int32} {s0 : State} {a0 : Array Value} (h0 : ∀ w ∈ TT, w.before a0 s0 = true) (U : State) (hU : fa s0 U) (j : Nat) (hj : j < 167) : sd_Mt (pg_G L xs) pg_yn pg_cd pg_hd U j := by
  obtain ⟨-, -, -, -, -, -, -, hr⟩ := ck_md hj
  have fin : ∀ (sig : MethodDescriptor), parseMethodDescriptor (pg_yn j).desc = some sig → sig.parameters.length + (match pg_rc j with | none => 0 | some _ => 1) = pg_na j := by
    intro sig hs
    cases hc : pg_rc j with
    | none =>
      rw [hc] at hr
      have h2 := hr.2
      rw [hs] at h2
      exact Option.some.inj h2
    | some ci =>
      rw [hc] at hr
      have h2 := hr.2.1
      rw [hs] at h2
      exact Option.some.inj h2
  rcases ck_d_ok j hj with ⟨he, hw⟩ | ⟨-, hw⟩
  · have h1 := fa_at h0 hw rfl hU (args := #[])
    obtain ⟨mk, hn⟩ := Cond.code_named h1
    obtain ⟨meth, c, e1, e2, e3, e4, e5, e6, e7, e8⟩ := Cond.code_spec hn h1
    refine ⟨mk, meth, c, hn, e1, e2, e3, e4, e5, e6, ?_, e8, fin _ e8⟩
    rw [he]
    have h9 : c.exceptionTable.size = 0 := by simpa [Array.isEmpty] using e7
    exact List.eq_nil_of_length_eq_zero (by simpa using h9)
  · have h1 := fa_at h0 hw rfl hU (args := #[])
    obtain ⟨mk, meth, c, hn, e1, e2, e3, e4, e5, e6, e7, e8⟩ := Cond.codeWith_spec h1
    refine ⟨mk, meth, c, hn, e1, e2, e3, e4, e6, e7, ?_, e8, fin _ e8⟩
    rw [← e5, table_eq]
theorem fa_lf {L : Nat} {xs : Nat → Int32} {s0 : State} {a0 : Array Value} (h0 : ∀ w ∈ TT, w.before a0 s0 = true) (U : State) (args : Array Value) (j idx ci k : Nat) (hU : fa s0 U) (hj : j < 167) (h : ab_lf (pg_G L xs) j idx = some (ci, k)) : sd_Lf (pg_G L xs) pg_ts args U (pg_yn j).cls idx ci k := by
  obtain ⟨e1, e2, -⟩ := ck_md hj
  have hi : (idx, ci, k) ∈ pg_lf_l.getD (pg_o j) [] := pg_look_in h
  have hc := List.all_eq_true.mp ck_lf (pg_o j) (List.mem_range.mpr e2)
  unfold ck_lfo at hc
  simp only [Bool.and_eq_true, decide_eq_true_eq] at hc
  obtain ⟨p, hp⟩ := pg_zip hc.1 hi
  have h2 := List.all_eq_true.mp hc.2 _ hp
  simp only at h2
  cases hcl : pg_cl[ci]? with
  | none => rw [hcl] at h2; cases h2
  | some r =>
    rw [hcl] at h2
    obtain ⟨C, T, N⟩ := r
    simp only [Bool.and_eq_true, Bool.or_eq_true, decide_eq_true_eq] at h2
    refine ⟨C, T, N, hcl, h2.1, fun w hw => List.mem_flatMap.mpr ⟨_, List.mem_of_getElem? hcl, hw⟩, ?_⟩
    rw [e1]
    rcases h2.2 with h3 | h3
    · exact Or.inl (fa_at h0 h3 rfl hU)
    · exact Or.inr ⟨_, fa_nf h0 h3 hU⟩
theorem fa_lm {L : Nat} {xs : Nat → Int32} {j idx jj : Nat} (hj : j < 167) (h : ab_lm (pg_G L xs) j idx = some jj) (h4 : jj ≠ 1000004) : (jj < 167 ∨ jj = 1000000 ∨ jj = 1000001 ∨ jj = 1000002 ∨ jj = 1000003) ∧ ∃ p : Nat, TT[p]? = some (Cond.methodLink (pg_yn j).cls idx (pg_ym (pg_o j) idx jj)) ∨ TT[p]? = some (Cond.methodLinkNest (pg_yn j).cls idx (pg_ym (pg_o j) idx jj) "TwoWayTexts") := by
  obtain ⟨e1, e2, -⟩ := ck_md hj
  have hi : (idx, jj) ∈ pg_lm_l.getD (pg_o j) [] := pg_look_in h
  have hc := List.all_eq_true.mp ck_lm (pg_o j) (List.mem_range.mpr e2)
  unfold ck_lmo at hc
  simp only [Bool.and_eq_true, decide_eq_true_eq] at hc
  obtain ⟨p, hp⟩ := pg_zip hc.1 hi
  have h2 := List.all_eq_true.mp hc.2 _ hp
  simp only [Bool.and_eq_true, Bool.or_eq_true, decide_eq_true_eq, beq_iff_eq] at h2
  rcases h2 with h2 | h2
  · exact absurd h2 h4
  · refine ⟨?_, p, by rw [e1]; exact h2.2⟩
    rcases h2.1 with (((h3 | h3) | h3) | h3) | h3
    · exact Or.inl h3
    · exact Or.inr (Or.inl h3)
    · exact Or.inr (Or.inr (Or.inl h3))
    · exact Or.inr (Or.inr (Or.inr (Or.inl h3)))
    · exact Or.inr (Or.inr (Or.inr (Or.inr h3)))
theorem fa_lmU {L : Nat} {xs : Nat → Int32} {s0 : State} {a0 : Array Value} (h0 : ∀ w ∈ TT, w.before a0 s0 = true) {U : State} {args : Array Value} (hU : fa s0 U) {j idx jj : Nat} (hj : j < 167) (h : ab_lm (pg_G L xs) j idx = some jj) (h4 : jj ≠ 1000004) : (Cond.methodLink (pg_yn j).cls idx (pg_ym (pg_o j) idx jj)).before args U = true ∨ ∃ host, (Cond.methodLinkNest (pg_yn j).cls idx (pg_ym (pg_o j) idx jj) host).before args U = true := by
  obtain ⟨-, p, h1 | h1⟩ := fa_lm hj h h4
  · exact Or.inl (fa_at h0 h1 rfl hU)
  · exact Or.inr ⟨_, fa_nm h0 h1 hU⟩

