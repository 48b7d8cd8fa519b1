/-! OURS. From a run of the small machine to the law's own run. -/
theorem getD_big (l : List Nat) (jj : Nat) (h : l.length ≤ jj) : l.getD jj 0 = 0 := by
  rw [List.getD_eq_getElem?_getD, List.getElem?_eq_none h]
  rfl
set_option maxRecDepth 100000 in
theorem fa_n {L : Nat} {xs : Nat → Int32} (jj : Nat) : ab_n (pg_G L xs) jj ≤ 40 := by
  by_cases h : jj < 167
  · exact (ck_md h).2.2.2.2.2.1
  · show List.getD _ jj 0 ≤ 40
    refine Nat.le_trans (Nat.le_of_eq (getD_big _ jj ?_)) (Nat.zero_le 40)
    exact (Nat.le_of_not_lt h : 167 ≤ jj)
set_option maxRecDepth 100000 in
theorem wh_go {p : Program} {e : Env} {s : State} {m : MethodId} {below : List Frame} {meth : Method} {c : Code} (l : Launch) {b L : Nat} {xs : Nat → Int32} (hfl : l.flags = pinnedFlags ++ [noTraceFlag]) (hx : p.tables.exec = Jvm.exec) (hnm : s.methodNamed? x = some m) (h0 : ∀ w ∈ TT, w.before #[Value.ref b] s = true) (hn : narrow_1.before #[Value.ref b] s = true) (hX : va_X b L xs s s.heap) (hb : b < s.heap.size)
    (hlaw : ab_X (pg_G L xs) 1000 0 [.ref 1000002] [] (fun r _ => r = .inl (some (.int 1)))) : W p l e room_1 s m #[Value.ref b] below meth c s.heap [] 0 0 (fun t => ∃ o, t.status = .running ∧ Ended t below o ∧ o = .returned (some (.int 1)) ∧ Framed s o t [] 600002 7302232) (entryFrame m ([Value.ref b] : List Value).toArray 7) := by
  obtain ⟨tS, hS⟩ := fa_starts h0 hn
  obtain ⟨tP, hP⟩ := fa_powers h0 hn
  obtain ⟨D, dA, hK⟩ := fa_K0 h0
  have hall := sd_all (G := pg_G L xs) (D := D) (ad := fa_ad s.heap.size tS tP b) (dA := dA) (base := s.heap.size) (p := p) (l := l) (e := e) (Ts := pg_ts) (tys := [(dA 0, .int), (dA 1, .long), (dA 2, .char), (dA 3, .object "TwoWayTexts$Part")]) (yn := pg_yn) (cd := pg_cd) (hd := pg_hd) (Fa := fa s) (nM := 167)
    hx (fun ha => Launch.traces_off hfl ha) (fun i hi => if_pos hi) (show 600000 ≤ 1000000 by decide) fa_n
    (fun t ty h => by
      have h' : pg_at t = some ty := h
      match t, h' with
      | 0, h' => cases h'; rfl
      | 1, h' => cases h'; rfl
      | 2, h' => cases h'; rfl
      | 3, h' => cases h'; rfl
      | n + 4, h' => cases h')
    fa_Cl (fun s1 U h1 h2 h3 => fa_mv h1 h2 h3) (fun s1 args h1 => fa_ts h0 s1 args h1) (fun s1 h1 => va_K.moved h1.1.alike hK) (fun s1 h1 jj hj => fa_mt h0 s1 h1 jj hj) (fun j hj => pg_T_ok hj) (fun jj hj => ⟨(ck_md hj).2.2.1, (ck_md hj).2.2.2.1, (ck_md hj).2.2.2.2.1⟩)
    (fun s1 args j idx ci k h1 hj h => fa_lf h0 s1 args j idx ci k h1 hj h)
    (fun s1 args j pc idx ci k C T N h1 hj a1 a2 a3 a4 => fa_fin h0 s1 args j pc idx ci k C T N h1 hj a1 a2 a3 a4)
    (fun s1 args j idx a h1 hj h => fa_ls h0 hS hP s1 args j idx a h1 hj h)
    (fun s1 a n ys h1 h => fa_ca hS hP hX hb s1 a n ys h1 h)
    (fun s1 args j idx ci fs h1 hj a1 a2 => fa_Lc h0 s1 args j idx ci fs h1 hj a1 a2)
    (fun s1 args t ty x0 h1 a1 a2 => fa_ar h0 s1 args t ty x0 h1 a1 a2)
    (fun s1 args j pc idx ci r h1 hj a1 a2 a3 => fa_nq h0 s1 args j pc idx ci r h1 hj a1 a2 a3)
    (fun s1 args j idx x0 h1 hj a1 => fa_kl h0 s1 args j idx x0 h1 hj a1)
    (fun s1 args j idx h1 hj a1 => fa_ob h0 s1 args j idx h1 hj a1)
    (fun s1 args j idx h1 hj a1 => fa_cp h0 s1 args j idx h1 hj a1)
    (fun s1 args j idx h1 hj a1 => fa_m2 h0 s1 args j idx h1 hj a1)
    (fun s1 args j idx h1 hj a1 => fa_m3 h0 s1 args j idx h1 hj a1)
    (fun s1 args j pc i idx jj h1 hj a1 a2 a3 a4 => fa_call h0 s1 args j pc i idx jj h1 hj a1 a2 a3 a4)
    (fun j pc ci hj h => fa_c0 j pc ci hj h)
    (fun s1 args j pc ci t r h1 hj a1 a2 => fa_ct h0 s1 args j pc ci t r h1 (fa_cs_of h0 hn h1) hj a1 a2)
    (fun U args j pc idx ci k mI h1 hj a1 a2 a3 a4 a5 _ => fa_lx h0 hn U args j pc idx ci k mI h1 hj a1 a2 a3 a4 a5)
    (fun j pc hj h => fa_no hj h) 1000
  intro T hT Xs
  obtain ⟨t, st, r, h, Lc, k, n, hQ, hrun, hend, hW, hsame, hloc, hF, hPt, hk, hnn, hc1, hc2⟩ := hall 0 [.ref 1000002] [] _ (by decide) hlaw s m #[Value.ref b] below meth c T room_1 Xs hT rfl hnm (fa_rf s) rfl (fun k q hq => by cases hq) ⟨Nat.zero_le _, Nat.zero_le _⟩ (show 600000 ≤ 600002 + 0 by decide) (show 7000000 ≤ 7302232 + 0 by decide) (show 1000 + 8 ≤ 2048 by decide) (show 70 * 1000 + 400 ≤ 84000 by decide) (show 1 ≤ 7 by decide)
  subst hQ
  have hk' : k ≤ 600000 := Nat.le_trans (Nat.le.intro hk) hc1
  have hn' : n ≤ 7000000 := Nat.le_trans (Nat.le.intro hnn) hc2
  exact ⟨t, st, _, hrun, hend, rfl, ⟨_, rfl⟩, hW, (State.sameButNew.drop_fresh (L := []) (J := Lc) hsame hloc).mono (by omega) (by omega)⟩
