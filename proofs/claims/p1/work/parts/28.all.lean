/-! OURS. All rules together: calls of every depth are sound. -/
set_option maxRecDepth 20000 in
set_option maxHeartbeats 2000000 in
theorem sd_all {G : ab_G} {D : va_G} {ad : Nat → Nat} {dA : Nat → ClassId} {base : Nat} {p : Program} {l : Launch} {e : Env} {Ts : List Cond} {tys : List (ClassId × FieldType)} {yn : Nat → MethodName} {cd : Nat → ByteArray} {hd : Nat → List (Nat × Nat × Nat × Nat)} {Fa : State → Prop} {nM : Nat}
    (hx : p.tables.exec = Jvm.exec) (htr : l.admits e → e.platform.stackTraces = false) (hbs : ∀ i, i < 1000000 → ad i = base + i) (hcap : (ab_cap G).1 ≤ 1000000) (hnl : ∀ jj, ab_n G jj ≤ 40) (hty : ∀ t ty, ab_at G t = some ty → tys[t]? = some (dA t, ty)) (hCl : sd_Cl G)
    (hFm : ∀ s U, Fa s → s.WarmedH U.vm → (∀ q, q < base → U.heap[q]? = s.heap[q]?) → Fa U) (hts : ∀ s args, Fa s → ∀ w ∈ Ts, w.before args s = true) (hK : ∀ s, Fa s → va_K D (ab_cl G) tys s) (hMt : ∀ s, Fa s → ∀ jj, jj < nM → sd_Mt G yn cd hd s jj) (hT : ∀ j, j < nM → sd_T G j (cd j)) (hpn : ∀ jj, jj < nM → plainName (yn jj).cls = true ∧ (yn jj).cls ≠ "java/lang/invoke/MethodHandle" ∧ (yn jj).cls ≠ "java/lang/invoke/VarHandle")
    (hLf : ∀ s args j idx ci k, Fa s → j < nM → ab_lf G j idx = some (ci, k) → sd_Lf G Ts args s (yn j).cls idx ci k)
    (hfin : ∀ s args j pc idx ci k C T N, Fa s → j < nM → ab_f G j pc = some (.putfield idx) → ab_lf G j idx = some (ci, k) → (ab_cl G)[ci]? = some (C, T, N) → (T k).2.2.2 = true → (yn j).name = "<init>" ∧ (T k).1 = (yn j).cls ∧ (Cond.fieldLink (yn j).cls idx (T k).1 (T k).2.1 (T k).2.2.1).before args s = true)
    (hLs : ∀ s args j idx a, Fa s → j < nM → ab_ls G j idx = some a → sd_Ls args s (yn j).cls base idx (ad a))
    (hCa : ∀ s a n xs, Fa s → ab_ca G a = some (n, xs) → va_T .int (ad a) n (fun k => .int (xs k)) (fun q => base ≤ q) s s.heap)
    (hLc : ∀ s args j idx ci fs, Fa s → j < nM → ab_lc G j idx = some ci → ab_df G ci = some fs → sd_Lc G Ts args s (yn j).cls ad idx ci fs)
    (hAr : ∀ s args t ty x0, Fa s → ab_at G t = some ty → ab_dv ty = some x0 → (Cond.arrayClass ty).before args s = true)
    (hNq : ∀ s args j pc idx ci r, Fa s → j < nM → ab_f G j pc = some (.anewarray idx) → ab_lc G j idx = some ci → (ab_cl G)[ci]? = some r → (Cond.classLink (yn j).cls idx r.1).before args s = true ∧ va_AO r.1 s)
    (hKl : ∀ s args j idx x, Fa s → j < nM → ab_kl G j idx = some x → (Cond.constantLong (yn j).cls idx x).before args s = true)
    (hOb : ∀ s args j idx, Fa s → j < nM → ab_lm G j idx = some 1000000 → (Cond.methodLink (yn j).cls idx Lib.objectInit).before args s = true ∧ (Cond.instanceMethod Lib.objectInit).before args s = true ∧ (Cond.code Lib.objectInit ⟨#[0xb1]⟩ 1 none).before args s = true)
    (hCp : ∀ s args j idx, Fa s → j < nM → ab_lm G j idx = some 1000001 → sd_Lcp args s (yn j).cls idx)
    (hM2 : ∀ s args j idx, Fa s → j < nM → ab_lm G j idx = some 1000002 → (Cond.methodLink (yn j).cls idx Lib.Math.max.name).before args s = true ∧ (Cond.static Lib.Math.max.name).before args s = true ∧ (Cond.initialized "java/lang/Math").before args s = true ∧ (Cond.code Lib.Math.max.name Lib.Math.max.code 2 (some .int)).before args s = true)
    (hM3 : ∀ s args j idx, Fa s → j < nM → ab_lm G j idx = some 1000003 → (Cond.methodLink (yn j).cls idx Lib.Math.min.name).before args s = true ∧ (Cond.static Lib.Math.min.name).before args s = true ∧ (Cond.initialized "java/lang/Math").before args s = true ∧ (Cond.code Lib.Math.min.name Lib.Math.min.code 2 (some .int)).before args s = true)
    (hLm : ∀ s args j pc i idx jj, Fa s → j < nM → ab_f G j pc = some i → ab_iv i = some idx → ab_lm G j idx = some jj → jj < 1000000 → jj < nM ∧ sd_Lm args s (yn j).cls (yn jj) i ∧ (∀ idx, i = .invokestatic idx → ab_rc G jj = none) ∧ ((∀ idx, i ≠ .invokestatic idx) → ∃ ci r, ab_rc G jj = some ci ∧ (ab_cl G)[ci]? = some r ∧ r.1 = (yn jj).cls))
    (hC0 : ∀ j pc ci, j < nM → ab_ct G j pc ci = some 0 → ∀ x ∈ tableOf (hd j), covers x pc = false)
    (hCt : ∀ s args j pc ci t r, Fa s → j < nM → ab_ct G j pc ci = some (t + 1) → (ab_cl G)[ci]? = some r → sd_Hs args s (yn j).cls r.1 pc (t + 1) (tableOf (hd j)))
    (hLx : ∀ U args j pc idx ci k mI, Fa U → j < nM → ab_f G j pc = some (.new idx) → ab_lc G j idx = some ci → ab_df G ci = none → ab_f G j (pc + 4) = some (.ldc k) → ab_f G j (pc + 6) = some (.invokespecial mI) → ab_lm G j mI = some 1000004 → sd_Lx G args U (yn j).cls idx ci k mI)
    (hNo : ∀ j pc, j < nM → ab_f G j pc = some .athrow → ∀ x ∈ tableOf (hd j), covers x pc = false) :
    ∀ d, sd_SE G D ad dA base yn p l e Fa nM d := by
  intro d
  induction d with
  | zero => intro j as h Q _ hX; exact hX.elim
  | succ d ih =>
    intro j as h Q hj hX s m args below meth c T R X hTh hargs hn hFs hsz hP h3 hRc hRs hRf hRl hin
    obtain ⟨mk, methk, ck, n1, n2, n3, n4, n5, n6, n7, n8, n9, n10⟩ := hMt s hFs j hj
    cases n1.symm.trans hn
    cases n2.symm.trans X.method
    cases n3.symm.trans X.code
    have hown : s.vm.findClass (yn j).cls = some m.cls := findClass_of_methodNamed hn
    have hnm : meth.name = (yn j).name := (name_of_methodNamed hn X.method).1
    have hw := hX (sd_P G D ad dA (fun a => base ≤ a) p l e R s m args below meth c j h (sd_E G D ad dA base below s h Q))
      ⟨sd_Ca hx n4 (hT j hj), sd_Cb hx n4 (hT j hj) (sd_inj hbs),
       ⟨sd_Rget hx n4 (hT j hj) (hts s args hFs) hown (hK s hFs) (fun idx ci k => hLf s args j idx ci k hFs hj),
        sd_Rput hx n4 (hT j hj) (hts s args hFs) hown (hK s hFs) (fun idx ci k => hLf s args j idx ci k hFs hj) hCl (fun pc idx ci k C T N a1 a2 a3 a4 => by rw [hnm]; exact hfin s args j pc idx ci k C T N hFs hj a1 a2 a3 a4) (sd_inj hbs) (sd_ge hbs) hcap,
        sd_Rsta hx n4 (hT j hj) hown (fun idx a => hLs s args j idx a hFs hj),
        sd_Rkld hx n4 (hT j hj) (fun a n xs => hCa s a n xs hFs), sd_Rkln hx n4 (hT j hj) (fun a n xs => hCa s a n xs hFs),
        sd_Rild hx n4 (hT j hj) (hK s hFs) hty, sd_Rcld hx n4 (hT j hj) (hK s hFs) hty, sd_Rlld hx n4 (hT j hj) (hK s hFs) hty, sd_Rald hx n4 (hT j hj) (hK s hFs) hty,
        sd_Rist hx n4 (hT j hj) (hK s hFs) hty (sd_inj hbs) (sd_ge hbs) hcap, sd_Rcts hx n4 (hT j hj) (hK s hFs) hty (sd_inj hbs) (sd_ge hbs) hcap, sd_Rlst hx n4 (hT j hj) (hK s hFs) hty (sd_inj hbs) (sd_ge hbs) hcap, sd_Rast hx n4 (hT j hj) (hK s hFs) hty (sd_inj hbs) (sd_ge hbs) hcap,
        sd_Rlen hx n4 (hT j hj) (hK s hFs) hty,
        sd_Rnew hx n4 (hT j hj) (hts s args hFs) hown (hK s hFs) hCl hbs hcap hsz hRc hRs (fun idx ci fs => hLc s args j idx ci fs hFs hj),
        sd_Rna hx n4 (hT j hj) (hK s hFs) hty hbs hcap hsz hRc hRs (fun t ty x0 => hAr s args t ty x0 hFs),
        sd_Rnq hx n4 (hT j hj) hown (hK s hFs) hty hbs hcap hsz hRc hRs (fun pc idx ci r => hNq s args j pc idx ci r hFs hj),
        sd_Rkl hx n4 (hT j hj) hown (fun idx x => hKl s args j idx x hFs hj)⟩,
       ⟨sd_Robj hx n4 n5 (hT j hj) hown (by omega) (by omega) (fun idx => hOb s args j idx hFs hj),
        sd_Rcpi hx n4 n5 (hT j hj) hown (hK s hFs) hty hbs hcap (by omega) (by omega) (fun idx => hCp s args j idx hFs hj),
        sd_Rcpl hx n4 n5 (hT j hj) hown (hK s hFs) hty hbs hcap (by omega) (by omega) (fun idx => hCp s args j idx hFs hj),
        sd_Rmax hx n4 n5 (hT j hj) hown (by omega) (by omega) hRc hRs (fun idx => hM2 s args j idx hFs hj),
        sd_Rmin hx n4 n5 (hT j hj) hown (by omega) (by omega) hRc hRs (fun idx => hM3 s args j idx hFs hj)⟩,
       ⟨sd_Rcall ih hFm hFs (hMt s hFs) hx n4 n5 (hT j hj) hown n7 (hK s hFs) hbs hcap hsz hRc hRs hRf hRl hnl hpn (fun pc i idx jj => hLm s args j pc i idx jj hFs hj) (fun pc ci a => by rw [n8]; exact hC0 j pc ci hj a)
          (fun pc ci t a T' locs cells slots g q cell r X' b1 b2 b3 b4 b5 b6 => sd_caught X' hown b1 (by rw [b2, n8]; exact hCt s args j pc ci t r hFs hj a b5) b3 b4 b6),
        sd_Rret hx n4 (hT j hj) n6 n7, sd_Rrtv hx n4 (hT j hj) n6 n7,
        sd_Rthr hFm hFs hK hx (htr X.admits) n4 n5 (hT j hj) hown n7 hbs hcap hsz hRc hRs (by omega) (by omega) (fun U hU pc idx ci k mI => hLx U args j pc idx ci k mI hU hj) (fun pc a => by rw [n8]; exact hNo j pc hj a)⟩⟩
    have hent := sd_entry ad as (ab_n G j) hin
    obtain ⟨t, st, q⟩ := hw s.heap [] 0 0 _ hP va_S.rf hent (by omega) (by omega) h3 T hTh X
    refine ⟨t, ?_, q⟩
    rw [hargs, lg_entry_eq]
    exact st
