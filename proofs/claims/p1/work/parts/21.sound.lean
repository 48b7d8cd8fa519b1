/-! OURS. Soundness of the rules of stack, locals, numbers and branches. -/
def ab_len : Instr → Nat
  | .bipush _ => 2
  | .sipush _ => 3
  | .iload _ => 2
  | .lload _ => 2
  | .aload _ => 2
  | .istore _ => 2
  | .lstore _ => 2
  | .astore _ => 2
  | .iinc _ _ => 3
  | .ifCond _ _ => 3
  | .if_icmp _ _ => 3
  | .if_acmp _ _ => 3
  | .ifnull _ => 3
  | .ifnonnull _ => 3
  | .goto _ => 3
  | .getfield _ => 3
  | .putfield _ => 3
  | .getstatic _ => 3
  | .putstatic _ => 3
  | .invokevirtual _ => 3
  | .invokespecial _ => 3
  | .invokestatic _ => 3
  | .new _ => 3
  | .newarray _ => 2
  | .anewarray _ => 3
  | .ldc _ => 2
  | .ldc_w _ => 3
  | .ldc2_w _ => 3
  | _ => 1
def ab_sw : Instr → Bool
  | .tableswitch _ _ _ _ => true
  | .lookupswitch _ _ => true
  | _ => false
/-- the code is what the table says -/
def sd_T (G : ab_G) (j : Nat) (cc : ByteArray) : Prop := ∀ pc i, ab_f G j pc = some i → ∃ n, decode cc pc = .ok (i, n) ∧ (ab_sw i = true ∨ n = ab_len i)
theorem sd_T.at {G : ab_G} {j : Nat} {cc : ByteArray} (hT : sd_T G j cc) {pc : Nat} {i : Instr} (hf : ab_f G j pc = some i) (hs : ab_sw i = false) : decode cc pc = .ok (i, ab_len i) := by
  obtain ⟨n, h1, h2⟩ := hT pc i hf
  rcases h2 with h2 | h2
  · rw [hs] at h2; cases h2
  · rw [← h2]; exact h1
/-- what a configuration promises of the machine -/
def sd_P (G : ab_G) (D : va_G) (ad : Nat → Nat) (dA : Nat → ClassId) (A : Nat → Prop) (p : Program) (l : Launch) (e : Env) (R : Room) (s : State) (m : MethodId) (args : Array Value) (below : List Frame) (meth : Method) (c : Code) (j : Nat) (h0 : ab_H) (Qe : State → Prop) : ab_P := fun pc ls st h =>
  ∀ (H : Heap) (locs : List Loc) (cells slots : Nat) (lsM : Array Slot), va_P D (ab_cl G) (sd_w ad dA h) H → va_S A s.heap H locs → lv_has lsM (ab_n G j) (sd_l ad ls) → cells + h0.length = h.length → slots + ab_wt G h0 = ab_wt G h → h.length ≤ (ab_cap G).1 ∧ ab_wt G h ≤ (ab_cap G).2 →
    W p l e R s m args below meth c H locs cells slots Qe (F0 m pc lsM (st.map (sd_v ad)))
section SdA
variable {G : ab_G} {D : va_G} {ad : Nat → Nat} {dA : Nat → ClassId} {A : Nat → Prop} {p : Program} {l : Launch} {e : Env} {R : Room} {s : State} {m : MethodId} {args : Array Value} {below : List Frame} {meth : Method} {c : Code} {j : Nat} {h0 : ab_H} {Qe : State → Prop} {cc : ByteArray}
theorem sd_Rcst (hx : p.tables.exec = Jvm.exec) (hb : c.code = cc) (hT : sd_T G j cc) : ab_Rcst G j (sd_P G D ad dA A p l e R s m args below meth c j h0 Qe) := by
  intro pc ls st h i v n hf hc hk H locs cells slots lsM hP hS hl h1 h2 h3
  have hk' := hk H locs cells slots lsM hP hS hl h1 h2 h3
  cases i <;> cases hc
  · exact lv_null hx hb (hT.at hf rfl) hk'
  · exact lv_bipush hx hb (hT.at hf rfl) rfl hk'
  · exact lv_iconst hx hb (hT.at hf rfl) rfl hk'
  · exact lv_lconst hx hb (hT.at hf rfl) rfl hk'
  · exact lv_sipush hx hb (hT.at hf rfl) rfl hk'
theorem sd_Rld (hx : p.tables.exec = Jvm.exec) (hb : c.code = cc) (hT : sd_T G j cc) : ab_Rld G j (sd_P G D ad dA A p l e R s m args below meth c j h0 Qe) := by
  intro pc ls st h i k n d v hf hi hv hkd hk H locs cells slots lsM hP hS hl h1 h2 h3
  have hk' := hk H locs cells slots lsM hP hS hl h1 h2 h3
  have hat := sd_at hl hv
  cases i <;> cases hi
  · cases v <;> cases hkd
    · exact lv_aloadN hx hb (hT.at hf rfl) hat hk'
    · exact lv_aload hx hb (hT.at hf rfl) hat hk'
  · cases v <;> cases hkd
    · exact lv_aload_nN hx hb (hT.at hf rfl) rfl hat hk'
    · exact lv_aload_n hx hb (hT.at hf rfl) rfl hat hk'
  · cases v <;> cases hkd
    exact lv_iload hx hb (hT.at hf rfl) hat hk'
  · cases v <;> cases hkd
    exact lv_iload_n hx hb (hT.at hf rfl) rfl hat hk'
  · cases v <;> cases hkd
    exact lv_lload hx hb (hT.at hf rfl) hat hk'
  · cases v <;> cases hkd
    exact lv_lload_n hx hb (hT.at hf rfl) rfl hat hk'
theorem sd_Rst (hx : p.tables.exec = Jvm.exec) (hb : c.code = cc) (hT : sd_T G j cc) : ab_Rst G j (sd_P G D ad dA A p l e R s m args below meth c j h0 Qe) := by
  intro pc ls st h i k n d v hf hi hkd hn hk H locs cells slots lsM hP hS hl h1 h2 h3
  have hk' : ∀ ls' : Array Slot, lv_has ls' (ab_n G j) ((k, sd_v ad v) :: (sd_l ad ls).filter (fun q => !(q.1 == k) && !(q.1 + 1 == k && q.2.category == 2))) → W p l e R s m args below meth c H locs cells slots Qe (F0 m (pc + n) ls' (st.map (sd_v ad))) := fun ls' h' => hk H locs cells slots ls' hP hS (sd_s1 h') h1 h2 h3
  cases i <;> cases hi
  · cases v <;> cases hkd
    · exact lv_astoreN hx hb (hT.at hf rfl) hl hn rfl hk'
    · exact lv_astore hx hb (hT.at hf rfl) hl hn rfl hk'
  · cases v <;> cases hkd
    · exact lv_astore_nN hx hb (hT.at hf rfl) rfl hl hn rfl hk'
    · exact lv_astore_n hx hb (hT.at hf rfl) rfl hl hn rfl hk'
  · cases v <;> cases hkd
    exact lv_istore hx hb (hT.at hf rfl) hl hn rfl hk'
  · cases v <;> cases hkd
    exact lv_istore_n hx hb (hT.at hf rfl) rfl hl hn rfl hk'
theorem sd_Rsl (hx : p.tables.exec = Jvm.exec) (hb : c.code = cc) (hT : sd_T G j cc) : ab_Rsl G j (sd_P G D ad dA A p l e R s m args below meth c j h0 Qe) := by
  intro pc ls st h i k n x hf hi hn hk H locs cells slots lsM hP hS hl h1 h2 h3
  have hk' : ∀ ls' : Array Slot, lv_has ls' (ab_n G j) ((k, Value.long x) :: (sd_l ad ls).filter (fun q => !(q.1 == k) && (!(q.1 == k + 1) && !(q.1 + 1 == k && q.2.category == 2)))) → W p l e R s m args below meth c H locs cells slots Qe (F0 m (pc + n) ls' (st.map (sd_v ad))) := fun ls' h' => hk H locs cells slots ls' hP hS (sd_s2 (v := .long x) h') h1 h2 h3
  cases i <;> cases hi
  · exact lv_lstore hx hb (hT.at hf rfl) hl hn rfl hk'
  · exact lv_lstore_n hx hb (hT.at hf rfl) rfl hl hn rfl hk'
theorem sd_Rinc (hx : p.tables.exec = Jvm.exec) (hb : c.code = cc) (hT : sd_T G j cc) : ab_Rinc G j (sd_P G D ad dA A p l e R s m args below meth c j h0 Qe) := by
  intro pc ls st h k n x hf hv hn hk H locs cells slots lsM hP hS hl h1 h2 h3
  obtain ⟨q, hq⟩ := List.getElem?_of_mem (sd_l_in (ad := ad).mpr ⟨_, hv, rfl⟩)
  exact lv_iinc hx hb (hT.at hf rfl) hl hq rfl hn rfl (fun ls' h' => hk H locs cells slots ls' hP hS (sd_s1 (v := .int (x + Int32.ofInt n)) h') h1 h2 h3)
theorem sd_Rbin (hx : p.tables.exec = Jvm.exec) (hb : c.code = cc) (hT : sd_T G j cc) : ab_Rbin G j (sd_P G D ad dA A p l e R s m args below meth c j h0 Qe) := by
  intro pc ls st h i g x y hf hg hk H locs cells slots lsM hP hS hl h1 h2 h3
  have hk' := hk H locs cells slots lsM hP hS hl h1 h2 h3
  cases i <;> cases hg
  · exact lv_iadd hx hb (hT.at hf rfl) hk'
  · exact lv_iand hx hb (hT.at hf rfl) hk'
  · exact lv_imul hx hb (hT.at hf rfl) hk'
  · exact lv_ior hx hb (hT.at hf rfl) hk'
  · exact lv_ishl hx hb (hT.at hf rfl) hk'
  · exact lv_ishr hx hb (hT.at hf rfl) hk'
  · exact lv_isub hx hb (hT.at hf rfl) hk'
  · exact lv_iushr hx hb (hT.at hf rfl) rfl hk'
  · exact lv_ixor hx hb (hT.at hf rfl) hk'
theorem sd_Rdiv (hx : p.tables.exec = Jvm.exec) (hb : c.code = cc) (hT : sd_T G j cc) : ab_Rdiv G j (sd_P G D ad dA A p l e R s m args below meth c j h0 Qe) := by
  intro pc ls st h x y hf hy hk H locs cells slots lsM hP hS hl h1 h2 h3
  exact lv_idiv hx hb (hT.at hf rfl) hy (hk H locs cells slots lsM hP hS hl h1 h2 h3)
theorem sd_Rrem (hx : p.tables.exec = Jvm.exec) (hb : c.code = cc) (hT : sd_T G j cc) : ab_Rrem G j (sd_P G D ad dA A p l e R s m args below meth c j h0 Qe) := by
  intro pc ls st h x y hf hy hk H locs cells slots lsM hP hS hl h1 h2 h3
  exact lv_irem hx hb (hT.at hf rfl) hy (hk H locs cells slots lsM hP hS hl h1 h2 h3)
theorem sd_Rlbn (hx : p.tables.exec = Jvm.exec) (hb : c.code = cc) (hT : sd_T G j cc) : ab_Rlbn G j (sd_P G D ad dA A p l e R s m args below meth c j h0 Qe) := by
  intro pc ls st h i g x y hf hg hk H locs cells slots lsM hP hS hl h1 h2 h3
  have hk' := hk H locs cells slots lsM hP hS hl h1 h2 h3
  cases i <;> cases hg
  · exact lv_ladd hx hb (hT.at hf rfl) hk'
  · exact lv_land hx hb (hT.at hf rfl) hk'
  · exact lv_lmul hx hb (hT.at hf rfl) hk'
  · exact lv_lor hx hb (hT.at hf rfl) hk'
  · exact lv_lsub hx hb (hT.at hf rfl) hk'
  · exact lv_lxor hx hb (hT.at hf rfl) hk'
theorem sd_Rlsh (hx : p.tables.exec = Jvm.exec) (hb : c.code = cc) (hT : sd_T G j cc) : ab_Rlsh G j (sd_P G D ad dA A p l e R s m args below meth c j h0 Qe) := by
  intro pc ls st h i g x y hf hg hk H locs cells slots lsM hP hS hl h1 h2 h3
  have hk' := hk H locs cells slots lsM hP hS hl h1 h2 h3
  cases i <;> cases hg
  · exact lv_lshl hx hb (hT.at hf rfl) rfl hk'
  · exact lv_lshr hx hb (hT.at hf rfl) rfl hk'
  · exact lv_lushr hx hb (hT.at hf rfl) rfl hk'
theorem sd_Run (hx : p.tables.exec = Jvm.exec) (hb : c.code = cc) (hT : sd_T G j cc) : ab_Run G j (sd_P G D ad dA A p l e R s m args below meth c j h0 Qe) := by
  intro pc ls st h i v w hf hw hk H locs cells slots lsM hP hS hl h1 h2 h3
  have hk' := hk H locs cells slots lsM hP hS hl h1 h2 h3
  unfold ab_un at hw
  split at hw
  · cases hw; exact lv_i2l hx hb (hT.at hf rfl) rfl hk'
  · cases hw; exact lv_i2c hx hb (hT.at hf rfl) rfl hk'
  · cases hw; exact lv_ineg hx hb (hT.at hf rfl) hk'
  · cases hw; exact lv_l2i hx hb (hT.at hf rfl) rfl hk'
  · cases hw; exact lv_lneg hx hb (hT.at hf rfl) hk'
  · cases hw
theorem sd_Rcmp (hx : p.tables.exec = Jvm.exec) (hb : c.code = cc) (hT : sd_T G j cc) : ab_Rcmp G j (sd_P G D ad dA A p l e R s m args below meth c j h0 Qe) := by
  intro pc ls st h x y hf hk H locs cells slots lsM hP hS hl h1 h2 h3
  exact W.lcmp hx hb (hT.at hf rfl) (hk H locs cells slots lsM hP hS hl h1 h2 h3)
theorem sd_Rdup (hx : p.tables.exec = Jvm.exec) (hb : c.code = cc) (hT : sd_T G j cc) : ab_Rdup G j (sd_P G D ad dA A p l e R s m args below meth c j h0 Qe) := by
  intro pc ls st h v hf hv hk H locs cells slots lsM hP hS hl h1 h2 h3
  exact lv_dup hx hb (hT.at hf rfl) (by rw [sd_v_cat]; exact (sd_c1 v).mp hv) (hk H locs cells slots lsM hP hS hl h1 h2 h3)
theorem sd_Rdp2 (hx : p.tables.exec = Jvm.exec) (hb : c.code = cc) (hT : sd_T G j cc) : ab_Rdp2 G j (sd_P G D ad dA A p l e R s m args below meth c j h0 Qe) := by
  intro pc ls st h v w hf hv hw hk H locs cells slots lsM hP hS hl h1 h2 h3
  exact lv_dup2_11 hx hb (hT.at hf rfl) (by rw [sd_v_cat]; exact (sd_c1 v).mp hv) (by rw [sd_v_cat]; exact (sd_c1 w).mp hw) (hk H locs cells slots lsM hP hS hl h1 h2 h3)
theorem sd_Rdpl (hx : p.tables.exec = Jvm.exec) (hb : c.code = cc) (hT : sd_T G j cc) : ab_Rdpl G j (sd_P G D ad dA A p l e R s m args below meth c j h0 Qe) := by
  intro pc ls st h v hf hv hk H locs cells slots lsM hP hS hl h1 h2 h3
  exact lv_dup2_2 hx hb (hT.at hf rfl) (by rw [sd_v_cat]; exact (sd_c2 v).mp hv) (hk H locs cells slots lsM hP hS hl h1 h2 h3)
theorem sd_Rpop (hx : p.tables.exec = Jvm.exec) (hb : c.code = cc) (hT : sd_T G j cc) : ab_Rpop G j (sd_P G D ad dA A p l e R s m args below meth c j h0 Qe) := by
  intro pc ls st h v hf hv hk H locs cells slots lsM hP hS hl h1 h2 h3
  exact lv_pop hx hb (hT.at hf rfl) (by rw [sd_v_cat]; exact (sd_c1 v).mp hv) (hk H locs cells slots lsM hP hS hl h1 h2 h3)
theorem sd_Ca (hx : p.tables.exec = Jvm.exec) (hb : c.code = cc) (hT : sd_T G j cc) : ab_Ca G j (sd_P G D ad dA A p l e R s m args below meth c j h0 Qe) :=
  ⟨sd_Rcst hx hb hT, sd_Rld hx hb hT, sd_Rst hx hb hT, sd_Rsl hx hb hT, sd_Rinc hx hb hT, sd_Rbin hx hb hT, sd_Rdiv hx hb hT, sd_Rrem hx hb hT, sd_Rlbn hx hb hT, sd_Rlsh hx hb hT, sd_Run hx hb hT, sd_Rcmp hx hb hT, sd_Rdup hx hb hT, sd_Rdp2 hx hb hT, sd_Rdpl hx hb hT, sd_Rpop hx hb hT⟩
theorem sd_Rif (hx : p.tables.exec = Jvm.exec) (hb : c.code = cc) (hT : sd_T G j cc) : ab_Rif G j (sd_P G D ad dA A p l e R s m args below meth c j h0 Qe) := by
  intro pc ls st h cn off t x hf ht hk kf H locs cells slots lsM hP hS hl h1 h2 h3
  have k3 := fun q => hk q H locs cells slots lsM hP hS hl h1 h2 h3
  have k4 := fun q => kf q H locs cells slots lsM hP hS hl h1 h2 h3
  cases cn
  · exact lv_if_eq hx hb (hT.at hf rfl) ht k3 k4
  · exact lv_if_ne hx hb (hT.at hf rfl) ht k3 (fun q => k4 (fun (z : ¬ x = 0) => z q))
  · exact lv_if_lt hx hb (hT.at hf rfl) ht k3 k4
  · exact lv_if_ge hx hb (hT.at hf rfl) ht k3 k4
  · exact lv_if_gt hx hb (hT.at hf rfl) ht k3 k4
  · exact lv_if_le hx hb (hT.at hf rfl) ht k3 k4
theorem sd_Ric (hx : p.tables.exec = Jvm.exec) (hb : c.code = cc) (hT : sd_T G j cc) : ab_Ric G j (sd_P G D ad dA A p l e R s m args below meth c j h0 Qe) := by
  intro pc ls st h cn off t x y hf ht hk kf H locs cells slots lsM hP hS hl h1 h2 h3
  have k3 := fun q => hk q H locs cells slots lsM hP hS hl h1 h2 h3
  have k4 := fun q => kf q H locs cells slots lsM hP hS hl h1 h2 h3
  cases cn
  · exact lv_icmp_eq hx hb (hT.at hf rfl) ht k3 k4
  · exact lv_icmp_ne hx hb (hT.at hf rfl) ht k3 (fun q => k4 (fun (z : ¬ x = y) => z q))
  · exact lv_icmp_lt hx hb (hT.at hf rfl) ht k3 k4
  · exact lv_icmp_ge hx hb (hT.at hf rfl) ht k3 k4
  · exact lv_icmp_gt hx hb (hT.at hf rfl) ht k3 k4
  · exact lv_icmp_le hx hb (hT.at hf rfl) ht k3 k4
theorem sd_Rnu (hx : p.tables.exec = Jvm.exec) (hb : c.code = cc) (hT : sd_T G j cc) : ab_Rnu G j (sd_P G D ad dA A p l e R s m args below meth c j h0 Qe) := by
  intro pc ls st h off t o hf ht hk kf H locs cells slots lsM hP hS hl h1 h2 h3
  cases o with
  | none => exact lv_ifnullN hx hb (hT.at hf rfl) ht (hk rfl H locs cells slots lsM hP hS hl h1 h2 h3)
  | some a => exact lv_ifnull hx hb (hT.at hf rfl) (kf a rfl H locs cells slots lsM hP hS hl h1 h2 h3)
theorem sd_Rnn (hx : p.tables.exec = Jvm.exec) (hb : c.code = cc) (hT : sd_T G j cc) : ab_Rnn G j (sd_P G D ad dA A p l e R s m args below meth c j h0 Qe) := by
  intro pc ls st h off t o hf ht hk kf H locs cells slots lsM hP hS hl h1 h2 h3
  cases o with
  | none => exact lv_ifnonnullN hx hb (hT.at hf rfl) (hk rfl H locs cells slots lsM hP hS hl h1 h2 h3)
  | some a => exact lv_ifnonnull hx hb (hT.at hf rfl) ht (kf a rfl H locs cells slots lsM hP hS hl h1 h2 h3)
theorem sd_Rac (hx : p.tables.exec = Jvm.exec) (hb : c.code = cc) (hT : sd_T G j cc) (hi : ∀ a b, a < 1000000 → b < 1000000 → ad a = ad b → a = b) : ab_Rac G j (sd_P G D ad dA A p l e R s m args below meth c j h0 Qe) := by
  intro pc ls st h off t o u hf ht ho hu hk kf H locs cells slots lsM hP hS hl h1 h2 h3
  have ev : ∀ o : Option Nat, sd_v ad (va_rf o) = va_rf (o.map ad) := fun o => by cases o <;> rfl
  have ei : o.map ad = u.map ad → o = u := by
    intro q
    cases o with
    | none => cases u with
      | none => rfl
      | some b => cases q
    | some a => cases u with
      | none => cases q
      | some b => rw [hi a b (ho a rfl) (hu b rfl) (Option.some.inj q)]
  rw [List.map_cons, List.map_cons, ev, ev]
  exact lv_acmp_ne hx hb (hT.at hf rfl) ht (fun q => hk (fun z => q (by rw [z])) H locs cells slots lsM hP hS hl h1 h2 h3) (fun q => kf (ei q) H locs cells slots lsM hP hS hl h1 h2 h3)
theorem sd_Rgo (hx : p.tables.exec = Jvm.exec) (hb : c.code = cc) (hT : sd_T G j cc) : ab_Rgo G j (sd_P G D ad dA A p l e R s m args below meth c j h0 Qe) := by
  intro pc ls st h off t hf ht hk H locs cells slots lsM hP hS hl h1 h2 h3
  exact lv_goto hx hb (hT.at hf rfl) ht (hk H locs cells slots lsM hP hS hl h1 h2 h3)
theorem sd_Rtin (hx : p.tables.exec = Jvm.exec) (hb : c.code = cc) (hT : sd_T G j cc) : ab_Rtin G j (sd_P G D ad dA A p l e R s m args below meth c j h0 Qe) := by
  intro pc ls st h d lo hi offs off t x hf ha hb2 ho ht hk H locs cells slots lsM hP hS hl h1 h2 h3
  obtain ⟨n, hd, -⟩ := hT pc _ hf
  exact lv_tableIn hx hb hd ha hb2 ho ht (hk H locs cells slots lsM hP hS hl h1 h2 h3)
theorem sd_Rtou (hx : p.tables.exec = Jvm.exec) (hb : c.code = cc) (hT : sd_T G j cc) : ab_Rtou G j (sd_P G D ad dA A p l e R s m args below meth c j h0 Qe) := by
  intro pc ls st h d lo hi offs t x hf ha ht hk H locs cells slots lsM hP hS hl h1 h2 h3
  obtain ⟨n, hd, -⟩ := hT pc _ hf
  exact lv_tableOut hx hb hd ha ht (hk H locs cells slots lsM hP hS hl h1 h2 h3)
theorem sd_Rlku (hx : p.tables.exec = Jvm.exec) (hb : c.code = cc) (hT : sd_T G j cc) : ab_Rlku G j (sd_P G D ad dA A p l e R s m args below meth c j h0 Qe) := by
  intro pc ls st h d ps off t x hf hp ho ht hk H locs cells slots lsM hP hS hl h1 h2 h3
  obtain ⟨n, hd, -⟩ := hT pc _ hf
  exact lv_lookup hx hb hd hp ho ht (hk H locs cells slots lsM hP hS hl h1 h2 h3)
theorem sd_Cb (hx : p.tables.exec = Jvm.exec) (hb : c.code = cc) (hT : sd_T G j cc) (hi : ∀ a b, a < 1000000 → b < 1000000 → ad a = ad b → a = b) : ab_Cb G j (sd_P G D ad dA A p l e R s m args below meth c j h0 Qe) :=
  ⟨sd_Rif hx hb hT, sd_Ric hx hb hT, sd_Rnu hx hb hT, sd_Rnn hx hb hT, sd_Rac hx hb hT hi, sd_Rgo hx hb hT, sd_Rtin hx hb hT, sd_Rtou hx hb hT, sd_Rlku hx hb hT⟩
end SdA
