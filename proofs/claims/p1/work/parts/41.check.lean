/-! OURS. The code is what our tables say: an instruction is read off its own bytes, so that a program checks a method's code in one pass. -/
theorem dk_bind {α β : Type} (r : Decoder α) (f : α → Decoder β) (code : ByteArray) (p : Nat) : Reader.runAt (r >>= f) code p = (Reader.runAt r code p) >>= (fun x => Reader.runAt (f x.1) code x.2) := rfl
theorem dk_map {α β : Type} (r : Decoder α) (f : α → β) (code : ByteArray) (p : Nat) : Reader.runAt (f <$> r) code p = (Reader.runAt r code p) >>= (fun x => .ok (f x.1, x.2)) := rfl
theorem dk_u1 {code : ByteArray} {p : Nat} {b : UInt8} (h : code.data.toList[p]? = some b) : Reader.runAt (Reader.u1 : Decoder Nat) code p = .ok (b.toNat, p + 1) := by
  obtain ⟨hl, hb⟩ := List.getElem?_eq_some_iff.mp h
  have hs : p < code.size := hl
  have e : code[p] = b := hb
  show ((if h : p < code.size then (do set (p + 1); pure code[p].toNat : Decoder Nat) else throw (HasTruncated.truncated p)) code p : Except DecodeError (Nat × Nat)) = _
  rw [dif_pos hs, e]
  rfl
theorem dk_u2 {code : ByteArray} {p : Nat} {b c : UInt8} (h : code.data.toList[p]? = some b) (h2 : code.data.toList[p + 1]? = some c) : Reader.runAt (Reader.u2 : Decoder Nat) code p = .ok (b.toNat * 256 + c.toNat, p + 2) := by
  show Reader.runAt ((Reader.u1 : Decoder Nat) >>= fun hi => (Reader.u1 : Decoder Nat) >>= fun lo => pure (hi * 256 + lo)) code p = _
  rw [dk_bind, dk_u1 h]
  show Reader.runAt ((Reader.u1 : Decoder Nat) >>= fun lo => pure (b.toNat * 256 + lo)) code (p + 1) = _
  rw [dk_bind, dk_u1 h2]
  rfl
theorem dk_s1 {code : ByteArray} {p : Nat} {b : UInt8} (h : code.data.toList[p]? = some b) : Reader.runAt (Reader.s1 : Decoder Int) code p = .ok (Reader.signed 8 b.toNat, p + 1) := by
  show Reader.runAt (Reader.signed 8 <$> (Reader.u1 : Decoder Nat)) code p = _
  rw [dk_map, dk_u1 h]
  rfl
theorem dk_s2 {code : ByteArray} {p : Nat} {b c : UInt8} (h : code.data.toList[p]? = some b) (h2 : code.data.toList[p + 1]? = some c) : Reader.runAt (Reader.s2 : Decoder Int) code p = .ok (Reader.signed 16 (b.toNat * 256 + c.toNat), p + 2) := by
  show Reader.runAt (Reader.signed 16 <$> (Reader.u2 : Decoder Nat)) code p = _
  rw [dk_map, dk_u2 h h2]
  rfl
def dk_1 (b : Nat) : Option Instr := match b with
  | 1 => some (.aconst_null)
  | 2 => some (.iconst (-1))
  | 3 => some (.iconst (0))
  | 4 => some (.iconst (1))
  | 5 => some (.iconst (2))
  | 6 => some (.iconst (3))
  | 7 => some (.iconst (4))
  | 8 => some (.iconst (5))
  | 9 => some (.lconst 0)
  | 10 => some (.lconst 1)
  | 26 => some (.iload_n 0)
  | 27 => some (.iload_n 1)
  | 28 => some (.iload_n 2)
  | 29 => some (.iload_n 3)
  | 30 => some (.lload_n 0)
  | 31 => some (.lload_n 1)
  | 32 => some (.lload_n 2)
  | 33 => some (.lload_n 3)
  | 42 => some (.aload_n 0)
  | 43 => some (.aload_n 1)
  | 44 => some (.aload_n 2)
  | 45 => some (.aload_n 3)
  | 46 => some (.iaload)
  | 47 => some (.laload)
  | 50 => some (.aaload)
  | 52 => some (.caload)
  | 59 => some (.istore_n 0)
  | 60 => some (.istore_n 1)
  | 61 => some (.istore_n 2)
  | 62 => some (.istore_n 3)
  | 63 => some (.lstore_n 0)
  | 64 => some (.lstore_n 1)
  | 65 => some (.lstore_n 2)
  | 66 => some (.lstore_n 3)
  | 75 => some (.astore_n 0)
  | 76 => some (.astore_n 1)
  | 77 => some (.astore_n 2)
  | 78 => some (.astore_n 3)
  | 79 => some (.iastore)
  | 80 => some (.lastore)
  | 83 => some (.aastore)
  | 85 => some (.castore)
  | 87 => some (.pop)
  | 89 => some (.dup)
  | 92 => some (.dup2)
  | 96 => some (.iadd)
  | 97 => some (.ladd)
  | 100 => some (.isub)
  | 101 => some (.lsub)
  | 104 => some (.imul)
  | 105 => some (.lmul)
  | 108 => some (.idiv)
  | 112 => some (.irem)
  | 116 => some (.ineg)
  | 117 => some (.lneg)
  | 120 => some (.ishl)
  | 121 => some (.lshl)
  | 122 => some (.ishr)
  | 123 => some (.lshr)
  | 124 => some (.iushr)
  | 125 => some (.lushr)
  | 126 => some (.iand)
  | 127 => some (.land)
  | 128 => some (.ior)
  | 129 => some (.lor)
  | 130 => some (.ixor)
  | 131 => some (.lxor)
  | 133 => some (.i2l)
  | 136 => some (.l2i)
  | 146 => some (.i2c)
  | 148 => some (.lcmp)
  | 172 => some (.ireturn)
  | 173 => some (.lreturn)
  | 176 => some (.areturn)
  | 177 => some (.return_)
  | 190 => some (.arraylength)
  | 191 => some (.athrow)
  | _ => none
def dk_2 (b : Nat) : Option (Nat → Instr) := match b with
  | 18 => some (fun x => .ldc x)
  | 21 => some (fun x => .iload x)
  | 22 => some (fun x => .lload x)
  | 25 => some (fun x => .aload x)
  | 54 => some (fun x => .istore x)
  | 55 => some (fun x => .lstore x)
  | 58 => some (fun x => .astore x)
  | _ => none
def dk_3 (b : Nat) : Option (Nat → Instr) := match b with
  | 20 => some (fun x => .ldc2_w x)
  | 178 => some (fun x => .getstatic x)
  | 180 => some (fun x => .getfield x)
  | 181 => some (fun x => .putfield x)
  | 182 => some (fun x => .invokevirtual x)
  | 183 => some (fun x => .invokespecial x)
  | 184 => some (fun x => .invokestatic x)
  | 187 => some (fun x => .new x)
  | 189 => some (fun x => .anewarray x)
  | _ => none
def dk_4 (b : Nat) : Option (Int → Instr) := match b with
  | 17 => some (fun x => .sipush x)
  | 153 => some (fun x => .ifCond .eq x)
  | 154 => some (fun x => .ifCond .ne x)
  | 155 => some (fun x => .ifCond .lt x)
  | 156 => some (fun x => .ifCond .ge x)
  | 157 => some (fun x => .ifCond .gt x)
  | 158 => some (fun x => .ifCond .le x)
  | 159 => some (fun x => .if_icmp .eq x)
  | 160 => some (fun x => .if_icmp .ne x)
  | 161 => some (fun x => .if_icmp .lt x)
  | 162 => some (fun x => .if_icmp .ge x)
  | 163 => some (fun x => .if_icmp .gt x)
  | 164 => some (fun x => .if_icmp .le x)
  | 165 => some (fun x => .if_acmp .eq x)
  | 166 => some (fun x => .if_acmp .ne x)
  | 167 => some (fun x => .goto x)
  | 198 => some (fun x => .ifnull x)
  | 199 => some (fun x => .ifnonnull x)
  | _ => none
def dk_5 (b c : Nat) : Option Instr := match b, c with
  | 16, c => some (.bipush (Reader.signed 8 c))
  | 188, 5 => some (.newarray .char)
  | 188, 10 => some (.newarray .int)
  | 188, 11 => some (.newarray .long)
  | _, _ => none
set_option maxHeartbeats 4000000 in
theorem dk_1_ok {code : ByteArray} {p : Nat} {b : UInt8} {i : Instr} (h : code.data.toList[p]? = some b) (hi : dk_1 b.toNat = some i) : decode code p = .ok (i, 1) := by
  unfold decode Decoder.instr
  rw [dk_bind, dk_u1 h]
  unfold dk_1 at hi
  split at hi
  all_goals first
    | (cases hi; done)
    | (rename_i hq; cases hi; rw [hq]; show Except.ok (_, p + 1 - p) = _; rw [Nat.add_sub_cancel_left])
theorem dk_2_ok {code : ByteArray} {p : Nat} {b c : UInt8} {f : Nat → Instr} (h : code.data.toList[p]? = some b) (h1 : code.data.toList[p + 1]? = some c) (hi : dk_2 b.toNat = some f) : decode code p = .ok (f c.toNat, 2) := by
  unfold decode Decoder.instr
  rw [dk_bind, dk_u1 h]
  unfold dk_2 at hi
  split at hi
  all_goals first
    | (cases hi; done)
    | (rename_i hq; cases hi; rw [hq]
       show (Reader.runAt ((Reader.u1 : Decoder Nat) >>= fun x => pure _) code (p + 1) >>= fun x => .ok (x.1, x.2 - p)) = _
       rw [dk_bind, dk_u1 h1]
       show Except.ok (_, p + 1 + 1 - p) = _
       rw [show p + 1 + 1 - p = 2 by omega])
theorem dk_3_ok {code : ByteArray} {p : Nat} {b c d : UInt8} {f : Nat → Instr} (h : code.data.toList[p]? = some b) (h1 : code.data.toList[p + 1]? = some c) (h2 : code.data.toList[p + 2]? = some d) (hi : dk_3 b.toNat = some f) : decode code p = .ok (f (c.toNat * 256 + d.toNat), 3) := by
  unfold decode Decoder.instr
  rw [dk_bind, dk_u1 h]
  unfold dk_3 at hi
  split at hi
  all_goals first
    | (cases hi; done)
    | (rename_i hq; cases hi; rw [hq]
       show (Reader.runAt ((Reader.u2 : Decoder Nat) >>= fun x => pure _) code (p + 1) >>= fun x => .ok (x.1, x.2 - p)) = _
       rw [dk_bind, dk_u2 h1 h2]
       show Except.ok (_, p + 1 + 2 - p) = _
       rw [show p + 1 + 2 - p = 3 by omega])
theorem dk_4_ok {code : ByteArray} {p : Nat} {b c d : UInt8} {f : Int → Instr} (h : code.data.toList[p]? = some b) (h1 : code.data.toList[p + 1]? = some c) (h2 : code.data.toList[p + 2]? = some d) (hi : dk_4 b.toNat = some f) : decode code p = .ok (f (Reader.signed 16 (c.toNat * 256 + d.toNat)), 3) := by
  unfold decode Decoder.instr
  rw [dk_bind, dk_u1 h]
  unfold dk_4 at hi
  split at hi
  all_goals first
    | (cases hi; done)
    | (rename_i hq; cases hi; rw [hq]
       show (Reader.runAt ((Reader.s2 : Decoder Int) >>= fun x => pure _) code (p + 1) >>= fun x => .ok (x.1, x.2 - p)) = _
       rw [dk_bind, dk_s2 h1 h2]
       show Except.ok (_, p + 1 + 2 - p) = _
       rw [show p + 1 + 2 - p = 3 by omega])
theorem dk_5_ok {code : ByteArray} {p : Nat} {b c : UInt8} {i : Instr} (h : code.data.toList[p]? = some b) (h1 : code.data.toList[p + 1]? = some c) (hi : dk_5 b.toNat c.toNat = some i) : decode code p = .ok (i, 2) := by
  unfold decode Decoder.instr
  rw [dk_bind, dk_u1 h]
  unfold dk_5 at hi
  split at hi
  · rename_i hq
    cases hi
    rw [hq]
    show (Reader.runAt ((Reader.s1 : Decoder Int) >>= fun x => pure _) code (p + 1) >>= fun x => .ok (x.1, x.2 - p)) = _
    rw [dk_bind, dk_s1 h1]
    show Except.ok (_, p + 1 + 1 - p) = _
    rw [show p + 1 + 1 - p = 2 by omega]
  · rename_i hq hc
    cases hi
    rw [hq]
    have h3 := dk_u1 h1
    rw [hc] at h3
    show (Reader.runAt (Decoder.newarray p) code (p + 1) >>= fun x => .ok (x.1, x.2 - p)) = _
    unfold Decoder.newarray
    rw [dk_bind, h3]
    show Except.ok (_, p + 1 + 1 - p) = _
    rw [show p + 1 + 1 - p = 2 by omega]
  · rename_i hq hc
    cases hi
    rw [hq]
    have h3 := dk_u1 h1
    rw [hc] at h3
    show (Reader.runAt (Decoder.newarray p) code (p + 1) >>= fun x => .ok (x.1, x.2 - p)) = _
    unfold Decoder.newarray
    rw [dk_bind, h3]
    show Except.ok (_, p + 1 + 1 - p) = _
    rw [show p + 1 + 1 - p = 2 by omega]
  · rename_i hq hc
    cases hi
    rw [hq]
    have h3 := dk_u1 h1
    rw [hc] at h3
    show (Reader.runAt (Decoder.newarray p) code (p + 1) >>= fun x => .ok (x.1, x.2 - p)) = _
    unfold Decoder.newarray
    rw [dk_bind, h3]
    show Except.ok (_, p + 1 + 1 - p) = _
    rw [show p + 1 + 1 - p = 2 by omega]
  · cases hi
theorem dk_6_ok {code : ByteArray} {p : Nat} {b c d : UInt8} (h : code.data.toList[p]? = some b) (h1 : code.data.toList[p + 1]? = some c) (h2 : code.data.toList[p + 2]? = some d) (hi : b.toNat = 132) : decode code p = .ok (.iinc c.toNat (Reader.signed 8 d.toNat), 3) := by
  unfold decode Decoder.instr
  rw [dk_bind, dk_u1 h, hi]
  show (Reader.runAt ((Reader.u1 : Decoder Nat) >>= fun x => (Reader.s1 : Decoder Int) >>= fun y => pure (Instr.iinc x y)) code (p + 1) >>= fun x => .ok (x.1, x.2 - p)) = _
  rw [dk_bind, dk_u1 h1]
  show (Reader.runAt ((Reader.s1 : Decoder Int) >>= fun y => pure (Instr.iinc c.toNat y)) code (p + 1 + 1) >>= fun x => .ok (x.1, x.2 - p)) = _
  rw [dk_bind, dk_s1 h2]
  show Except.ok (_, p + 1 + 1 + 1 - p) = _
  rw [show p + 1 + 1 + 1 - p = 3 by omega]
/-- the instruction at the head of a row of bytes -/
def dk_at : List UInt8 → Option (Instr × Nat)
  | [] => none
  | b :: r => match dk_1 b.toNat with
    | some i => some (i, 1)
    | none => match r with
      | [] => none
      | c :: r => match dk_2 b.toNat with
        | some f => some (f c.toNat, 2)
        | none => match dk_5 b.toNat c.toNat with
          | some i => some (i, 2)
          | none => match r with
            | [] => none
            | d :: _ => match dk_3 b.toNat with
              | some f => some (f (c.toNat * 256 + d.toNat), 3)
              | none => match dk_4 b.toNat with
                | some f => some (f (Reader.signed 16 (c.toNat * 256 + d.toNat)), 3)
                | none => if b.toNat = 132 then some (.iinc c.toNat (Reader.signed 8 d.toNat), 3) else none
theorem dk_at_ok {code : ByteArray} {p : Nat} {i : Instr} {n : Nat} (h : dk_at (code.data.toList.drop p) = some (i, n)) : decode code p = .ok (i, n) := by
  have g : ∀ k, (code.data.toList.drop p)[k]? = code.data.toList[p + k]? := fun k => by rw [List.getElem?_drop]
  unfold dk_at at h
  split at h
  · cases h
  · rename_i b r hl
    have hb : code.data.toList[p]? = some b := by have := g 0; rw [hl] at this; simpa using this.symm
    split at h
    · rename_i i1 h1
      cases h
      exact dk_1_ok hb h1
    · split at h
      · cases h
      · rename_i c r2
        have hc : code.data.toList[p + 1]? = some c := by have := g 1; rw [hl] at this; simpa using this.symm
        split at h
        · rename_i f hf
          cases h
          exact dk_2_ok hb hc hf
        · split at h
          · rename_i i5 hi5
            cases h
            exact dk_5_ok hb hc hi5
          · split at h
            · cases h
            · rename_i d r3
              have hd : code.data.toList[p + 2]? = some d := by have := g 2; rw [hl] at this; simpa using this.symm
              split at h
              · rename_i f hf
                cases h
                exact dk_3_ok hb hc hd hf
              · split at h
                · rename_i f hf
                  cases h
                  exact dk_4_ok hb hc hd hf
                · split at h
                  · rename_i hi
                    cases h
                    exact dk_6_ok hb hc hd hi
                  · cases h
def dk_ck : List UInt8 → List (Option Instr) → Bool
  | _, [] => true
  | l, none :: t => dk_ck l.tail t
  | l, some i :: t => (ab_sw i || decide (dk_at l = some (i, ab_len i))) && dk_ck l.tail t
theorem dk_ck_ok {code : ByteArray} : ∀ (t : List (Option Instr)) (p : Nat), dk_ck (code.data.toList.drop p) t = true → ∀ k i, t[k]? = some (some i) → ab_sw i = false → decode code (p + k) = .ok (i, ab_len i) := by
  intro t
  induction t with
  | nil => intro p _ k i h; cases h
  | cons x t ih =>
    intro p h k i hk hs
    have ht : (code.data.toList.drop p).tail = code.data.toList.drop (p + 1) := by rw [List.tail_drop]
    cases k with
    | zero =>
      have hx : x = some i := by simpa using hk
      subst hx
      simp only [dk_ck, Bool.and_eq_true, Bool.or_eq_true, decide_eq_true_eq, hs] at h
      rcases h.1 with h1 | h1
      · cases h1
      · exact dk_at_ok h1
    | succ k =>
      have hk' : t[k]? = some (some i) := by simpa using hk
      have h2 : dk_ck (code.data.toList.drop (p + 1)) t = true := by
        cases x with
        | none => rw [← ht]; exact h
        | some y =>
          simp only [dk_ck, Bool.and_eq_true] at h
          rw [← ht]
          exact h.2
      have := ih (p + 1) h2 k i hk' hs
      rw [show p + (k + 1) = p + 1 + k by omega]
      exact this
