/-! OURS. A small machine of our own (ab_): configurations with object numbers in place of addresses, a method's runs as the least predicate closed under rules (ab_C), calls by depth (ab_X).
Its soundness over the JVM is another part (sd_). G holds the program: code, links, classes. -/
abbrev ab_O : Type := (Nat × vp_A) ⊕ (Nat × List Value)
abbrev ab_H : Type := List ab_O
abbrev ab_L : Type := List (Option Value)
abbrev ab_R : Type := Option Value ⊕ Nat
abbrev ab_Q : Type := ab_R → ab_H → Prop
abbrev ab_E : Type := Nat → List Value → ab_H → ab_Q → Prop
abbrev ab_P : Type := Nat → ab_L → List Value → ab_H → Prop
/-- code; locals; field links (class, field); method links; class links; arguments' number; handlers; constant arrays; static links; field types; default fields; weights of classes; types of arrays; the caps; the receivers' classes; answers' types; the classes; long constants -/
abbrev ab_G : Type := (Nat → Nat → Option Instr) × (Nat → Nat) × (Nat → Nat → Option (Nat × Nat)) × (Nat → Nat → Option Nat) × (Nat → Nat → Option Nat) × (Nat → Nat) × (Nat → Nat → Nat → Option Nat) × (Nat → Option (Nat × (Nat → Int32))) × (Nat → Nat → Option Nat) × (Nat → Nat → Option FieldType) × (Nat → Option (List Value)) × (Nat → Nat) × (Nat → Option FieldType) × (Nat × Nat) × (Nat → Option Nat) × (Nat → Option FieldType) × List vw_C × (Nat → Nat → Option Int64)
abbrev ab_f (G : ab_G) : Nat → Nat → Option Instr := G.1
abbrev ab_n (G : ab_G) : Nat → Nat := G.2.1
abbrev ab_lf (G : ab_G) : Nat → Nat → Option (Nat × Nat) := G.2.2.1
abbrev ab_lm (G : ab_G) : Nat → Nat → Option Nat := G.2.2.2.1
abbrev ab_lc (G : ab_G) : Nat → Nat → Option Nat := G.2.2.2.2.1
abbrev ab_na (G : ab_G) : Nat → Nat := G.2.2.2.2.2.1
abbrev ab_ct (G : ab_G) : Nat → Nat → Nat → Option Nat := G.2.2.2.2.2.2.1
abbrev ab_ca (G : ab_G) : Nat → Option (Nat × (Nat → Int32)) := G.2.2.2.2.2.2.2.1
abbrev ab_ls (G : ab_G) : Nat → Nat → Option Nat := G.2.2.2.2.2.2.2.2.1
abbrev ab_tf (G : ab_G) : Nat → Nat → Option FieldType := G.2.2.2.2.2.2.2.2.2.1
abbrev ab_df (G : ab_G) : Nat → Option (List Value) := G.2.2.2.2.2.2.2.2.2.2.1
abbrev ab_wc (G : ab_G) : Nat → Nat := G.2.2.2.2.2.2.2.2.2.2.2.1
abbrev ab_at (G : ab_G) : Nat → Option FieldType := G.2.2.2.2.2.2.2.2.2.2.2.2.1
abbrev ab_cap (G : ab_G) : Nat × Nat := G.2.2.2.2.2.2.2.2.2.2.2.2.2.1
abbrev ab_rc (G : ab_G) : Nat → Option Nat := G.2.2.2.2.2.2.2.2.2.2.2.2.2.2.1
abbrev ab_rt (G : ab_G) : Nat → Option FieldType := G.2.2.2.2.2.2.2.2.2.2.2.2.2.2.2.1
abbrev ab_cl (G : ab_G) : List vw_C := G.2.2.2.2.2.2.2.2.2.2.2.2.2.2.2.2.1
abbrev ab_kl (G : ab_G) : Nat → Nat → Option Int64 := G.2.2.2.2.2.2.2.2.2.2.2.2.2.2.2.2.2
-- what a heap weighs: its slots
def ab_w1 (G : ab_G) : ab_O → Nat
  | .inl (_, n, _) => n
  | .inr (ci, _) => ab_wc G ci
def ab_wt (G : ab_G) (h : ab_H) : Nat := (h.map (ab_w1 G)).sum
-- locals
def ab_c2 : Value → Bool
  | .long _ => true
  | .double _ => true
  | _ => false
def ab_clr (ls : ab_L) : Nat → ab_L
  | 0 => ls
  | k + 1 => match ls[k]? with
    | some (some v) => bif ab_c2 v then ls.set k none else ls
    | _ => ls
def ab_s1 (ls : ab_L) (i : Nat) (v : Value) : ab_L := (ab_clr ls i).set i (some v)
def ab_s2 (ls : ab_L) (i : Nat) (v : Value) : ab_L := ((ab_clr ls i).set i (some v)).set (i + 1) none
def ab_in : List Value → List (Option Value)
  | [] => []
  | v :: vs => bif ab_c2 v then some v :: none :: ab_in vs else some v :: ab_in vs
def ab_en (n : Nat) (vs : List Value) : ab_L := ab_in vs ++ List.replicate (n - (ab_in vs).length) none
-- instructions in families
def ab_cst : Instr → Option (Value × Nat)
  | .iconst n => some (.int (Int32.ofInt n), 1)
  | .bipush n => some (.int (Int8.ofInt n).toInt32, 2)
  | .sipush n => some (.int (Int16.ofInt n).toInt32, 3)
  | .lconst n => some (.long (Int64.ofNat (n : Nat)), 1)
  | .aconst_null => some (.null, 1)
  | _ => none
def ab_ld : Instr → Option (Nat × Nat × Nat)
  | .iload_n k => some (k, 1, 0)
  | .iload k => some (k, 2, 0)
  | .lload_n k => some (k, 1, 1)
  | .lload k => some (k, 2, 1)
  | .aload_n k => some (k, 1, 2)
  | .aload k => some (k, 2, 2)
  | _ => none
def ab_sd : Instr → Option (Nat × Nat × Nat)
  | .istore_n k => some (k, 1, 0)
  | .istore k => some (k, 2, 0)
  | .astore_n k => some (k, 1, 2)
  | .astore k => some (k, 2, 2)
  | _ => none
def ab_sl : Instr → Option (Nat × Nat)
  | .lstore_n k => some (k, 1)
  | .lstore k => some (k, 2)
  | _ => none
def ab_kd : Nat → Value → Bool
  | 0, .int _ => true
  | 1, .long _ => true
  | 2, .ref _ => true
  | 2, .null => true
  | _, _ => false
def ab_bin : Instr → Option (Int32 → Int32 → Int32)
  | .iadd => some fun x y => x + y
  | .isub => some fun x y => x - y
  | .imul => some fun x y => x * y
  | .iand => some fun x y => x &&& y
  | .ior => some fun x y => x ||| y
  | .ixor => some fun x y => x ^^^ y
  | .ishl => some fun x y => x <<< (y &&& 31)
  | .ishr => some fun x y => x >>> (y &&& 31)
  | .iushr => some fun x y => (x.toUInt32 >>> (y.toUInt32 &&& Int32.toUInt32 31)).toInt32
  | _ => none
def ab_lbn : Instr → Option (Int64 → Int64 → Int64)
  | .ladd => some fun x y => x + y
  | .lsub => some fun x y => x - y
  | .lmul => some fun x y => x * y
  | .land => some fun x y => x &&& y
  | .lor => some fun x y => x ||| y
  | .lxor => some fun x y => x ^^^ y
  | _ => none
def ab_lsh : Instr → Option (Int64 → Int32 → Int64)
  | .lshl => some fun x y => x <<< (y.toInt64 &&& 63)
  | .lshr => some fun x y => x >>> (y.toInt64 &&& 63)
  | .lushr => some fun x y => (x.toUInt64 >>> (y.toInt64.toUInt64 &&& Int64.toUInt64 63)).toInt64
  | _ => none
def ab_un : Instr → Value → Option Value
  | .i2l, .int x => some (.long x.toInt64)
  | .i2c, .int x => some (.int (x.toUInt32 % 65536).toInt32)
  | .ineg, .int x => some (.int (-x))
  | .l2i, .long x => some (.int x.toInt32)
  | .lneg, .long x => some (.long (-x))
  | _, _ => none
def ab_if : ClassFile.Cond → Int32 → Int32 → Prop
  | .eq, x, y => x = y
  | .ne, x, y => ¬ x = y
  | .lt, x, y => x < y
  | .ge, x, y => y ≤ x
  | .gt, x, y => y < x
  | .le, x, y => x ≤ y
def ab_iv : Instr → Option Nat
  | .invokevirtual i => some i
  | .invokespecial i => some i
  | .invokestatic i => some i
  | _ => none
def ab_re : Instr → Value → FieldType → Bool
  | .ireturn, .int _, _ => true
  | .lreturn, .long _, .long => true
  | .areturn, .ref _, .object _ => true
  | .areturn, .null, .object _ => true
  | _, _, _ => false
def ab_dv : FieldType → Option ((Nat → Int32) ⊕ (Nat → Int64) ⊕ (Nat → UInt32) ⊕ (Nat → UInt64) ⊕ (Nat → Option Nat))
  | .int => some (.inl fun _ => 0)
  | .char => some (.inl fun _ => 0)
  | .long => some (.inr (.inl fun _ => 0))
  | _ => none
def ab_rv (G : ab_G) (jj : Nat) (as : List Value) (h : ab_H) : Prop := match ab_rc G jj with
  | none => True
  | some ci => ∃ (b : Nat) (fs : List Value) (r : List Value), as = .ref b :: r ∧ h[b]? = some (.inr (ci, fs))
-- what follows a call
def ab_k (G : ab_G) (j : Nat) (Q : ab_Q) (P : ab_P) (pc : Nat) (ls : ab_L) (st : List Value) : ab_Q := fun r h => match r with
  | .inl v => P (pc + 3) ls (v.toList ++ st) h
  | .inr x => ∃ (ci : Nat) (fs : List Value), h[x]? = some (.inr (ci, fs)) ∧ match ab_ct G j pc ci with
    | some 0 => Q (.inr x) h
    | some (t + 1) => P (t + 1) ls [.ref x] h
    | none => False
-- the rules
section Rules
variable (G : ab_G) (E : ab_E) (j : Nat) (Q : ab_Q) (P : ab_P)
def ab_Rcst : Prop := ∀ pc ls st h i v n, ab_f G j pc = some i → ab_cst i = some (v, n) → P (pc + n) ls (v :: st) h → P pc ls st h
def ab_Rld : Prop := ∀ pc ls st h i k n d v, ab_f G j pc = some i → ab_ld i = some (k, n, d) → ls[k]? = some (some v) → ab_kd d v = true → P (pc + n) ls (v :: st) h → P pc ls st h
def ab_Rst : Prop := ∀ pc ls st h i k n d v, ab_f G j pc = some i → ab_sd i = some (k, n, d) → ab_kd d v = true → k < ab_n G j → P (pc + n) (ab_s1 ls k v) st h → P pc ls (v :: st) h
def ab_Rsl : Prop := ∀ pc ls st h i k n x, ab_f G j pc = some i → ab_sl i = some (k, n) → k + 1 < ab_n G j → P (pc + n) (ab_s2 ls k (.long x)) st h → P pc ls (.long x :: st) h
def ab_Rinc : Prop := ∀ pc ls st h k n x, ab_f G j pc = some (.iinc k n) → ls[k]? = some (some (.int x)) → k < ab_n G j → P (pc + 3) (ab_s1 ls k (.int (x + Int32.ofInt n))) st h → P pc ls st h
def ab_Rbin : Prop := ∀ pc ls st h i g x y, ab_f G j pc = some i → ab_bin i = some g → P (pc + 1) ls (.int (g x y) :: st) h → P pc ls (.int y :: .int x :: st) h
def ab_Rdiv : Prop := ∀ pc ls st h x y, ab_f G j pc = some .idiv → ¬ y = 0 → P (pc + 1) ls (.int (x / y) :: st) h → P pc ls (.int y :: .int x :: st) h
def ab_Rrem : Prop := ∀ pc ls st h x y, ab_f G j pc = some .irem → ¬ y = 0 → P (pc + 1) ls (.int (x - x / y * y) :: st) h → P pc ls (.int y :: .int x :: st) h
def ab_Rlbn : Prop := ∀ pc ls st h i g x y, ab_f G j pc = some i → ab_lbn i = some g → P (pc + 1) ls (.long (g x y) :: st) h → P pc ls (.long y :: .long x :: st) h
def ab_Rlsh : Prop := ∀ pc ls st h i g x y, ab_f G j pc = some i → ab_lsh i = some g → P (pc + 1) ls (.long (g x y) :: st) h → P pc ls (.int y :: .long x :: st) h
def ab_Run : Prop := ∀ pc ls st h i v w, ab_f G j pc = some i → ab_un i v = some w → P (pc + 1) ls (w :: st) h → P pc ls (v :: st) h
def ab_Rcmp : Prop := ∀ pc ls st h x y, ab_f G j pc = some .lcmp → P (pc + 1) ls (.int (lg_cmp x y) :: st) h → P pc ls (.long y :: .long x :: st) h
def ab_Rdup : Prop := ∀ pc ls st h v, ab_f G j pc = some .dup → ab_c2 v = false → P (pc + 1) ls (v :: v :: st) h → P pc ls (v :: st) h
def ab_Rdp2 : Prop := ∀ pc ls st h v w, ab_f G j pc = some .dup2 → ab_c2 v = false → ab_c2 w = false → P (pc + 1) ls (v :: w :: v :: w :: st) h → P pc ls (v :: w :: st) h
def ab_Rdpl : Prop := ∀ pc ls st h v, ab_f G j pc = some .dup2 → ab_c2 v = true → P (pc + 1) ls (v :: v :: st) h → P pc ls (v :: st) h
def ab_Rpop : Prop := ∀ pc ls st h v, ab_f G j pc = some .pop → ab_c2 v = false → P (pc + 1) ls st h → P pc ls (v :: st) h
def ab_Rif : Prop := ∀ pc ls st h c off (t : Nat) x, ab_f G j pc = some (.ifCond c off) → (pc : Int) + off = (t : Int) → (ab_if c x 0 → P t ls st h) → (¬ ab_if c x 0 → P (pc + 3) ls st h) → P pc ls (.int x :: st) h
def ab_Ric : Prop := ∀ pc ls st h c off (t : Nat) x y, ab_f G j pc = some (.if_icmp c off) → (pc : Int) + off = (t : Int) → (ab_if c x y → P t ls st h) → (¬ ab_if c x y → P (pc + 3) ls st h) → P pc ls (.int y :: .int x :: st) h
def ab_Rnu : Prop := ∀ pc ls st h off (t : Nat) (o : Option Nat), ab_f G j pc = some (.ifnull off) → (pc : Int) + off = (t : Int) → (o = none → P t ls st h) → (∀ a, o = some a → P (pc + 3) ls st h) → P pc ls (va_rf o :: st) h
def ab_Rnn : Prop := ∀ pc ls st h off (t : Nat) (o : Option Nat), ab_f G j pc = some (.ifnonnull off) → (pc : Int) + off = (t : Int) → (o = none → P (pc + 3) ls st h) → (∀ a, o = some a → P t ls st h) → P pc ls (va_rf o :: st) h
def ab_Rac : Prop := ∀ pc ls st h off (t : Nat) (o u : Option Nat), ab_f G j pc = some (.if_acmp .ne off) → (pc : Int) + off = (t : Int) → (∀ a, o = some a → a < 1000000) → (∀ a, u = some a → a < 1000000) → (¬ o = u → P t ls st h) → (o = u → P (pc + 3) ls st h) → P pc ls (va_rf u :: va_rf o :: st) h
def ab_Rgo : Prop := ∀ pc ls st h off (t : Nat), ab_f G j pc = some (.goto off) → (pc : Int) + off = (t : Int) → P t ls st h → P pc ls st h
def ab_Rtin : Prop := ∀ pc ls st h d lo hi offs off (t : Nat) (x : Int32), ab_f G j pc = some (.tableswitch d lo hi offs) → ¬ x.toInt < lo → ¬ hi < x.toInt → offs[(x.toInt - lo).toNat]? = some off → (pc : Int) + off = (t : Int) → P t ls st h → P pc ls (.int x :: st) h
def ab_Rtou : Prop := ∀ pc ls st h d lo hi offs (t : Nat) (x : Int32), ab_f G j pc = some (.tableswitch d lo hi offs) → (x.toInt < lo ∨ hi < x.toInt) → (pc : Int) + d = (t : Int) → P t ls st h → P pc ls (.int x :: st) h
def ab_Rlku : Prop := ∀ pc ls st h d ps off (t : Nat) (x : Int32), ab_f G j pc = some (.lookupswitch d ps) → (ps.toList.zip (ps.toList.drop 1)).all (fun (a, next) => a.1 < next.1) = true → Op.lookupswitch.offset ps.toList d x.toInt = off → (pc : Int) + off = (t : Int) → P t ls st h → P pc ls (.int x :: st) h
def ab_Rget : Prop := ∀ pc ls st h idx ci k fs v (a : Nat), ab_f G j pc = some (.getfield idx) → ab_lf G j idx = some (ci, k) → h[a]? = some (.inr (ci, fs)) → fs[k]? = some v → P (pc + 3) ls (v :: st) h → P pc ls (.ref a :: st) h
def ab_Rput : Prop := ∀ pc ls st h idx ci k fs v ty (a : Nat), ab_f G j pc = some (.putfield idx) → ab_lf G j idx = some (ci, k) → h[a]? = some (.inr (ci, fs)) → k < fs.length → ab_tf G ci k = some ty → narrow ty v = v → fits ty v = true → P (pc + 3) ls st (h.set a (.inr (ci, fs.set k v))) → P pc ls (v :: .ref a :: st) h
def ab_Rsta : Prop := ∀ pc ls st h idx a, ab_f G j pc = some (.getstatic idx) → ab_ls G j idx = some a → P (pc + 3) ls (.ref a :: st) h → P pc ls st h
def ab_Rkld : Prop := ∀ pc ls st h a n xs (i : Int32), ab_f G j pc = some .iaload → ab_ca G a = some (n, xs) → vp_in i n → P (pc + 1) ls (.int (xs i.toNatClampNeg) :: st) h → P pc ls (.int i :: .ref a :: st) h
def ab_Rkln : Prop := ∀ pc ls st h a n xs, ab_f G j pc = some .arraylength → ab_ca G a = some (n, xs) → P (pc + 1) ls (.int (Int32.ofNat n) :: st) h → P pc ls (.ref a :: st) h
def ab_Rild : Prop := ∀ pc ls st h t n xs (a : Nat) (i : Int32), ab_f G j pc = some .iaload → h[a]? = some (.inl (t, n, .inl xs)) → ab_at G t = some .int → vp_in i n → P (pc + 1) ls (.int (xs i.toNatClampNeg) :: st) h → P pc ls (.int i :: .ref a :: st) h
def ab_Rcld : Prop := ∀ pc ls st h t n xs (a : Nat) (i : Int32), ab_f G j pc = some .caload → h[a]? = some (.inl (t, n, .inl xs)) → ab_at G t = some .char → vp_in i n → P (pc + 1) ls (.int (xs i.toNatClampNeg) :: st) h → P pc ls (.int i :: .ref a :: st) h
def ab_Rlld : Prop := ∀ pc ls st h t n xs (a : Nat) (i : Int32), ab_f G j pc = some .laload → h[a]? = some (.inl (t, n, .inr (.inl xs))) → ab_at G t = some .long → vp_in i n → P (pc + 1) ls (.long (xs i.toNatClampNeg) :: st) h → P pc ls (.int i :: .ref a :: st) h
def ab_Rald : Prop := ∀ pc ls st h t n xs C (a : Nat) (i : Int32), ab_f G j pc = some .aaload → h[a]? = some (.inl (t, n, .inr (.inr (.inr (.inr xs))))) → ab_at G t = some (.object C) → vp_in i n → P (pc + 1) ls (va_rf (xs i.toNatClampNeg) :: st) h → P pc ls (.int i :: .ref a :: st) h
def ab_Rist : Prop := ∀ pc ls st h t n xs (a : Nat) (i x : Int32), ab_f G j pc = some .iastore → h[a]? = some (.inl (t, n, .inl xs)) → ab_at G t = some .int → vp_in i n → P (pc + 1) ls st (h.set a (.inl (t, n, .inl (upd xs i.toNatClampNeg x)))) → P pc ls (.int x :: .int i :: .ref a :: st) h
def ab_Rcts : Prop := ∀ pc ls st h t n xs (a : Nat) (i x : Int32), ab_f G j pc = some .castore → h[a]? = some (.inl (t, n, .inl xs)) → ab_at G t = some .char → vp_in i n → P (pc + 1) ls st (h.set a (.inl (t, n, .inl (upd xs i.toNatClampNeg (vp_nar .char x))))) → P pc ls (.int x :: .int i :: .ref a :: st) h
def ab_Rlst : Prop := ∀ pc ls st h t n xs (a : Nat) (i : Int32) (x : Int64), ab_f G j pc = some .lastore → h[a]? = some (.inl (t, n, .inr (.inl xs))) → ab_at G t = some .long → vp_in i n → P (pc + 1) ls st (h.set a (.inl (t, n, .inr (.inl (vp_updL xs i.toNatClampNeg x))))) → P pc ls (.long x :: .int i :: .ref a :: st) h
def ab_Rast : Prop := ∀ pc ls st h t n xs ci fs r (a b : Nat) (i : Int32), ab_f G j pc = some .aastore → h[a]? = some (.inl (t, n, .inr (.inr (.inr (.inr xs))))) → h[b]? = some (.inr (ci, fs)) → (ab_cl G)[ci]? = some r → ab_at G t = some (.object r.1) → vp_in i n → P (pc + 1) ls st (h.set a (.inl (t, n, .inr (.inr (.inr (.inr (va_up xs i.toNatClampNeg (some b)))))))) → P pc ls (.ref b :: .int i :: .ref a :: st) h
def ab_Rlen : Prop := ∀ pc ls st h t ty x (a : Nat), ab_f G j pc = some .arraylength → h[a]? = some (.inl (t, x)) → ab_at G t = some ty → P (pc + 1) ls (.int (Int32.ofNat x.1) :: st) h → P pc ls (.ref a :: st) h
def ab_Rnew : Prop := ∀ pc ls st h idx ci fs, ab_f G j pc = some (.new idx) → ab_lc G j idx = some ci → ab_df G ci = some fs → h.length + 1 ≤ (ab_cap G).1 → ab_wt G h + fs.length ≤ (ab_cap G).2 → P (pc + 3) ls (.ref h.length :: st) (h ++ [.inr (ci, fs)]) → P pc ls st h
def ab_Rna : Prop := ∀ pc ls st h aty t ty x0 (n : Int32) N, ab_f G j pc = some (.newarray aty) → ab_at G t = some ty → newarray.typeOf aty = ty → ab_dv ty = some x0 → ¬ n < 0 → n.toNatClampNeg = N → N ≤ 100000 → h.length + 1 ≤ (ab_cap G).1 → ab_wt G h + N ≤ (ab_cap G).2 → P (pc + 2) ls (.ref h.length :: st) (h ++ [.inl (t, N, x0)]) → P pc ls (.int n :: st) h
def ab_Rnq : Prop := ∀ pc ls st h idx t ci r (n : Int32) N, ab_f G j pc = some (.anewarray idx) → ab_lc G j idx = some ci → (ab_cl G)[ci]? = some r → ab_at G t = some (.object r.1) → ¬ n < 0 → n.toNatClampNeg = N → N ≤ 100000 → h.length + 1 ≤ (ab_cap G).1 → ab_wt G h + N ≤ (ab_cap G).2 → P (pc + 3) ls (.ref h.length :: st) (h ++ [.inl (t, N, .inr (.inr (.inr (.inr (fun _ => none)))))]) → P pc ls (.int n :: st) h
def ab_Rkl : Prop := ∀ pc ls st h idx x, ab_f G j pc = some (.ldc2_w idx) → ab_kl G j idx = some x → P (pc + 3) ls (.long x :: st) h → P pc ls st h
def ab_Robj : Prop := ∀ pc ls st h idx (a : Nat), ab_f G j pc = some (.invokespecial idx) → ab_lm G j idx = some 1000000 → (st.map (fun v => v.category)).sum ≤ 16 → P (pc + 3) ls st h → P pc ls (.ref a :: st) h
def ab_Rcpi : Prop := ∀ pc ls st h idx t ty n0 n1 xs ys (a b : Nat) (sp dp n : Int32), ab_f G j pc = some (.invokestatic idx) → ab_lm G j idx = some 1000001 → h[a]? = some (.inl (t, n0, .inl xs)) → h[b]? = some (.inl (t, n1, .inl ys)) → ab_at G t = some ty → refKind ty = false → ¬ sp < 0 → ¬ dp < 0 → ¬ n < 0 → sp.toNatClampNeg + n.toNatClampNeg ≤ n0 → dp.toNatClampNeg + n.toNatClampNeg ≤ n1 → (∀ i, i < n.toNatClampNeg → fits ty (.int (xs (sp.toNatClampNeg + i))) = true) → (st.map (fun v => v.category)).sum ≤ 16 → P (pc + 3) ls st (h.set b (.inl (t, n1, .inl (va_cpy xs ys sp.toNatClampNeg dp.toNatClampNeg n.toNatClampNeg)))) → P pc ls (.int n :: .int dp :: .ref b :: .int sp :: .ref a :: st) h
def ab_Rcpl : Prop := ∀ pc ls st h idx t n0 n1 xs ys (a b : Nat) (sp dp n : Int32), ab_f G j pc = some (.invokestatic idx) → ab_lm G j idx = some 1000001 → h[a]? = some (.inl (t, n0, .inr (.inl xs))) → h[b]? = some (.inl (t, n1, .inr (.inl ys))) → ab_at G t = some .long → ¬ sp < 0 → ¬ dp < 0 → ¬ n < 0 → sp.toNatClampNeg + n.toNatClampNeg ≤ n0 → dp.toNatClampNeg + n.toNatClampNeg ≤ n1 → (st.map (fun v => v.category)).sum ≤ 16 → P (pc + 3) ls st (h.set b (.inl (t, n1, .inr (.inl (va_cpy xs ys sp.toNatClampNeg dp.toNatClampNeg n.toNatClampNeg))))) → P pc ls (.int n :: .int dp :: .ref b :: .int sp :: .ref a :: st) h
def ab_Rmax : Prop := ∀ pc ls st h idx x y, ab_f G j pc = some (.invokestatic idx) → ab_lm G j idx = some 1000002 → (st.map (fun v => v.category)).sum ≤ 16 → P (pc + 3) ls (.int (if x < y then y else x) :: st) h → P pc ls (.int y :: .int x :: st) h
def ab_Rmin : Prop := ∀ pc ls st h idx x y, ab_f G j pc = some (.invokestatic idx) → ab_lm G j idx = some 1000003 → (st.map (fun v => v.category)).sum ≤ 16 → P (pc + 3) ls (.int (if y < x then y else x) :: st) h → P pc ls (.int y :: .int x :: st) h
def ab_Rcall : Prop := ∀ pc ls st h i idx jj as, ab_f G j pc = some i → ab_iv i = some idx → ab_lm G j idx = some jj → jj < 1000000 → as.length = ab_na G jj → (ab_in as).length ≤ ab_n G jj → ab_rv G jj as h → (st.map (fun v => v.category)).sum ≤ 16 → E jj as h (ab_k G j Q P pc ls st) → P pc ls (as.reverse ++ st) h
def ab_Rret : Prop := ∀ pc ls h i v ty, ab_f G j pc = some i → ab_re i v ty = true → ab_rt G j = some ty → narrow ty v = v → Q (.inl (some v)) h → P pc ls [v] h
def ab_Rrtv : Prop := ∀ pc ls h, ab_f G j pc = some .return_ → ab_rt G j = none → Q (.inl none) h → P pc ls [] h
def ab_Rthr : Prop := ∀ pc ls st h idx ci k m, ab_f G j pc = some (.new idx) → ab_lc G j idx = some ci → ab_df G ci = none → ab_f G j (pc + 3) = some .dup → ab_f G j (pc + 4) = some (.ldc k) → ab_f G j (pc + 6) = some (.invokespecial m) → ab_lm G j m = some 1000004 → ab_f G j (pc + 9) = some .athrow → h.length + 1 ≤ (ab_cap G).1 → ab_wt G h + ab_wc G ci ≤ (ab_cap G).2 → (st.map (fun v => v.category)).sum ≤ 16 → Q (.inr h.length) (h ++ [.inr (ci, [])]) → P pc ls st h
def ab_Ca : Prop := ab_Rcst G j P ∧ ab_Rld G j P ∧ ab_Rst G j P ∧ ab_Rsl G j P ∧ ab_Rinc G j P ∧ ab_Rbin G j P ∧ ab_Rdiv G j P ∧ ab_Rrem G j P ∧ ab_Rlbn G j P ∧ ab_Rlsh G j P ∧ ab_Run G j P ∧ ab_Rcmp G j P ∧ ab_Rdup G j P ∧ ab_Rdp2 G j P ∧ ab_Rdpl G j P ∧ ab_Rpop G j P
def ab_Cb : Prop := ab_Rif G j P ∧ ab_Ric G j P ∧ ab_Rnu G j P ∧ ab_Rnn G j P ∧ ab_Rac G j P ∧ ab_Rgo G j P ∧ ab_Rtin G j P ∧ ab_Rtou G j P ∧ ab_Rlku G j P
def ab_Cc : Prop := ab_Rget G j P ∧ ab_Rput G j P ∧ ab_Rsta G j P ∧ ab_Rkld G j P ∧ ab_Rkln G j P ∧ ab_Rild G j P ∧ ab_Rcld G j P ∧ ab_Rlld G j P ∧ ab_Rald G j P ∧ ab_Rist G j P ∧ ab_Rcts G j P ∧ ab_Rlst G j P ∧ ab_Rast G j P ∧ ab_Rlen G j P ∧ ab_Rnew G j P ∧ ab_Rna G j P ∧ ab_Rnq G j P ∧ ab_Rkl G j P
def ab_Cd : Prop := ab_Robj G j P ∧ ab_Rcpi G j P ∧ ab_Rcpl G j P ∧ ab_Rmax G j P ∧ ab_Rmin G j P
def ab_Ce : Prop := ab_Rcall G E j Q P ∧ ab_Rret G j Q P ∧ ab_Rrtv G j Q P ∧ ab_Rthr G j Q P
def ab_C : Prop := ab_Ca G j P ∧ ab_Cb G j P ∧ ab_Cc G j P ∧ ab_Cd G j P ∧ ab_Ce G E j Q P
end Rules
/-- a run of method j from a configuration comes to an end with Q -/
def ab_W (G : ab_G) (E : ab_E) (j : Nat) (Q : ab_Q) (pc : Nat) (ls : ab_L) (st : List Value) (h : ab_H) : Prop := ∀ P : ab_P, ab_C G E j Q P → P pc ls st h
/-- a call of method j, of depth at most d, comes to an end with Q -/
def ab_X (G : ab_G) : Nat → ab_E
  | 0 => fun _ _ _ _ => False
  | d + 1 => fun j as h Q => ab_W G (ab_X G d) j Q 0 (ab_en (ab_n G j) as) [] h
theorem ab_k_mono {G : ab_G} {j : Nat} {Q Q' : ab_Q} {P P' : ab_P} (hQ : ∀ r h, Q r h → Q' r h) (hP : ∀ pc ls st h, P pc ls st h → P' pc ls st h) {pc : Nat} {ls : ab_L} {st : List Value} : ∀ r h, ab_k G j Q P pc ls st r h → ab_k G j Q' P' pc ls st r h := by
  intro r h hk
  cases r with
  | inl v => exact hP _ _ _ _ hk
  | inr x =>
    obtain ⟨ci, fs, h1, h2⟩ := hk
    refine ⟨ci, fs, h1, ?_⟩
    cases hc : ab_ct G j pc ci with
    | none => rw [hc] at h2; exact h2.elim
    | some t =>
      rw [hc] at h2
      cases t with
      | zero => exact hQ _ _ h2
      | succ t => exact hP _ _ _ _ h2
/-- monotone in what is asked at the end -/
def ab_Em (E : ab_E) : Prop := ∀ j as h (Q Q' : ab_Q), (∀ r h, Q r h → Q' r h) → E j as h Q → E j as h Q'
theorem ab_W_mono {G : ab_G} {E : ab_E} (hE : ab_Em E) {j : Nat} {Q Q' : ab_Q} (hQ : ∀ r h, Q r h → Q' r h) {pc : Nat} {ls : ab_L} {st : List Value} {h : ab_H} (hw : ab_W G E j Q pc ls st h) : ab_W G E j Q' pc ls st h := by
  intro P hC
  refine hw P ⟨hC.1, hC.2.1, hC.2.2.1, hC.2.2.2.1, ?_, ?_, ?_, ?_⟩
  · intro pc ls st h i idx jj as h1 h2 h3 h4 h5 h6 h7 h8 h9
    exact hC.2.2.2.2.1 pc ls st h i idx jj as h1 h2 h3 h4 h5 h6 h7 h8 (hE _ _ _ _ _ (ab_k_mono hQ (fun _ _ _ _ q => q)) h9)
  · intro pc ls h i v ty h1 h2 h3 h4 h5
    exact hC.2.2.2.2.2.1 pc ls h i v ty h1 h2 h3 h4 (hQ _ _ h5)
  · intro pc ls h h1 h2 h3
    exact hC.2.2.2.2.2.2.1 pc ls h h1 h2 (hQ _ _ h3)
  · intro pc ls st h idx ci k m h1 h2 h3 h4 h5 h6 h7 h8 h9 h10 h11 h12
    exact hC.2.2.2.2.2.2.2 pc ls st h idx ci k m h1 h2 h3 h4 h5 h6 h7 h8 h9 h10 h11 (hQ _ _ h12)
theorem ab_X_mono {G : ab_G} : ∀ d, ab_Em (ab_X G d)
  | 0 => fun _ _ _ _ _ _ h => h.elim
  | d + 1 => fun j as h Q Q' hQ hw => ab_W_mono (ab_X_mono d) hQ hw
