section
/-! OURS. A small machine of our own (ab_): configurations with object numbers in place of addresses, a method's runs as the least predicate closed under rules (ab_C), calls by depth (ab_X).
Its soundness over the JVM is another part (sd_). G holds the program: code, links, classes. -/
abbrev ab_O : Type := (Nat × vp_A) ⊕ (Nat × List Value)
abbrev ab_H : Type := List ab_O
abbrev ab_L : Type := List (Option Value)
abbrev ab_R : Type := Option Value ⊕ Nat
abbrev ab_Q : Type := ab_R → ab_H → Prop
abbrev ab_E : Type := Nat → List Value → ab_H → ab_Q → Prop
abbrev ab_P : Type := Nat → ab_L → List Value → ab_H → Prop
/-- code; locals; field links (class, field); method links; class links; arguments' number; handlers; constant arrays; static links; field types; default fields; weights of classes; types of arrays; the caps; the receivers' classes; answers' types; the classes; long constants -/
abbrev ab_G : Type := (Nat → Nat → Option Instr) × (Nat → Nat) × (Nat → Nat → Option (Nat × Nat)) × (Nat → Nat → Option Nat) × (Nat → Nat → Option Nat) × (Nat → Nat) × (Nat → Nat → Nat → Option Nat) × (Nat → Option (Nat × (Nat → Int32))) × (Nat → Nat → Option Nat) × (Nat → Nat → Option FieldType) × (Nat → Option (List Value)) × (Nat → Nat) × (Nat → Option FieldType) × (Nat × Nat) × (Nat → Option Nat) × (Nat → Option FieldType) × List vw_C × (Nat → Nat → Option Int64)
abbrev ab_f (G : ab_G) : Nat → Nat → Option Instr := G.1
abbrev ab_n (G : ab_G) : Nat → Nat := G.2.1
abbrev ab_lf (G : ab_G) : Nat → Nat → Option (Nat × Nat) := G.2.2.1
abbrev ab_lm (G : ab_G) : Nat → Nat → Option Nat := G.2.2.2.1
abbrev ab_lc (G : ab_G) : Nat → Nat → Option Nat := G.2.2.2.2.1
abbrev ab_na (G : ab_G) : Nat → Nat := G.2.2.2.2.2.1
abbrev ab_ct (G : ab_G) : Nat → Nat → Nat → Option Nat := G.2.2.2.2.2.2.1
abbrev ab_ca (G : ab_G) : Nat → Option (Nat × (Nat → Int32)) := G.2.2.2.2.2.2.2.1
abbrev ab_ls (G : ab_G) : Nat → Nat → Option Nat := G.2.2.2.2.2.2.2.2.1
abbrev ab_tf (G : ab_G) : Nat → Nat → Option FieldType := G.2.2.2.2.2.2.2.2.2.1
abbrev ab_df (G : ab_G) : Nat → Option (List Value) := G.2.2.2.2.2.2.2.2.2.2.1
abbrev ab_wc (G : ab_G) : Nat → Nat := G.2.2.2.2.2.2.2.2.2.2.2.1
abbrev ab_at (G : ab_G) : Nat → Option FieldType := G.2.2.2.2.2.2.2.2.2.2.2.2.1
abbrev ab_cap (G : ab_G) : Nat × Nat := G.2.2.2.2.2.2.2.2.2.2.2.2.2.1
abbrev ab_rc (G : ab_G) : Nat → Option Nat := G.2.2.2.2.2.2.2.2.2.2.2.2.2.2.1
abbrev ab_rt (G : ab_G) : Nat → Option FieldType := G.2.2.2.2.2.2.2.2.2.2.2.2.2.2.2.1
abbrev ab_cl (G : ab_G) : List vw_C := G.2.2.2.2.2.2.2.2.2.2.2.2.2.2.2.2.1
abbrev ab_kl (G : ab_G) : Nat → Nat → Option Int64 := G.2.2.2.2.2.2.2.2.2.2.2.2.2.2.2.2.2
-- what a heap weighs: its slots
def ab_w1 (G : ab_G) : ab_O → Nat
  | .inl (_, n, _) => n
  | .inr (ci, _) => ab_wc G ci
def ab_wt (G : ab_G) (h : ab_H) : Nat := (h.map (ab_w1 G)).sum
-- locals
def ab_c2 : Value → Bool
  | .long _ => true
  | .double _ => true
  | _ => false
def ab_clr (ls : ab_L) : Nat → ab_L
  | 0 => ls
  | k + 1 => match ls[k]? with
    | some (some v) => bif ab_c2 v then ls.set k none else ls
    | _ => ls
def ab_s1 (ls : ab_L) (i : Nat) (v : Value) : ab_L := (ab_clr ls i).set i (some v)
def ab_s2 (ls : ab_L) (i : Nat) (v : Value) : ab_L := ((ab_clr ls i).set i (some v)).set (i + 1) none
def ab_in : List Value → List (Option Value)
  | [] => []
  | v :: vs => bif ab_c2 v then some v :: none :: ab_in vs else some v :: ab_in vs
def ab_en (n : Nat) (vs : List Value) : ab_L := ab_in vs ++ List.replicate (n - (ab_in vs).length) none
-- instructions in families
def ab_cst : Instr → Option (Value × Nat)
  | .iconst n => some (.int (Int32.ofInt n), 1)
  | .bipush n => some (.int (Int8.ofInt n).toInt32, 2)
  | .sipush n => some (.int (Int16.ofInt n).toInt32, 3)
  | .lconst n => some (.long (Int64.ofNat (n : Nat)), 1)
  | .aconst_null => some (.null, 1)
  | _ => none
def ab_ld : Instr → Option (Nat × Nat × Nat)
  | .iload_n k => some (k, 1, 0)
  | .iload k => some (k, 2, 0)
  | .lload_n k => some (k, 1, 1)
  | .lload k => some (k, 2, 1)
  | .aload_n k => some (k, 1, 2)
  | .aload k => some (k, 2, 2)
  | _ => none
def ab_sd : Instr → Option (Nat × Nat × Nat)
  | .istore_n k => some (k, 1, 0)
  | .istore k => some (k, 2, 0)
  | .astore_n k => some (k, 1, 2)
  | .astore k => some (k, 2, 2)
  | _ => none
def ab_sl : Instr → Option (Nat × Nat)
  | .lstore_n k => some (k, 1)
  | .lstore k => some (k, 2)
  | _ => none
def ab_kd : Nat → Value → Bool
  | 0, .int _ => true
  | 1, .long _ => true
  | 2, .ref _ => true
  | 2, .null => true
  | _, _ => false
def ab_bin : Instr → Option (Int32 → Int32 → Int32)
  | .iadd => some fun x y => x + y
  | .isub => some fun x y => x - y
  | .imul => some fun x y => x * y
  | .iand => some fun x y => x &&& y
  | .ior => some fun x y => x ||| y
  | .ixor => some fun x y => x ^^^ y
  | .ishl => some fun x y => x <<< (y &&& 31)
  | .ishr => some fun x y => x >>> (y &&& 31)
  | .iushr => some fun x y => (x.toUInt32 >>> (y.toUInt32 &&& Int32.toUInt32 31)).toInt32
  | _ => none
def ab_lbn : Instr → Option (Int64 → Int64 → Int64)
  | .ladd => some fun x y => x + y
  | .lsub => some fun x y => x - y
  | .lmul => some fun x y => x * y
  | .land => some fun x y => x &&& y
  | .lor => some fun x y => x ||| y
  | .lxor => some fun x y => x ^^^ y
  | _ => none
def ab_lsh : Instr → Option (Int64 → Int32 → Int64)
  | .lshl => some fun x y => x <<< (y.toInt64 &&& 63)
  | .lshr => some fun x y => x >>> (y.toInt64 &&& 63)
  | .lushr => some fun x y => (x.toUInt64 >>> (y.toInt64.toUInt64 &&& Int64.toUInt64 63)).toInt64
  | _ => none
def ab_un : Instr → Value → Option Value
  | .i2l, .int x => some (.long x.toInt64)
  | .i2c, .int x => some (.int (x.toUInt32 % 65536).toInt32)
  | .ineg, .int x => some (.int (-x))
  | .l2i, .long x => some (.int x.toInt32)
  | .lneg, .long x => some (.long (-x))
  | _, _ => none
def ab_if : ClassFile.Cond → Int32 → Int32 → Prop
  | .eq, x, y => x = y
  | .ne, x, y => ¬ x = y
  | .lt, x, y => x < y
  | .ge, x, y => y ≤ x
  | .gt, x, y => y < x
  | .le, x, y => x ≤ y
def ab_iv : Instr → Option Nat
  | .invokevirtual i => some i
  | .invokespecial i => some i
  | .invokestatic i => some i
  | _ => none
def ab_re : Instr → Value → FieldType → Bool
  | .ireturn, .int _, _ => true
  | .lreturn, .long _, .long => true
  | .areturn, .ref _, .object _ => true
  | .areturn, .null, .object _ => true
  | _, _, _ => false
def ab_dv : FieldType → Option ((Nat → Int32) ⊕ (Nat → Int64) ⊕ (Nat → UInt32) ⊕ (Nat → UInt64) ⊕ (Nat → Option Nat))
  | .int => some (.inl fun _ => 0)
  | .char => some (.inl fun _ => 0)
  | .long => some (.inr (.inl fun _ => 0))
  | _ => none
def ab_rv (G : ab_G) (jj : Nat) (as : List Value) (h : ab_H) : Prop := match ab_rc G jj with
  | none => True
  | some ci => ∃ (b : Nat) (fs : List Value) (r : List Value), as = .ref b :: r ∧ h[b]? = some (.inr (ci, fs))
-- what follows a call
def ab_k (G : ab_G) (j : Nat) (Q : ab_Q) (P : ab_P) (pc : Nat) (ls : ab_L) (st : List Value) : ab_Q := fun r h => match r with
  | .inl v => P (pc + 3) ls (v.toList ++ st) h
  | .inr x => ∃ (ci : Nat) (fs : List Value), h[x]? = some (.inr (ci, fs)) ∧ match ab_ct G j pc ci with
    | some 0 => Q (.inr x) h
    | some (t + 1) => P (t + 1) ls [.ref x] h
    | none => False
-- the rules
section Rules
variable (G : ab_G) (E : ab_E) (j : Nat) (Q : ab_Q) (P : ab_P)
def ab_Rcst : Prop := ∀ pc ls st h i v n, ab_f G j pc = some i → ab_cst i = some (v, n) → P (pc + n) ls (v :: st) h → P pc ls st h
def ab_Rld : Prop := ∀ pc ls st h i k n d v, ab_f G j pc = some i → ab_ld i = some (k, n, d) → ls[k]? = some (some v) → ab_kd d v = true → P (pc + n) ls (v :: st) h → P pc ls st h
def ab_Rst : Prop := ∀ pc ls st h i k n d v, ab_f G j pc = some i → ab_sd i = some (k, n, d) → ab_kd d v = true → k < ab_n G j → P (pc + n) (ab_s1 ls k v) st h → P pc ls (v :: st) h
def ab_Rsl : Prop := ∀ pc ls st h i k n x, ab_f G j pc = some i → ab_sl i = some (k, n) → k + 1 < ab_n G j → P (pc + n) (ab_s2 ls k (.long x)) st h → P pc ls (.long x :: st) h
def ab_Rinc : Prop := ∀ pc ls st h k n x, ab_f G j pc = some (.iinc k n) → ls[k]? = some (some (.int x)) → k < ab_n G j → P (pc + 3) (ab_s1 ls k (.int (x + Int32.ofInt n))) st h → P pc ls st h
def ab_Rbin : Prop := ∀ pc ls st h i g x y, ab_f G j pc = some i → ab_bin i = some g → P (pc + 1) ls (.int (g x y) :: st) h → P pc ls (.int y :: .int x :: st) h
def ab_Rdiv : Prop := ∀ pc ls st h x y, ab_f G j pc = some .idiv → ¬ y = 0 → P (pc + 1) ls (.int (x / y) :: st) h → P pc ls (.int y :: .int x :: st) h
def ab_Rrem : Prop := ∀ pc ls st h x y, ab_f G j pc = some .irem → ¬ y = 0 → P (pc + 1) ls (.int (x - x / y * y) :: st) h → P pc ls (.int y :: .int x :: st) h
def ab_Rlbn : Prop := ∀ pc ls st h i g x y, ab_f G j pc = some i → ab_lbn i = some g → P (pc + 1) ls (.long (g x y) :: st) h → P pc ls (.long y :: .long x :: st) h
def ab_Rlsh : Prop := ∀ pc ls st h i g x y, ab_f G j pc = some i → ab_lsh i = some g → P (pc + 1) ls (.long (g x y) :: st) h → P pc ls (.int y :: .long x :: st) h
def ab_Run : Prop := ∀ pc ls st h i v w, ab_f G j pc = some i → ab_un i v = some w → P (pc + 1) ls (w :: st) h → P pc ls (v :: st) h
def ab_Rcmp : Prop := ∀ pc ls st h x y, ab_f G j pc = some .lcmp → P (pc + 1) ls (.int (lg_cmp x y) :: st) h → P pc ls (.long y :: .long x :: st) h
def ab_Rdup : Prop := ∀ pc ls st h v, ab_f G j pc = some .dup → ab_c2 v = false → P (pc + 1) ls (v :: v :: st) h → P pc ls (v :: st) h
def ab_Rdp2 : Prop := ∀ pc ls st h v w, ab_f G j pc = some .dup2 → ab_c2 v = false → ab_c2 w = false → P (pc + 1) ls (v :: w :: v :: w :: st) h → P pc ls (v :: w :: st) h
def ab_Rdpl : Prop := ∀ pc ls st h v, ab_f G j pc = some .dup2 → ab_c2 v = true → P (pc + 1) ls (v :: v :: st) h → P pc ls (v :: st) h
def ab_Rpop : Prop := ∀ pc ls st h v, ab_f G j pc = some .pop → ab_c2 v = false → P (pc + 1) ls st h → P pc ls (v :: st) h
def ab_Rif : Prop := ∀ pc ls st h c off (t : Nat) x, ab_f G j pc = some (.ifCond c off) → (pc : Int) + off = (t : Int) → (ab_if c x 0 → P t ls st h) → (¬ ab_if c x 0 → P (pc + 3) ls st h) → P pc ls (.int x :: st) h
def ab_Ric : Prop := ∀ pc ls st h c off (t : Nat) x y, ab_f G j pc = some (.if_icmp c off) → (pc : Int) + off = (t : Int) → (ab_if c x y → P t ls st h) → (¬ ab_if c x y → P (pc + 3) ls st h) → P pc ls (.int y :: .int x :: st) h
def ab_Rnu : Prop := ∀ pc ls st h off (t : Nat) (o : Option Nat), ab_f G j pc = some (.ifnull off) → (pc : Int) + off = (t : Int) → (o = none → P t ls st h) → (∀ a, o = some a → P (pc + 3) ls st h) → P pc ls (va_rf o :: st) h
def ab_Rnn : Prop := ∀ pc ls st h off (t : Nat) (o : Option Nat), ab_f G j pc = some (.ifnonnull off) → (pc : Int) + off = (t : Int) → (o = none → P (pc + 3) ls st h) → (∀ a, o = some a → P t ls st h) → P pc ls (va_rf o :: st) h
def ab_Rac : Prop := ∀ pc ls st h off (t : Nat) (o u : Option Nat), ab_f G j pc = some (.if_acmp .ne off) → (pc : Int) + off = (t : Int) → (∀ a, o = some a → a < 1000000) → (∀ a, u = some a → a < 1000000) → (¬ o = u → P t ls st h) → (o = u → P (pc + 3) ls st h) → P pc ls (va_rf u :: va_rf o :: st) h
def ab_Rgo : Prop := ∀ pc ls st h off (t : Nat), ab_f G j pc = some (.goto off) → (pc : Int) + off = (t : Int) → P t ls st h → P pc ls st h
def ab_Rtin : Prop := ∀ pc ls st h d lo hi offs off (t : Nat) (x : Int32), ab_f G j pc = some (.tableswitch d lo hi offs) → ¬ x.toInt < lo → ¬ hi < x.toInt → offs[(x.toInt - lo).toNat]? = some off → (pc : Int) + off = (t : Int) → P t ls st h → P pc ls (.int x :: st) h
def ab_Rtou : Prop := ∀ pc ls st h d lo hi offs (t : Nat) (x : Int32), ab_f G j pc = some (.tableswitch d lo hi offs) → (x.toInt < lo ∨ hi < x.toInt) → (pc : Int) + d = (t : Int) → P t ls st h → P pc ls (.int x :: st) h
def ab_Rlku : Prop := ∀ pc ls st h d ps off (t : Nat) (x : Int32), ab_f G j pc = some (.lookupswitch d ps) → (ps.toList.zip (ps.toList.drop 1)).all (fun (a, next) => a.1 < next.1) = true → Op.lookupswitch.offset ps.toList d x.toInt = off → (pc : Int) + off = (t : Int) → P t ls st h → P pc ls (.int x :: st) h
def ab_Rget : Prop := ∀ pc ls st h idx ci k fs v (a : Nat), ab_f G j pc = some (.getfield idx) → ab_lf G j idx = some (ci, k) → h[a]? = some (.inr (ci, fs)) → fs[k]? = some v → P (pc + 3) ls (v :: st) h → P pc ls (.ref a :: st) h
def ab_Rput : Prop := ∀ pc ls st h idx ci k fs v ty (a : Nat), ab_f G j pc = some (.putfield idx) → ab_lf G j idx = some (ci, k) → h[a]? = some (.inr (ci, fs)) → k < fs.length → ab_tf G ci k = some ty → narrow ty v = v → fits ty v = true → P (pc + 3) ls st (h.set a (.inr (ci, fs.set k v))) → P pc ls (v :: .ref a :: st) h
def ab_Rsta : Prop := ∀ pc ls st h idx a, ab_f G j pc = some (.getstatic idx) → ab_ls G j idx = some a → P (pc + 3) ls (.ref a :: st) h → P pc ls st h
def ab_Rkld : Prop := ∀ pc ls st h a n xs (i : Int32), ab_f G j pc = some .iaload → ab_ca G a = some (n, xs) → vp_in i n → P (pc + 1) ls (.int (xs i.toNatClampNeg) :: st) h → P pc ls (.int i :: .ref a :: st) h
def ab_Rkln : Prop := ∀ pc ls st h a n xs, ab_f G j pc = some .arraylength → ab_ca G a = some (n, xs) → P (pc + 1) ls (.int (Int32.ofNat n) :: st) h → P pc ls (.ref a :: st) h
def ab_Rild : Prop := ∀ pc ls st h t n xs (a : Nat) (i : Int32), ab_f G j pc = some .iaload → h[a]? = some (.inl (t, n, .inl xs)) → ab_at G t = some .int → vp_in i n → P (pc + 1) ls (.int (xs i.toNatClampNeg) :: st) h → P pc ls (.int i :: .ref a :: st) h
def ab_Rcld : Prop := ∀ pc ls st h t n xs (a : Nat) (i : Int32), ab_f G j pc = some .caload → h[a]? = some (.inl (t, n, .inl xs)) → ab_at G t = some .char → vp_in i n → P (pc + 1) ls (.int (xs i.toNatClampNeg) :: st) h → P pc ls (.int i :: .ref a :: st) h
def ab_Rlld : Prop := ∀ pc ls st h t n xs (a : Nat) (i : Int32), ab_f G j pc = some .laload → h[a]? = some (.inl (t, n, .inr (.inl xs))) → ab_at G t = some .long → vp_in i n → P (pc + 1) ls (.long (xs i.toNatClampNeg) :: st) h → P pc ls (.int i :: .ref a :: st) h
def ab_Rald : Prop := ∀ pc ls st h t n xs C (a : Nat) (i : Int32), ab_f G j pc = some .aaload → h[a]? = some (.inl (t, n, .inr (.inr (.inr (.inr xs))))) → ab_at G t = some (.object C) → vp_in i n → P (pc + 1) ls (va_rf (xs i.toNatClampNeg) :: st) h → P pc ls (.int i :: .ref a :: st) h
def ab_Rist : Prop := ∀ pc ls st h t n xs (a : Nat) (i x : Int32), ab_f G j pc = some .iastore → h[a]? = some (.inl (t, n, .inl xs)) → ab_at G t = some .int → vp_in i n → P (pc + 1) ls st (h.set a (.inl (t, n, .inl (upd xs i.toNatClampNeg x)))) → P pc ls (.int x :: .int i :: .ref a :: st) h
def ab_Rcts : Prop := ∀ pc ls st h t n xs (a : Nat) (i x : Int32), ab_f G j pc = some .castore → h[a]? = some (.inl (t, n, .inl xs)) → ab_at G t = some .char → vp_in i n → P (pc + 1) ls st (h.set a (.inl (t, n, .inl (upd xs i.toNatClampNeg (vp_nar .char x))))) → P pc ls (.int x :: .int i :: .ref a :: st) h
def ab_Rlst : Prop := ∀ pc ls st h t n xs (a : Nat) (i : Int32) (x : Int64), ab_f G j pc = some .lastore → h[a]? = some (.inl (t, n, .inr (.inl xs))) → ab_at G t = some .long → vp_in i n → P (pc + 1) ls st (h.set a (.inl (t, n, .inr (.inl (vp_updL xs i.toNatClampNeg x))))) → P pc ls (.long x :: .int i :: .ref a :: st) h
def ab_Rast : Prop := ∀ pc ls st h t n xs ci fs r (a b : Nat) (i : Int32), ab_f G j pc = some .aastore → h[a]? = some (.inl (t, n, .inr (.inr (.inr (.inr xs))))) → h[b]? = some (.inr (ci, fs)) → (ab_cl G)[ci]? = some r → ab_at G t = some (.object r.1) → vp_in i n → P (pc + 1) ls st (h.set a (.inl (t, n, .inr (.inr (.inr (.inr (va_up xs i.toNatClampNeg (some b)))))))) → P pc ls (.ref b :: .int i :: .ref a :: st) h
def ab_Rlen : Prop := ∀ pc ls st h t ty x (a : Nat), ab_f G j pc = some .arraylength → h[a]? = some (.inl (t, x)) → ab_at G t = some ty → P (pc + 1) ls (.int (Int32.ofNat x.1) :: st) h → P pc ls (.ref a :: st) h
def ab_Rnew : Prop := ∀ pc ls st h idx ci fs, ab_f G j pc = some (.new idx) → ab_lc G j idx = some ci → ab_df G ci = some fs → h.length + 1 ≤ (ab_cap G).1 → ab_wt G h + fs.length ≤ (ab_cap G).2 → P (pc + 3) ls (.ref h.length :: st) (h ++ [.inr (ci, fs)]) → P pc ls st h
def ab_Rna : Prop := ∀ pc ls st h aty t ty x0 (n : Int32) N, ab_f G j pc = some (.newarray aty) → ab_at G t = some ty → newarray.typeOf aty = ty → ab_dv ty = some x0 → ¬ n < 0 → n.toNatClampNeg = N → N ≤ 100000 → h.length + 1 ≤ (ab_cap G).1 → ab_wt G h + N ≤ (ab_cap G).2 → P (pc + 2) ls (.ref h.length :: st) (h ++ [.inl (t, N, x0)]) → P pc ls (.int n :: st) h
def ab_Rnq : Prop := ∀ pc ls st h idx t ci r (n : Int32) N, ab_f G j pc = some (.anewarray idx) → ab_lc G j idx = some ci → (ab_cl G)[ci]? = some r → ab_at G t = some (.object r.1) → ¬ n < 0 → n.toNatClampNeg = N → N ≤ 100000 → h.length + 1 ≤ (ab_cap G).1 → ab_wt G h + N ≤ (ab_cap G).2 → P (pc + 3) ls (.ref h.length :: st) (h ++ [.inl (t, N, .inr (.inr (.inr (.inr (fun _ => none)))))]) → P pc ls (.int n :: st) h
def ab_Rkl : Prop := ∀ pc ls st h idx x, ab_f G j pc = some (.ldc2_w idx) → ab_kl G j idx = some x → P (pc + 3) ls (.long x :: st) h → P pc ls st h
def ab_Robj : Prop := ∀ pc ls st h idx (a : Nat), ab_f G j pc = some (.invokespecial idx) → ab_lm G j idx = some 1000000 → (st.map (fun v => v.category)).sum ≤ 16 → P (pc + 3) ls st h → P pc ls (.ref a :: st) h
def ab_Rcpi : Prop := ∀ pc ls st h idx t ty n0 n1 xs ys (a b : Nat) (sp dp n : Int32), ab_f G j pc = some (.invokestatic idx) → ab_lm G j idx = some 1000001 → h[a]? = some (.inl (t, n0, .inl xs)) → h[b]? = some (.inl (t, n1, .inl ys)) → ab_at G t = some ty → refKind ty = false → ¬ sp < 0 → ¬ dp < 0 → ¬ n < 0 → sp.toNatClampNeg + n.toNatClampNeg ≤ n0 → dp.toNatClampNeg + n.toNatClampNeg ≤ n1 → (∀ i, i < n.toNatClampNeg → fits ty (.int (xs (sp.toNatClampNeg + i))) = true) → (st.map (fun v => v.category)).sum ≤ 16 → P (pc + 3) ls st (h.set b (.inl (t, n1, .inl (va_cpy xs ys sp.toNatClampNeg dp.toNatClampNeg n.toNatClampNeg)))) → P pc ls (.int n :: .int dp :: .ref b :: .int sp :: .ref a :: st) h
def ab_Rcpl : Prop := ∀ pc ls st h idx t n0 n1 xs ys (a b : Nat) (sp dp n : Int32), ab_f G j pc = some (.invokestatic idx) → ab_lm G j idx = some 1000001 → h[a]? = some (.inl (t, n0, .inr (.inl xs))) → h[b]? = some (.inl (t, n1, .inr (.inl ys))) → ab_at G t = some .long → ¬ sp < 0 → ¬ dp < 0 → ¬ n < 0 → sp.toNatClampNeg + n.toNatClampNeg ≤ n0 → dp.toNatClampNeg + n.toNatClampNeg ≤ n1 → (st.map (fun v => v.category)).sum ≤ 16 → P (pc + 3) ls st (h.set b (.inl (t, n1, .inr (.inl (va_cpy xs ys sp.toNatClampNeg dp.toNatClampNeg n.toNatClampNeg))))) → P pc ls (.int n :: .int dp :: .ref b :: .int sp :: .ref a :: st) h
def ab_Rmax : Prop := ∀ pc ls st h idx x y, ab_f G j pc = some (.invokestatic idx) → ab_lm G j idx = some 1000002 → (st.map (fun v => v.category)).sum ≤ 16 → P (pc + 3) ls (.int (if x < y then y else x) :: st) h → P pc ls (.int y :: .int x :: st) h
def ab_Rmin : Prop := ∀ pc ls st h idx x y, ab_f G j pc = some (.invokestatic idx) → ab_lm G j idx = some 1000003 → (st.map (fun v => v.category)).sum ≤ 16 → P (pc + 3) ls (.int (if y < x then y else x) :: st) h → P pc ls (.int y :: .int x :: st) h
def ab_Rcall : Prop := ∀ pc ls st h i idx jj as, ab_f G j pc = some i → ab_iv i = some idx → ab_lm G j idx = some jj → jj < 1000000 → as.length = ab_na G jj → (ab_in as).length ≤ ab_n G jj → ab_rv G jj as h → (st.map (fun v => v.category)).sum ≤ 16 → E jj as h (ab_k G j Q P pc ls st) → P pc ls (as.reverse ++ st) h
def ab_Rret : Prop := ∀ pc ls h i v ty, ab_f G j pc = some i → ab_re i v ty = true → ab_rt G j = some ty → narrow ty v = v → Q (.inl (some v)) h → P pc ls [v] h
def ab_Rrtv : Prop := ∀ pc ls h, ab_f G j pc = some .return_ → ab_rt G j = none → Q (.inl none) h → P pc ls [] h
def ab_Rthr : Prop := ∀ pc ls st h idx ci k m, ab_f G j pc = some (.new idx) → ab_lc G j idx = some ci → ab_df G ci = none → ab_f G j (pc + 3) = some .dup → ab_f G j (pc + 4) = some (.ldc k) → ab_f G j (pc + 6) = some (.invokespecial m) → ab_lm G j m = some 1000004 → ab_f G j (pc + 9) = some .athrow → h.length + 1 ≤ (ab_cap G).1 → ab_wt G h + ab_wc G ci ≤ (ab_cap G).2 → (st.map (fun v => v.category)).sum ≤ 16 → Q (.inr h.length) (h ++ [.inr (ci, [])]) → P pc ls st h
def ab_Ca : Prop := ab_Rcst G j P ∧ ab_Rld G j P ∧ ab_Rst G j P ∧ ab_Rsl G j P ∧ ab_Rinc G j P ∧ ab_Rbin G j P ∧ ab_Rdiv G j P ∧ ab_Rrem G j P ∧ ab_Rlbn G j P ∧ ab_Rlsh G j P ∧ ab_Run G j P ∧ ab_Rcmp G j P ∧ ab_Rdup G j P ∧ ab_Rdp2 G j P ∧ ab_Rdpl G j P ∧ ab_Rpop G j P
def ab_Cb : Prop := ab_Rif G j P ∧ ab_Ric G j P ∧ ab_Rnu G j P ∧ ab_Rnn G j P ∧ ab_Rac G j P ∧ ab_Rgo G j P ∧ ab_Rtin G j P ∧ ab_Rtou G j P ∧ ab_Rlku G j P
def ab_Cc : Prop := ab_Rget G j P ∧ ab_Rput G j P ∧ ab_Rsta G j P ∧ ab_Rkld G j P ∧ ab_Rkln G j P ∧ ab_Rild G j P ∧ ab_Rcld G j P ∧ ab_Rlld G j P ∧ ab_Rald G j P ∧ ab_Rist G j P ∧ ab_Rcts G j P ∧ ab_Rlst G j P ∧ ab_Rast G j P ∧ ab_Rlen G j P ∧ ab_Rnew G j P ∧ ab_Rna G j P ∧ ab_Rnq G j P ∧ ab_Rkl G j P
def ab_Cd : Prop := ab_Robj G j P ∧ ab_Rcpi G j P ∧ ab_Rcpl G j P ∧ ab_Rmax G j P ∧ ab_Rmin G j P
def ab_Ce : Prop := ab_Rcall G E j Q P ∧ ab_Rret G j Q P ∧ ab_Rrtv G j Q P ∧ ab_Rthr G j Q P
def ab_C : Prop := ab_Ca G j P ∧ ab_Cb G j P ∧ ab_Cc G j P ∧ ab_Cd G j P ∧ ab_Ce G E j Q P
end Rules
/-- a run of method j from a configuration comes to an end with Q -/
def ab_W (G : ab_G) (E : ab_E) (j : Nat) (Q : ab_Q) (pc : Nat) (ls : ab_L) (st : List Value) (h : ab_H) : Prop := ∀ P : ab_P, ab_C G E j Q P → P pc ls st h
/-- a call of method j, of depth at most d, comes to an end with Q -/
def ab_X (G : ab_G) : Nat → ab_E
  | 0 => fun _ _ _ _ => False
  | d + 1 => fun j as h Q => ab_W G (ab_X G d) j Q 0 (ab_en (ab_n G j) as) [] h
theorem ab_k_mono {G : ab_G} {j : Nat} {Q Q' : ab_Q} {P P' : ab_P} (hQ : ∀ r h, Q r h → Q' r h) (hP : ∀ pc ls st h, P pc ls st h → P' pc ls st h) {pc : Nat} {ls : ab_L} {st : List Value} : ∀ r h, ab_k G j Q P pc ls st r h → ab_k G j Q' P' pc ls st r h := by
  intro r h hk
  cases r with
  | inl v => exact hP _ _ _ _ hk
  | inr x =>
    obtain ⟨ci, fs, h1, h2⟩ := hk
    refine ⟨ci, fs, h1, ?_⟩
    cases hc : ab_ct G j pc ci with
    | none => rw [hc] at h2; exact h2.elim
    | some t =>
      rw [hc] at h2
      cases t with
      | zero => exact hQ _ _ h2
      | succ t => exact hP _ _ _ _ h2
/-- monotone in what is asked at the end -/
def ab_Em (E : ab_E) : Prop := ∀ j as h (Q Q' : ab_Q), (∀ r h, Q r h → Q' r h) → E j as h Q → E j as h Q'
theorem ab_W_mono {G : ab_G} {E : ab_E} (hE : ab_Em E) {j : Nat} {Q Q' : ab_Q} (hQ : ∀ r h, Q r h → Q' r h) {pc : Nat} {ls : ab_L} {st : List Value} {h : ab_H} (hw : ab_W G E j Q pc ls st h) : ab_W G E j Q' pc ls st h := by
  intro P hC
  refine hw P ⟨hC.1, hC.2.1, hC.2.2.1, hC.2.2.2.1, ?_, ?_, ?_, ?_⟩
  · intro pc ls st h i idx jj as h1 h2 h3 h4 h5 h6 h7 h8 h9
    exact hC.2.2.2.2.1 pc ls st h i idx jj as h1 h2 h3 h4 h5 h6 h7 h8 (hE _ _ _ _ _ (ab_k_mono hQ (fun _ _ _ _ q => q)) h9)
  · intro pc ls h i v ty h1 h2 h3 h4 h5
    exact hC.2.2.2.2.2.1 pc ls h i v ty h1 h2 h3 h4 (hQ _ _ h5)
  · intro pc ls h h1 h2 h3
    exact hC.2.2.2.2.2.2.1 pc ls h h1 h2 (hQ _ _ h3)
  · intro pc ls st h idx ci k m h1 h2 h3 h4 h5 h6 h7 h8 h9 h10 h11 h12
    exact hC.2.2.2.2.2.2.2 pc ls st h idx ci k m h1 h2 h3 h4 h5 h6 h7 h8 h9 h10 h11 (hQ _ _ h12)
theorem ab_X_mono {G : ab_G} : ∀ d, ab_Em (ab_X G d)
  | 0 => fun _ _ _ _ _ _ h => h.elim
  | d + 1 => fun j as h Q Q' hQ hw => ab_W_mono (ab_X_mono d) hQ hw
end
section
/-! OURS. The small machine is sound over the JVM: first what its numbers, objects and locals stand for; then the rules of stack, locals and branches. -/
def sd_v (ad : Nat → Nat) : Value → Value
  | .ref i => .ref (ad i)
  | v => v
def sd_x (ad : Nat → Nat) : vp_A → vp_A
  | (n, .inr (.inr (.inr (.inr f)))) => (n, .inr (.inr (.inr (.inr (fun q => (f q).map ad)))))
  | (n, .inr (.inr (.inr (.inl f)))) => (n, .inr (.inr (.inr (.inl f))))
  | (n, .inr (.inr (.inl f))) => (n, .inr (.inr (.inl f)))
  | (n, .inr (.inl f)) => (n, .inr (.inl f))
  | (n, .inl f) => (n, .inl f)
def sd_o (ad : Nat → Nat) (dA : Nat → ClassId) : ab_O → va_E
  | .inl (t, x) => .inl (dA t, sd_x ad x)
  | .inr (ci, fs) => .inr (ci, fs.map (sd_v ad))
def sd_w (ad : Nat → Nat) (dA : Nat → ClassId) (h : ab_H) : va_W := h.zipIdx.map (fun q => (ad q.2, sd_o ad dA q.1))
def sd_l (ad : Nat → Nat) (ls : ab_L) : List (Nat × Value) := (List.range ls.length).filterMap (fun i => match ls[i]? with
  | some (some v) => some (i, sd_v ad v)
  | _ => none)
theorem sd_v_cat (ad : Nat → Nat) (v : Value) : (sd_v ad v).category = v.category := by cases v <;> rfl
theorem sd_c2 (v : Value) : ab_c2 v = true ↔ v.category = 2 := by cases v <;> simp [ab_c2, Value.category]
theorem sd_c1 (v : Value) : ab_c2 v = false ↔ v.category = 1 := by cases v <;> simp [ab_c2, Value.category]
theorem sd_w_len (ad : Nat → Nat) (dA : Nat → ClassId) (h : ab_H) : (sd_w ad dA h).length = h.length := by simp [sd_w]
theorem sd_w_at {ad : Nat → Nat} {dA : Nat → ClassId} {h : ab_H} {i : Nat} {o : ab_O} (ho : h[i]? = some o) : (sd_w ad dA h)[i]? = some (ad i, sd_o ad dA o) := by
  simp [sd_w, ho]
theorem sd_w_inv {ad : Nat → Nat} {dA : Nat → ClassId} {h : ab_H} {i : Nat} {q : Nat × va_E} (hq : (sd_w ad dA h)[i]? = some q) : ∃ o, h[i]? = some o ∧ q = (ad i, sd_o ad dA o) := by
  simp only [sd_w, List.getElem?_map, List.getElem?_zipIdx, Option.map_map] at hq
  cases ho : h[i]? with
  | none => rw [ho] at hq; cases hq
  | some o => rw [ho] at hq; exact ⟨o, rfl, by simpa using hq.symm⟩
theorem sd_w_set {ad : Nat → Nat} {dA : Nat → ClassId} {h : ab_H} {i : Nat} (o : ab_O) : (sd_w ad dA h).set i (ad i, sd_o ad dA o) = sd_w ad dA (h.set i o) := by
  apply List.ext_getElem?
  intro k
  by_cases hk : k = i
  · subst hk
    simp only [sd_w, List.getElem?_set_self', List.getElem?_map, List.getElem?_zipIdx]
    cases h[k]? <;> simp
  · simp only [sd_w, List.getElem?_map, List.getElem?_zipIdx]
    rw [List.getElem?_set_ne (fun q => hk q.symm), List.getElem?_set_ne (fun q => hk q.symm)]
    simp
theorem sd_w_push {ad : Nat → Nat} {dA : Nat → ClassId} {h : ab_H} (o : ab_O) : sd_w ad dA h ++ [(ad h.length, sd_o ad dA o)] = sd_w ad dA (h ++ [o]) := by
  simp [sd_w, List.zipIdx_append]
theorem sd_l_in {ad : Nat → Nat} {ls : ab_L} {i : Nat} {w : Value} : (i, w) ∈ sd_l ad ls ↔ ∃ v, ls[i]? = some (some v) ∧ w = sd_v ad v := by
  unfold sd_l
  rw [List.mem_filterMap]
  constructor
  · rintro ⟨k, hk, h⟩
    split at h
    next v hv =>
      cases h
      exact ⟨v, hv, rfl⟩
    next => cases h
  · rintro ⟨v, hv, rfl⟩
    refine ⟨i, List.mem_range.mpr (List.getElem?_eq_some_iff.mp hv).1, ?_⟩
    simp [hv]
theorem sd_at {ad : Nat → Nat} {lsM : Array Slot} {nL : Nat} {ls : ab_L} (hl : lv_has lsM nL (sd_l ad ls)) {i : Nat} {v : Value} (hv : ls[i]? = some (some v)) : lsM[i]? = some (.val (sd_v ad v)) := hl.2.2 (i, sd_v ad v) (sd_l_in.mpr ⟨v, hv, rfl⟩)
theorem sd_clr {ls : ab_L} {i k : Nat} {v : Value} (h : (ab_clr ls i)[k]? = some (some v)) : ls[k]? = some (some v) ∧ ¬ (k + 1 = i ∧ v.category = 2) := by
  cases i with
  | zero => exact ⟨h, fun q => by omega⟩
  | succ n =>
    simp only [ab_clr] at h
    split at h
    next w hw =>
      cases hc : ab_c2 w with
      | true =>
        rw [hc] at h
        simp only [cond_true] at h
        by_cases hk : k = n
        · subst hk
          rw [List.getElem?_set_self' ] at h
          rw [hw] at h
          simp at h
        · rw [List.getElem?_set_ne (fun q => hk q.symm)] at h
          exact ⟨h, fun q => hk (by omega)⟩
      | false =>
        rw [hc] at h
        simp only [cond_false] at h
        refine ⟨h, fun q => ?_⟩
        have hkn : k = n := by omega
        subst hkn
        rw [hw] at h
        have hwv : w = v := by simpa using h
        have h9 := (sd_c1 w).mp hc
        rw [hwv] at h9
        omega
    next hno =>
      refine ⟨h, fun q => ?_⟩
      have hkn : k = n := by omega
      subst hkn
      exact hno _ h
theorem sd_s1 {ad : Nat → Nat} {lsM : Array Slot} {nL : Nat} {ls : ab_L} {i : Nat} {v : Value} (h : lv_has lsM nL ((i, sd_v ad v) :: (sd_l ad ls).filter (fun q => !(q.1 == i) && !(q.1 + 1 == i && q.2.category == 2)))) : lv_has lsM nL (sd_l ad (ab_s1 ls i v)) := by
  refine ⟨h.1, h.2.1, fun q hq => ?_⟩
  obtain ⟨k, w⟩ := q
  obtain ⟨u, hu, rfl⟩ := sd_l_in.mp hq
  refine h.2.2 (k, sd_v ad u) ?_
  unfold ab_s1 at hu
  by_cases hk : k = i
  · subst hk
    rw [List.getElem?_set_self'] at hu
    cases hz : (ab_clr ls k)[k]? with
    | none => rw [hz] at hu; simp at hu
    | some z =>
      rw [hz] at hu
      simp at hu
      subst hu
      exact List.mem_cons_self
  · rw [List.getElem?_set_ne (fun q => hk q.symm)] at hu
    obtain ⟨h1, h2⟩ := sd_clr hu
    refine List.mem_cons_of_mem _ (List.mem_filter.mpr ⟨sd_l_in.mpr ⟨u, h1, rfl⟩, ?_⟩)
    simp only [Bool.and_eq_true, Bool.not_eq_true', Bool.and_eq_false_iff, beq_eq_false_iff_ne]
    refine ⟨hk, ?_⟩
    by_cases h3 : k + 1 = i
    · right
      rw [sd_v_cat]
      exact fun q => h2 ⟨h3, q⟩
    · left
      exact h3
theorem sd_s2 {ad : Nat → Nat} {lsM : Array Slot} {nL : Nat} {ls : ab_L} {i : Nat} {v : Value} (h : lv_has lsM nL ((i, sd_v ad v) :: (sd_l ad ls).filter (fun q => !(q.1 == i) && (!(q.1 == i + 1) && !(q.1 + 1 == i && q.2.category == 2))))) : lv_has lsM nL (sd_l ad (ab_s2 ls i v)) := by
  refine ⟨h.1, h.2.1, fun q hq => ?_⟩
  obtain ⟨k, w⟩ := q
  obtain ⟨u, hu, rfl⟩ := sd_l_in.mp hq
  refine h.2.2 (k, sd_v ad u) ?_
  unfold ab_s2 at hu
  by_cases hk2 : k = i + 1
  · subst hk2
    rw [List.getElem?_set_self'] at hu
    cases hz : ((ab_clr ls i).set i (some v))[i + 1]? with
    | none => rw [hz] at hu; simp at hu
    | some z => rw [hz] at hu; simp at hu
  · rw [List.getElem?_set_ne (fun q => hk2 q.symm)] at hu
    by_cases hk : k = i
    · subst hk
      rw [List.getElem?_set_self'] at hu
      cases hz : (ab_clr ls k)[k]? with
      | none => rw [hz] at hu; simp at hu
      | some z =>
        rw [hz] at hu
        simp at hu
        subst hu
        exact List.mem_cons_self
    · rw [List.getElem?_set_ne (fun q => hk q.symm)] at hu
      obtain ⟨h1, h2⟩ := sd_clr hu
      refine List.mem_cons_of_mem _ (List.mem_filter.mpr ⟨sd_l_in.mpr ⟨u, h1, rfl⟩, ?_⟩)
      simp only [Bool.and_eq_true, Bool.not_eq_true', Bool.and_eq_false_iff, beq_eq_false_iff_ne]
      refine ⟨hk, hk2, ?_⟩
      by_cases h3 : k + 1 = i
      · right
        rw [sd_v_cat]
        exact fun q => h2 ⟨h3, q⟩
      · left
        exact h3
theorem sd_in_at (ad : Nat → Nat) : ∀ (vs : List Value) (i : Nat) (q : Nat × Value), q ∈ lv_args i (vs.map (sd_v ad)) ↔ ∃ k v, (ab_in vs)[k]? = some (some v) ∧ q = (i + k, sd_v ad v) := by
  intro vs
  induction vs with
  | nil => intro i q; simp [lv_args, ab_in]
  | cons v vs ih =>
    intro i q
    simp only [List.map_cons, lv_args, sd_v_cat, List.mem_cons]
    cases hc : ab_c2 v with
    | true =>
      have h2 := (sd_c2 v).mp hc
      simp only [h2, if_true]
      rw [ih]
      simp only [ab_in, hc, cond_true]
      constructor
      · rintro (rfl | ⟨k, w, h, rfl⟩)
        · exact ⟨0, v, rfl, rfl⟩
        · exact ⟨k + 2, w, by simpa using h, by simp; omega⟩
      · rintro ⟨k, w, h, rfl⟩
        match k, h with
        | 0, h => left; simp at h; subst h; rfl
        | 1, h => simp at h
        | k + 2, h => right; exact ⟨k, w, by simpa using h, by simp; omega⟩
    | false =>
      have h2 := (sd_c1 v).mp hc
      have h3 : ¬ v.category = 2 := by omega
      simp only [h3, if_false]
      rw [ih]
      simp only [ab_in, hc, cond_false]
      constructor
      · rintro (rfl | ⟨k, w, h, rfl⟩)
        · exact ⟨0, v, rfl, rfl⟩
        · exact ⟨k + 1, w, by simpa using h, by simp; omega⟩
      · rintro ⟨k, w, h, rfl⟩
        match k, h with
        | 0, h => left; simp at h; subst h; rfl
        | k + 1, h => right; exact ⟨k, w, by simpa using h, by simp; omega⟩
theorem sd_in_len (ad : Nat → Nat) (vs : List Value) : (lg_sl (vs.map (sd_v ad))).length = (ab_in vs).length := by
  induction vs with
  | nil => rfl
  | cons v vs ih =>
    have e1 : lg_sl ((v :: vs).map (sd_v ad)) = (if (sd_v ad v).category = 2 then [Slot.val (sd_v ad v), Slot.second] else [Slot.val (sd_v ad v)]) ++ lg_sl (vs.map (sd_v ad)) := by simp [lg_sl]
    rw [e1, List.length_append, ih, sd_v_cat]
    cases hc : ab_c2 v with
    | true => rw [if_pos ((sd_c2 v).mp hc)]; simp [ab_in, hc]; omega
    | false =>
      have := (sd_c1 v).mp hc
      rw [if_neg (by omega)]; simp [ab_in, hc]; omega
/-- the locals with which a method begins -/
theorem sd_entry (ad : Nat → Nat) (vs : List Value) (n : Nat) (h : (ab_in vs).length ≤ n) : lv_has ((lg_sl (vs.map (sd_v ad)) ++ List.replicate (n - (lg_sl (vs.map (sd_v ad))).length) Slot.unset).toArray) n (sd_l ad (ab_en n vs)) := by
  have h0 := lv_entry (vs.map (sd_v ad)) (n := n) (by rw [sd_in_len]; exact h)
  refine ⟨h0.1, h0.2.1, fun q hq => h0.2.2 q ?_⟩
  obtain ⟨k, w⟩ := q
  obtain ⟨u, hu, rfl⟩ := sd_l_in.mp hq
  rw [sd_in_at]
  unfold ab_en at hu
  by_cases hk : k < (ab_in vs).length
  · rw [List.getElem?_append_left hk] at hu
    exact ⟨k, u, hu, by simp⟩
  · rw [List.getElem?_append_right (by omega)] at hu
    have := List.eq_of_mem_replicate (List.mem_of_getElem? hu)
    cases this
end
section
/-! OURS. Soundness of the rules of stack, locals, numbers and branches. -/
def ab_len : Instr → Nat
  | .bipush _ => 2
  | .sipush _ => 3
  | .iload _ => 2
  | .lload _ => 2
  | .aload _ => 2
  | .istore _ => 2
  | .lstore _ => 2
  | .astore _ => 2
  | .iinc _ _ => 3
  | .ifCond _ _ => 3
  | .if_icmp _ _ => 3
  | .if_acmp _ _ => 3
  | .ifnull _ => 3
  | .ifnonnull _ => 3
  | .goto _ => 3
  | .getfield _ => 3
  | .putfield _ => 3
  | .getstatic _ => 3
  | .putstatic _ => 3
  | .invokevirtual _ => 3
  | .invokespecial _ => 3
  | .invokestatic _ => 3
  | .new _ => 3
  | .newarray _ => 2
  | .anewarray _ => 3
  | .ldc _ => 2
  | .ldc_w _ => 3
  | .ldc2_w _ => 3
  | _ => 1
def ab_sw : Instr → Bool
  | .tableswitch _ _ _ _ => true
  | .lookupswitch _ _ => true
  | _ => false
/-- the code is what the table says -/
def sd_T (G : ab_G) (j : Nat) (cc : ByteArray) : Prop := ∀ pc i, ab_f G j pc = some i → ∃ n, decode cc pc = .ok (i, n) ∧ (ab_sw i = true ∨ n = ab_len i)
theorem sd_T.at {G : ab_G} {j : Nat} {cc : ByteArray} (hT : sd_T G j cc) {pc : Nat} {i : Instr} (hf : ab_f G j pc = some i) (hs : ab_sw i = false) : decode cc pc = .ok (i, ab_len i) := by
  obtain ⟨n, h1, h2⟩ := hT pc i hf
  rcases h2 with h2 | h2
  · rw [hs] at h2; cases h2
  · rw [← h2]; exact h1
/-- what a configuration promises of the machine -/
def sd_P (G : ab_G) (D : va_G) (ad : Nat → Nat) (dA : Nat → ClassId) (A : Nat → Prop) (p : Program) (l : Launch) (e : Env) (R : Room) (s : State) (m : MethodId) (args : Array Value) (below : List Frame) (meth : Method) (c : Code) (j : Nat) (h0 : ab_H) (Qe : State → Prop) : ab_P := fun pc ls st h =>
  ∀ (H : Heap) (locs : List Loc) (cells slots : Nat) (lsM : Array Slot), va_P D (ab_cl G) (sd_w ad dA h) H → va_S A s.heap H locs → lv_has lsM (ab_n G j) (sd_l ad ls) → cells + h0.length = h.length → slots + ab_wt G h0 = ab_wt G h → h.length ≤ (ab_cap G).1 ∧ ab_wt G h ≤ (ab_cap G).2 →
    W p l e R s m args below meth c H locs cells slots Qe (F0 m pc lsM (st.map (sd_v ad)))
section SdA
variable {G : ab_G} {D : va_G} {ad : Nat → Nat} {dA : Nat → ClassId} {A : Nat → Prop} {p : Program} {l : Launch} {e : Env} {R : Room} {s : State} {m : MethodId} {args : Array Value} {below : List Frame} {meth : Method} {c : Code} {j : Nat} {h0 : ab_H} {Qe : State → Prop} {cc : ByteArray}
theorem sd_Rcst (hx : p.tables.exec = Jvm.exec) (hb : c.code = cc) (hT : sd_T G j cc) : ab_Rcst G j (sd_P G D ad dA A p l e R s m args below meth c j h0 Qe) := by
  intro pc ls st h i v n hf hc hk H locs cells slots lsM hP hS hl h1 h2 h3
  have hk' := hk H locs cells slots lsM hP hS hl h1 h2 h3
  cases i <;> cases hc
  · exact lv_null hx hb (hT.at hf rfl) hk'
  · exact lv_bipush hx hb (hT.at hf rfl) rfl hk'
  · exact lv_iconst hx hb (hT.at hf rfl) rfl hk'
  · exact lv_lconst hx hb (hT.at hf rfl) rfl hk'
  · exact lv_sipush hx hb (hT.at hf rfl) rfl hk'
theorem sd_Rld (hx : p.tables.exec = Jvm.exec) (hb : c.code = cc) (hT : sd_T G j cc) : ab_Rld G j (sd_P G D ad dA A p l e R s m args below meth c j h0 Qe) := by
  intro pc ls st h i k n d v hf hi hv hkd hk H locs cells slots lsM hP hS hl h1 h2 h3
  have hk' := hk H locs cells slots lsM hP hS hl h1 h2 h3
  have hat := sd_at hl hv
  cases i <;> cases hi
  · cases v <;> cases hkd
    · exact lv_aloadN hx hb (hT.at hf rfl) hat hk'
    · exact lv_aload hx hb (hT.at hf rfl) hat hk'
  · cases v <;> cases hkd
    · exact lv_aload_nN hx hb (hT.at hf rfl) rfl hat hk'
    · exact lv_aload_n hx hb (hT.at hf rfl) rfl hat hk'
  · cases v <;> cases hkd
    exact lv_iload hx hb (hT.at hf rfl) hat hk'
  · cases v <;> cases hkd
    exact lv_iload_n hx hb (hT.at hf rfl) rfl hat hk'
  · cases v <;> cases hkd
    exact lv_lload hx hb (hT.at hf rfl) hat hk'
  · cases v <;> cases hkd
    exact lv_lload_n hx hb (hT.at hf rfl) rfl hat hk'
theorem sd_Rst (hx : p.tables.exec = Jvm.exec) (hb : c.code = cc) (hT : sd_T G j cc) : ab_Rst G j (sd_P G D ad dA A p l e R s m args below meth c j h0 Qe) := by
  intro pc ls st h i k n d v hf hi hkd hn hk H locs cells slots lsM hP hS hl h1 h2 h3
  have hk' : ∀ ls' : Array Slot, lv_has ls' (ab_n G j) ((k, sd_v ad v) :: (sd_l ad ls).filter (fun q => !(q.1 == k) && !(q.1 + 1 == k && q.2.category == 2))) → W p l e R s m args below meth c H locs cells slots Qe (F0 m (pc + n) ls' (st.map (sd_v ad))) := fun ls' h' => hk H locs cells slots ls' hP hS (sd_s1 h') h1 h2 h3
  cases i <;> cases hi
  · cases v <;> cases hkd
    · exact lv_astoreN hx hb (hT.at hf rfl) hl hn rfl hk'
    · exact lv_astore hx hb (hT.at hf rfl) hl hn rfl hk'
  · cases v <;> cases hkd
    · exact lv_astore_nN hx hb (hT.at hf rfl) rfl hl hn rfl hk'
    · exact lv_astore_n hx hb (hT.at hf rfl) rfl hl hn rfl hk'
  · cases v <;> cases hkd
    exact lv_istore hx hb (hT.at hf rfl) hl hn rfl hk'
  · cases v <;> cases hkd
    exact lv_istore_n hx hb (hT.at hf rfl) rfl hl hn rfl hk'
theorem sd_Rsl (hx : p.tables.exec = Jvm.exec) (hb : c.code = cc) (hT : sd_T G j cc) : ab_Rsl G j (sd_P G D ad dA A p l e R s m args below meth c j h0 Qe) := by
  intro pc ls st h i k n x hf hi hn hk H locs cells slots lsM hP hS hl h1 h2 h3
  have hk' : ∀ ls' : Array Slot, lv_has ls' (ab_n G j) ((k, Value.long x) :: (sd_l ad ls).filter (fun q => !(q.1 == k) && (!(q.1 == k + 1) && !(q.1 + 1 == k && q.2.category == 2)))) → W p l e R s m args below meth c H locs cells slots Qe (F0 m (pc + n) ls' (st.map (sd_v ad))) := fun ls' h' => hk H locs cells slots ls' hP hS (sd_s2 (v := .long x) h') h1 h2 h3
  cases i <;> cases hi
  · exact lv_lstore hx hb (hT.at hf rfl) hl hn rfl hk'
  · exact lv_lstore_n hx hb (hT.at hf rfl) rfl hl hn rfl hk'
theorem sd_Rinc (hx : p.tables.exec = Jvm.exec) (hb : c.code = cc) (hT : sd_T G j cc) : ab_Rinc G j (sd_P G D ad dA A p l e R s m args below meth c j h0 Qe) := by
  intro pc ls st h k n x hf hv hn hk H locs cells slots lsM hP hS hl h1 h2 h3
  obtain ⟨q, hq⟩ := List.getElem?_of_mem (sd_l_in (ad := ad).mpr ⟨_, hv, rfl⟩)
  exact lv_iinc hx hb (hT.at hf rfl) hl hq rfl hn rfl (fun ls' h' => hk H locs cells slots ls' hP hS (sd_s1 (v := .int (x + Int32.ofInt n)) h') h1 h2 h3)
theorem sd_Rbin (hx : p.tables.exec = Jvm.exec) (hb : c.code = cc) (hT : sd_T G j cc) : ab_Rbin G j (sd_P G D ad dA A p l e R s m args below meth c j h0 Qe) := by
  intro pc ls st h i g x y hf hg hk H locs cells slots lsM hP hS hl h1 h2 h3
  have hk' := hk H locs cells slots lsM hP hS hl h1 h2 h3
  cases i <;> cases hg
  · exact lv_iadd hx hb (hT.at hf rfl) hk'
  · exact lv_iand hx hb (hT.at hf rfl) hk'
  · exact lv_imul hx hb (hT.at hf rfl) hk'
  · exact lv_ior hx hb (hT.at hf rfl) hk'
  · exact lv_ishl hx hb (hT.at hf rfl) hk'
  · exact lv_ishr hx hb (hT.at hf rfl) hk'
  · exact lv_isub hx hb (hT.at hf rfl) hk'
  · exact lv_iushr hx hb (hT.at hf rfl) rfl hk'
  · exact lv_ixor hx hb (hT.at hf rfl) hk'
theorem sd_Rdiv (hx : p.tables.exec = Jvm.exec) (hb : c.code = cc) (hT : sd_T G j cc) : ab_Rdiv G j (sd_P G D ad dA A p l e R s m args below meth c j h0 Qe) := by
  intro pc ls st h x y hf hy hk H locs cells slots lsM hP hS hl h1 h2 h3
  exact lv_idiv hx hb (hT.at hf rfl) hy (hk H locs cells slots lsM hP hS hl h1 h2 h3)
theorem sd_Rrem (hx : p.tables.exec = Jvm.exec) (hb : c.code = cc) (hT : sd_T G j cc) : ab_Rrem G j (sd_P G D ad dA A p l e R s m args below meth c j h0 Qe) := by
  intro pc ls st h x y hf hy hk H locs cells slots lsM hP hS hl h1 h2 h3
  exact lv_irem hx hb (hT.at hf rfl) hy (hk H locs cells slots lsM hP hS hl h1 h2 h3)
theorem sd_Rlbn (hx : p.tables.exec = Jvm.exec) (hb : c.code = cc) (hT : sd_T G j cc) : ab_Rlbn G j (sd_P G D ad dA A p l e R s m args below meth c j h0 Qe) := by
  intro pc ls st h i g x y hf hg hk H locs cells slots lsM hP hS hl h1 h2 h3
  have hk' := hk H locs cells slots lsM hP hS hl h1 h2 h3
  cases i <;> cases hg
  · exact lv_ladd hx hb (hT.at hf rfl) hk'
  · exact lv_land hx hb (hT.at hf rfl) hk'
  · exact lv_lmul hx hb (hT.at hf rfl) hk'
  · exact lv_lor hx hb (hT.at hf rfl) hk'
  · exact lv_lsub hx hb (hT.at hf rfl) hk'
  · exact lv_lxor hx hb (hT.at hf rfl) hk'
theorem sd_Rlsh (hx : p.tables.exec = Jvm.exec) (hb : c.code = cc) (hT : sd_T G j cc) : ab_Rlsh G j (sd_P G D ad dA A p l e R s m args below meth c j h0 Qe) := by
  intro pc ls st h i g x y hf hg hk H locs cells slots lsM hP hS hl h1 h2 h3
  have hk' := hk H locs cells slots lsM hP hS hl h1 h2 h3
  cases i <;> cases hg
  · exact lv_lshl hx hb (hT.at hf rfl) rfl hk'
  · exact lv_lshr hx hb (hT.at hf rfl) rfl hk'
  · exact lv_lushr hx hb (hT.at hf rfl) rfl hk'
theorem sd_Run (hx : p.tables.exec = Jvm.exec) (hb : c.code = cc) (hT : sd_T G j cc) : ab_Run G j (sd_P G D ad dA A p l e R s m args below meth c j h0 Qe) := by
  intro pc ls st h i v w hf hw hk H locs cells slots lsM hP hS hl h1 h2 h3
  have hk' := hk H locs cells slots lsM hP hS hl h1 h2 h3
  unfold ab_un at hw
  split at hw
  · cases hw; exact lv_i2l hx hb (hT.at hf rfl) rfl hk'
  · cases hw; exact lv_i2c hx hb (hT.at hf rfl) rfl hk'
  · cases hw; exact lv_ineg hx hb (hT.at hf rfl) hk'
  · cases hw; exact lv_l2i hx hb (hT.at hf rfl) rfl hk'
  · cases hw; exact lv_lneg hx hb (hT.at hf rfl) hk'
  · cases hw
theorem sd_Rcmp (hx : p.tables.exec = Jvm.exec) (hb : c.code = cc) (hT : sd_T G j cc) : ab_Rcmp G j (sd_P G D ad dA A p l e R s m args below meth c j h0 Qe) := by
  intro pc ls st h x y hf hk H locs cells slots lsM hP hS hl h1 h2 h3
  exact W.lcmp hx hb (hT.at hf rfl) (hk H locs cells slots lsM hP hS hl h1 h2 h3)
theorem sd_Rdup (hx : p.tables.exec = Jvm.exec) (hb : c.code = cc) (hT : sd_T G j cc) : ab_Rdup G j (sd_P G D ad dA A p l e R s m args below meth c j h0 Qe) := by
  intro pc ls st h v hf hv hk H locs cells slots lsM hP hS hl h1 h2 h3
  exact lv_dup hx hb (hT.at hf rfl) (by rw [sd_v_cat]; exact (sd_c1 v).mp hv) (hk H locs cells slots lsM hP hS hl h1 h2 h3)
theorem sd_Rdp2 (hx : p.tables.exec = Jvm.exec) (hb : c.code = cc) (hT : sd_T G j cc) : ab_Rdp2 G j (sd_P G D ad dA A p l e R s m args below meth c j h0 Qe) := by
  intro pc ls st h v w hf hv hw hk H locs cells slots lsM hP hS hl h1 h2 h3
  exact lv_dup2_11 hx hb (hT.at hf rfl) (by rw [sd_v_cat]; exact (sd_c1 v).mp hv) (by rw [sd_v_cat]; exact (sd_c1 w).mp hw) (hk H locs cells slots lsM hP hS hl h1 h2 h3)
theorem sd_Rdpl (hx : p.tables.exec = Jvm.exec) (hb : c.code = cc) (hT : sd_T G j cc) : ab_Rdpl G j (sd_P G D ad dA A p l e R s m args below meth c j h0 Qe) := by
  intro pc ls st h v hf hv hk H locs cells slots lsM hP hS hl h1 h2 h3
  exact lv_dup2_2 hx hb (hT.at hf rfl) (by rw [sd_v_cat]; exact (sd_c2 v).mp hv) (hk H locs cells slots lsM hP hS hl h1 h2 h3)
theorem sd_Rpop (hx : p.tables.exec = Jvm.exec) (hb : c.code = cc) (hT : sd_T G j cc) : ab_Rpop G j (sd_P G D ad dA A p l e R s m args below meth c j h0 Qe) := by
  intro pc ls st h v hf hv hk H locs cells slots lsM hP hS hl h1 h2 h3
  exact lv_pop hx hb (hT.at hf rfl) (by rw [sd_v_cat]; exact (sd_c1 v).mp hv) (hk H locs cells slots lsM hP hS hl h1 h2 h3)
theorem sd_Ca (hx : p.tables.exec = Jvm.exec) (hb : c.code = cc) (hT : sd_T G j cc) : ab_Ca G j (sd_P G D ad dA A p l e R s m args below meth c j h0 Qe) :=
  ⟨sd_Rcst hx hb hT, sd_Rld hx hb hT, sd_Rst hx hb hT, sd_Rsl hx hb hT, sd_Rinc hx hb hT, sd_Rbin hx hb hT, sd_Rdiv hx hb hT, sd_Rrem hx hb hT, sd_Rlbn hx hb hT, sd_Rlsh hx hb hT, sd_Run hx hb hT, sd_Rcmp hx hb hT, sd_Rdup hx hb hT, sd_Rdp2 hx hb hT, sd_Rdpl hx hb hT, sd_Rpop hx hb hT⟩
theorem sd_Rif (hx : p.tables.exec = Jvm.exec) (hb : c.code = cc) (hT : sd_T G j cc) : ab_Rif G j (sd_P G D ad dA A p l e R s m args below meth c j h0 Qe) := by
  intro pc ls st h cn off t x hf ht hk kf H locs cells slots lsM hP hS hl h1 h2 h3
  have k3 := fun q => hk q H locs cells slots lsM hP hS hl h1 h2 h3
  have k4 := fun q => kf q H locs cells slots lsM hP hS hl h1 h2 h3
  cases cn
  · exact lv_if_eq hx hb (hT.at hf rfl) ht k3 k4
  · exact lv_if_ne hx hb (hT.at hf rfl) ht k3 (fun q => k4 (fun (z : ¬ x = 0) => z q))
  · exact lv_if_lt hx hb (hT.at hf rfl) ht k3 k4
  · exact lv_if_ge hx hb (hT.at hf rfl) ht k3 k4
  · exact lv_if_gt hx hb (hT.at hf rfl) ht k3 k4
  · exact lv_if_le hx hb (hT.at hf rfl) ht k3 k4
theorem sd_Ric (hx : p.tables.exec = Jvm.exec) (hb : c.code = cc) (hT : sd_T G j cc) : ab_Ric G j (sd_P G D ad dA A p l e R s m args below meth c j h0 Qe) := by
  intro pc ls st h cn off t x y hf ht hk kf H locs cells slots lsM hP hS hl h1 h2 h3
  have k3 := fun q => hk q H locs cells slots lsM hP hS hl h1 h2 h3
  have k4 := fun q => kf q H locs cells slots lsM hP hS hl h1 h2 h3
  cases cn
  · exact lv_icmp_eq hx hb (hT.at hf rfl) ht k3 k4
  · exact lv_icmp_ne hx hb (hT.at hf rfl) ht k3 (fun q => k4 (fun (z : ¬ x = y) => z q))
  · exact lv_icmp_lt hx hb (hT.at hf rfl) ht k3 k4
  · exact lv_icmp_ge hx hb (hT.at hf rfl) ht k3 k4
  · exact lv_icmp_gt hx hb (hT.at hf rfl) ht k3 k4
  · exact lv_icmp_le hx hb (hT.at hf rfl) ht k3 k4
theorem sd_Rnu (hx : p.tables.exec = Jvm.exec) (hb : c.code = cc) (hT : sd_T G j cc) : ab_Rnu G j (sd_P G D ad dA A p l e R s m args below meth c j h0 Qe) := by
  intro pc ls st h off t o hf ht hk kf H locs cells slots lsM hP hS hl h1 h2 h3
  cases o with
  | none => exact lv_ifnullN hx hb (hT.at hf rfl) ht (hk rfl H locs cells slots lsM hP hS hl h1 h2 h3)
  | some a => exact lv_ifnull hx hb (hT.at hf rfl) (kf a rfl H locs cells slots lsM hP hS hl h1 h2 h3)
theorem sd_Rnn (hx : p.tables.exec = Jvm.exec) (hb : c.code = cc) (hT : sd_T G j cc) : ab_Rnn G j (sd_P G D ad dA A p l e R s m args below meth c j h0 Qe) := by
  intro pc ls st h off t o hf ht hk kf H locs cells slots lsM hP hS hl h1 h2 h3
  cases o with
  | none => exact lv_ifnonnullN hx hb (hT.at hf rfl) (hk rfl H locs cells slots lsM hP hS hl h1 h2 h3)
  | some a => exact lv_ifnonnull hx hb (hT.at hf rfl) ht (kf a rfl H locs cells slots lsM hP hS hl h1 h2 h3)
theorem sd_Rac (hx : p.tables.exec = Jvm.exec) (hb : c.code = cc) (hT : sd_T G j cc) (hi : ∀ a b, a < 1000000 → b < 1000000 → ad a = ad b → a = b) : ab_Rac G j (sd_P G D ad dA A p l e R s m args below meth c j h0 Qe) := by
  intro pc ls st h off t o u hf ht ho hu hk kf H locs cells slots lsM hP hS hl h1 h2 h3
  have ev : ∀ o : Option Nat, sd_v ad (va_rf o) = va_rf (o.map ad) := fun o => by cases o <;> rfl
  have ei : o.map ad = u.map ad → o = u := by
    intro q
    cases o with
    | none => cases u with
      | none => rfl
      | some b => cases q
    | some a => cases u with
      | none => cases q
      | some b => rw [hi a b (ho a rfl) (hu b rfl) (Option.some.inj q)]
  rw [List.map_cons, List.map_cons, ev, ev]
  exact lv_acmp_ne hx hb (hT.at hf rfl) ht (fun q => hk (fun z => q (by rw [z])) H locs cells slots lsM hP hS hl h1 h2 h3) (fun q => kf (ei q) H locs cells slots lsM hP hS hl h1 h2 h3)
theorem sd_Rgo (hx : p.tables.exec = Jvm.exec) (hb : c.code = cc) (hT : sd_T G j cc) : ab_Rgo G j (sd_P G D ad dA A p l e R s m args below meth c j h0 Qe) := by
  intro pc ls st h off t hf ht hk H locs cells slots lsM hP hS hl h1 h2 h3
  exact lv_goto hx hb (hT.at hf rfl) ht (hk H locs cells slots lsM hP hS hl h1 h2 h3)
theorem sd_Rtin (hx : p.tables.exec = Jvm.exec) (hb : c.code = cc) (hT : sd_T G j cc) : ab_Rtin G j (sd_P G D ad dA A p l e R s m args below meth c j h0 Qe) := by
  intro pc ls st h d lo hi offs off t x hf ha hb2 ho ht hk H locs cells slots lsM hP hS hl h1 h2 h3
  obtain ⟨n, hd, -⟩ := hT pc _ hf
  exact lv_tableIn hx hb hd ha hb2 ho ht (hk H locs cells slots lsM hP hS hl h1 h2 h3)
theorem sd_Rtou (hx : p.tables.exec = Jvm.exec) (hb : c.code = cc) (hT : sd_T G j cc) : ab_Rtou G j (sd_P G D ad dA A p l e R s m args below meth c j h0 Qe) := by
  intro pc ls st h d lo hi offs t x hf ha ht hk H locs cells slots lsM hP hS hl h1 h2 h3
  obtain ⟨n, hd, -⟩ := hT pc _ hf
  exact lv_tableOut hx hb hd ha ht (hk H locs cells slots lsM hP hS hl h1 h2 h3)
theorem sd_Rlku (hx : p.tables.exec = Jvm.exec) (hb : c.code = cc) (hT : sd_T G j cc) : ab_Rlku G j (sd_P G D ad dA A p l e R s m args below meth c j h0 Qe) := by
  intro pc ls st h d ps off t x hf hp ho ht hk H locs cells slots lsM hP hS hl h1 h2 h3
  obtain ⟨n, hd, -⟩ := hT pc _ hf
  exact lv_lookup hx hb hd hp ho ht (hk H locs cells slots lsM hP hS hl h1 h2 h3)
theorem sd_Cb (hx : p.tables.exec = Jvm.exec) (hb : c.code = cc) (hT : sd_T G j cc) (hi : ∀ a b, a < 1000000 → b < 1000000 → ad a = ad b → a = b) : ab_Cb G j (sd_P G D ad dA A p l e R s m args below meth c j h0 Qe) :=
  ⟨sd_Rif hx hb hT, sd_Ric hx hb hT, sd_Rnu hx hb hT, sd_Rnn hx hb hT, sd_Rac hx hb hT hi, sd_Rgo hx hb hT, sd_Rtin hx hb hT, sd_Rtou hx hb hT, sd_Rlku hx hb hT⟩
end SdA
end
section
/-! OURS. Soundness of the rules of objects and arrays. -/
theorem sd_D {G : ab_G} {ad : Nat → Nat} {dA : Nat → ClassId} {A : Nat → Prop} (hi : ∀ a b, a < 1000000 → b < 1000000 → ad a = ad b → a = b) (hA : ∀ a, a < 1000000 → A (ad a)) {h : ab_H} (hc : (ab_cap G).1 ≤ 1000000) (h3 : h.length ≤ (ab_cap G).1) : va_D A (sd_w ad dA h) := by
  have hlt : ∀ (i : Nat) (q : Nat × va_E), (sd_w ad dA h)[i]? = some q → i < 1000000 ∧ q.1 = ad i := by
    intro i q hq
    obtain ⟨o, ho, rfl⟩ := sd_w_inv hq
    have := (List.getElem?_eq_some_iff.mp ho).1
    exact ⟨by omega, rfl⟩
  refine ⟨fun i k p q hp hq hpq => ?_, fun i q hq => ?_⟩
  · obtain ⟨a1, a2⟩ := hlt i p hp
    obtain ⟨b1, b2⟩ := hlt k q hq
    exact hi i k a1 b1 (by rw [← a2, ← b2, hpq])
  · obtain ⟨a1, a2⟩ := hlt i q hq
    rw [a2]
    exact hA i a1
theorem sd_sz {p : Program} {l : Launch} {e : Env} {R : Room} {s : State} {m : MethodId} {args : Array Value} {below : List Frame} {meth : Method} {c : Code} {H : Heap} {locs : List Loc} {cells slots : Nat} {Q : State → Prop} {g : JFrame} (k : H.size ≤ s.heap.size + cells → W p l e R s m args below meth c H locs cells slots Q g) : W p l e R s m args below meth c H locs cells slots Q g :=
  fun T hT X => k (by rw [← hT]; exact X.heapSize) T hT X
/-- a new cell has the next number -/
theorem sd_next {D : va_G} {cl : List vw_C} {ad : Nat → Nat} {dA : Nat → ClassId} {base : Nat} {h : ab_H} {H1 : Heap} {q : Nat} {x : va_E} (hb : ∀ i, i < 1000000 → ad i = base + i) (hl : h.length < 1000000) (hP : va_P D cl (sd_w ad dA h ++ [(q, x)]) H1) (hD : va_D (fun a => base ≤ a) (sd_w ad dA h ++ [(q, x)])) (hz : H1.size ≤ base + h.length + 1) : q = ad h.length := by
  have hq : (sd_w ad dA h ++ [(q, x)])[h.length]? = some (q, x) := by
    rw [List.getElem?_append_right (by rw [sd_w_len]; exact Nat.le_refl _), sd_w_len]; simp
  have h1 : q < H1.size := (hP _ _ hq).lt
  have h2 : base ≤ q := hD.2 _ _ hq
  rw [hb _ hl]
  by_cases hk : q - base < h.length
  · exfalso
    have hk2 : (sd_w ad dA h ++ [(q, x)])[q - base]? = some (ad (q - base), sd_o ad dA (h[q - base]'hk)) := by
      rw [List.getElem?_append_left (by rw [sd_w_len]; exact hk)]
      exact sd_w_at (List.getElem?_eq_getElem hk)
    have := hD.1 _ _ _ _ hk2 hq (by show ad (q - base) = q; rw [hb _ (by omega)]; omega)
    omega
  · omega
theorem sd_wt_set {G : ab_G} {h : ab_H} {i : Nat} {o o' : ab_O} (ho : h[i]? = some o) (hw : ab_w1 G o' = ab_w1 G o) : ab_wt G (h.set i o') = ab_wt G h := by
  have e : (h.set i o').map (ab_w1 G) = h.map (ab_w1 G) := by
    rw [List.map_set, hw]
    apply List.ext_getElem?
    intro k
    by_cases hk : k = i
    · subst hk
      rw [List.getElem?_set_self', List.getElem?_map, ho]
      rfl
    · rw [List.getElem?_set_ne (fun q => hk q.symm)]
  unfold ab_wt
  rw [e]
theorem sd_wt_push {G : ab_G} {h : ab_H} {o : ab_O} : ab_wt G (h ++ [o]) = ab_wt G h + ab_w1 G o := by
  simp [ab_wt]
/-- a field's link -/
def sd_Lf (G : ab_G) (Ts : List Cond) (args : Array Value) (s : State) (own : String) (idx ci k : Nat) : Prop := ∃ (C : String) (T : u_T) (N : Nat), (ab_cl G)[ci]? = some (C, T, N) ∧ k < N ∧ (∀ w ∈ u_ws C T N, w ∈ Ts) ∧ ((Cond.fieldLink own idx (T k).1 (T k).2.1 (T k).2.2.1).before args s = true ∨ ∃ host, (Cond.fieldLinkNest own idx (T k).1 (T k).2.1 (T k).2.2.1 host).before args s = true)
/-- the classes' tables -/
def sd_Cl (G : ab_G) : Prop := ∀ (ci : Nat) (C : String) (T : u_T) (N : Nat), (ab_cl G)[ci]? = some (C, T, N) → (∀ k, k < N → ∃ ty, ab_tf G ci k = some ty ∧ parseFieldDescriptor (T k).2.2.1 = some ty) ∧ ∀ a, a < N → ∀ b, b < N → a ≠ b → (T a).2.1 ≠ (T b).2.1
section SdC
variable {G : ab_G} {D : va_G} {ad : Nat → Nat} {dA : Nat → ClassId} {base : Nat} {p : Program} {l : Launch} {e : Env} {R : Room} {s : State} {m : MethodId} {args : Array Value} {below : List Frame} {meth : Method} {c : Code} {j : Nat} {h0 : ab_H} {Qe : State → Prop} {cc : ByteArray} {Ts : List Cond} {own : String} {tys : List (ClassId × FieldType)}
theorem sd_Rget (hx : p.tables.exec = Jvm.exec) (hb : c.code = cc) (hT : sd_T G j cc) (hts : ∀ w ∈ Ts, w.before args s = true) (hown : s.vm.findClass own = some m.cls) (hK : va_K D (ab_cl G) tys s) (hL : ∀ idx ci k, ab_lf G j idx = some (ci, k) → sd_Lf G Ts args s own idx ci k) : ab_Rget G j (sd_P G D ad dA (fun a => base ≤ a) p l e R s m args below meth c j h0 Qe) := by
  intro pc ls st h idx ci k fs v a hf hi ha hv hk H locs cells slots lsM hP hS hl h1 h2 h3
  obtain ⟨C, T, N, hc, hkN, hin, hlk⟩ := hL idx ci k hi
  have hw := sd_w_at (ad := ad) (dA := dA) ha
  have hv' : (fs.map (sd_v ad))[k]? = some (sd_v ad v) := by rw [List.getElem?_map, hv]; rfl
  rcases hlk with hlk | ⟨host, hlk⟩
  · exact va_get hx hb hts hin hown hK hP a hw hc k hkN hlk (fun _ q => q) hv' (hT.at hf rfl) (hk H locs cells slots lsM hP hS hl h1 h2 h3)
  · exact va_getN hx hb hts hin hown hK hP a hw hc k hkN hlk (fun _ q => q) hv' (hT.at hf rfl) (hk H locs cells slots lsM hP hS hl h1 h2 h3)
theorem sd_nar {ad : Nat → Nat} {ty : FieldType} {v : Value} (h : narrow ty v = v) : narrow ty (sd_v ad v) = sd_v ad v := by
  cases v with
  | ref a => cases ty <;> rfl
  | _ => exact h
theorem sd_fits {ad : Nat → Nat} {ty : FieldType} {v : Value} (h : fits ty v = true) : fits ty (sd_v ad v) = true := by
  cases v with
  | ref a => cases ty <;> exact h
  | _ => exact h
theorem sd_Rput (hx : p.tables.exec = Jvm.exec) (hb : c.code = cc) (hT : sd_T G j cc) (hts : ∀ w ∈ Ts, w.before args s = true) (hown : s.vm.findClass own = some m.cls) (hK : va_K D (ab_cl G) tys s) (hL : ∀ idx ci k, ab_lf G j idx = some (ci, k) → sd_Lf G Ts args s own idx ci k) (hCl : sd_Cl G)
    (hfin : ∀ pc idx ci k C T N, ab_f G j pc = some (.putfield idx) → ab_lf G j idx = some (ci, k) → (ab_cl G)[ci]? = some (C, T, N) → (T k).2.2.2 = true → meth.name = "<init>" ∧ (T k).1 = own ∧ (Cond.fieldLink own idx (T k).1 (T k).2.1 (T k).2.2.1).before args s = true)
    (hi : ∀ a b, a < 1000000 → b < 1000000 → ad a = ad b → a = b) (hA : ∀ a, a < 1000000 → base ≤ ad a) (hcap : (ab_cap G).1 ≤ 1000000) : ab_Rput G j (sd_P G D ad dA (fun a => base ≤ a) p l e R s m args below meth c j h0 Qe) := by
  intro pc ls st h idx ci k fs v ty a hf hlf ha hkl hty hn hfit hk H locs cells slots lsM hP hS hl h1 h2 h3
  obtain ⟨C, T, N, hc, hkN, hin, hlk⟩ := hL idx ci k hlf
  obtain ⟨ht, hnm⟩ := hCl ci C T N hc
  have hw := sd_w_at (ad := ad) (dA := dA) ha
  have hD := sd_D (G := G) (dA := dA) hi hA hcap h3.1
  have hty0 : ∀ k, k < N → parseFieldDescriptor (T k).2.2.1 = some ((ab_tf G ci k).getD .int) := fun k hk => by
    obtain ⟨t, e1, e2⟩ := ht k hk
    rw [e1, e2]; rfl
  have hd : parseFieldDescriptor (T k).2.2.1 = some ty := by rw [hty0 k hkN, hty]; rfl
  have hset : (sd_w ad dA h).set a (ad a, .inr (ci, (fs.map (sd_v ad)).set k (sd_v ad v))) = sd_w ad dA (h.set a (.inr (ci, fs.set k v))) := by
    rw [← sd_w_set]
    simp [sd_o, List.map_set]
  have kk : ∀ (H1 : Heap) (locs1 : List Loc), va_P D (ab_cl G) ((sd_w ad dA h).set a (ad a, .inr (ci, (fs.map (sd_v ad)).set k (sd_v ad v)))) H1 → va_D (fun a => base ≤ a) ((sd_w ad dA h).set a (ad a, .inr (ci, (fs.map (sd_v ad)).set k (sd_v ad v)))) → va_S (fun a => base ≤ a) s.heap H1 locs1 → W p l e R s m args below meth c H1 locs1 cells slots Qe (F0 m (pc + 3) lsM (st.map (sd_v ad))) := by
    intro H1 locs1 hP1 _ hS1
    rw [hset] at hP1
    exact hk H1 locs1 cells slots lsM hP1 hS1 hl (by rw [List.length_set]; exact h1) (h2.trans (Eq.symm (sd_wt_set ha (by rfl)))) ⟨by rw [List.length_set]; exact h3.1, Nat.le_trans (Nat.le_of_eq (sd_wt_set ha (by rfl))) h3.2⟩
  by_cases hff : (T k).2.2.2 = true
  · obtain ⟨g1, g2, g3⟩ := hfin pc idx ci k C T N hf hlf hc hff
    exact va_putF hx hb hts hin (fun k => (ab_tf G ci k).getD .int) hty0 hnm hown hK hP hD hS a hw hc k hkN g3 (fun _ q => q) hff g1 g2 hd (sd_nar hn) (sd_fits hfit) (by rw [List.length_map]; exact hkl) (hT.at hf rfl) kk
  · have hff : (T k).2.2.2 = false := by simpa using hff
    rcases hlk with hlk | ⟨host, hlk⟩
    · exact va_put hx hb hts hin (fun k => (ab_tf G ci k).getD .int) hty0 hnm hown hK hP hD hS a hw hc k hkN hlk (fun _ q => q) hff hd (sd_nar hn) (sd_fits hfit) (by rw [List.length_map]; exact hkl) (hT.at hf rfl) kk
    · exact va_putN hx hb hts hin (fun k => (ab_tf G ci k).getD .int) hty0 hnm hown hK hP hD hS a hw hc k hkN hlk (fun _ q => q) hff hd (sd_nar hn) (sd_fits hfit) (by rw [List.length_map]; exact hkl) (hT.at hf rfl) kk
/-- a static's link, and what it holds -/
def sd_Ls (args : Array Value) (s : State) (own : String) (base idx a : Nat) : Prop := ∃ C n d, va_Z C n d (.ref a) (fun q => base ≤ q) s s.heap ∧ ((Cond.fieldLink own idx C n d).before args s = true ∨ ∃ host, (Cond.fieldLinkNest own idx C n d host).before args s = true)
theorem sd_Rsta (hx : p.tables.exec = Jvm.exec) (hb : c.code = cc) (hT : sd_T G j cc) (hown : s.vm.findClass own = some m.cls) (hL : ∀ idx a, ab_ls G j idx = some a → sd_Ls args s own base idx (ad a)) : ab_Rsta G j (sd_P G D ad dA (fun a => base ≤ a) p l e R s m args below meth c j h0 Qe) := by
  intro pc ls st h idx a hf hi hk H locs cells slots lsM hP hS hl h1 h2 h3
  obtain ⟨C, n, d, hZ, hlk⟩ := hL idx a hi
  rcases hlk with hlk | ⟨host, hlk⟩
  · exact va_gets hx hb hZ hS hown hlk (fun _ q => q) (hT.at hf rfl) (hk H locs cells slots lsM hP hS hl h1 h2 h3)
  · exact va_getsN hx hb hZ hS hown hlk (fun _ q => q) (hT.at hf rfl) (hk H locs cells slots lsM hP hS hl h1 h2 h3)
theorem sd_Rkld (hx : p.tables.exec = Jvm.exec) (hb : c.code = cc) (hT : sd_T G j cc) (hC : ∀ a n xs, ab_ca G a = some (n, xs) → va_X (ad a) n xs s s.heap ∧ ad a < s.heap.size ∧ ¬ base ≤ ad a) : ab_Rkld G j (sd_P G D ad dA (fun a => base ≤ a) p l e R s m args below meth c j h0 Qe) := by
  intro pc ls st h a n xs i hf ha hin hk H locs cells slots lsM hP hS hl h1 h2 h3
  obtain ⟨g1, g2, g3⟩ := hC a n xs ha
  exact va_sld hx hb g1 g2 g3 hS hin (hT.at hf rfl) (hk H locs cells slots lsM hP hS hl h1 h2 h3)
theorem sd_Rkln (hx : p.tables.exec = Jvm.exec) (hb : c.code = cc) (hT : sd_T G j cc) (hC : ∀ a n xs, ab_ca G a = some (n, xs) → va_X (ad a) n xs s s.heap ∧ ad a < s.heap.size ∧ ¬ base ≤ ad a) : ab_Rkln G j (sd_P G D ad dA (fun a => base ≤ a) p l e R s m args below meth c j h0 Qe) := by
  intro pc ls st h a n xs hf ha hk H locs cells slots lsM hP hS hl h1 h2 h3
  obtain ⟨g1, g2, g3⟩ := hC a n xs ha
  exact va_slen hx hb g1 g2 g3 hS (hT.at hf rfl) (hk H locs cells slots lsM hP hS hl h1 h2 h3)
theorem sd_Rild (hx : p.tables.exec = Jvm.exec) (hb : c.code = cc) (hT : sd_T G j cc) (hK : va_K D (ab_cl G) tys s) (hty : ∀ t ty, ab_at G t = some ty → tys[t]? = some (dA t, ty)) : ab_Rild G j (sd_P G D ad dA (fun a => base ≤ a) p l e R s m args below meth c j h0 Qe) := by
  intro pc ls st h t n xs a i hf ha ht hin hk H locs cells slots lsM hP hS hl h1 h2 h3
  exact va_iald hx hb hK hP a t (sd_w_at (ad := ad) (dA := dA) ha) (hty t _ ht) hin (hT.at hf rfl) (hk H locs cells slots lsM hP hS hl h1 h2 h3)
theorem sd_Rcld (hx : p.tables.exec = Jvm.exec) (hb : c.code = cc) (hT : sd_T G j cc) (hK : va_K D (ab_cl G) tys s) (hty : ∀ t ty, ab_at G t = some ty → tys[t]? = some (dA t, ty)) : ab_Rcld G j (sd_P G D ad dA (fun a => base ≤ a) p l e R s m args below meth c j h0 Qe) := by
  intro pc ls st h t n xs a i hf ha ht hin hk H locs cells slots lsM hP hS hl h1 h2 h3
  exact va_cald hx hb hK hP a t (sd_w_at (ad := ad) (dA := dA) ha) (hty t _ ht) hin (hT.at hf rfl) (hk H locs cells slots lsM hP hS hl h1 h2 h3)
theorem sd_Rlld (hx : p.tables.exec = Jvm.exec) (hb : c.code = cc) (hT : sd_T G j cc) (hK : va_K D (ab_cl G) tys s) (hty : ∀ t ty, ab_at G t = some ty → tys[t]? = some (dA t, ty)) : ab_Rlld G j (sd_P G D ad dA (fun a => base ≤ a) p l e R s m args below meth c j h0 Qe) := by
  intro pc ls st h t n xs a i hf ha ht hin hk H locs cells slots lsM hP hS hl h1 h2 h3
  exact va_lald hx hb hK hP a t (sd_w_at (ad := ad) (dA := dA) ha) (hty t _ ht) hin (hT.at hf rfl) (hk H locs cells slots lsM hP hS hl h1 h2 h3)
theorem sd_rf (ad : Nat → Nat) (o : Option Nat) : sd_v ad (va_rf o) = va_rf (o.map ad) := by cases o <;> rfl
theorem sd_Rald (hx : p.tables.exec = Jvm.exec) (hb : c.code = cc) (hT : sd_T G j cc) (hK : va_K D (ab_cl G) tys s) (hty : ∀ t ty, ab_at G t = some ty → tys[t]? = some (dA t, ty)) : ab_Rald G j (sd_P G D ad dA (fun a => base ≤ a) p l e R s m args below meth c j h0 Qe) := by
  intro pc ls st h t n xs C a i hf ha ht hin hk H locs cells slots lsM hP hS hl h1 h2 h3
  have hk' := hk H locs cells slots lsM hP hS hl h1 h2 h3
  rw [List.map_cons, sd_rf] at hk'
  exact va_aldq hx hb hK hP a t (sd_w_at (ad := ad) (dA := dA) ha) (hty t _ ht) hin (hT.at hf rfl) hk'
theorem sd_Rlen (hx : p.tables.exec = Jvm.exec) (hb : c.code = cc) (hT : sd_T G j cc) (hK : va_K D (ab_cl G) tys s) (hty : ∀ t ty, ab_at G t = some ty → tys[t]? = some (dA t, ty)) : ab_Rlen G j (sd_P G D ad dA (fun a => base ≤ a) p l e R s m args below meth c j h0 Qe) := by
  intro pc ls st h t ty x a hf ha ht hk H locs cells slots lsM hP hS hl h1 h2 h3
  have e1 : (sd_x ad x).1 = x.1 := by
    obtain ⟨n, f | f | f | f | f⟩ := x <;> rfl
  exact va_alen hx hb hK hP a t (sd_w_at (ad := ad) (dA := dA) ha) (hty t _ ht) (by rw [e1]) (hT.at hf rfl) (hk H locs cells slots lsM hP hS hl h1 h2 h3)
theorem sd_Rist (hx : p.tables.exec = Jvm.exec) (hb : c.code = cc) (hT : sd_T G j cc) (hK : va_K D (ab_cl G) tys s) (hty : ∀ t ty, ab_at G t = some ty → tys[t]? = some (dA t, ty))
    (hi : ∀ a b, a < 1000000 → b < 1000000 → ad a = ad b → a = b) (hA : ∀ a, a < 1000000 → base ≤ ad a) (hcap : (ab_cap G).1 ≤ 1000000) : ab_Rist G j (sd_P G D ad dA (fun a => base ≤ a) p l e R s m args below meth c j h0 Qe) := by
  intro pc ls st h t n xs a i x hf ha ht hin hk H locs cells slots lsM hP hS hl h1 h2 h3
  refine va_iast hx hb hK hP (sd_D (G := G) (dA := dA) hi hA hcap h3.1) hS a t (sd_w_at (ad := ad) (dA := dA) ha) (hty t _ ht) hin (hT.at hf rfl) (fun H1 locs1 hP1 _ hS1 => ?_)
  have e1 : (sd_w ad dA h).set a (ad a, .inl (dA t, n, .inl (upd xs i.toNatClampNeg x))) = sd_w ad dA (h.set a (.inl (t, n, .inl (upd xs i.toNatClampNeg x)))) := by rw [← sd_w_set]; rfl
  rw [e1] at hP1
  exact hk H1 locs1 cells slots lsM hP1 hS1 hl (by rw [List.length_set]; exact h1) (h2.trans (Eq.symm (sd_wt_set ha (by rfl)))) ⟨by rw [List.length_set]; exact h3.1, Nat.le_trans (Nat.le_of_eq (sd_wt_set ha (by rfl))) h3.2⟩
theorem sd_Rcts (hx : p.tables.exec = Jvm.exec) (hb : c.code = cc) (hT : sd_T G j cc) (hK : va_K D (ab_cl G) tys s) (hty : ∀ t ty, ab_at G t = some ty → tys[t]? = some (dA t, ty))
    (hi : ∀ a b, a < 1000000 → b < 1000000 → ad a = ad b → a = b) (hA : ∀ a, a < 1000000 → base ≤ ad a) (hcap : (ab_cap G).1 ≤ 1000000) : ab_Rcts G j (sd_P G D ad dA (fun a => base ≤ a) p l e R s m args below meth c j h0 Qe) := by
  intro pc ls st h t n xs a i x hf ha ht hin hk H locs cells slots lsM hP hS hl h1 h2 h3
  refine va_cast hx hb hK hP (sd_D (G := G) (dA := dA) hi hA hcap h3.1) hS a t (sd_w_at (ad := ad) (dA := dA) ha) (hty t _ ht) hin (hT.at hf rfl) (fun H1 locs1 hP1 _ hS1 => ?_)
  have e1 : (sd_w ad dA h).set a (ad a, .inl (dA t, n, .inl (upd xs i.toNatClampNeg (vp_nar .char x)))) = sd_w ad dA (h.set a (.inl (t, n, .inl (upd xs i.toNatClampNeg (vp_nar .char x))))) := by rw [← sd_w_set]; rfl
  rw [e1] at hP1
  exact hk H1 locs1 cells slots lsM hP1 hS1 hl (by rw [List.length_set]; exact h1) (h2.trans (Eq.symm (sd_wt_set ha (by rfl)))) ⟨by rw [List.length_set]; exact h3.1, Nat.le_trans (Nat.le_of_eq (sd_wt_set ha (by rfl))) h3.2⟩
theorem sd_Rlst (hx : p.tables.exec = Jvm.exec) (hb : c.code = cc) (hT : sd_T G j cc) (hK : va_K D (ab_cl G) tys s) (hty : ∀ t ty, ab_at G t = some ty → tys[t]? = some (dA t, ty))
    (hi : ∀ a b, a < 1000000 → b < 1000000 → ad a = ad b → a = b) (hA : ∀ a, a < 1000000 → base ≤ ad a) (hcap : (ab_cap G).1 ≤ 1000000) : ab_Rlst G j (sd_P G D ad dA (fun a => base ≤ a) p l e R s m args below meth c j h0 Qe) := by
  intro pc ls st h t n xs a i x hf ha ht hin hk H locs cells slots lsM hP hS hl h1 h2 h3
  refine va_last hx hb hK hP (sd_D (G := G) (dA := dA) hi hA hcap h3.1) hS a t (sd_w_at (ad := ad) (dA := dA) ha) (hty t _ ht) hin (hT.at hf rfl) (fun H1 locs1 hP1 _ hS1 => ?_)
  have e1 : (sd_w ad dA h).set a (ad a, .inl (dA t, n, .inr (.inl (vp_updL xs i.toNatClampNeg x)))) = sd_w ad dA (h.set a (.inl (t, n, .inr (.inl (vp_updL xs i.toNatClampNeg x))))) := by rw [← sd_w_set]; rfl
  rw [e1] at hP1
  exact hk H1 locs1 cells slots lsM hP1 hS1 hl (by rw [List.length_set]; exact h1) (h2.trans (Eq.symm (sd_wt_set ha (by rfl)))) ⟨by rw [List.length_set]; exact h3.1, Nat.le_trans (Nat.le_of_eq (sd_wt_set ha (by rfl))) h3.2⟩
theorem sd_Rast (hx : p.tables.exec = Jvm.exec) (hb : c.code = cc) (hT : sd_T G j cc) (hK : va_K D (ab_cl G) tys s) (hty : ∀ t ty, ab_at G t = some ty → tys[t]? = some (dA t, ty))
    (hi : ∀ a b, a < 1000000 → b < 1000000 → ad a = ad b → a = b) (hA : ∀ a, a < 1000000 → base ≤ ad a) (hcap : (ab_cap G).1 ≤ 1000000) : ab_Rast G j (sd_P G D ad dA (fun a => base ≤ a) p l e R s m args below meth c j h0 Qe) := by
  intro pc ls st h t n xs ci fs r a b i hf ha hb2 hr ht hin hk H locs cells slots lsM hP hS hl h1 h2 h3
  refine va_astq hx hb hK hP (sd_D (G := G) (dA := dA) hi hA hcap h3.1) hS a t b ci (sd_w_at (ad := ad) (dA := dA) ha) (hty t _ ht) (sd_w_at (ad := ad) (dA := dA) hb2) hr hin (hT.at hf rfl) (fun H1 locs1 hP1 _ hS1 => ?_)
  have e0 : (fun q => ((va_up xs i.toNatClampNeg (some b)) q).map ad) = va_up (fun q => (xs q).map ad) i.toNatClampNeg (some (ad b)) := by
    funext q
    by_cases hq : q = i.toNatClampNeg
    · simp [va_up, hq]
    · simp [va_up, hq]
  have e1 : (sd_w ad dA h).set a (ad a, .inl (dA t, n, .inr (.inr (.inr (.inr (va_up (fun q => (xs q).map ad) i.toNatClampNeg (some (ad b)))))))) = sd_w ad dA (h.set a (.inl (t, n, .inr (.inr (.inr (.inr (va_up xs i.toNatClampNeg (some b)))))))) := by rw [← sd_w_set, ← e0]; rfl
  rw [e1] at hP1
  exact hk H1 locs1 cells slots lsM hP1 hS1 hl (by rw [List.length_set]; exact h1) (h2.trans (Eq.symm (sd_wt_set ha (by rfl)))) ⟨by rw [List.length_set]; exact h3.1, Nat.le_trans (Nat.le_of_eq (sd_wt_set ha (by rfl))) h3.2⟩
end SdC
end
section
/-! OURS. Soundness of the rules of new objects and arrays, of the JDK's own members, and of returns. -/
def sd_Lc (G : ab_G) (Ts : List Cond) (args : Array Value) (s : State) (own : String) (ad : Nat → Nat) (idx ci : Nat) (fs : List Value) : Prop := ∃ (C : String) (T : u_T) (N : Nat), (ab_cl G)[ci]? = some (C, T, N) ∧ (∀ w ∈ u_ws C T N, w ∈ Ts) ∧ (Cond.classLink own idx C).before args s = true ∧ (Cond.instantiable C N).before args s = true ∧ (Cond.initialized C).before args s = true ∧ fs.length = N ∧ ab_wc G ci = N ∧ (∀ k, k < N → defaultValue ((ab_tf G ci k).getD .int) = vp_V fs k) ∧ fs.map (sd_v ad) = fs
theorem sd_sum (ad : Nat → Nat) (st : List Value) : ((st.map (sd_v ad)).map fun v => v.category).sum = (st.map fun v => v.category).sum := by
  rw [List.map_map]
  congr 1
  apply List.map_congr_left
  intro v _
  exact sd_v_cat ad v
theorem sd_mono {p : Program} {l : Launch} {e : Env} {R : Room} {s : State} {m : MethodId} {args : Array Value} {below : List Frame} {meth : Method} {c : Code} {H : Heap} {locs : List Loc} {cells slots : Nat} {Q Q' : State → Prop} {g : JFrame} (k : W p l e R s m args below meth c H locs cells slots Q g) (hq : ∀ t, Q t → Q' t) : W p l e R s m args below meth c H locs cells slots Q' g := by
  intro T hT X
  obtain ⟨t, a, b⟩ := k T hT X
  exact ⟨t, a, hq t b⟩
def sd_ou (ad : Nat → Nat) : ab_R → Outcome
  | .inl v => .returned (v.map (sd_v ad))
  | .inr x => .threw (ad x)
/-- how a method has ended -/
def sd_E (G : ab_G) (D : va_G) (ad : Nat → Nat) (dA : Nat → ClassId) (base : Nat) (below : List Frame) (s : State) (h0 : ab_H) (Q : ab_Q) (t : State) : Prop :=
  ∃ (r : ab_R) (h : ab_H) (L : List Loc) (k n : Nat), Q r h ∧ t.status = .running ∧ Ended t below (sd_ou ad r) ∧ s.WarmedH t.vm ∧ s.sameButNew ({ t with vm := s.vm } : State) L k n ∧ (∀ q ∈ L, base ≤ q.base) ∧ va_F (fun a => base ≤ a) s t ∧ va_P D (ab_cl G) (sd_w ad dA h) t.heap ∧ k + h0.length = h.length ∧ n + ab_wt G h0 = ab_wt G h ∧ h.length ≤ (ab_cap G).1 ∧ ab_wt G h ≤ (ab_cap G).2
section SdD
variable {G : ab_G} {D : va_G} {ad : Nat → Nat} {dA : Nat → ClassId} {base : Nat} {p : Program} {l : Launch} {e : Env} {R : Room} {s : State} {m : MethodId} {args : Array Value} {below : List Frame} {meth : Method} {c : Code} {j : Nat} {h0 : ab_H} {Qe : State → Prop} {cc : ByteArray} {Ts : List Cond} {own : String} {tys : List (ClassId × FieldType)}
theorem sd_inj (hbs : ∀ i, i < 1000000 → ad i = base + i) : ∀ a b, a < 1000000 → b < 1000000 → ad a = ad b → a = b := by
  intro a b ha hb h
  rw [hbs a ha, hbs b hb] at h
  omega
theorem sd_ge (hbs : ∀ i, i < 1000000 → ad i = base + i) : ∀ a, a < 1000000 → base ≤ ad a := by
  intro a ha
  rw [hbs a ha]
  omega
theorem sd_Rnew (hx : p.tables.exec = Jvm.exec) (hb : c.code = cc) (hT : sd_T G j cc) (hts : ∀ w ∈ Ts, w.before args s = true) (hown : s.vm.findClass own = some m.cls) (hK : va_K D (ab_cl G) tys s) (hCl : sd_Cl G) (hbs : ∀ i, i < 1000000 → ad i = base + i) (hcap : (ab_cap G).1 ≤ 1000000)
    (hsz : s.heap.size = base + h0.length) (hRc : (ab_cap G).1 ≤ R.cells + h0.length) (hRs : (ab_cap G).2 ≤ R.slots + ab_wt G h0) (hL : ∀ idx ci fs, ab_lc G j idx = some ci → ab_df G ci = some fs → sd_Lc G Ts args s own ad idx ci fs) : ab_Rnew G j (sd_P G D ad dA (fun a => base ≤ a) p l e R s m args below meth c j h0 Qe) := by
  intro pc ls st h idx ci fs hf hi hd hc1 hc2 hk H locs cells slots lsM hP hS hl h1 h2 h3
  obtain ⟨C, T, N, hc, hin, hcl, hins, hini, hlen, hwc, hdf, hmap⟩ := hL idx ci fs hi hd
  have hty0 : ∀ k, k < N → parseFieldDescriptor (T k).2.2.1 = some ((ab_tf G ci k).getD .int) := fun k hk => by
    obtain ⟨t, e1, e2⟩ := (hCl ci C T N hc).1 k hk
    rw [e1, e2]; rfl
  refine va_new hx hb hts hin (fun k => (ab_tf G ci k).getD .int) hty0 hown hcl hins hini hK hP (sd_D (G := G) (dA := dA) (sd_inj hbs) (sd_ge hbs) hcap h3.1) hS (fun q hq => by show base ≤ q; omega) hc hdf (by omega) (by omega) (hT.at hf rfl) (fun q H1 hP1 hD1 hS1 => ?_)
  refine sd_sz (fun hz => ?_)
  have hq : q = ad h.length := sd_next hbs (by omega) hP1 hD1 (by omega)
  subst hq
  have hpush : sd_w ad dA h ++ [(ad h.length, .inr (ci, fs))] = sd_w ad dA (h ++ [.inr (ci, fs)]) := by
    rw [← sd_w_push]
    simp [sd_o, hmap]
  rw [hpush] at hP1
  exact hk H1 locs (cells + 1) (slots + N) lsM hP1 hS1 hl (by simp; omega) (by rw [sd_wt_push]; show _ = _ + ab_wc G ci; omega) ⟨by simp; omega, by rw [sd_wt_push]; show _ + ab_wc G ci ≤ _; omega⟩
theorem sd_Rna (hx : p.tables.exec = Jvm.exec) (hb : c.code = cc) (hT : sd_T G j cc) (hK : va_K D (ab_cl G) tys s) (hty : ∀ t ty, ab_at G t = some ty → tys[t]? = some (dA t, ty)) (hbs : ∀ i, i < 1000000 → ad i = base + i) (hcap : (ab_cap G).1 ≤ 1000000)
    (hsz : s.heap.size = base + h0.length) (hRc : (ab_cap G).1 ≤ R.cells + h0.length) (hRs : (ab_cap G).2 ≤ R.slots + ab_wt G h0) (hL : ∀ t ty x0, ab_at G t = some ty → ab_dv ty = some x0 → (Cond.arrayClass ty).before args s = true) : ab_Rna G j (sd_P G D ad dA (fun a => base ≤ a) p l e R s m args below meth c j h0 Qe) := by
  intro pc ls st h aty t ty x0 n N hf ht hto hdv hn hN hN2 hc1 hc2 hk H locs cells slots lsM hP hS hl h1 h2 h3
  have harr := hL t ty x0 ht hdv
  have hcell : ∀ cA : ClassId, vp_cell cA (N, x0) = arrV cA N (fun _ => defaultValue ty) := by
    intro cA
    cases ty <;> first | (simp [ab_dv] at hdv; done) | (cases hdv; rfl)
  have hcb : componentBytes ty ≤ 8 := by
    cases ty <;> first | (simp [ab_dv] at hdv; done) | decide
  have hsx : sd_x ad (N, x0) = (N, x0) := by
    cases ty <;> first | (simp [ab_dv] at hdv; done) | (cases hdv; rfl)
  have hbytes : N * componentBytes ty ≤ 536870912 := by
    have h8 : N * componentBytes ty ≤ 100000 * 8 := Nat.mul_le_mul hN2 hcb
    omega
  refine va_newa hx hb (by rw [hto]; exact harr) hto hK hP (sd_D (G := G) (dA := dA) (sd_inj hbs) (sd_ge hbs) hcap h3.1) hS (fun q hq => by show base ≤ q; omega) hcell hn hN hbytes (by omega) (by omega) (hT.at hf rfl) (fun q cA H1 hK1 hP1 hD1 hS1 => ?_)
  have hcA : cA = dA t := by
    have g1 := (hK1.2 tys.length (cA, ty) (by rw [List.getElem?_append_right (Nat.le_refl _)]; simp)).2
    have g2 := (hK.2 t _ (hty t ty ht)).2
    cases ty <;> first | (simp [ab_dv] at hdv; done) | exact Option.some.inj (g1.symm.trans g2)
  subst hcA
  refine sd_sz (fun hz => ?_)
  have hq : q = ad h.length := sd_next hbs (by omega) hP1 hD1 (by omega)
  subst hq
  have hpush : sd_w ad dA h ++ [(ad h.length, .inl (dA t, N, x0))] = sd_w ad dA (h ++ [.inl (t, N, x0)]) := by
    rw [← sd_w_push]
    simp only [sd_o, hsx]
  rw [hpush] at hP1
  exact hk H1 locs (cells + 1) (slots + N) lsM hP1 hS1 hl (by simp; omega) (by rw [sd_wt_push]; show _ = _ + N; omega) ⟨by simp; omega, by rw [sd_wt_push]; show _ + N ≤ _; omega⟩
theorem sd_Rnq (hx : p.tables.exec = Jvm.exec) (hb : c.code = cc) (hT : sd_T G j cc) (hown : s.vm.findClass own = some m.cls) (hK : va_K D (ab_cl G) tys s) (hty : ∀ t ty, ab_at G t = some ty → tys[t]? = some (dA t, ty)) (hbs : ∀ i, i < 1000000 → ad i = base + i) (hcap : (ab_cap G).1 ≤ 1000000)
    (hsz : s.heap.size = base + h0.length) (hRc : (ab_cap G).1 ≤ R.cells + h0.length) (hRs : (ab_cap G).2 ≤ R.slots + ab_wt G h0) (hL : ∀ pc idx ci r, ab_f G j pc = some (.anewarray idx) → ab_lc G j idx = some ci → (ab_cl G)[ci]? = some r → (Cond.classLink own idx r.1).before args s = true ∧ va_AO r.1 s) : ab_Rnq G j (sd_P G D ad dA (fun a => base ≤ a) p l e R s m args below meth c j h0 Qe) := by
  intro pc ls st h idx t ci r n N hf hi hr ht hn hN hN2 hc1 hc2 hk H locs cells slots lsM hP hS hl h1 h2 h3
  obtain ⟨g1, g2⟩ := hL pc idx ci r hf hi hr
  refine va_newq hx hb hown g1 g2 hK hP (sd_D (G := G) (dA := dA) (sd_inj hbs) (sd_ge hbs) hcap h3.1) hS (fun q hq => by show base ≤ q; omega) hn hN (by omega) (by omega) (by omega) (hT.at hf rfl) (fun q cA H1 hK1 hP1 hD1 hS1 => ?_)
  have hcA : cA = dA t := by
    obtain ⟨_, _, _, _, _, g3⟩ := (hK1.2 tys.length (cA, .object r.1) (by rw [List.getElem?_append_right (Nat.le_refl _)]; simp)).2
    obtain ⟨_, _, _, _, _, g4⟩ := (hK.2 t _ (hty t _ ht)).2
    exact Option.some.inj (g3.symm.trans g4)
  subst hcA
  refine sd_sz (fun hz => ?_)
  have hq : q = ad h.length := sd_next hbs (by omega) hP1 hD1 (by omega)
  subst hq
  have hpush : sd_w ad dA h ++ [(ad h.length, .inl (dA t, N, .inr (.inr (.inr (.inr (fun _ => none))))))] = sd_w ad dA (h ++ [.inl (t, N, .inr (.inr (.inr (.inr (fun _ => none)))))]) := by
    rw [← sd_w_push]
    rfl
  rw [hpush] at hP1
  exact hk H1 locs (cells + 1) (slots + N) lsM hP1 hS1 hl (by simp; omega) (by rw [sd_wt_push]; show _ = _ + N; omega) ⟨by simp; omega, by rw [sd_wt_push]; show _ + N ≤ _; omega⟩
theorem sd_Rkl (hx : p.tables.exec = Jvm.exec) (hb : c.code = cc) (hT : sd_T G j cc) (hown : s.vm.findClass own = some m.cls) (hL : ∀ idx x, ab_kl G j idx = some x → (Cond.constantLong own idx x).before args s = true) : ab_Rkl G j (sd_P G D ad dA (fun a => base ≤ a) p l e R s m args below meth c j h0 Qe) := by
  intro pc ls st h idx x hf hi hk H locs cells slots lsM hP hS hl h1 h2 h3
  exact lv_ldc2 hx hb hown (hL idx x hi) (hT.at hf rfl) (hk H locs cells slots lsM hP hS hl h1 h2 h3)
theorem sd_Robj (hx : p.tables.exec = Jvm.exec) (hb : c.code = cc) (hml : c.maxLocals = ab_n G j) (hT : sd_T G j cc) (hown : s.vm.findClass own = some m.cls) (hF : 1 ≤ R.frames) (hLo : 300 ≤ R.locals)
    (hL : ∀ idx, ab_lm G j idx = some 1000000 → (Cond.methodLink own idx Lib.objectInit).before args s = true ∧ (Cond.instanceMethod Lib.objectInit).before args s = true ∧ (Cond.code Lib.objectInit ⟨#[0xb1]⟩ 1 none).before args s = true) : ab_Robj G j (sd_P G D ad dA (fun a => base ≤ a) p l e R s m args below meth c j h0 Qe) := by
  intro pc ls st h idx a hf hi hst hk H locs cells slots lsM hP hS hl h1 h2 h3
  obtain ⟨g1, g2, g3⟩ := hL idx hi
  refine W.objInit hx hb hown g1 g2 g3 (g := F0 m pc lsM (.ref (ad a) :: st.map (sd_v ad))) rfl (by rw [hml]; exact hl.1) rfl (hT.at hf rfl) hF (by rw [sd_sum]; show 2 * 0 + _ + 12 ≤ _; omega) (hk H locs cells slots lsM hP hS hl h1 h2 h3)
def sd_Lcp (args : Array Value) (s : State) (own : String) (idx : Nat) : Prop := (Cond.methodLink own idx arraycopyName).before args s = true ∧ (Cond.native arraycopyName).before args s = true ∧ (Cond.static arraycopyName).before args s = true ∧ (Cond.initialized "java/lang/System").before args s = true
theorem sd_ncw : nativeFrameWords "java/lang/System" "arraycopy" 5 ≤ 200 := by decide +kernel
theorem sd_Rcpi (hx : p.tables.exec = Jvm.exec) (hb : c.code = cc) (hml : c.maxLocals = ab_n G j) (hT : sd_T G j cc) (hown : s.vm.findClass own = some m.cls) (hK : va_K D (ab_cl G) tys s) (hty : ∀ t ty, ab_at G t = some ty → tys[t]? = some (dA t, ty)) (hbs : ∀ i, i < 1000000 → ad i = base + i) (hcap : (ab_cap G).1 ≤ 1000000) (hF : 1 ≤ R.frames) (hLo : 300 ≤ R.locals)
    (hL : ∀ idx, ab_lm G j idx = some 1000001 → sd_Lcp args s own idx) : ab_Rcpi G j (sd_P G D ad dA (fun a => base ≤ a) p l e R s m args below meth c j h0 Qe) := by
  intro pc ls st h idx t ty n0 n1 xs ys a b sp dp n hf hi ha hb2 ht hrk q1 q2 q3 q4 q5 q6 hst hk H locs cells slots lsM hP hS hl h1 h2 h3
  obtain ⟨g1, g2, g3, g4⟩ := hL idx hi
  have hnw := sd_ncw
  refine va_copyi hx hb (by rw [hml]; exact hl.1.symm) hown g1 g2 g3 g4 hK hP (sd_D (G := G) (dA := dA) (sd_inj hbs) (sd_ge hbs) hcap h3.1) hS a b t t (sd_w_at (ad := ad) (dA := dA) ha) (sd_w_at (ad := ad) (dA := dA) hb2) (hty t _ ht) (hty t _ ht) hrk q1 q2 q3 q4 q5 q6 hF (by rw [sd_sum]; omega) (hT.at hf rfl) (fun H1 locs1 hP1 _ hS1 => ?_)
  have e1 : (sd_w ad dA h).set b (ad b, .inl (dA t, n1, .inl (va_cpy xs ys sp.toNatClampNeg dp.toNatClampNeg n.toNatClampNeg))) = sd_w ad dA (h.set b (.inl (t, n1, .inl (va_cpy xs ys sp.toNatClampNeg dp.toNatClampNeg n.toNatClampNeg)))) := by rw [← sd_w_set]; rfl
  rw [e1] at hP1
  exact hk H1 locs1 cells slots lsM hP1 hS1 hl (by rw [List.length_set]; exact h1) (h2.trans (Eq.symm (sd_wt_set hb2 (by rfl)))) ⟨by rw [List.length_set]; exact h3.1, Nat.le_trans (Nat.le_of_eq (sd_wt_set hb2 (by rfl))) h3.2⟩
theorem sd_Rcpl (hx : p.tables.exec = Jvm.exec) (hb : c.code = cc) (hml : c.maxLocals = ab_n G j) (hT : sd_T G j cc) (hown : s.vm.findClass own = some m.cls) (hK : va_K D (ab_cl G) tys s) (hty : ∀ t ty, ab_at G t = some ty → tys[t]? = some (dA t, ty)) (hbs : ∀ i, i < 1000000 → ad i = base + i) (hcap : (ab_cap G).1 ≤ 1000000) (hF : 1 ≤ R.frames) (hLo : 300 ≤ R.locals)
    (hL : ∀ idx, ab_lm G j idx = some 1000001 → sd_Lcp args s own idx) : ab_Rcpl G j (sd_P G D ad dA (fun a => base ≤ a) p l e R s m args below meth c j h0 Qe) := by
  intro pc ls st h idx t n0 n1 xs ys a b sp dp n hf hi ha hb2 ht q1 q2 q3 q4 q5 hst hk H locs cells slots lsM hP hS hl h1 h2 h3
  obtain ⟨g1, g2, g3, g4⟩ := hL idx hi
  have hnw := sd_ncw
  refine va_copyl hx hb (by rw [hml]; exact hl.1.symm) hown g1 g2 g3 g4 hK hP (sd_D (G := G) (dA := dA) (sd_inj hbs) (sd_ge hbs) hcap h3.1) hS a b t t (sd_w_at (ad := ad) (dA := dA) ha) (sd_w_at (ad := ad) (dA := dA) hb2) (hty t _ ht) (hty t _ ht) (by rfl) q1 q2 q3 q4 q5 (fun _ _ => rfl) hF (by rw [sd_sum]; omega) (hT.at hf rfl) (fun H1 locs1 hP1 _ hS1 => ?_)
  have e1 : (sd_w ad dA h).set b (ad b, .inl (dA t, n1, .inr (.inl (va_cpy xs ys sp.toNatClampNeg dp.toNatClampNeg n.toNatClampNeg)))) = sd_w ad dA (h.set b (.inl (t, n1, .inr (.inl (va_cpy xs ys sp.toNatClampNeg dp.toNatClampNeg n.toNatClampNeg))))) := by rw [← sd_w_set]; rfl
  rw [e1] at hP1
  exact hk H1 locs1 cells slots lsM hP1 hS1 hl (by rw [List.length_set]; exact h1) (h2.trans (Eq.symm (sd_wt_set hb2 (by rfl)))) ⟨by rw [List.length_set]; exact h3.1, Nat.le_trans (Nat.le_of_eq (sd_wt_set hb2 (by rfl))) h3.2⟩
theorem sd_Rmax (hx : p.tables.exec = Jvm.exec) (hb : c.code = cc) (hml : c.maxLocals = ab_n G j) (hT : sd_T G j cc) (hown : s.vm.findClass own = some m.cls) (hF : 1 ≤ R.frames) (hLo : 300 ≤ R.locals) (hRc : (ab_cap G).1 ≤ R.cells + h0.length) (hRs : (ab_cap G).2 ≤ R.slots + ab_wt G h0)
    (hL : ∀ idx, ab_lm G j idx = some 1000002 → (Cond.methodLink own idx Lib.Math.max.name).before args s = true ∧ (Cond.static Lib.Math.max.name).before args s = true ∧ (Cond.initialized "java/lang/Math").before args s = true ∧ (Cond.code Lib.Math.max.name Lib.Math.max.code 2 (some .int)).before args s = true) : ab_Rmax G j (sd_P G D ad dA (fun a => base ≤ a) p l e R s m args below meth c j h0 Qe) := by
  intro pc ls st h idx x y hf hi hst hk H locs cells slots lsM hP hS hl h1 h2 h3
  obtain ⟨g1, g2, g3, g4⟩ := hL idx hi
  exact va_mmax hx hb (by rw [hml]; exact hl.1.symm) hown g1 g2 g3 g4 hF (by rw [sd_sum]; omega) (by omega) (by omega) (hT.at hf rfl) (hk H locs cells slots lsM hP hS hl h1 h2 h3)
theorem sd_Rmin (hx : p.tables.exec = Jvm.exec) (hb : c.code = cc) (hml : c.maxLocals = ab_n G j) (hT : sd_T G j cc) (hown : s.vm.findClass own = some m.cls) (hF : 1 ≤ R.frames) (hLo : 300 ≤ R.locals) (hRc : (ab_cap G).1 ≤ R.cells + h0.length) (hRs : (ab_cap G).2 ≤ R.slots + ab_wt G h0)
    (hL : ∀ idx, ab_lm G j idx = some 1000003 → (Cond.methodLink own idx Lib.Math.min.name).before args s = true ∧ (Cond.static Lib.Math.min.name).before args s = true ∧ (Cond.initialized "java/lang/Math").before args s = true ∧ (Cond.code Lib.Math.min.name Lib.Math.min.code 2 (some .int)).before args s = true) : ab_Rmin G j (sd_P G D ad dA (fun a => base ≤ a) p l e R s m args below meth c j h0 Qe) := by
  intro pc ls st h idx x y hf hi hst hk H locs cells slots lsM hP hS hl h1 h2 h3
  obtain ⟨g1, g2, g3, g4⟩ := hL idx hi
  exact va_mmin hx hb (by rw [hml]; exact hl.1.symm) hown g1 g2 g3 g4 hF (by rw [sd_sum]; omega) (by omega) (by omega) (hT.at hf rfl) (hk H locs cells slots lsM hP hS hl h1 h2 h3)
theorem sd_Rret {Q : ab_Q} (hx : p.tables.exec = Jvm.exec) (hb : c.code = cc) (hT : sd_T G j cc) (hr : meth.sig.returnType = ab_rt G j) (hlk : meth.locks = false) : ab_Rret G j Q (sd_P G D ad dA (fun a => base ≤ a) p l e R s m args below meth c j h0 (sd_E G D ad dA base below s h0 Q)) := by
  intro pc ls h i v ty hf hre hrt hn hQ H locs cells slots lsM hP hS hl h1 h2 h3
  rw [hrt] at hr
  have fin : ∀ t, MQ below (fun _ _ o t => o = .returned (some (sd_v ad v)) ∧ t.heap = H) args s cells slots (fun a => base ≤ a) t → sd_E G D ad dA base below s h0 Q t := by
    rintro t ⟨o, hrun, hend, ⟨rfl, hH⟩, L, ⟨-, hW, hsm⟩, hL⟩
    exact ⟨.inl (some v), h, L, cells, slots, hQ, hrun, hend, hW, hsm, hL, hS.F hH, by rw [hH]; exact hP, h1, h2, h3⟩
  unfold ab_re at hre
  split at hre
  · exact sd_mono (W.zret hx hb hr hn (fun t ht hW => ⟨rfl, ht⟩) hS.2.2 (hT.at hf rfl) (hlocks := hlk)) fin
  · exact sd_mono (W.lret hx hb hr (fun t ht hW => ⟨rfl, ht⟩) hS.2.2 (hT.at hf rfl) (hlocks := hlk)) fin
  · exact sd_mono (W.aret hx hb hr (Or.inl ⟨_, rfl⟩) (Or.inr ⟨_, rfl⟩) (fun t ht hW => ⟨rfl, ht⟩) hS.2.2 (hT.at hf rfl) (hlocks := hlk)) fin
  · exact sd_mono (W.aret hx hb hr (Or.inl ⟨_, rfl⟩) (Or.inl rfl) (fun t ht hW => ⟨rfl, ht⟩) hS.2.2 (hT.at hf rfl) (hlocks := hlk)) fin
  · cases hre
theorem sd_Rrtv {Q : ab_Q} (hx : p.tables.exec = Jvm.exec) (hb : c.code = cc) (hT : sd_T G j cc) (hr : meth.sig.returnType = ab_rt G j) (hlk : meth.locks = false) : ab_Rrtv G j Q (sd_P G D ad dA (fun a => base ≤ a) p l e R s m args below meth c j h0 (sd_E G D ad dA base below s h0 Q)) := by
  intro pc ls h hf hrt hQ H locs cells slots lsM hP hS hl h1 h2 h3
  rw [hrt] at hr
  refine sd_mono (W.vret (Qc := fun _ _ o t => o = .returned none ∧ t.heap = H) (free := fun a => base ≤ a) hx hb hr (fun t ht hW => ⟨rfl, ht⟩) hS.2.2 (hT.at hf rfl) (hlocks := hlk)) ?_
  rintro t ⟨o, hrun, hend, ⟨rfl, hH⟩, L, ⟨-, hW, hsm⟩, hL⟩
  exact ⟨.inl none, h, L, cells, slots, hQ, hrun, hend, hW, hsm, hL, hS.F hH, by rw [hH]; exact hP, h1, h2, h3⟩
end SdD
end
section
/-! OURS. Soundness of calls: a callee is entered, walked, and left by a return or by an exception. -/
section SdI
variable {G : ab_G} {D : va_G} {ad : Nat → Nat} {dA : Nat → ClassId} {base : Nat} {p : Program} {l : Launch} {e : Env} {R : Room} {s : State} {m : MethodId} {args : Array Value} {below : List Frame} {meth : Method} {c : Code} {T : State} {locs : List Loc} {cells slots : Nat}
/-- what stands behind a call -/
def sd_B (G : ab_G) (D : va_G) (ad : Nat → Nat) (dA : Nat → ClassId) (base : Nat) (p : Program) (l : Launch) (e : Env) (R : Room) (s : State) (m : MethodId) (args : Array Value) (below : List Frame) (meth : Method) (c : Code) (T : State) (locs : List Loc) (cells slots : Nat) (h h' : ab_H) (T' : State) : Prop :=
  ∃ (L : List Loc) (k n : Nat), Stand p l e R s m args below meth c T' (locs ++ L) (cells + k) (slots + n) ∧ (∀ q ∈ L, base ≤ q.base) ∧ va_P D (ab_cl G) (sd_w ad dA h') T'.heap ∧ T.heap.size ≤ T'.heap.size ∧ (∀ q, q < T.heap.size → ¬ base ≤ q → T'.heap[q]? = T.heap[q]?) ∧ k + h.length = h'.length ∧ n + ab_wt G h = ab_wt G h' ∧ h'.length ≤ (ab_cap G).1 ∧ ab_wt G h' ≤ (ab_cap G).2
theorem sd_inv (X : Stand p l e R s m args below meth c T locs cells slots) {g : JFrame} (hg : g.method = m) (hsize : g.locals.size = c.maxLocals) {ig : Instr} (hdg : decode c.code g.pc = .ok (ig, 3))
    {mk : MethodId} {methk : Method} {ck : Code} (a : Array Value) {R' : Room} (hmk : T.vm.method? mk = some methk) (hck : methk.code = some ck) (hlk : methk.locks = false) (hpk : T.plainMethod mk)
    (hframes : R'.frames + 1 ≤ R.frames) (hlocals : 2 * g.monitorRoom + (g.stack.map fun v => v.category).sum + (ck.maxLocals + 11) + R'.locals ≤ R.locals) (hcells : cells + R'.cells ≤ R.cells) (hslots : slots + R'.slots ≤ R.slots)
    {h : ab_H} {Q' : ab_Q} {Qe : State → Prop}
    (hS : ∀ T' : State, Stand p l e R' (T.calling g mk a) mk a (.java g :: below) methk ck T' [] 0 0 → T'.heap = T.heap → ∃ t, Steps p.tables e (.java g :: below) (T'.setTop (entryFrame mk a ck.maxLocals)) t ∧ sd_E G D ad dA base (.java g :: below) (T.calling g mk a) h Q' t)
    (kr : ∀ v h' T', Q' (.inl v) h' → sd_B G D ad dA base p l e R s m args below meth c T locs cells slots h h' T' → ∃ t, Steps p.tables e below (T'.setTop { g with pc := g.pc + 3, stack := (v.map (sd_v ad)).toList ++ g.stack }) t ∧ Qe t)
    (kt : ∀ x h' T', Q' (.inr x) h' → sd_B G D ad dA base p l e R s m args below meth c T locs cells slots h h' T' → ∃ t, Steps p.tables e below ((T'.setTop g).pushFrame (.throwing (ad x))) t ∧ Qe t) :
    ∃ t, (∀ acts, Steps p.tables e below (doInvoke e (T.setTop g) acts mk a).1 t) ∧ Qe t := by
  obtain ⟨Y, hin⟩ := X.into hg hsize hdg a (R' := R') hmk hck hlk hpk hframes hlocals hcells hslots
  obtain ⟨t, st, r, h', L, k, n, hQ, hrun, hend, hW, hsm, hL, hF, hP, e1, e2, e3⟩ := hS _ Y rfl
  cases r with
  | inl v =>
    obtain ⟨T', X', -, -, ht⟩ := X.outOf hg hdg hend hW hsm
    have hh : t.heap = T'.heap := by rw [ht]; rfl
    rw [hh] at hP
    obtain ⟨t2, st2, q⟩ := kr v h' T' hQ ⟨L, k, n, X', hL, hP, by rw [← hh]; exact hF.1, fun q h1 h2 => by rw [← hh]; exact hF.2 q h1 h2, e1, e2, e3⟩
    refine ⟨t2, fun acts => ?_, q⟩
    rw [hin acts]
    refine (Steps.weaken (mid := [.java g]) st).trans ?_
    rw [ht]
    exact st2
  | inr x =>
    obtain ⟨T', X', -, -, ht⟩ := X.outOfThrown hg hend hW hsm
    have hh : t.heap = T'.heap := by rw [ht]; rfl
    rw [hh] at hP
    obtain ⟨t2, st2, q⟩ := kt x h' T' hQ ⟨L, k, n, X', hL, hP, by rw [← hh]; exact hF.1, fun q h1 h2 => by rw [← hh]; exact hF.2 q h1 h2, e1, e2, e3⟩
    refine ⟨t2, fun acts => ?_, q⟩
    rw [hin acts]
    refine (Steps.weaken (mid := [.java g]) st).trans ?_
    rw [ht]
    exact st2
/-- a method's link -/
def sd_Lm (args : Array Value) (s : State) (own : String) (y : MethodName) : Instr → Prop
  | .invokevirtual idx => ((Cond.methodLink own idx y).before args s = true ∨ ∃ host, (Cond.methodLinkNest own idx y host).before args s = true) ∧ (Cond.instanceMethod y).before args s = true ∧ (Cond.selects y.cls y y).before args s = true
  | .invokespecial idx => y.name = "<init>" ∧ ((Cond.methodLink own idx y).before args s = true ∨ ∃ host, (Cond.methodLinkNest own idx y host).before args s = true) ∧ (Cond.instanceMethod y).before args s = true ∧ ∃ bytes maxL, (Cond.code y bytes maxL none).before args s = true
  | .invokestatic idx => ((Cond.methodLink own idx y).before args s = true ∨ ∃ host, (Cond.methodLinkNest own idx y host).before args s = true) ∧ (Cond.static y).before args s = true ∧ (Cond.initialized y.cls).before args s = true
  | _ => False
/-- the arguments of a call -/
def sd_As (H : Heap) (s : State) (y : MethodName) (np : Nat) (as : List Value) : Instr → Prop
  | .invokestatic _ => as.length = np
  | _ => ∃ (b : Addr) (cell : Cell) (r : List Value), as = .ref b :: r ∧ H[b]? = some cell ∧ cell.vm.isStatics = false ∧ s.vm.findClass y.cls = some cell.cls ∧ r.length = np
/-- the invoking instruction's own step -/
theorem sd_go (X : Stand p l e R s m args below meth c T locs cells slots) (hexec : p.tables.exec = Jvm.exec) {own : String} (hown : s.vm.findClass own = some m.cls) {y : MethodName} {i : Instr} (hL : sd_Lm args s own y i) (hy : y.cls ≠ "java/lang/invoke/MethodHandle" ∧ y.cls ≠ "java/lang/invoke/VarHandle")
    {mk : MethodId} {methk : Method} (hn : s.methodNamed? y = some mk) (hmk : s.vm.method? mk = some methk) (hsig : parseMethodDescriptor y.desc = some methk.sig) {g : JFrame} (hg : g.method = m) (hdg : decode c.code g.pc = .ok (i, 3)) {as rest : List Value} (hstack : g.stack = as.reverse ++ rest)
    (has : sd_As T.heap s y methk.sig.parameters.length as i) :
    ∃ vm', Stand p l e R s m args below meth c (T.setVm vm') locs cells slots ∧ ∀ target, (∀ acts, Steps p.tables e below (doInvoke e ((T.setVm vm').setTop { g with stack := rest }) acts mk as.toArray).1 target) → Steps p.tables e below (T.setTop g) target := by
  cases i with
  | invokevirtual idx =>
    obtain ⟨hlk, hins, hsel⟩ := hL
    obtain ⟨b, cell, r, rfl, hc, hst, hcl, hlen⟩ := has
    obtain ⟨mk', methM, hnamed, hmethM, hstM, habM⟩ := Cond.instanceMethod_spec hins
    cases hn.symm.trans hnamed
    cases hmk.symm.trans hmethM
    obtain ⟨c2, r2, m2, q1, q2, q3, q4, kP, hkP, hkPi⟩ := Cond.selects_spec hsel
    cases hcl.symm.trans q1
    cases (State.methodFound?_of_named hnamed hy).symm.trans q2
    cases hnamed.symm.trans q3
    have hselP : selectMethod e.platform s.vm cell.cls mk = .method mk := by rw [Launch.admits_selectMethod X.admits]; exact q4
    have hstk : g.stack = r.reverse ++ .ref b :: rest := by rw [hstack]; simp
    rcases hlk with hlk | ⟨host, hlk⟩
    · exact X.invokevirtual hexec hown hlk hnamed hmethM hstM hkP hkPi hy hc (fun z h => by rw [h] at hst; cases hst) hselP hmethM habM hkP hkPi hg hlen hstk hdg
    · exact X.invokevirtualNest hexec hown hlk hnamed hmethM hstM hkP hkPi hy hc (fun z h => by rw [h] at hst; cases hst) hselP hmethM habM hkP hkPi hg hlen hstk hdg
  | invokespecial idx =>
    obtain ⟨hin, hlk, hins, bytes, maxL, hcode⟩ := hL
    obtain ⟨b, cell, r, rfl, hc, hst, hcl, hlen⟩ := has
    have hstk : g.stack = r.reverse ++ .ref b :: rest := by rw [hstack]; simp
    have hpl : e.platform.magicAccessors = ({} : Platform).magicAccessors := by rw [X.admits.platform]
    have hlen' : ∀ sig, parseMethodDescriptor y.desc = some sig → r.length = sig.parameters.length := fun sig hs => by cases hsig.symm.trans hs; exact hlen
    subst hg
    rcases hlk with hlk | ⟨host, hlk⟩
    · obtain ⟨mk', methM, cM, kP, vm₁, hnamed, hmethM, hcodeM, -, hlocalsM, -, hkP, -, hW₁, hstep₁⟩ := Steps.initColdArgs (e := e) X.here hexec X.warmed hpl hown hin hy hlk hins hcode (f := g) rfl hlen' hstk hdg
      cases hn.symm.trans hnamed
      exact ⟨vm₁, X.noted hW₁, hstep₁⟩
    · obtain ⟨mk', methM, cM, kP, vm₁, hnamed, hmethM, hcodeM, -, hlocalsM, -, hkP, -, hW₁, hstep₁⟩ := Steps.initColdArgsNest (e := e) X.here hexec X.warmed hpl hown hin hy hlk hins hcode (f := g) rfl hlen' hstk hdg
      cases hn.symm.trans hnamed
      exact ⟨vm₁, X.noted hW₁, hstep₁⟩
  | invokestatic idx =>
    obtain ⟨hlk, hstt, hini⟩ := hL
    have hstatic : methk.isStatic = true := Cond.static_spec hn hmk hstt
    obtain ⟨kP, hkP, -⟩ := className_of_methodNamed hn
    have hinitP : kP.init = .initialized := Cond.initialized_spec (findClass_of_methodNamed hn) hkP hini
    rcases hlk with hlk | ⟨host, hlk⟩
    · exact X.invokestatic hexec hown hlk hn hmk hstatic hkP hinitP hy hg has hstack hdg
    · exact X.invokestaticNest hexec hown hlk hn hmk hstatic hkP hinitP hy hg has hstack hdg
  | _ => exact hL.elim
end SdI
end
section
/-! OURS. Soundness of the call rule. -/
theorem sd_low {D : va_G} {cl : List vw_C} {ad : Nat → Nat} {dA : Nat → ClassId} {base : Nat} {h : ab_H} {H : Heap} (hbs : ∀ i, i < 1000000 → ad i = base + i) (hl : h.length ≤ 1000000) (hP : va_P D cl (sd_w ad dA h) H) (hb : base ≤ H.size) : base + h.length ≤ H.size := by
  by_cases h0 : h.length = 0
  · omega
  · have hi : h.length - 1 < h.length := by omega
    have hq := sd_w_at (ad := ad) (dA := dA) (List.getElem?_eq_getElem hi)
    have h1 : ad (h.length - 1) < H.size := (hP _ _ hq).lt
    rw [hbs _ (by omega)] at h1
    omega
/-- a method's place in the tables -/
def sd_Mt (G : ab_G) (yn : Nat → MethodName) (cd : Nat → ByteArray) (hd : Nat → List (Nat × Nat × Nat × Nat)) (s : State) (jj : Nat) : Prop := ∃ (mk : MethodId) (methk : Method) (ck : Code), s.methodNamed? (yn jj) = some mk ∧ s.vm.method? mk = some methk ∧ methk.code = some ck ∧ ck.code = cd jj ∧ ck.maxLocals = ab_n G jj ∧ methk.sig.returnType = ab_rt G jj ∧ methk.locks = false ∧ ck.exceptionTable.toList = tableOf (hd jj) ∧ parseMethodDescriptor (yn jj).desc = some methk.sig ∧ (methk.sig.parameters.length + (match ab_rc G jj with | none => 0 | some _ => 1) = ab_na G jj)
/-- calls of depth d are sound -/
def sd_SE (G : ab_G) (D : va_G) (ad : Nat → Nat) (dA : Nat → ClassId) (base : Nat) (yn : Nat → MethodName) (p : Program) (l : Launch) (e : Env) (Fa : State → Prop) (nM d : Nat) : Prop :=
  ∀ (j : Nat) (as : List Value) (h : ab_H) (Q : ab_Q), j < nM → ab_X G d j as h Q → ∀ (s : State) (m : MethodId) (args : Array Value) (below : List Frame) (meth : Method) (c : Code) (T : State) (R : Room), Stand p l e R s m args below meth c T [] 0 0 → T.heap = s.heap → args = (as.map (sd_v ad)).toArray → s.methodNamed? (yn j) = some m → Fa s → s.heap.size = base + h.length → va_P D (ab_cl G) (sd_w ad dA h) s.heap → (h.length ≤ (ab_cap G).1 ∧ ab_wt G h ≤ (ab_cap G).2) → (ab_cap G).1 ≤ R.cells + h.length → (ab_cap G).2 ≤ R.slots + ab_wt G h → d + 8 ≤ R.frames → 70 * d + 400 ≤ R.locals → (ab_in as).length ≤ ab_n G j →
    ∃ t, Steps p.tables e below (T.setTop (entryFrame m args (ab_n G j))) t ∧ sd_E G D ad dA base below s h Q t
section SdJ
variable {G : ab_G} {D : va_G} {ad : Nat → Nat} {dA : Nat → ClassId} {base : Nat} {p : Program} {l : Launch} {e : Env} {R : Room} {s : State} {m : MethodId} {args : Array Value} {below : List Frame} {meth : Method} {c : Code} {j : Nat} {h0 : ab_H} {cc : ByteArray} {tys : List (ClassId × FieldType)}
set_option maxRecDepth 20000 in
set_option maxHeartbeats 1000000 in
theorem sd_Rcall {Q : ab_Q} {yn : Nat → MethodName} {cd : Nat → ByteArray} {hd : Nat → List (Nat × Nat × Nat × Nat)} {Fa : State → Prop} {nM d : Nat} (hSE : sd_SE G D ad dA base yn p l e Fa nM d)
    (hFm : ∀ s U, Fa s → s.WarmedH U.vm → (∀ q, q < base → U.heap[q]? = s.heap[q]?) → Fa U) (hFs : Fa s) (hFt : ∀ jj, jj < nM → sd_Mt G yn cd hd s jj)
    (hx : p.tables.exec = Jvm.exec) (hb : c.code = cc) (hml : c.maxLocals = ab_n G j) (hT : sd_T G j cc) (hown : s.vm.findClass (yn j).cls = some m.cls) (hlk : meth.locks = false) (hK : va_K D (ab_cl G) tys s)
    (hbs : ∀ i, i < 1000000 → ad i = base + i) (hcap : (ab_cap G).1 ≤ 1000000) (hsz : s.heap.size = base + h0.length) (hRc : (ab_cap G).1 ≤ R.cells + h0.length) (hRs : (ab_cap G).2 ≤ R.slots + ab_wt G h0) (hRf : d + 1 + 8 ≤ R.frames) (hRl : 70 * (d + 1) + 400 ≤ R.locals)
    (hnl : ∀ jj, ab_n G jj ≤ 40) (hpn : ∀ jj, jj < nM → plainName (yn jj).cls = true ∧ (yn jj).cls ≠ "java/lang/invoke/MethodHandle" ∧ (yn jj).cls ≠ "java/lang/invoke/VarHandle")
    (hLm : ∀ pc i idx jj, ab_f G j pc = some i → ab_iv i = some idx → ab_lm G j idx = some jj → jj < 1000000 → jj < nM ∧ sd_Lm args s (yn j).cls (yn jj) i ∧ (∀ idx, i = .invokestatic idx → ab_rc G jj = none) ∧ ((∀ idx, i ≠ .invokestatic idx) → ∃ ci r, ab_rc G jj = some ci ∧ (ab_cl G)[ci]? = some r ∧ r.1 = (yn jj).cls))
    (hct0 : ∀ pc ci, ab_ct G j pc ci = some 0 → ∀ x ∈ c.exceptionTable.toList, covers x pc = false)
    (hct : ∀ pc ci t, ab_ct G j pc ci = some (t + 1) → ∀ (T' : State) (locs : List Loc) (cells slots : Nat) (g : JFrame) (a : Addr) (cell : Cell) (r : vw_C), Stand p l e R s m args below meth c T' locs cells slots → g.method = m → g.pc = pc → T'.heap[a]? = some cell → cell.vm.isStatics = false → (ab_cl G)[ci]? = some r → s.vm.findClass r.1 = some cell.cls →
      ∃ vm', Stand p l e R s m args below meth c (T'.setVm vm') locs cells slots ∧ ∀ target, Steps p.tables e below ((T'.setVm vm').setTop { g with pc := t + 1, stack := [.ref a] }) target → Steps p.tables e below ((T'.setTop g).pushFrame (.throwing a)) target) :
    ab_Rcall G (ab_X G d) j Q (sd_P G D ad dA (fun a => base ≤ a) p l e R s m args below meth c j h0 (sd_E G D ad dA base below s h0 Q)) := by
  intro pc ls st h i idx jj as hf hiv hlm hjj hna hinl hrv hst hE H locs cells slots lsM hP hS hl h1 h2 h3 T hTH X
  have hz := X.heapSize
  rw [hTH] at hz
  have hz0 : base ≤ H.size := by have := hS.1; omega
  have hz1 := sd_low hbs (by omega) hP hz0
  have hHz : H.size = base + h.length := by omega
  obtain ⟨hjn, hL, hsta, hvir⟩ := hLm pc i idx jj hf hiv hlm hjj
  obtain ⟨mk, methk, ck, n1, n2, n3, n4, n5, n6, n7, n8, n9, n10⟩ := hFt jj hjn
  obtain ⟨hpn1, hy⟩ := hpn jj hjn
  have hsw : ab_sw i = false := by cases i <;> first | rfl | cases hiv
  have hlen3 : ab_len i = 3 := by cases i <;> first | rfl | cases hiv
  have hdg : decode c.code pc = .ok (i, 3) := by rw [hb, ← hlen3]; exact hT.at hf hsw
  have has : sd_As T.heap s (yn jj) methk.sig.parameters.length (as.map (sd_v ad)) i := by
    have virt : (∀ idx, i ≠ .invokestatic idx) → ∃ (b : Addr) (cell : Cell) (r : List Value), as.map (sd_v ad) = .ref b :: r ∧ T.heap[b]? = some cell ∧ cell.vm.isStatics = false ∧ s.vm.findClass (yn jj).cls = some cell.cls ∧ r.length = methk.sig.parameters.length := by
      intro hno
      obtain ⟨ci, r, hrc, hcl, hr1⟩ := hvir hno
      unfold ab_rv at hrv
      rw [hrc] at hrv n10
      obtain ⟨b, fs, rr, rfl, hb2⟩ := hrv
      obtain ⟨cell, g1, g2, g3⟩ := va_recv hK hP hcl (sd_w_at (ad := ad) (dA := dA) hb2)
      refine ⟨ad b, cell, rr.map (sd_v ad), rfl, by rw [hTH]; exact g1, g2, by rw [← hr1]; exact g3, ?_⟩
      simp only [List.length_cons] at hna
      rw [List.length_map]
      simp only at n10
      omega
    cases i with
    | invokestatic k =>
      have hrc := hsta k rfl
      rw [hrc] at n10
      show (as.map (sd_v ad)).length = methk.sig.parameters.length
      rw [List.length_map, hna]
      exact n10.symm
    | invokevirtual k => exact virt (fun q h => by cases h)
    | invokespecial k => exact virt (fun q h => by cases h)
    | _ => cases hiv
  obtain ⟨vm', X₁, hstep⟩ := sd_go X hx hown hL hy n1 n2 n9 (g := F0 m pc lsM ((as.reverse ++ st).map (sd_v ad))) rfl hdg (as := as.map (sd_v ad)) (rest := st.map (sd_v ad)) (by rw [List.map_append, List.map_reverse]) has
  have hsm : (T.setVm vm').heap = H := hTH
  have hal := X₁.warmed
  have hmk1 : (T.setVm vm').vm.method? mk = some methk := by rw [hal.alike.method?]; exact n2
  have hpk : (T.setVm vm').plainMethod mk := by
    refine State.plainMethod.of_name ?_
    intro k hk
    obtain ⟨k', hk', hnm⟩ := className_of_methodNamed (X₁.named n1)
    cases hk.symm.trans hk'
    rw [hnm]
    exact hpn1
  have hnk := hnl jj
  have hsum : ((st.map (sd_v ad)).map fun v => v.category).sum ≤ 16 := by rw [sd_sum]; exact hst
  have hloc : 2 * 0 + ((st.map (sd_v ad)).map fun v => v.category).sum + (ck.maxLocals + 11) + (70 * d + 400) ≤ R.locals := by
    rw [n5]
    clear hP hS hl hE hstep hLm hct hct0 hFt hpn
    omega
  obtain ⟨t, st', q⟩ := sd_inv (h := h) (Q' := ab_k G j Q (sd_P G D ad dA (fun a => base ≤ a) p l e R s m args below meth c j h0 (sd_E G D ad dA base below s h0 Q)) pc ls st) (Qe := sd_E G D ad dA base below s h0 Q) (G := G) (D := D) (ad := ad) (dA := dA) (base := base) X₁ (g := F0 m pc lsM (st.map (sd_v ad))) rfl (by rw [hml]; exact hl.1) hdg (as.map (sd_v ad)).toArray
    (R' := { frames := d + 8, cells := (ab_cap G).1 - h.length, slots := (ab_cap G).2 - ab_wt G h, locals := 70 * d + 400 }) hmk1 n3 n7 hpk (by show d + 8 + 1 ≤ _; omega) hloc (by show cells + ((ab_cap G).1 - h.length) ≤ _; omega) (by show slots + ((ab_cap G).2 - ab_wt G h) ≤ _; omega)
    (fun T' Y hTh => by
      have hFu : Fa ((T.setVm vm').calling (F0 m pc lsM (st.map (sd_v ad))) mk (as.map (sd_v ad)).toArray) := hFm s _ hFs hal (fun q hq => by
        show T.heap[q]? = s.heap[q]?
        rw [hTH]
        exact hS.2.1 q (by omega) (by show ¬ base ≤ q; omega))
      have hr := hSE jj as h _ hjn hE ((T.setVm vm').calling (F0 m pc lsM (st.map (sd_v ad))) mk (as.map (sd_v ad)).toArray) mk _ _ methk ck T' _ Y hTh rfl (X₁.named n1) hFu (by show T.heap.size = _; rw [hTH]; exact hHz) (by show va_P D (ab_cl G) (sd_w ad dA h) T.heap; rw [hTH]; exact hP) h3 (by show (ab_cap G).1 ≤ (ab_cap G).1 - h.length + h.length; omega) (by show (ab_cap G).2 ≤ (ab_cap G).2 - ab_wt G h + ab_wt G h; omega) (Nat.le_refl _) (Nat.le_refl _) hinl
      rw [← n5] at hr
      exact hr)
    (fun v h' T' hQ hB => by
      obtain ⟨L, k, n, X', hL2, hP2, z1, z2, e1, e2, e3⟩ := hB
      have hS2 : va_S (fun a => base ≤ a) s.heap T'.heap (locs ++ L) := ⟨Nat.le_trans hS.1 (by rw [← hsm]; exact z1), fun q hq hA => (z2 q (by rw [hsm]; have := hS.1; omega) hA).trans (by rw [hsm]; exact hS.2.1 q hq hA), fun q hq => by
        rcases List.mem_append.mp hq with hq | hq
        · exact hS.2.2 q hq
        · exact hL2 q hq⟩
      have hw := hQ T'.heap (locs ++ L) (cells + k) (slots + n) lsM hP2 hS2 hl (by omega) (by omega) e3 T' rfl X'
      have e4 : (v.toList ++ st).map (sd_v ad) = (v.map (sd_v ad)).toList ++ st.map (sd_v ad) := by cases v <;> simp
      rw [e4] at hw
      exact hw)
    (fun x h' T' hQ hB => by
      obtain ⟨L, k, n, X', hL2, hP2, z1, z2, e1, e2, e3⟩ := hB
      have hS2 : va_S (fun a => base ≤ a) s.heap T'.heap (locs ++ L) := ⟨Nat.le_trans hS.1 (by rw [← hsm]; exact z1), fun q hq hA => (z2 q (by rw [hsm]; have := hS.1; omega) hA).trans (by rw [hsm]; exact hS.2.1 q hq hA), fun q hq => by
        rcases List.mem_append.mp hq with hq | hq
        · exact hS.2.2 q hq
        · exact hL2 q hq⟩
      obtain ⟨ci, fs, hxo, hm⟩ := hQ
      cases hc : ab_ct G j pc ci with
      | none => rw [hc] at hm; exact hm.elim
      | some t =>
        rw [hc] at hm
        cases t with
        | zero =>
          obtain ⟨s1, s2, s3, s4, s5⟩ := X'.leaveThrown (ad x) (g := F0 m pc lsM (st.map (sd_v ad))) rfl rfl rfl (hct0 pc ci hc) hlk
          exact ⟨_, s1, .inr x, h', locs ++ L, cells + k, slots + n, hm, s2, s3, s4, s5, hS2.2.2, hS2.F (t := T'.setFrames (.throwing (ad x) :: below)) rfl, hP2, by omega, by omega, e3⟩
        | succ t =>
          obtain ⟨r, hcl, cell, g1, g2, g3, -⟩ := hP2 x _ (sd_w_at (ad := ad) (dA := dA) hxo)
          obtain ⟨vm2, X2, hst2⟩ := hct pc ci t hc T' (locs ++ L) (cells + k) (slots + n) (F0 m pc lsM (st.map (sd_v ad))) (ad x) cell r X' rfl rfl g1 (by rw [g3]; rfl) hcl (by rw [g2]; exact (hK.1 ci r hcl).2.1)
          obtain ⟨t2, st2, q2⟩ := hm T'.heap (locs ++ L) (cells + k) (slots + n) lsM hP2 hS2 hl (by omega) (by omega) e3 (T'.setVm vm2) rfl X2
          exact ⟨t2, hst2 t2 st2, q2⟩)
  exact ⟨t, hstep t st', q⟩
end SdJ
end
section
/-! OURS. Soundness of 'throw new X(text)': the walk is taken up again at the heap as it stands, and the library's law does the rest. -/
section SdT
variable {G : ab_G} {D : va_G} {ad : Nat → Nat} {dA : Nat → ClassId} {base : Nat} {p : Program} {l : Launch} {e : Env} {R : Room} {s : State} {m : MethodId} {args : Array Value} {below : List Frame} {meth : Method} {c : Code} {T : State} {locs : List Loc} {cells slots : Nat} {j : Nat} {h0 : ab_H} {cc : ByteArray} {tys : List (ClassId × FieldType)}
/-- the same walk, as if the method had been invoked at this heap -/
theorem sd_rebase (X : Stand p l e R s m args below meth c T locs cells slots) (hc : cells ≤ R.cells) (hs : slots ≤ R.slots) : Stand p l e { frames := R.frames, cells := R.cells - cells, slots := R.slots - slots, locals := R.locals } (T.setFrames (.invoking m args :: below)) m args below meth c T [] 0 0 := by
  obtain ⟨g₀, hfr⟩ := X.frames_eq
  have hcur : T.cur < T.threads.size := State.cur_lt_of_frames hfr
  have hf : (T.setFrames (.invoking m args :: below)).frames = .invoking m args :: below := State.frames_setFrames _ hcur
  have hm : (T.setFrames (.invoking m args :: below)).vm.method? m = some meth := X.method'
  have hroom := X.room
  have e1 : (T.setFrames (.invoking m args :: below)).localsInUse = s.localsInUse := by
    rw [State.localsInUse_invoking hf hm X.code, State.localsInUse_invoking X.frames X.method X.code]
  have e2 : (T.setFrames (.invoking m args :: below)).frames.length = s.frames.length := by rw [hf, X.frames]
  have e3 : e.platform.stackLimits (T.setFrames (.invoking m args :: below)).me = e.platform.stackLimits s.me := by rw [State.stackLimits_setFrames]; exact X.limits
  have e4 : (T.setFrames (.invoking m args :: below)).me.stackBytes = s.me.stackBytes := by rw [State.stackBytes_setFrames]; exact X.bytes
  have h1 := X.heapSize
  have h2 := X.used
  have hbk := X.book
  refine ⟨X.admits, X.cas, X.clock, hf, ?_, ?_, hm, X.code, X.here, X.tail, State.WarmedH.refl _, by rw [State.stackLimits_setFrames], by rw [State.stackBytes_setFrames], ?_⟩
  · simp only [State.hasRoom, Bool.and_eq_true, decide_eq_true_eq] at hroom ⊢
    rw [e1, e2, e3, e4]
    obtain ⟨⟨⟨⟨r1, r2⟩, r3⟩, r4⟩, r5⟩ := hroom
    refine ⟨⟨⟨⟨r1, r2⟩, ?_⟩, ?_⟩, ?_⟩
    · show T.heap.size + (R.cells - cells) ≤ _
      omega
    · show T.slotsUsed + (R.slots - slots) ≤ _
      omega
    · exact hbk
  · have hh := X.hears
    cases below with
    | nil =>
      simp only [State.hears] at hh ⊢
      rw [show (T.setFrames (.invoking m args :: [])).vm = T.vm from rfl, X.method']
      rw [X.method] at hh
      exact hh
    | cons f r =>
      cases f with
      | java g =>
        simp only [State.hears] at hh ⊢
        have hcd : (T.setFrames (.invoking m args :: .java g :: r)).code? g.method = s.code? g.method := by
          rw [State.code?_eq, State.code?_eq]
          show (T.vm.method? g.method).bind _ = _
          rw [X.warmed.alike.method?]
        rw [hcd]
        exact hh
      | native g => rfl
      | proc g => rfl
      | _ =>
        simp only [State.hears] at hh ⊢
        rw [show ∀ fs, (T.setFrames fs).vm = T.vm from fun _ => rfl, X.method']
        rw [X.method] at hh
        exact hh
  · obtain ⟨t, ht, -⟩ := State.frames_cons hf
    have h := (State.sameButNew.refl (T.setFrames (.invoking m args :: below)) ht).setFrames T.frames (State.cur_lt_of_frames hf)
    have e5 : (T.setFrames (.invoking m args :: below)).setFrames T.frames = T := by
      rw [State.setFrames_setFrames]
      obtain ⟨t2, ht2, -⟩ := State.frames_cons hfr
      exact State.setFrames_self ht2
    rw [e5] at h
    exact h
/-- what a throw needs of the tables -/
def sd_Lx (G : ab_G) (args : Array Value) (U : State) (own : String) (idx ci k mI : Nat) : Prop := ∃ (C : String) (T0 : u_T) (names : List String) (tx : String) (q : Nat), (ab_cl G)[ci]? = some (C, T0, 0) ∧ Bundle.fit C = true ∧ (∀ n ∈ names, Bundle.fit n = true) ∧ names.length ≤ 3 ∧ ab_wc G ci = 6 ∧ (Cond.classLink own idx C).before args U = true ∧ (Cond.instantiable C 6).before args U = true ∧ (Cond.initialized C).before args U = true ∧ vk_R own k tx q U ∧ ∀ a ∈ Bundle.ownAtoms own mI C names, a.before args U = true
set_option maxHeartbeats 1000000 in
theorem sd_Rthr {Q : ab_Q} {own : String} {Fa : State → Prop} (hFm : ∀ s U, Fa s → s.WarmedH U.vm → (∀ q, q < base → U.heap[q]? = s.heap[q]?) → Fa U) (hFs : Fa s) (hFK : ∀ U, Fa U → va_K D (ab_cl G) tys U)
    (hx : p.tables.exec = Jvm.exec) (htr : e.platform.stackTraces = false) (hb : c.code = cc) (hml : c.maxLocals = ab_n G j) (hT : sd_T G j cc) (hown : s.vm.findClass own = some m.cls) (hlk : meth.locks = false)
    (hbs : ∀ i, i < 1000000 → ad i = base + i) (hcap : (ab_cap G).1 ≤ 1000000) (hsz : s.heap.size = base + h0.length) (hRc : (ab_cap G).1 ≤ R.cells + h0.length) (hRs : (ab_cap G).2 ≤ R.slots + ab_wt G h0) (hRf : 8 ≤ R.frames) (hRl : 400 ≤ R.locals)
    (hL : ∀ U, Fa U → ∀ pc idx ci k mI, ab_f G j pc = some (.new idx) → ab_lc G j idx = some ci → ab_df G ci = none → ab_f G j (pc + 4) = some (.ldc k) → ab_f G j (pc + 6) = some (.invokespecial mI) → ab_lm G j mI = some 1000004 → sd_Lx G args U own idx ci k mI)
    (hno : ∀ pc, ab_f G j pc = some .athrow → ∀ x ∈ c.exceptionTable.toList, covers x pc = false) :
    ab_Rthr G j Q (sd_P G D ad dA (fun a => base ≤ a) p l e R s m args below meth c j h0 (sd_E G D ad dA base below s h0 Q)) := by
  intro pc ls st h idx ci k mI hf hlc hdf f1 f2 f3 f4 f5 hc1 hc2 hst hQ H locs cells slots lsM hP hS hl h1 h2 h3 T hTH X
  have hz := X.heapSize
  rw [hTH] at hz
  have hz0 : base ≤ H.size := by have := hS.1; omega
  have hz1 := sd_low hbs (by omega) hP hz0
  have hHz : H.size = base + h.length := by omega
  obtain ⟨g₀, hfr⟩ := X.frames_eq
  have hcur : T.cur < T.threads.size := State.cur_lt_of_frames hfr
  have X0 := sd_rebase X (by omega) (by omega)
  generalize hs0 : T.setFrames (.invoking m args :: below) = s0 at X0
  have hvm0 : s0.vm = T.vm := by rw [← hs0]; rfl
  have hh0 : s0.heap = T.heap := by rw [← hs0]; rfl
  have hF0 : Fa s0 := hFm s s0 hFs (by rw [hvm0]; exact X.warmed) (fun q hq => by rw [hh0, hTH]; exact hS.2.1 q (by omega) (by show ¬ base ≤ q; omega))
  obtain ⟨C, T0, names, tx, q, hcl, hfit, hnf, hnl, hw6, hlink, hins, hini, hstr, hat⟩ := hL s0 hF0 pc idx ci k mI hf hlc hdf f2 f3 f4
  have hown0 : s0.vm.findClass own = some m.cls := by rw [hvm0, X.warmed.alike.findClass]; exact hown
  have hK0 := hFK s0 hF0
  have hcC : s0.vm.findClass C = some (D.1 ci) := (hK0.1 ci _ hcl).2.1
  have hw : W p l e { frames := R.frames, cells := R.cells - cells, slots := R.slots - slots, locals := R.locals } s0 m args below meth c T.heap [] 0 0
      (fun t => t.status = .running ∧ Ended t below (.threw T.heap.size) ∧ s0.WarmedH t.vm ∧ s0.sameButNew ({ t with vm := s0.vm } : State) [] 1 6 ∧ ∃ ce, t.heap[T.heap.size]? = some ce ∧ s0.vm.findClass C = some ce.cls ∧ ce.vm = .none) (F0 m pc lsM (st.map (sd_v ad))) := by
    refine W.newcK hx hb hown0 hlink hins hini (g := F0 m pc lsM (st.map (sd_v ad))) rfl (hT.at hf rfl) (by show 0 + 1 ≤ R.cells - cells; omega) (by show 0 + 6 ≤ R.slots - slots; omega) hcC rfl (fun H1 kC hkC e1 z1 o1 => ?_)
    refine lv_dup hx hb (pc := pc + 3) (hT.at f1 rfl) rfl ?_
    refine va_ldcS hx hb (pc := pc + 4) hown0 hstr (hT.at f2 rfl) ?_
    intro T2 hT2 X2
    have hst2 : 2 * (F0 m (pc + 6) lsM (.ref q :: .ref T.heap.size :: .ref T.heap.size :: st.map (sd_v ad))).monitorRoom + ((Value.ref T.heap.size :: st.map (sd_v ad)).map fun v => v.category).sum + (13 * (names.length + 1) + 42) ≤ R.locals := by
      rw [List.map_cons, List.sum_cons, sd_sum]
      show 2 * 0 + (1 + _) + _ ≤ _
      omega
    obtain ⟨U, s1, s2, s3, s4, s5, ce, s6, s7⟩ := X2.ctorThrowS hx htr hown0 hfit hnf hat (fun x hx => by cases hx) hcC hkC (by rw [hT2]; exact e1) (by rw [hh0]; exact Nat.le_refl _) (msg := .ref q) rfl (g := F0 m (pc + 6) lsM (.ref q :: .ref T.heap.size :: .ref T.heap.size :: st.map (sd_v ad))) rfl (by rw [hml]; exact hl.1) rfl rfl rfl (by rw [hb]; exact hT.at f3 rfl) (by rw [hb]; exact hT.at f5 rfl) (hno (pc + 9) f5) (by show names.length + 3 < R.frames; omega) hst2 hlk
    exact ⟨U, s1, s2, s3, s4, s5, ce, s6, s7.cls, s7.vm⟩
  obtain ⟨t, st1, s2, s3, s4, s5, ce, s6, s7, s8⟩ := hw T rfl X0
  have hkeep : ∀ q, q < T.heap.size → t.heap[q]? = T.heap[q]? := fun q hq => by
    have hc0 : s0.heap[q]? = some (T.heap[q]'hq) := by rw [hh0]; exact Array.getElem?_eq_getElem hq
    have h5 := s5.old_cell hc0
    rw [Array.getElem?_eq_getElem hq]
    exact h5
  have hadl : ad h.length = T.heap.size := by rw [hbs _ (by omega), hTH, hHz]
  have hsame : T.sameButNew ({ t with vm := T.vm } : State) [] 1 6 := by
    obtain ⟨q1, q2⟩ := s5
    rw [hvm0] at q1
    refine ⟨?_, ?_⟩
    · rw [← hs0, State.setFrames_setFrames] at q1
      exact q1
    · rw [hvm0, hh0] at q2
      have e9 : s0.slotsUsed = T.slotsUsed := by rw [← hs0]; rfl
      rw [e9] at q2
      exact q2
  have hall := X.same.trans (hsame.setVm s.vm)
  rw [List.append_nil] at hall
  have hgr : T.heap.size ≤ t.heap.size := hsame.2.1
  refine ⟨t, st1, .inr h.length, h ++ [.inr (ci, [])], locs, cells + 1, slots + 6, hQ, s2, by show Ended t below (.threw (ad h.length)); rw [hadl]; exact s3, State.WarmedH.trans X.warmed (by rw [← hs0] at s4; exact s4), hall, hS.2.2, ?_, ?_, by simp; omega, by rw [sd_wt_push]; show _ = _ + ab_wc G ci; omega, by simp; omega, by rw [sd_wt_push]; show _ + ab_wc G ci ≤ _; omega⟩
  · refine ⟨by have := hS.1; rw [hTH] at hgr; omega, fun q hq hA => ?_⟩
    rw [hkeep q (by rw [hTH]; have := hS.1; omega), hTH]
    exact hS.2.1 q hq hA
  · rw [← sd_w_push]
    have hP2 : va_P D (ab_cl G) (sd_w ad dA h) t.heap := hP.kept (fun k x hx => by rw [hkeep x.1 (by rw [hTH]; exact (hP k x hx).lt), hTH])
    refine hP2.app (fun k x hx => ?_)
    have hz : k < 1 := (List.getElem?_eq_some_iff.mp hx).1
    rw [show k = 0 by omega] at hx
    cases hx
    refine ⟨_, hcl, ce, ?_, ?_, s8, fun k hk => absurd hk (Nat.not_lt_zero k)⟩
    · show t.heap[ad h.length]? = some ce
      rw [hadl]
      exact s6
    · exact Option.some.inj (s7.symm.trans hcC)
end SdT
end
section
/-! OURS. An exception is caught: the search through a method's table, the catch types' entries resolved by it or before. -/
/-- the search ends at the handler hp: each entry ahead of it doesn't cover the place, or names a class to which C can't be assigned -/
def sd_Hs (args : Array Value) (s : State) (own C : String) (pc hp : Nat) : List ExceptionTableEntry → Prop
  | [] => False
  | x :: t => (covers x pc = false ∧ sd_Hs args s own C pc hp t) ∨ (covers x pc = true ∧ x.catchType ≠ 0 ∧ ∃ nm, (Cond.classLink own x.catchType nm).before args s = true ∧ (((Cond.castable C nm).before args s = true ∧ x.handlerPc = hp) ∨ ((Cond.not (Cond.castable C nm)).before args s = true ∧ sd_Hs args s own C pc hp t)))
theorem sd_goYes {Q : Handler → Pre} {E : CtlPost} {e : Env} {d : Bool} {acts : List Action} {s : State} {f : JFrame} {a : Addr} {x : ExceptionTableEntry} {t : List ExceptionTableEntry} {c : ClassId} {cell : Cell} (hx : covers x f.pc = true) (h0 : x.catchType ≠ 0)
    (hl : s.vm.ClassLinks e.platform f.method.cls x.catchType c) (hcell : s.heap[a]? = some cell) (hobj : ∀ k, cell.vm ≠ .statics k)
    (hk : ∃ k, s.vm.classes[cell.cls]? = some k) (hc : ∃ k, s.vm.classes[c]? = some k) (hfit : s.vm.assignable cell.cls c = true) :
    wp (findHandler.go f a (x :: t)) Q E e d acts s ↔ Q (.found x.handlerPc) d acts (s.setVm (s.vm.noted f.method.cls x.catchType (.cls c))) := by
  simp only [covers] at hx
  obtain ⟨ha, ht⟩ := (resolveClass_links e.toSetting hl).op (op := VmOp.resolveClass f.method.cls x.catchType) rfl
  have hal : s.vm.Alike (s.vm.noted f.method.cls x.catchType (.cls c)) := (Vm.Alike.refl s.vm).noted _ _ _
  obtain ⟨k1, hk1⟩ := hk
  obtain ⟨k2, hk2⟩ := hc
  obtain ⟨k1', hk1', -⟩ := hal.2.2 _ _ hk1
  obtain ⟨k2', hk2', -⟩ := hal.2.2 _ _ hk2
  have hfit' : (s.vm.noted f.method.cls x.catchType (.cls c)).assignable cell.cls c = true := by rw [hal.assignable]; exact hfit
  simp [findHandler.go, hx, h0, ha, ht, hcell, hobj, hk1', hk2', hfit', VmOp.dirties, VmOp.acts]
theorem sd_goNo {Q : Handler → Pre} {E : CtlPost} {e : Env} {d : Bool} {acts : List Action} {s : State} {f : JFrame} {a : Addr} {x : ExceptionTableEntry} {t : List ExceptionTableEntry} {c : ClassId} {cell : Cell} (hx : covers x f.pc = true) (h0 : x.catchType ≠ 0)
    (hl : s.vm.ClassLinks e.platform f.method.cls x.catchType c) (hcell : s.heap[a]? = some cell) (hobj : ∀ k, cell.vm ≠ .statics k)
    (hk : ∃ k, s.vm.classes[cell.cls]? = some k) (hc : ∃ k, s.vm.classes[c]? = some k) (hfit : s.vm.assignable cell.cls c = false) :
    ∃ d' acts', (∀ Q : Handler → Pre, wp (findHandler.go f a (x :: t)) Q E e d acts s ↔ wp (findHandler.go f a t) Q E e d' acts' (s.setVm (s.vm.noted f.method.cls x.catchType (.cls c)))) := by
  simp only [covers] at hx
  obtain ⟨ha, ht⟩ := (resolveClass_links e.toSetting hl).op (op := VmOp.resolveClass f.method.cls x.catchType) rfl
  have hal : s.vm.Alike (s.vm.noted f.method.cls x.catchType (.cls c)) := (Vm.Alike.refl s.vm).noted _ _ _
  obtain ⟨k1, hk1⟩ := hk
  obtain ⟨k2, hk2⟩ := hc
  obtain ⟨k1', hk1', -⟩ := hal.2.2 _ _ hk1
  obtain ⟨k2', hk2', -⟩ := hal.2.2 _ _ hk2
  have hfit' : (s.vm.noted f.method.cls x.catchType (.cls c)).assignable cell.cls c = false := by rw [hal.assignable]; exact hfit
  refine ⟨d, acts, fun Q => ?_⟩
  simp [findHandler.go, hx, h0, ha, ht, hcell, hobj, hk1', hk2', hfit', VmOp.dirties, VmOp.acts]
theorem sd_fgo {e : Env} {s : State} {args : Array Value} {f : JFrame} {a : Addr} {own C : String} {hp : Nat} (hpl : e.platform.magicAccessors = ({} : Platform).magicAccessors) (hown : s.vm.findClass own = some f.method.cls) {cell : Cell} (hobj : cell.vm.isStatics = false) (hC : s.vm.findClass C = some cell.cls) :
    ∀ (t : List ExceptionTableEntry) (U : State), sd_Hs args s own C f.pc hp t → s.WarmedH U.vm → U.heap[a]? = some cell →
      ∃ vm', s.WarmedH vm' ∧ ∀ (Q : Handler → Pre) (E : CtlPost) (d : Bool) (acts : List Action), wp (findHandler.go f a t) Q E e d acts U ↔ Q (.found hp) d acts (U.setVm vm') := by
  intro t
  induction t with
  | nil => intro U h; exact h.elim
  | cons x t ih =>
    intro U h hW hcell
    rcases h with ⟨h1, h2⟩ | ⟨h1, h2, nm, h3, h4⟩
    · obtain ⟨vm', g1, g2⟩ := ih U h2 hW hcell
      exact ⟨vm', g1, fun Q E d acts => by rw [Jvm.W.findHandler_go_skip h1]; exact g2 Q E d acts⟩
    · obtain ⟨cN, hcN, hcl⟩ := Cond.classLink_spec hown h3 e.platform hpl
      obtain ⟨dk, _, _, kt, hd, _, _, _, _, hkt, _, hopen⟩ := hcl.here
      have hcl0 := hW.classLinks hcl
      have hW' : s.WarmedH (U.vm.noted f.method.cls x.catchType (.cls cN)) := hW.noted hd hopen (State.rightAt_cls hcl)
      have hal := hW.alike
      obtain ⟨kt', hkt', -⟩ := hal.2.2 _ _ hkt
      obtain ⟨kx, hkx⟩ := Vm.classAt_of_findClass hC
      obtain ⟨kx', hkx', -⟩ := hal.2.2 _ _ hkx
      rcases h4 with ⟨hcast, rfl⟩ | ⟨hno, hrec⟩
      · obtain ⟨c3, c4, hc3, hc4, hasg⟩ := Cond.castable_spec hcast
        cases hC.symm.trans hc3
        cases hcN.symm.trans hc4
        exact ⟨_, hW', fun Q E d acts => sd_goYes h1 h2 hcl0 hcell (VmData.ne_statics_of hobj) ⟨kx', hkx'⟩ ⟨kt', hkt'⟩ (by rw [hal.assignable]; exact hasg)⟩
      · have hasg : s.vm.assignable cell.cls cN = false := by
          cases hb : s.vm.assignable cell.cls cN with
          | false => rfl
          | true =>
            exfalso
            simp [Cond.before, Cond.holds, Cond.value, hC, hcN, hb] at hno
        obtain ⟨vm', g1, g2⟩ := ih (U.setVm (U.vm.noted f.method.cls x.catchType (.cls cN))) hrec hW' hcell
        refine ⟨vm', g1, fun Q E d acts => ?_⟩
        have hfit : U.vm.assignable cell.cls cN = false := by rw [hal.assignable]; exact hasg
        simp only [covers] at h1
        obtain ⟨ha, ht⟩ := (resolveClass_links e.toSetting hcl0).op (op := VmOp.resolveClass f.method.cls x.catchType) rfl
        have hal2 : U.vm.Alike (U.vm.noted f.method.cls x.catchType (.cls cN)) := (Vm.Alike.refl U.vm).noted _ _ _
        obtain ⟨k1', hk1', -⟩ := hal2.2.2 _ _ hkx'
        obtain ⟨k2', hk2', -⟩ := hal2.2.2 _ _ hkt'
        have hfit' : (U.vm.noted f.method.cls x.catchType (.cls cN)).assignable cell.cls cN = false := by rw [hal2.assignable]; exact hfit
        have key : wp (findHandler.go f a (x :: t)) Q E e d acts U ↔ wp (findHandler.go f a t) Q E e d acts (U.setVm (U.vm.noted f.method.cls x.catchType (.cls cN))) := by
          simp [findHandler.go, h1, h2, ha, ht, hcell, VmData.ne_statics_of hobj, hk1', hk2', hfit', VmOp.dirties, VmOp.acts]
        rw [key, g2 Q E d acts]
        rfl
section SdK
variable {p : Program} {l : Launch} {e : Env} {R : Room} {s : State} {m : MethodId} {args : Array Value} {below : List Frame} {meth : Method} {c : Code} {T : State} {locs : List Loc} {cells slots : Nat}
theorem sd_caught (X : Stand p l e R s m args below meth c T locs cells slots) {own C : String} (hown : s.vm.findClass own = some m.cls) {g : JFrame} (hg : g.method = m) {hp : Nat} (hH : sd_Hs args s own C g.pc hp c.exceptionTable.toList) {a : Addr} {cell : Cell} (hcell : T.heap[a]? = some cell) (hobj : cell.vm.isStatics = false) (hC : s.vm.findClass C = some cell.cls) :
    ∃ vm', Stand p l e R s m args below meth c (T.setVm vm') locs cells slots ∧ ∀ target, Steps p.tables e below ((T.setVm vm').setTop { g with pc := hp, stack := [.ref a] }) target → Steps p.tables e below ((T.setTop g).pushFrame (.throwing a)) target := by
  have hpl : e.platform.magicAccessors = ({} : Platform).magicAccessors := by rw [X.admits.platform]
  subst hg
  obtain ⟨vm', hW, hfind⟩ := sd_fgo hpl hown hobj hC _ ((T.setTop g).pushFrame (.throwing a)) hH (by rw [Stand.throwing_vm]; exact X.warmed) (by rw [Stand.throwing_heap]; exact hcell)
  refine ⟨vm', X.noted hW, fun target hrest => ?_⟩
  obtain ⟨hgo, hw⟩ := X.here.throwing (g := g) a
  refine Steps.head hgo hw ?_
  have hF : ∀ (Q : Handler → Pre) (E : CtlPost) (d : Bool) (acts : List Action), wp (findHandler g a) Q E e d acts ((T.setTop g).pushFrame (.throwing a)) ↔ Q (.found hp) d acts (((T.setTop g).pushFrame (.throwing a)).setVm vm') := by
    intro Q E d acts
    rw [Jvm.W.findHandler_eq (meth := meth) (code := c) (by rw [Stand.throwing_vm]; exact X.method') X.code]
    exact hfind Q E d acts
  have hstep : (stepThrowing e ((T.setTop g).pushFrame (.throwing a)) a (.java g :: T.frames.tail)).Is ((((T.setTop g).pushFrame (.throwing a)).setVm vm').setFrames (.java { g with pc := hp, stack := [.ref a] } :: T.frames.tail)) [] := by
    simp only [stepThrowing, searchFrame, vmDo]
    generalize hr : Sem.go _ e false [] ((T.setTop g).pushFrame (.throwing a)) = res
    obtain ⟨as, rfl, ha⟩ := Sem.eq_ok_of hr (a := Handler.found hp) (s' := ((T.setTop g).pushFrame (.throwing a)).setVm vm') (acts' := []) (by simp [hF _ _ _ _])
    exact ⟨rfl, ha⟩
  rw [stepThread_throwing (frames_entered X.here.top _), hstep.1]
  obtain ⟨g₀, hr⟩ := X.frames_eq
  have hr' : (T.setVm vm').frames = .java g₀ :: below := hr
  rw [State.setTop_of_frames _ hr'] at hrest
  have e1 : (((T.setTop g).pushFrame (.throwing a)).setVm vm').setFrames (.java { g with pc := hp, stack := [.ref a] } :: T.frames.tail) = (T.setVm vm').setFrames (.java { g with pc := hp, stack := [.ref a] } :: below) := by
    rw [hr, State.setTop_of_frames _ hr]
    show (((T.setFrames _).setFrames _).setVm vm').setFrames _ = _
    rw [State.setFrames_setFrames]
    show ((T.setVm vm').setFrames _).setFrames _ = _
    rw [State.setFrames_setFrames]
    rfl
  rw [e1]
  exact hrest
end SdK
end
section
/-! OURS. All rules together: calls of every depth are sound. -/
set_option maxRecDepth 20000 in
set_option maxHeartbeats 2000000 in
theorem sd_all {G : ab_G} {D : va_G} {ad : Nat → Nat} {dA : Nat → ClassId} {base : Nat} {p : Program} {l : Launch} {e : Env} {Ts : List Cond} {tys : List (ClassId × FieldType)} {yn : Nat → MethodName} {cd : Nat → ByteArray} {hd : Nat → List (Nat × Nat × Nat × Nat)} {Fa : State → Prop} {nM : Nat}
    (hx : p.tables.exec = Jvm.exec) (htr : l.admits e → e.platform.stackTraces = false) (hbs : ∀ i, i < 1000000 → ad i = base + i) (hcap : (ab_cap G).1 ≤ 1000000) (hnl : ∀ jj, ab_n G jj ≤ 40) (hty : ∀ t ty, ab_at G t = some ty → tys[t]? = some (dA t, ty)) (hCl : sd_Cl G)
    (hFm : ∀ s U, Fa s → s.WarmedH U.vm → (∀ q, q < base → U.heap[q]? = s.heap[q]?) → Fa U) (hts : ∀ s args, Fa s → ∀ w ∈ Ts, w.before args s = true) (hK : ∀ s, Fa s → va_K D (ab_cl G) tys s) (hMt : ∀ s, Fa s → ∀ jj, jj < nM → sd_Mt G yn cd hd s jj) (hT : ∀ j, j < nM → sd_T G j (cd j)) (hpn : ∀ jj, jj < nM → plainName (yn jj).cls = true ∧ (yn jj).cls ≠ "java/lang/invoke/MethodHandle" ∧ (yn jj).cls ≠ "java/lang/invoke/VarHandle")
    (hLf : ∀ s args j idx ci k, Fa s → j < nM → ab_lf G j idx = some (ci, k) → sd_Lf G Ts args s (yn j).cls idx ci k)
    (hfin : ∀ s args j pc idx ci k C T N, Fa s → j < nM → ab_f G j pc = some (.putfield idx) → ab_lf G j idx = some (ci, k) → (ab_cl G)[ci]? = some (C, T, N) → (T k).2.2.2 = true → (yn j).name = "<init>" ∧ (T k).1 = (yn j).cls ∧ (Cond.fieldLink (yn j).cls idx (T k).1 (T k).2.1 (T k).2.2.1).before args s = true)
    (hLs : ∀ s args j idx a, Fa s → j < nM → ab_ls G j idx = some a → sd_Ls args s (yn j).cls base idx (ad a))
    (hCa : ∀ s a n xs, Fa s → ab_ca G a = some (n, xs) → va_X (ad a) n xs s s.heap ∧ ad a < s.heap.size ∧ ¬ base ≤ ad a)
    (hLc : ∀ s args j idx ci fs, Fa s → j < nM → ab_lc G j idx = some ci → ab_df G ci = some fs → sd_Lc G Ts args s (yn j).cls ad idx ci fs)
    (hAr : ∀ s args t ty x0, Fa s → ab_at G t = some ty → ab_dv ty = some x0 → (Cond.arrayClass ty).before args s = true)
    (hNq : ∀ s args j pc idx ci r, Fa s → j < nM → ab_f G j pc = some (.anewarray idx) → ab_lc G j idx = some ci → (ab_cl G)[ci]? = some r → (Cond.classLink (yn j).cls idx r.1).before args s = true ∧ va_AO r.1 s)
    (hKl : ∀ s args j idx x, Fa s → j < nM → ab_kl G j idx = some x → (Cond.constantLong (yn j).cls idx x).before args s = true)
    (hOb : ∀ s args j idx, Fa s → j < nM → ab_lm G j idx = some 1000000 → (Cond.methodLink (yn j).cls idx Lib.objectInit).before args s = true ∧ (Cond.instanceMethod Lib.objectInit).before args s = true ∧ (Cond.code Lib.objectInit ⟨#[0xb1]⟩ 1 none).before args s = true)
    (hCp : ∀ s args j idx, Fa s → j < nM → ab_lm G j idx = some 1000001 → sd_Lcp args s (yn j).cls idx)
    (hM2 : ∀ j idx, ab_lm G j idx ≠ some 1000002) (hM3 : ∀ j idx, ab_lm G j idx ≠ some 1000003)
    (hLm : ∀ s args j pc i idx jj, Fa s → j < nM → ab_f G j pc = some i → ab_iv i = some idx → ab_lm G j idx = some jj → jj < 1000000 → jj < nM ∧ sd_Lm args s (yn j).cls (yn jj) i ∧ (∀ idx, i = .invokestatic idx → ab_rc G jj = none) ∧ ((∀ idx, i ≠ .invokestatic idx) → ∃ ci r, ab_rc G jj = some ci ∧ (ab_cl G)[ci]? = some r ∧ r.1 = (yn jj).cls))
    (hC0 : ∀ j pc ci, j < nM → ab_ct G j pc ci = some 0 → ∀ x ∈ tableOf (hd j), covers x pc = false)
    (hCt : ∀ s args j pc ci t r, Fa s → j < nM → ab_ct G j pc ci = some (t + 1) → (ab_cl G)[ci]? = some r → sd_Hs args s (yn j).cls r.1 pc (t + 1) (tableOf (hd j)))
    (hLx : ∀ U args j pc idx ci k mI, Fa U → j < nM → ab_f G j pc = some (.new idx) → ab_lc G j idx = some ci → ab_df G ci = none → ab_f G j (pc + 4) = some (.ldc k) → ab_f G j (pc + 6) = some (.invokespecial mI) → ab_lm G j mI = some 1000004 → sd_Lx G args U (yn j).cls idx ci k mI)
    (hNo : ∀ j pc, j < nM → ab_f G j pc = some .athrow → ∀ x ∈ tableOf (hd j), covers x pc = false) :
    ∀ d, sd_SE G D ad dA base yn p l e Fa nM d := by
  intro d
  induction d with
  | zero => intro j as h Q _ hX; exact hX.elim
  | succ d ih =>
    intro j as h Q hj hX s m args below meth c T R X hTh hargs hn hFs hsz hP h3 hRc hRs hRf hRl hin
    obtain ⟨mk, methk, ck, n1, n2, n3, n4, n5, n6, n7, n8, n9, n10⟩ := hMt s hFs j hj
    cases n1.symm.trans hn
    cases n2.symm.trans X.method
    cases n3.symm.trans X.code
    have hown : s.vm.findClass (yn j).cls = some m.cls := findClass_of_methodNamed hn
    have hnm : meth.name = (yn j).name := (name_of_methodNamed hn X.method).1
    have hw := hX (sd_P G D ad dA (fun a => base ≤ a) p l e R s m args below meth c j h (sd_E G D ad dA base below s h Q))
      ⟨sd_Ca hx n4 (hT j hj), sd_Cb hx n4 (hT j hj) (sd_inj hbs),
       ⟨sd_Rget hx n4 (hT j hj) (hts s args hFs) hown (hK s hFs) (fun idx ci k => hLf s args j idx ci k hFs hj),
        sd_Rput hx n4 (hT j hj) (hts s args hFs) hown (hK s hFs) (fun idx ci k => hLf s args j idx ci k hFs hj) hCl (fun pc idx ci k C T N a1 a2 a3 a4 => by rw [hnm]; exact hfin s args j pc idx ci k C T N hFs hj a1 a2 a3 a4) (sd_inj hbs) (sd_ge hbs) hcap,
        sd_Rsta hx n4 (hT j hj) hown (fun idx a => hLs s args j idx a hFs hj),
        sd_Rkld hx n4 (hT j hj) (fun a n xs => hCa s a n xs hFs), sd_Rkln hx n4 (hT j hj) (fun a n xs => hCa s a n xs hFs),
        sd_Rild hx n4 (hT j hj) (hK s hFs) hty, sd_Rcld hx n4 (hT j hj) (hK s hFs) hty, sd_Rlld hx n4 (hT j hj) (hK s hFs) hty, sd_Rald hx n4 (hT j hj) (hK s hFs) hty,
        sd_Rist hx n4 (hT j hj) (hK s hFs) hty (sd_inj hbs) (sd_ge hbs) hcap, sd_Rcts hx n4 (hT j hj) (hK s hFs) hty (sd_inj hbs) (sd_ge hbs) hcap, sd_Rlst hx n4 (hT j hj) (hK s hFs) hty (sd_inj hbs) (sd_ge hbs) hcap, sd_Rast hx n4 (hT j hj) (hK s hFs) hty (sd_inj hbs) (sd_ge hbs) hcap,
        sd_Rlen hx n4 (hT j hj) (hK s hFs) hty,
        sd_Rnew hx n4 (hT j hj) (hts s args hFs) hown (hK s hFs) hCl hbs hcap hsz hRc hRs (fun idx ci fs => hLc s args j idx ci fs hFs hj),
        sd_Rna hx n4 (hT j hj) (hK s hFs) hty hbs hcap hsz hRc hRs (fun t ty x0 => hAr s args t ty x0 hFs),
        sd_Rnq hx n4 (hT j hj) hown (hK s hFs) hty hbs hcap hsz hRc hRs (fun pc idx ci r => hNq s args j pc idx ci r hFs hj),
        sd_Rkl hx n4 (hT j hj) hown (fun idx x => hKl s args j idx x hFs hj)⟩,
       ⟨sd_Robj hx n4 n5 (hT j hj) hown (by omega) (by omega) (fun idx => hOb s args j idx hFs hj),
        sd_Rcpi hx n4 n5 (hT j hj) hown (hK s hFs) hty hbs hcap (by omega) (by omega) (fun idx => hCp s args j idx hFs hj),
        sd_Rcpl hx n4 n5 (hT j hj) hown (hK s hFs) hty hbs hcap (by omega) (by omega) (fun idx => hCp s args j idx hFs hj),
        sd_Rmax hx n4 n5 (hT j hj) hown (by omega) (by omega) hRc hRs (fun idx a => absurd a (hM2 j idx)),
        sd_Rmin hx n4 n5 (hT j hj) hown (by omega) (by omega) hRc hRs (fun idx a => absurd a (hM3 j idx))⟩,
       ⟨sd_Rcall ih hFm hFs (hMt s hFs) hx n4 n5 (hT j hj) hown n7 (hK s hFs) hbs hcap hsz hRc hRs hRf hRl hnl hpn (fun pc i idx jj => hLm s args j pc i idx jj hFs hj) (fun pc ci a => by rw [n8]; exact hC0 j pc ci hj a)
          (fun pc ci t a T' locs cells slots g q cell r X' b1 b2 b3 b4 b5 b6 => sd_caught X' hown b1 (by rw [b2, n8]; exact hCt s args j pc ci t r hFs hj a b5) b3 b4 b6),
        sd_Rret hx n4 (hT j hj) n6 n7, sd_Rrtv hx n4 (hT j hj) n6 n7,
        sd_Rthr hFm hFs hK hx (htr X.admits) n4 n5 (hT j hj) hown n7 hbs hcap hsz hRc hRs (by omega) (by omega) (fun U hU pc idx ci k mI => hLx U args j pc idx ci k mI hU hj) (fun pc a => by rw [n8]; exact hNo j pc hj a)⟩⟩
    have hent := sd_entry ad as (ab_n G j) hin
    obtain ⟨t, st, q⟩ := hw s.heap [] 0 0 _ hP va_S.rf hent (by omega) (by omega) h3 T hTh X
    refine ⟨t, ?_, q⟩
    rw [hargs, lg_entry_eq]
    exact st
end
section
/-! OURS. The rules as steps: each turns a run at an instruction into a run at the next. -/
section Xx
variable {G : ab_G} {E : ab_E} {j : Nat} {Q : ab_Q} {pc : Nat} {ls : ab_L} {st : List Value} {h : ab_H}
theorem x_cst {i : Instr} (v : Value) (n pc' : Nat) (hf : ab_f G j pc = some i) (hc : ab_cst i = some (v, n)) (hp : pc + n = pc') (k : ab_W G E j Q pc' ls (v :: st) h) : ab_W G E j Q pc ls st h := fun P hC => hC.1.1 pc ls st h i v n hf hc (hp ▸ k P hC)
theorem x_ld {i : Instr} {v : Value} (a n d pc' : Nat) (hf : ab_f G j pc = some i) (hc : ab_ld i = some (a, n, d)) (hv : ls[a]? = some (some v)) (hk : ab_kd d v = true) (hp : pc + n = pc') (k : ab_W G E j Q pc' ls (v :: st) h) : ab_W G E j Q pc ls st h := fun P hC => hC.1.2.1 pc ls st h i a n d v hf hc hv hk (hp ▸ k P hC)
theorem x_st {i : Instr} {v : Value} (a n d pc' : Nat) (ls' : ab_L) (hf : ab_f G j pc = some i) (hc : ab_sd i = some (a, n, d)) (hk : ab_kd d v = true) (hn : a < ab_n G j) (hs : ab_s1 ls a v = ls') (hp : pc + n = pc') (k : ab_W G E j Q pc' ls' st h) : ab_W G E j Q pc ls (v :: st) h := fun P hC => hC.1.2.2.1 pc ls st h i a n d v hf hc hk hn (hp ▸ hs ▸ k P hC)
theorem x_sl {i : Instr} {x : Int64} (a n pc' : Nat) (ls' : ab_L) (hf : ab_f G j pc = some i) (hc : ab_sl i = some (a, n)) (hn : a + 1 < ab_n G j) (hs : ab_s2 ls a (.long x) = ls') (hp : pc + n = pc') (k : ab_W G E j Q pc' ls' st h) : ab_W G E j Q pc ls (.long x :: st) h := fun P hC => hC.1.2.2.2.1 pc ls st h i a n x hf hc hn (hp ▸ hs ▸ k P hC)
theorem x_inc {x : Int32} (a : Nat) (n : Int) (v : Int32) (pc' : Nat) (ls' : ab_L) (hf : ab_f G j pc = some (.iinc a n)) (hv : ls[a]? = some (some (.int x))) (hn : a < ab_n G j) (he : Int32.ofInt n = v) (hs : ab_s1 ls a (.int (x + v)) = ls') (hp : pc + 3 = pc') (k : ab_W G E j Q pc' ls' st h) : ab_W G E j Q pc ls st h := fun P hC => hC.1.2.2.2.2.1 pc ls st h a n x hf hv hn (hp ▸ he ▸ hs ▸ k P hC)
theorem x_bin {i : Instr} {g : Int32 → Int32 → Int32} {x y : Int32} (z : Int32) (pc' : Nat) (hf : ab_f G j pc = some i) (hc : ab_bin i = some g) (hz : g x y = z) (hp : pc + 1 = pc') (k : ab_W G E j Q pc' ls (.int z :: st) h) : ab_W G E j Q pc ls (.int y :: .int x :: st) h := fun P hC => hC.1.2.2.2.2.2.1 pc ls st h i g x y hf hc (hp ▸ hz ▸ k P hC)
theorem x_div {x y : Int32} (pc' : Nat) (hf : ab_f G j pc = some .idiv) (hy : ¬ y = 0) (hp : pc + 1 = pc') (k : ab_W G E j Q pc' ls (.int (x / y) :: st) h) : ab_W G E j Q pc ls (.int y :: .int x :: st) h := fun P hC => hC.1.2.2.2.2.2.2.1 pc ls st h x y hf hy (hp ▸ k P hC)
theorem x_rem {x y : Int32} (pc' : Nat) (hf : ab_f G j pc = some .irem) (hy : ¬ y = 0) (hp : pc + 1 = pc') (k : ab_W G E j Q pc' ls (.int (x - x / y * y) :: st) h) : ab_W G E j Q pc ls (.int y :: .int x :: st) h := fun P hC => hC.1.2.2.2.2.2.2.2.1 pc ls st h x y hf hy (hp ▸ k P hC)
theorem x_lbn {i : Instr} {g : Int64 → Int64 → Int64} {x y : Int64} (z : Int64) (pc' : Nat) (hf : ab_f G j pc = some i) (hc : ab_lbn i = some g) (hz : g x y = z) (hp : pc + 1 = pc') (k : ab_W G E j Q pc' ls (.long z :: st) h) : ab_W G E j Q pc ls (.long y :: .long x :: st) h := fun P hC => hC.1.2.2.2.2.2.2.2.2.1 pc ls st h i g x y hf hc (hp ▸ hz ▸ k P hC)
theorem x_lsh {i : Instr} {g : Int64 → Int32 → Int64} {x : Int64} {y : Int32} (z : Int64) (pc' : Nat) (hf : ab_f G j pc = some i) (hc : ab_lsh i = some g) (hz : g x y = z) (hp : pc + 1 = pc') (k : ab_W G E j Q pc' ls (.long z :: st) h) : ab_W G E j Q pc ls (.int y :: .long x :: st) h := fun P hC => hC.1.2.2.2.2.2.2.2.2.2.1 pc ls st h i g x y hf hc (hp ▸ hz ▸ k P hC)
theorem x_un {i : Instr} {v : Value} (w : Value) (pc' : Nat) (hf : ab_f G j pc = some i) (hc : ab_un i v = some w) (hp : pc + 1 = pc') (k : ab_W G E j Q pc' ls (w :: st) h) : ab_W G E j Q pc ls (v :: st) h := fun P hC => hC.1.2.2.2.2.2.2.2.2.2.2.1 pc ls st h i v w hf hc (hp ▸ k P hC)
theorem x_cmp {x y : Int64} (pc' : Nat) (hf : ab_f G j pc = some .lcmp) (hp : pc + 1 = pc') (k : ab_W G E j Q pc' ls (.int (lg_cmp x y) :: st) h) : ab_W G E j Q pc ls (.long y :: .long x :: st) h := fun P hC => hC.1.2.2.2.2.2.2.2.2.2.2.2.1 pc ls st h x y hf (hp ▸ k P hC)
theorem x_dup {v : Value} (pc' : Nat) (hf : ab_f G j pc = some .dup) (hc : ab_c2 v = false) (hp : pc + 1 = pc') (k : ab_W G E j Q pc' ls (v :: v :: st) h) : ab_W G E j Q pc ls (v :: st) h := fun P hC => hC.1.2.2.2.2.2.2.2.2.2.2.2.2.1 pc ls st h v hf hc (hp ▸ k P hC)
theorem x_dp2 {v w : Value} (pc' : Nat) (hf : ab_f G j pc = some .dup2) (hc : ab_c2 v = false) (hc2 : ab_c2 w = false) (hp : pc + 1 = pc') (k : ab_W G E j Q pc' ls (v :: w :: v :: w :: st) h) : ab_W G E j Q pc ls (v :: w :: st) h := fun P hC => hC.1.2.2.2.2.2.2.2.2.2.2.2.2.2.1 pc ls st h v w hf hc hc2 (hp ▸ k P hC)
theorem x_dpl {v : Value} (pc' : Nat) (hf : ab_f G j pc = some .dup2) (hc : ab_c2 v = true) (hp : pc + 1 = pc') (k : ab_W G E j Q pc' ls (v :: v :: st) h) : ab_W G E j Q pc ls (v :: st) h := fun P hC => hC.1.2.2.2.2.2.2.2.2.2.2.2.2.2.2.1 pc ls st h v hf hc (hp ▸ k P hC)
theorem x_pop {v : Value} (pc' : Nat) (hf : ab_f G j pc = some .pop) (hc : ab_c2 v = false) (hp : pc + 1 = pc') (k : ab_W G E j Q pc' ls st h) : ab_W G E j Q pc ls (v :: st) h := fun P hC => hC.1.2.2.2.2.2.2.2.2.2.2.2.2.2.2.2 pc ls st h v hf hc (hp ▸ k P hC)
theorem x_ifeq {x : Int32} {off : Int} (t pc' : Nat) (hf : ab_f G j pc = some (.ifCond .eq off)) (ht : (pc : Int) + off = (t : Int)) (hp : pc + 3 = pc') (kt : x = 0 → ab_W G E j Q t ls st h) (kf : ¬ x = 0 → ab_W G E j Q pc' ls st h) : ab_W G E j Q pc ls (.int x :: st) h := fun P hC => hC.2.1.1 pc ls st h .eq off t x hf ht (fun z => kt z P hC) (hp ▸ fun z => kf z P hC)
theorem x_iceq {x y : Int32} {off : Int} (t pc' : Nat) (hf : ab_f G j pc = some (.if_icmp .eq off)) (ht : (pc : Int) + off = (t : Int)) (hp : pc + 3 = pc') (kt : x = y → ab_W G E j Q t ls st h) (kf : ¬ x = y → ab_W G E j Q pc' ls st h) : ab_W G E j Q pc ls (.int y :: .int x :: st) h := fun P hC => hC.2.1.2.1 pc ls st h .eq off t x y hf ht (fun z => kt z P hC) (hp ▸ fun z => kf z P hC)
theorem x_ifne {x : Int32} {off : Int} (t pc' : Nat) (hf : ab_f G j pc = some (.ifCond .ne off)) (ht : (pc : Int) + off = (t : Int)) (hp : pc + 3 = pc') (kt : ¬ x = 0 → ab_W G E j Q t ls st h) (kf : x = 0 → ab_W G E j Q pc' ls st h) : ab_W G E j Q pc ls (.int x :: st) h := fun P hC => hC.2.1.1 pc ls st h .ne off t x hf ht (fun z => kt z P hC) (hp ▸ fun z => kf (Classical.byContradiction (fun w => z w)) P hC)
theorem x_icne {x y : Int32} {off : Int} (t pc' : Nat) (hf : ab_f G j pc = some (.if_icmp .ne off)) (ht : (pc : Int) + off = (t : Int)) (hp : pc + 3 = pc') (kt : ¬ x = y → ab_W G E j Q t ls st h) (kf : x = y → ab_W G E j Q pc' ls st h) : ab_W G E j Q pc ls (.int y :: .int x :: st) h := fun P hC => hC.2.1.2.1 pc ls st h .ne off t x y hf ht (fun z => kt z P hC) (hp ▸ fun z => kf (Classical.byContradiction (fun w => z w)) P hC)
theorem x_iflt {x : Int32} {off : Int} (t pc' : Nat) (hf : ab_f G j pc = some (.ifCond .lt off)) (ht : (pc : Int) + off = (t : Int)) (hp : pc + 3 = pc') (kt : x < 0 → ab_W G E j Q t ls st h) (kf : ¬ x < 0 → ab_W G E j Q pc' ls st h) : ab_W G E j Q pc ls (.int x :: st) h := fun P hC => hC.2.1.1 pc ls st h .lt off t x hf ht (fun z => kt z P hC) (hp ▸ fun z => kf z P hC)
theorem x_iclt {x y : Int32} {off : Int} (t pc' : Nat) (hf : ab_f G j pc = some (.if_icmp .lt off)) (ht : (pc : Int) + off = (t : Int)) (hp : pc + 3 = pc') (kt : x < y → ab_W G E j Q t ls st h) (kf : ¬ x < y → ab_W G E j Q pc' ls st h) : ab_W G E j Q pc ls (.int y :: .int x :: st) h := fun P hC => hC.2.1.2.1 pc ls st h .lt off t x y hf ht (fun z => kt z P hC) (hp ▸ fun z => kf z P hC)
theorem x_ifge {x : Int32} {off : Int} (t pc' : Nat) (hf : ab_f G j pc = some (.ifCond .ge off)) (ht : (pc : Int) + off = (t : Int)) (hp : pc + 3 = pc') (kt : 0 ≤ x → ab_W G E j Q t ls st h) (kf : ¬ 0 ≤ x → ab_W G E j Q pc' ls st h) : ab_W G E j Q pc ls (.int x :: st) h := fun P hC => hC.2.1.1 pc ls st h .ge off t x hf ht (fun z => kt z P hC) (hp ▸ fun z => kf z P hC)
theorem x_icge {x y : Int32} {off : Int} (t pc' : Nat) (hf : ab_f G j pc = some (.if_icmp .ge off)) (ht : (pc : Int) + off = (t : Int)) (hp : pc + 3 = pc') (kt : y ≤ x → ab_W G E j Q t ls st h) (kf : ¬ y ≤ x → ab_W G E j Q pc' ls st h) : ab_W G E j Q pc ls (.int y :: .int x :: st) h := fun P hC => hC.2.1.2.1 pc ls st h .ge off t x y hf ht (fun z => kt z P hC) (hp ▸ fun z => kf z P hC)
theorem x_ifgt {x : Int32} {off : Int} (t pc' : Nat) (hf : ab_f G j pc = some (.ifCond .gt off)) (ht : (pc : Int) + off = (t : Int)) (hp : pc + 3 = pc') (kt : 0 < x → ab_W G E j Q t ls st h) (kf : ¬ 0 < x → ab_W G E j Q pc' ls st h) : ab_W G E j Q pc ls (.int x :: st) h := fun P hC => hC.2.1.1 pc ls st h .gt off t x hf ht (fun z => kt z P hC) (hp ▸ fun z => kf z P hC)
theorem x_icgt {x y : Int32} {off : Int} (t pc' : Nat) (hf : ab_f G j pc = some (.if_icmp .gt off)) (ht : (pc : Int) + off = (t : Int)) (hp : pc + 3 = pc') (kt : y < x → ab_W G E j Q t ls st h) (kf : ¬ y < x → ab_W G E j Q pc' ls st h) : ab_W G E j Q pc ls (.int y :: .int x :: st) h := fun P hC => hC.2.1.2.1 pc ls st h .gt off t x y hf ht (fun z => kt z P hC) (hp ▸ fun z => kf z P hC)
theorem x_ifle {x : Int32} {off : Int} (t pc' : Nat) (hf : ab_f G j pc = some (.ifCond .le off)) (ht : (pc : Int) + off = (t : Int)) (hp : pc + 3 = pc') (kt : x ≤ 0 → ab_W G E j Q t ls st h) (kf : ¬ x ≤ 0 → ab_W G E j Q pc' ls st h) : ab_W G E j Q pc ls (.int x :: st) h := fun P hC => hC.2.1.1 pc ls st h .le off t x hf ht (fun z => kt z P hC) (hp ▸ fun z => kf z P hC)
theorem x_icle {x y : Int32} {off : Int} (t pc' : Nat) (hf : ab_f G j pc = some (.if_icmp .le off)) (ht : (pc : Int) + off = (t : Int)) (hp : pc + 3 = pc') (kt : x ≤ y → ab_W G E j Q t ls st h) (kf : ¬ x ≤ y → ab_W G E j Q pc' ls st h) : ab_W G E j Q pc ls (.int y :: .int x :: st) h := fun P hC => hC.2.1.2.1 pc ls st h .le off t x y hf ht (fun z => kt z P hC) (hp ▸ fun z => kf z P hC)
theorem x_nuT {off : Int} (t : Nat) (hf : ab_f G j pc = some (.ifnull off)) (ht : (pc : Int) + off = (t : Int)) (k : ab_W G E j Q t ls st h) : ab_W G E j Q pc ls (.null :: st) h := fun P hC => hC.2.1.2.2.1 pc ls st h off t none hf ht (fun _ => k P hC) (fun _ z => by cases z)
theorem x_nuF {off : Int} {a : Nat} (t pc' : Nat) (hf : ab_f G j pc = some (.ifnull off)) (ht : (pc : Int) + off = (t : Int)) (hp : pc + 3 = pc') (k : ab_W G E j Q pc' ls st h) : ab_W G E j Q pc ls (.ref a :: st) h := fun P hC => hC.2.1.2.2.1 pc ls st h off t (some a) hf ht (fun z => by cases z) (fun _ _ => hp ▸ k P hC)
theorem x_nnT {off : Int} {a : Nat} (t : Nat) (hf : ab_f G j pc = some (.ifnonnull off)) (ht : (pc : Int) + off = (t : Int)) (k : ab_W G E j Q t ls st h) : ab_W G E j Q pc ls (.ref a :: st) h := fun P hC => hC.2.1.2.2.2.1 pc ls st h off t (some a) hf ht (fun z => by cases z) (fun _ _ => k P hC)
theorem x_nnF {off : Int} (t pc' : Nat) (hf : ab_f G j pc = some (.ifnonnull off)) (ht : (pc : Int) + off = (t : Int)) (hp : pc + 3 = pc') (k : ab_W G E j Q pc' ls st h) : ab_W G E j Q pc ls (.null :: st) h := fun P hC => hC.2.1.2.2.2.1 pc ls st h off t none hf ht (fun _ => hp ▸ k P hC) (fun _ z => by cases z)
theorem x_ac {off : Int} {a b : Nat} (t pc' : Nat) (hf : ab_f G j pc = some (.if_acmp .ne off)) (ht : (pc : Int) + off = (t : Int)) (hp : pc + 3 = pc') (ha : a < 1000000) (hb : b < 1000000) (kt : ¬ a = b → ab_W G E j Q t ls st h) (kf : a = b → ab_W G E j Q pc' ls st h) : ab_W G E j Q pc ls (.ref b :: .ref a :: st) h := fun P hC => hC.2.1.2.2.2.2.1 pc ls st h off t (some a) (some b) hf ht (fun _ z => by cases z; exact ha) (fun _ z => by cases z; exact hb) (fun z => kt (fun q => z (by rw [q])) P hC) (hp ▸ fun z => kf (Option.some.inj z) P hC)
theorem x_go {off : Int} (t : Nat) (hf : ab_f G j pc = some (.goto off)) (ht : (pc : Int) + off = (t : Int)) (k : ab_W G E j Q t ls st h) : ab_W G E j Q pc ls st h := fun P hC => hC.2.1.2.2.2.2.2.1 pc ls st h off t hf ht (k P hC)
theorem x_tin {d lo hi : Int} {offs : Array Int} {off : Int} {x : Int32} (t : Nat) (hf : ab_f G j pc = some (.tableswitch d lo hi offs)) (h1 : ¬ x.toInt < lo) (h2 : ¬ hi < x.toInt) (ho : offs[(x.toInt - lo).toNat]? = some off) (ht : (pc : Int) + off = (t : Int)) (k : ab_W G E j Q t ls st h) : ab_W G E j Q pc ls (.int x :: st) h := fun P hC => hC.2.1.2.2.2.2.2.2.1 pc ls st h d lo hi offs off t x hf h1 h2 ho ht (k P hC)
theorem x_tou {d lo hi : Int} {offs : Array Int} {x : Int32} (t : Nat) (hf : ab_f G j pc = some (.tableswitch d lo hi offs)) (h1 : x.toInt < lo ∨ hi < x.toInt) (ht : (pc : Int) + d = (t : Int)) (k : ab_W G E j Q t ls st h) : ab_W G E j Q pc ls (.int x :: st) h := fun P hC => hC.2.1.2.2.2.2.2.2.2.1 pc ls st h d lo hi offs t x hf h1 ht (k P hC)
theorem x_lku {d : Int} {ps : Array (Int × Int)} {off : Int} {x : Int32} (t : Nat) (hf : ab_f G j pc = some (.lookupswitch d ps)) (hs : (ps.toList.zip (ps.toList.drop 1)).all (fun (a, next) => a.1 < next.1) = true) (ho : Op.lookupswitch.offset ps.toList d x.toInt = off) (ht : (pc : Int) + off = (t : Int)) (k : ab_W G E j Q t ls st h) : ab_W G E j Q pc ls (.int x :: st) h := fun P hC => hC.2.1.2.2.2.2.2.2.2.2 pc ls st h d ps off t x hf hs ho ht (k P hC)
theorem x_get {fs : List Value} {v : Value} {a : Nat} (idx ci f pc' : Nat) (hf : ab_f G j pc = some (.getfield idx)) (hl : ab_lf G j idx = some (ci, f)) (ha : h[a]? = some (.inr (ci, fs))) (hv : fs[f]? = some v) (hp : pc + 3 = pc') (k : ab_W G E j Q pc' ls (v :: st) h) : ab_W G E j Q pc ls (.ref a :: st) h := fun P hC => hC.2.2.1.1 pc ls st h idx ci f fs v a hf hl ha hv (hp ▸ k P hC)
theorem x_put {fs : List Value} {v : Value} {a : Nat} {ty : FieldType} (idx ci f pc' : Nat) (hf : ab_f G j pc = some (.putfield idx)) (hl : ab_lf G j idx = some (ci, f)) (ha : h[a]? = some (.inr (ci, fs))) (hk : f < fs.length) (ht : ab_tf G ci f = some ty) (hn : narrow ty v = v) (hfi : fits ty v = true) (h' : ab_H) (hh : h.set a (.inr (ci, fs.set f v)) = h') (hp : pc + 3 = pc') (k : ab_W G E j Q pc' ls st h') : ab_W G E j Q pc ls (v :: .ref a :: st) h := fun P hC => hC.2.2.1.2.1 pc ls st h idx ci f fs v ty a hf hl ha hk ht hn hfi (hp ▸ hh ▸ k P hC)
theorem x_sta (idx a pc' : Nat) (hf : ab_f G j pc = some (.getstatic idx)) (hl : ab_ls G j idx = some a) (hp : pc + 3 = pc') (k : ab_W G E j Q pc' ls (.ref a :: st) h) : ab_W G E j Q pc ls st h := fun P hC => hC.2.2.1.2.2.1 pc ls st h idx a hf hl (hp ▸ k P hC)
theorem x_kld {a n : Nat} {xs : Nat → Int32} {i : Int32} (v : Int32) (pc' : Nat) (hf : ab_f G j pc = some .iaload) (ha : ab_ca G a = some (n, xs)) (hi : vp_in i n) (hv : xs i.toNatClampNeg = v) (hp : pc + 1 = pc') (k : ab_W G E j Q pc' ls (.int v :: st) h) : ab_W G E j Q pc ls (.int i :: .ref a :: st) h := fun P hC => hC.2.2.1.2.2.2.1 pc ls st h a n xs i hf ha hi (hp ▸ hv ▸ k P hC)
theorem x_kln {a n : Nat} {xs : Nat → Int32} (pc' : Nat) (hf : ab_f G j pc = some .arraylength) (ha : ab_ca G a = some (n, xs)) (hp : pc + 1 = pc') (k : ab_W G E j Q pc' ls (.int (Int32.ofNat n) :: st) h) : ab_W G E j Q pc ls (.ref a :: st) h := fun P hC => hC.2.2.1.2.2.2.2.1 pc ls st h a n xs hf ha (hp ▸ k P hC)
theorem x_ild {t a n : Nat} {xs : Nat → Int32} {i : Int32} (v : Int32) (pc' : Nat) (hf : ab_f G j pc = some .iaload) (ha : h[a]? = some (.inl (t, n, .inl xs))) (ht : ab_at G t = some .int) (hi : vp_in i n) (hv : xs i.toNatClampNeg = v) (hp : pc + 1 = pc') (k : ab_W G E j Q pc' ls (.int v :: st) h) : ab_W G E j Q pc ls (.int i :: .ref a :: st) h := fun P hC => hC.2.2.1.2.2.2.2.2.1 pc ls st h t n xs a i hf ha ht hi (hp ▸ hv ▸ k P hC)
theorem x_cld {t a n : Nat} {xs : Nat → Int32} {i : Int32} (v : Int32) (pc' : Nat) (hf : ab_f G j pc = some .caload) (ha : h[a]? = some (.inl (t, n, .inl xs))) (ht : ab_at G t = some .char) (hi : vp_in i n) (hv : xs i.toNatClampNeg = v) (hp : pc + 1 = pc') (k : ab_W G E j Q pc' ls (.int v :: st) h) : ab_W G E j Q pc ls (.int i :: .ref a :: st) h := fun P hC => hC.2.2.1.2.2.2.2.2.2.1 pc ls st h t n xs a i hf ha ht hi (hp ▸ hv ▸ k P hC)
theorem x_lld {t a n : Nat} {xs : Nat → Int64} {i : Int32} (v : Int64) (pc' : Nat) (hf : ab_f G j pc = some .laload) (ha : h[a]? = some (.inl (t, n, .inr (.inl xs)))) (ht : ab_at G t = some .long) (hi : vp_in i n) (hv : xs i.toNatClampNeg = v) (hp : pc + 1 = pc') (k : ab_W G E j Q pc' ls (.long v :: st) h) : ab_W G E j Q pc ls (.int i :: .ref a :: st) h := fun P hC => hC.2.2.1.2.2.2.2.2.2.2.1 pc ls st h t n xs a i hf ha ht hi (hp ▸ hv ▸ k P hC)
theorem x_ald {t a n : Nat} {xs : Nat → Option Nat} {i : Int32} {Cn : String} (v : Option Nat) (pc' : Nat) (hf : ab_f G j pc = some .aaload) (ha : h[a]? = some (.inl (t, n, .inr (.inr (.inr (.inr xs)))))) (ht : ab_at G t = some (.object Cn)) (hi : vp_in i n) (hv : xs i.toNatClampNeg = v) (hp : pc + 1 = pc') (k : ab_W G E j Q pc' ls (va_rf v :: st) h) : ab_W G E j Q pc ls (.int i :: .ref a :: st) h := fun P hC => hC.2.2.1.2.2.2.2.2.2.2.2.1 pc ls st h t n xs Cn a i hf ha ht hi (hp ▸ hv ▸ k P hC)
theorem x_ist {t a n : Nat} {xs : Nat → Int32} {i : Int32} {x : Int32} (pc' : Nat) (hf : ab_f G j pc = some .iastore) (ha : h[a]? = some (.inl (t, n, .inl xs))) (ht : ab_at G t = some .int) (hi : vp_in i n) (h' : ab_H) (hh : h.set a (.inl (t, n, .inl (upd xs i.toNatClampNeg x))) = h') (hp : pc + 1 = pc') (k : ab_W G E j Q pc' ls st h') : ab_W G E j Q pc ls (.int x :: .int i :: .ref a :: st) h := fun P hC => hC.2.2.1.2.2.2.2.2.2.2.2.2.1 pc ls st h t n xs a i x hf ha ht hi (hp ▸ hh ▸ k P hC)
theorem x_cts {t a n : Nat} {xs : Nat → Int32} {i : Int32} {x : Int32} (pc' : Nat) (hf : ab_f G j pc = some .castore) (ha : h[a]? = some (.inl (t, n, .inl xs))) (ht : ab_at G t = some .char) (hi : vp_in i n) (h' : ab_H) (hh : h.set a (.inl (t, n, .inl (upd xs i.toNatClampNeg (vp_nar .char x)))) = h') (hp : pc + 1 = pc') (k : ab_W G E j Q pc' ls st h') : ab_W G E j Q pc ls (.int x :: .int i :: .ref a :: st) h := fun P hC => hC.2.2.1.2.2.2.2.2.2.2.2.2.2.1 pc ls st h t n xs a i x hf ha ht hi (hp ▸ hh ▸ k P hC)
theorem x_lst {t a n : Nat} {xs : Nat → Int64} {i : Int32} {x : Int64} (pc' : Nat) (hf : ab_f G j pc = some .lastore) (ha : h[a]? = some (.inl (t, n, .inr (.inl xs)))) (ht : ab_at G t = some .long) (hi : vp_in i n) (h' : ab_H) (hh : h.set a (.inl (t, n, .inr (.inl (vp_updL xs i.toNatClampNeg x)))) = h') (hp : pc + 1 = pc') (k : ab_W G E j Q pc' ls st h') : ab_W G E j Q pc ls (.long x :: .int i :: .ref a :: st) h := fun P hC => hC.2.2.1.2.2.2.2.2.2.2.2.2.2.2.1 pc ls st h t n xs a i x hf ha ht hi (hp ▸ hh ▸ k P hC)
theorem x_ast {t a b n ci : Nat} {xs : Nat → Option Nat} {i : Int32} {fs : List Value} {r : vw_C} (pc' : Nat) (hf : ab_f G j pc = some .aastore) (ha : h[a]? = some (.inl (t, n, .inr (.inr (.inr (.inr xs)))))) (hb : h[b]? = some (.inr (ci, fs))) (hr : (ab_cl G)[ci]? = some r) (ht : ab_at G t = some (.object r.1)) (hi : vp_in i n) (h' : ab_H) (hh : h.set a (.inl (t, n, .inr (.inr (.inr (.inr (va_up xs i.toNatClampNeg (some b))))))) = h') (hp : pc + 1 = pc') (k : ab_W G E j Q pc' ls st h') : ab_W G E j Q pc ls (.ref b :: .int i :: .ref a :: st) h := fun P hC => hC.2.2.1.2.2.2.2.2.2.2.2.2.2.2.2.1 pc ls st h t n xs ci fs r a b i hf ha hb hr ht hi (hp ▸ hh ▸ k P hC)
theorem x_len {t a : Nat} {ty : FieldType} {x : vp_A} (v : Int32) (pc' : Nat) (hf : ab_f G j pc = some .arraylength) (ha : h[a]? = some (.inl (t, x))) (ht : ab_at G t = some ty) (hv : Int32.ofNat x.1 = v) (hp : pc + 1 = pc') (k : ab_W G E j Q pc' ls (.int v :: st) h) : ab_W G E j Q pc ls (.ref a :: st) h := fun P hC => hC.2.2.1.2.2.2.2.2.2.2.2.2.2.2.2.2.1 pc ls st h t ty x a hf ha ht (hp ▸ hv ▸ k P hC)
theorem x_new {fs : List Value} (idx ci pc' : Nat) (hf : ab_f G j pc = some (.new idx)) (hl : ab_lc G j idx = some ci) (hd : ab_df G ci = some fs) (h1 : h.length + 1 ≤ (ab_cap G).1) (h2 : ab_wt G h + fs.length ≤ (ab_cap G).2) (hp : pc + 3 = pc') (k : ab_W G E j Q pc' ls (.ref h.length :: st) (h ++ [.inr (ci, fs)])) : ab_W G E j Q pc ls st h := fun P hC => hC.2.2.1.2.2.2.2.2.2.2.2.2.2.2.2.2.2.1 pc ls st h idx ci fs hf hl hd h1 h2 (hp ▸ k P hC)
theorem x_na {aty : ArrayType} {ty : FieldType} {x0 : (Nat → Int32) ⊕ (Nat → Int64) ⊕ (Nat → UInt32) ⊕ (Nat → UInt64) ⊕ (Nat → Option Nat)} {n : Int32} (t N pc' : Nat) (hf : ab_f G j pc = some (.newarray aty)) (ht : ab_at G t = some ty) (hto : newarray.typeOf aty = ty) (hd : ab_dv ty = some x0) (hn : ¬ n < 0) (hN : n.toNatClampNeg = N) (hb : N ≤ 100000) (h1 : h.length + 1 ≤ (ab_cap G).1) (h2 : ab_wt G h + N ≤ (ab_cap G).2) (hp : pc + 2 = pc') (k : ab_W G E j Q pc' ls (.ref h.length :: st) (h ++ [.inl (t, N, x0)])) : ab_W G E j Q pc ls (.int n :: st) h := fun P hC => hC.2.2.1.2.2.2.2.2.2.2.2.2.2.2.2.2.2.2.1 pc ls st h aty t ty x0 n N hf ht hto hd hn hN hb h1 h2 (hp ▸ k P hC)
theorem x_nq {r : vw_C} {n : Int32} (idx ci t N pc' : Nat) (hf : ab_f G j pc = some (.anewarray idx)) (hl : ab_lc G j idx = some ci) (hr : (ab_cl G)[ci]? = some r) (ht : ab_at G t = some (.object r.1)) (hn : ¬ n < 0) (hN : n.toNatClampNeg = N) (hb : N ≤ 100000) (h1 : h.length + 1 ≤ (ab_cap G).1) (h2 : ab_wt G h + N ≤ (ab_cap G).2) (hp : pc + 3 = pc') (k : ab_W G E j Q pc' ls (.ref h.length :: st) (h ++ [.inl (t, N, .inr (.inr (.inr (.inr (fun _ => none)))))])) : ab_W G E j Q pc ls (.int n :: st) h := fun P hC => hC.2.2.1.2.2.2.2.2.2.2.2.2.2.2.2.2.2.2.2.1 pc ls st h idx t ci r n N hf hl hr ht hn hN hb h1 h2 (hp ▸ k P hC)
theorem x_kl (idx : Nat) (x : Int64) (pc' : Nat) (hf : ab_f G j pc = some (.ldc2_w idx)) (hl : ab_kl G j idx = some x) (hp : pc + 3 = pc') (k : ab_W G E j Q pc' ls (.long x :: st) h) : ab_W G E j Q pc ls st h := fun P hC => hC.2.2.1.2.2.2.2.2.2.2.2.2.2.2.2.2.2.2.2.2 pc ls st h idx x hf hl (hp ▸ k P hC)
theorem x_obj {a : Nat} (idx pc' : Nat) (hf : ab_f G j pc = some (.invokespecial idx)) (hl : ab_lm G j idx = some 1000000) (hs : (st.map (fun v => v.category)).sum ≤ 16) (hp : pc + 3 = pc') (k : ab_W G E j Q pc' ls st h) : ab_W G E j Q pc ls (.ref a :: st) h := fun P hC => hC.2.2.2.1.1 pc ls st h idx a hf hl hs (hp ▸ k P hC)
theorem x_cpi {t a b n0 n1 : Nat} {ty : FieldType} {xs ys : Nat → Int32} {sp dp n : Int32} (idx pc' : Nat) (hf : ab_f G j pc = some (.invokestatic idx)) (hl : ab_lm G j idx = some 1000001) (ha : h[a]? = some (.inl (t, n0, .inl xs))) (hb : h[b]? = some (.inl (t, n1, .inl ys))) (ht : ab_at G t = some ty) (hr : refKind ty = false) (h1 : ¬ sp < 0) (h2 : ¬ dp < 0) (h3 : ¬ n < 0) (h4 : sp.toNatClampNeg + n.toNatClampNeg ≤ n0) (h5 : dp.toNatClampNeg + n.toNatClampNeg ≤ n1) (h6 : ∀ i, i < n.toNatClampNeg → fits ty (.int (xs (sp.toNatClampNeg + i))) = true) (hs : (st.map (fun v => v.category)).sum ≤ 16) (hp : pc + 3 = pc') (k : ab_W G E j Q pc' ls st (h.set b (.inl (t, n1, .inl (va_cpy xs ys sp.toNatClampNeg dp.toNatClampNeg n.toNatClampNeg))))) : ab_W G E j Q pc ls (.int n :: .int dp :: .ref b :: .int sp :: .ref a :: st) h := fun P hC => hC.2.2.2.1.2.1 pc ls st h idx t ty n0 n1 xs ys a b sp dp n hf hl ha hb ht hr h1 h2 h3 h4 h5 h6 hs (hp ▸ k P hC)
theorem x_cpl {t a b n0 n1 : Nat} {xs ys : Nat → Int64} {sp dp n : Int32} (idx pc' : Nat) (hf : ab_f G j pc = some (.invokestatic idx)) (hl : ab_lm G j idx = some 1000001) (ha : h[a]? = some (.inl (t, n0, .inr (.inl xs)))) (hb : h[b]? = some (.inl (t, n1, .inr (.inl ys)))) (ht : ab_at G t = some .long) (h1 : ¬ sp < 0) (h2 : ¬ dp < 0) (h3 : ¬ n < 0) (h4 : sp.toNatClampNeg + n.toNatClampNeg ≤ n0) (h5 : dp.toNatClampNeg + n.toNatClampNeg ≤ n1) (hs : (st.map (fun v => v.category)).sum ≤ 16) (hp : pc + 3 = pc') (k : ab_W G E j Q pc' ls st (h.set b (.inl (t, n1, .inr (.inl (va_cpy xs ys sp.toNatClampNeg dp.toNatClampNeg n.toNatClampNeg)))))) : ab_W G E j Q pc ls (.int n :: .int dp :: .ref b :: .int sp :: .ref a :: st) h := fun P hC => hC.2.2.2.1.2.2.1 pc ls st h idx t n0 n1 xs ys a b sp dp n hf hl ha hb ht h1 h2 h3 h4 h5 hs (hp ▸ k P hC)
theorem x_max {x y : Int32} (idx pc' : Nat) (hf : ab_f G j pc = some (.invokestatic idx)) (hl : ab_lm G j idx = some 1000002) (hs : (st.map (fun v => v.category)).sum ≤ 16) (hp : pc + 3 = pc') (k : ab_W G E j Q pc' ls (.int (if x < y then y else x) :: st) h) : ab_W G E j Q pc ls (.int y :: .int x :: st) h := fun P hC => hC.2.2.2.1.2.2.2.1 pc ls st h idx x y hf hl hs (hp ▸ k P hC)
theorem x_min {x y : Int32} (idx pc' : Nat) (hf : ab_f G j pc = some (.invokestatic idx)) (hl : ab_lm G j idx = some 1000003) (hs : (st.map (fun v => v.category)).sum ≤ 16) (hp : pc + 3 = pc') (k : ab_W G E j Q pc' ls (.int (if y < x then y else x) :: st) h) : ab_W G E j Q pc ls (.int y :: .int x :: st) h := fun P hC => hC.2.2.2.1.2.2.2.2 pc ls st h idx x y hf hl hs (hp ▸ k P hC)
theorem x_ret {i : Instr} {v : Value} {ty : FieldType} (hf : ab_f G j pc = some i) (hr : ab_re i v ty = true) (ht : ab_rt G j = some ty) (hn : narrow ty v = v) (k : Q (.inl (some v)) h) : ab_W G E j Q pc ls [v] h := fun P hC => hC.2.2.2.2.2.1 pc ls h i v ty hf hr ht hn k
theorem x_rtv (hf : ab_f G j pc = some .return_) (ht : ab_rt G j = none) (k : Q (.inl none) h) : ab_W G E j Q pc ls [] h := fun P hC => hC.2.2.2.2.2.2.1 pc ls h hf ht k
theorem x_thr (idx ci a m : Nat) (hf : ab_f G j pc = some (.new idx)) (hl : ab_lc G j idx = some ci) (hd : ab_df G ci = none) (f1 : ab_f G j (pc + 3) = some .dup) (f2 : ab_f G j (pc + 4) = some (.ldc a)) (f3 : ab_f G j (pc + 6) = some (.invokespecial m)) (f4 : ab_lm G j m = some 1000004) (f5 : ab_f G j (pc + 9) = some .athrow) (h1 : h.length + 1 ≤ (ab_cap G).1) (h2 : ab_wt G h + ab_wc G ci ≤ (ab_cap G).2) (hs : (st.map (fun v => v.category)).sum ≤ 16) (k : Q (.inr h.length) (h ++ [.inr (ci, [])])) : ab_W G E j Q pc ls st h := fun P hC => hC.2.2.2.2.2.2.2 pc ls st h idx ci a m hf hl hd f1 f2 f3 f4 f5 h1 h2 hs k
end Xx
/-- a call whose answer and heap are known -/
def ab_S (G : ab_G) (d jj : Nat) (as : List Value) (h : ab_H) (v : Option Value) (h1 : ab_H) : Prop := ab_X G d jj as h (fun r h' => r = .inl v ∧ h' = h1)
section Xy
variable {G : ab_G} {d j : Nat} {Q : ab_Q} {pc : Nat} {ls : ab_L} {h : ab_H}
theorem x_cl {i : Instr} {stk st : List Value} (idx jj pc' : Nat) (as : List Value) (Qc : ab_Q) (hf : ab_f G j pc = some i) (hi : ab_iv i = some idx) (hl : ab_lm G j idx = some jj) (hj : jj < 1000000) (hst : stk = as.reverse ++ st) (hn : as.length = ab_na G jj) (hin : (ab_in as).length ≤ ab_n G jj) (hr : ab_rv G jj as h) (hs : (st.map (fun v => v.category)).sum ≤ 16) (hc : ab_X G d jj as h Qc) (hp : pc + 3 = pc') (k : ∀ r h', Qc r h' → match r with | .inl v => ab_W G (ab_X G d) j Q pc' ls (v.toList ++ st) h' | .inr x => ∃ (ci : Nat) (fs : List Value), h'[x]? = some (.inr (ci, fs)) ∧ match ab_ct G j pc ci with | some 0 => Q (.inr x) h' | some (t + 1) => ab_W G (ab_X G d) j Q (t + 1) ls [.ref x] h' | none => False) : ab_W G (ab_X G d) j Q pc ls stk h := by
  subst hst
  subst hp
  intro P hC
  refine hC.2.2.2.2.1 pc ls st h i idx jj as hf hi hl hj hn hin hr hs (ab_X_mono d _ _ _ _ _ (fun r h' hq => ?_) hc)
  have hk := k r h' hq
  cases r with
  | inl v => exact hk P hC
  | inr x =>
    obtain ⟨ci, fs, h1, h2⟩ := hk
    refine ⟨ci, fs, h1, ?_⟩
    cases hct : ab_ct G j pc ci with
    | none => rw [hct] at h2; exact h2.elim
    | some t =>
      rw [hct] at h2
      cases t with
      | zero => exact h2
      | succ t => exact h2 P hC
theorem x_cv {i : Instr} {stk st : List Value} {v : Option Value} {h1 : ab_H} (idx jj pc' : Nat) (as : List Value) (hf : ab_f G j pc = some i) (hi : ab_iv i = some idx) (hl : ab_lm G j idx = some jj) (hj : jj < 1000000) (hst : stk = as.reverse ++ st) (hn : as.length = ab_na G jj) (hin : (ab_in as).length ≤ ab_n G jj) (hr : ab_rv G jj as h) (hs : (st.map (fun v => v.category)).sum ≤ 16) (hc : ab_S G d jj as h v h1) (hp : pc + 3 = pc') (k : ab_W G (ab_X G d) j Q pc' ls (v.toList ++ st) h1) : ab_W G (ab_X G d) j Q pc ls stk h :=
  x_cl idx jj pc' as _ hf hi hl hj hst hn hin hr hs hc hp (fun r h' hq => by obtain ⟨rfl, rfl⟩ := hq; exact k)
end Xy
end
