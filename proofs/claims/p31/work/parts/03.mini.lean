/-! THE LITTLE MACHINE: an interpreter of the instructions that the claim's own methods use, over a heap that is a function of the address -/
abbrev zH : Type := Nat → va_E
/-- the next address, the slots that were made, the addresses of the String constants -/
abbrev zZ : Type := Nat × Nat × (Nat → Nat)
def zJ : Value := .retAddr 0
def zi (n : Int) : Int32 := Int32.ofInt n
def zl (n : Int) : Int64 := Int64.ofInt n
def zup (h : zH) (a : Nat) (c : va_E) : zH := fun x => if x = a then c else h x
def zlk : List (Nat × Instr) → Nat → Option Instr
  | [], _ => none
  | q :: r, k => cond (Nat.beq q.1 k) (some q.2) (zlk r k)
def zplk : List (Nat × Nat × Nat × Nat × Int) → Nat → Option (Nat × Nat × Nat × Int)
  | [], _ => none
  | q :: r, k => cond (Nat.beq q.1 k) (some q.2) (zplk r k)
def zcode (mi pc : Nat) : Option Instr := (zM[mi]?).bind fun q => zlk q.2.2.2.2.2.2.2 pc
def zpool (mi idx : Nat) : Option (Nat × Nat × Nat × Int) := (zM[mi]?).bind fun q => (zPool[q.2.2.2.2.2.2.1]?).bind fun p => zplk p idx
def zrk (mi : Nat) : Nat := match zM[mi]? with
  | some q => q.2.2.2.2.2.1
  | none => 0
def zmaxL (mi : Nat) : Nat := match zM[mi]? with
  | some q => q.2.2.2.1
  | none => 0
def zrty (mi : Nat) : Option FieldType := match zM[mi]? with
  | some q => q.2.2.2.2.1
  | none => none
def zoc (mi : Nat) : Nat := match zM[mi]? with
  | some q => q.2.2.2.2.2.2.1
  | none => 999
def zisI (mi : Nat) : Bool := match zM[mi]? with
  | some q => q.2.1.name == "<init>"
  | none => false
/-- a field's type -/
def zfty (ci k : Nat) : FieldType := match zTyp[ci]? with
  | some f => f k
  | none => .byte
def zcat (S : List Value) : Nat := (S.map fun v => v.category).sum
def zfl (args : List Value) : List Value := args.flatMap fun v => if v.category = 2 then [v, zJ] else [v]
def zent (args : List Value) (n : Nat) : List Value := zfl args ++ List.replicate (n - (zfl args).length) zJ
def zkill (v : Value) : Value := if v.category = 2 then zJ else v
def zmd (L : List Value) : Nat → List Value
  | 0 => L
  | j + 1 => L.modify j zkill
def zst1 (L : List Value) (i : Nat) (v : Value) : List Value := (zmd L i).set i v
def zst2 (L : List Value) (i : Nat) (v : Value) : List Value := ((zmd L i).set i v).set (i + 1) zJ
def zjmp (pc : Nat) (off : Int) : Option Nat := if 0 ≤ (pc : Int) + off then some ((pc : Int) + off).toNat else none
def zc2 (c : ClassFile.Cond) (x y : Int32) : Bool := match c with
  | .eq => decide (x = y)
  | .ne => decide (¬ x = y)
  | .lt => decide (x < y)
  | .ge => decide (y ≤ x)
  | .gt => decide (y < x)
  | .le => decide (x ≤ y)
/-- cells -/
def zisC (c : va_E) (ci : Nat) : Bool := match c with
  | .inr o => Nat.beq o.1 ci
  | .inl _ => false
def zget (ci k : Nat) (c : va_E) : Option Value := match c with
  | .inr o => if o.1 = ci then o.2[k]? else none
  | .inl _ => none
def zfit (ty : FieldType) (v : Value) : Bool := decide (narrow ty v = v) && fits ty v
def zput (ci k : Nat) (v : Value) (c : va_E) : Option va_E := match c with
  | .inr o => if o.1 = ci ∧ k < o.2.length ∧ zfit (zfty ci k) v = true then some (.inr (o.1, o.2.set k v)) else none
  | .inl _ => none
def zidx (i : Int32) (n : Nat) : Bool := decide (0 ≤ i.toInt) && decide (i.toInt < n)
/-- an int, a char or a boolean out of an array of tag t (of ints: the script's, tag 9, too) -/
def zald (t : Nat) (i : Int32) (c : va_E) : Option Int32 := match c with
  | .inl (t', n, .inl f) => if (t' = t ∨ (t = 0 ∧ t' = 9)) ∧ zidx i n = true then some (f i.toNatClampNeg) else none
  | _ => none
def zldl (i : Int32) (c : va_E) : Option Int64 := match c with
  | .inl (1, n, .inr (.inl f)) => if zidx i n = true then some (f i.toNatClampNeg) else none
  | _ => none
def zldr (i : Int32) (c : va_E) : Option Value := match c with
  | .inl (t, n, .inr (.inr (.inr (.inr f)))) => if (t = 4 ∨ t = 5) ∧ zidx i n = true then some (va_rf (f i.toNatClampNeg)) else none
  | _ => none
def znar (t : Nat) (x : Int32) : Int32 := match t with
  | 2 => vp_nar .char x
  | 3 => vp_nar .boolean x
  | _ => x
def zast (t : Nat) (i x : Int32) (c : va_E) : Option va_E := match c with
  | .inl (t', n, .inl f) => if t' = t ∧ zidx i n = true then some (.inl (t', n, .inl (upd f i.toNatClampNeg (znar t x)))) else none
  | _ => none
def zstl (i : Int32) (x : Int64) (c : va_E) : Option va_E := match c with
  | .inl (1, n, .inr (.inl f)) => if zidx i n = true then some (.inl (1, n, .inr (.inl (vp_updL f i.toNatClampNeg x)))) else none
  | _ => none
def zstr (i : Int32) (v : Nat) (cv c : va_E) : Option va_E := match c with
  | .inl (t, n, .inr (.inr (.inr (.inr f)))) => if (t = 4 ∨ t = 5) ∧ zidx i n = true ∧ zisC cv (zArC t) = true then some (.inl (t, n, .inr (.inr (.inr (.inr (va_up f i.toNatClampNeg (some v))))))) else none
  | _ => none
def zaln (c : va_E) : Option Int32 := match c with
  | .inl (t, n, _) => if t < 6 ∨ t = 9 then some (zi n) else none
  | .inr _ => none
def zslen (c : va_E) : Option Int32 := match c with
  | .inl (10, n, .inl _) => some (zi n)
  | _ => none
def zschr (i : Int32) (c : va_E) : Option Int32 := match c with
  | .inl (10, n, .inl f) => if zidx i n = true then some (f i.toNatClampNeg) else none
  | _ => none
def zcpy (sp dp n : Int32) (cs cd : va_E) : Option va_E := match cs, cd with
  | .inl (t0, n0, .inl f), .inl (t1, n1, .inl g) => if t0 = 0 ∧ t1 = 0 ∧ 0 ≤ sp.toInt ∧ 0 ≤ dp.toInt ∧ 0 ≤ n.toInt ∧ sp.toInt + n.toInt ≤ n0 ∧ dp.toInt + n.toInt ≤ n1 then some (.inl (0, n1, .inl (va_cpy f g sp.toNatClampNeg dp.toNatClampNeg n.toNatClampNeg))) else none
  | _, _ => none
def zaty : ArrayType → Nat
  | .int => 0
  | .char => 2
  | .boolean => 3
  | _ => 99
def znew (t n : Nat) : va_E := match t with
  | 1 => .inl (1, n, .inr (.inl fun _ => 0))
  | _ => .inl (t, n, .inl fun _ => 0)
abbrev zR : Type := Nat × List Value × List Value × zZ × zH
/-- one instruction that is no call and no return -/
def zstp (mi : Nat) (i : Instr) (pc : Nat) (L S : List Value) (z : zZ) (h : zH) : Option zR := match i with
  | .iconst n => some (pc + 1, L, .int (zi n) :: S, z, h)
  | .bipush n => some (pc + 2, L, .int (zi n) :: S, z, h)
  | .sipush n => some (pc + 3, L, .int (zi n) :: S, z, h)
  | .lconst n => some (pc + 1, L, .long (zl (n.val : Int)) :: S, z, h)
  | .ldc k => match zpool mi k with
    | some (4, _, _, v) => some (pc + 2, L, .int (zi v) :: S, z, h)
    | some (6, j, _, _) => some (pc + 2, L, .ref (z.2.2 j) :: S, z, h)
    | _ => none
  | .ldc_w k => match zpool mi k with
    | some (4, _, _, v) => some (pc + 3, L, .int (zi v) :: S, z, h)
    | _ => none
  | .ldc2_w k => match zpool mi k with
    | some (5, _, _, v) => some (pc + 3, L, .long (zl v) :: S, z, h)
    | _ => none
  | .iload_n k => match L[k.val]? with
    | some (.int x) => some (pc + 1, L, .int x :: S, z, h)
    | _ => none
  | .iload k => match L[k]? with
    | some (.int x) => some (pc + 2, L, .int x :: S, z, h)
    | _ => none
  | .lload_n k => match L[k.val]? with
    | some (.long x) => some (pc + 1, L, .long x :: S, z, h)
    | _ => none
  | .lload k => match L[k]? with
    | some (.long x) => some (pc + 2, L, .long x :: S, z, h)
    | _ => none
  | .aload_n k => match L[k.val]? with
    | some (.ref x) => some (pc + 1, L, .ref x :: S, z, h)
    | _ => none
  | .aload k => match L[k]? with
    | some (.ref x) => some (pc + 2, L, .ref x :: S, z, h)
    | _ => none
  | .istore_n k => match S with
    | .int x :: S => if k.val < L.length then some (pc + 1, zst1 L k.val (.int x), S, z, h) else none
    | _ => none
  | .istore k => match S with
    | .int x :: S => if k < L.length then some (pc + 2, zst1 L k (.int x), S, z, h) else none
    | _ => none
  | .astore_n k => match S with
    | .ref x :: S => if k.val < L.length then some (pc + 1, zst1 L k.val (.ref x), S, z, h) else none
    | _ => none
  | .lstore_n k => match S with
    | .long x :: S => if k.val + 1 < L.length then some (pc + 1, zst2 L k.val (.long x), S, z, h) else none
    | _ => none
  | .lstore k => match S with
    | .long x :: S => if k + 1 < L.length then some (pc + 2, zst2 L k (.long x), S, z, h) else none
    | _ => none
  | .iinc k n => match L[k]? with
    | some (.int x) => some (pc + 3, zst1 L k (.int (x + zi n)), S, z, h)
    | _ => none
  | .iadd => match S with
    | .int y :: .int x :: S => some (pc + 1, L, .int (x + y) :: S, z, h)
    | _ => none
  | .isub => match S with
    | .int y :: .int x :: S => some (pc + 1, L, .int (x - y) :: S, z, h)
    | _ => none
  | .imul => match S with
    | .int y :: .int x :: S => some (pc + 1, L, .int (x * y) :: S, z, h)
    | _ => none
  | .idiv => match S with
    | .int y :: .int x :: S => if y = 0 then none else some (pc + 1, L, .int (x / y) :: S, z, h)
    | _ => none
  | .irem => match S with
    | .int y :: .int x :: S => if y = 0 then none else some (pc + 1, L, .int (x - x / y * y) :: S, z, h)
    | _ => none
  | .iand => match S with
    | .int y :: .int x :: S => some (pc + 1, L, .int (x &&& y) :: S, z, h)
    | _ => none
  | .ior => match S with
    | .int y :: .int x :: S => some (pc + 1, L, .int (x ||| y) :: S, z, h)
    | _ => none
  | .ishr => match S with
    | .int y :: .int x :: S => some (pc + 1, L, .int (x >>> (y &&& 31)) :: S, z, h)
    | _ => none
  | .ladd => match S with
    | .long y :: .long x :: S => some (pc + 1, L, .long (x + y) :: S, z, h)
    | _ => none
  | .lsub => match S with
    | .long y :: .long x :: S => some (pc + 1, L, .long (x - y) :: S, z, h)
    | _ => none
  | .lmul => match S with
    | .long y :: .long x :: S => some (pc + 1, L, .long (x * y) :: S, z, h)
    | _ => none
  | .ldiv => match S with
    | .long y :: .long x :: S => if y = 0 then none else some (pc + 1, L, .long (x / y) :: S, z, h)
    | _ => none
  | .lrem => match S with
    | .long y :: .long x :: S => if y = 0 then none else some (pc + 1, L, .long (x - x / y * y) :: S, z, h)
    | _ => none
  | .lcmp => match S with
    | .long y :: .long x :: S => some (pc + 1, L, .int (lg_cmp x y) :: S, z, h)
    | _ => none
  | .i2l => match S with
    | .int x :: S => some (pc + 1, L, .long x.toInt64 :: S, z, h)
    | _ => none
  | .l2i => match S with
    | .long x :: S => some (pc + 1, L, .int x.toInt32 :: S, z, h)
    | _ => none
  | .i2c => match S with
    | .int x :: S => some (pc + 1, L, .int (x.toUInt32 % 65536).toInt32 :: S, z, h)
    | _ => none
  | .dup => match S with
    | v :: S => if v.category = 1 then some (pc + 1, L, v :: v :: S, z, h) else none
    | _ => none
  | .dup2 => match S with
    | v :: w :: S => if v.category = 1 ∧ w.category = 1 then some (pc + 1, L, v :: w :: v :: w :: S, z, h) else none
    | _ => none
  | .pop => match S with
    | v :: S => if v.category = 1 then some (pc + 1, L, S, z, h) else none
    | _ => none
  | .goto o => match zjmp pc o with
    | some t => some (t, L, S, z, h)
    | none => none
  | .ifCond c o => match S with
    | .int x :: S => match zjmp pc o with
      | some t => some (cond (zc2 c x 0) t (pc + 3), L, S, z, h)
      | none => none
    | _ => none
  | .if_icmp c o => match S with
    | .int y :: .int x :: S => match zjmp pc o with
      | some t => some (cond (zc2 c x y) t (pc + 3), L, S, z, h)
      | none => none
    | _ => none
  | .tableswitch d lo hi offs => match S with
    | .int x :: S => if x.toInt < lo ∨ hi < x.toInt then match zjmp pc d with
        | some t => some (t, L, S, z, h)
        | none => none
      else match offs[(x.toInt - lo).toNat]? with
        | some o => match zjmp pc o with
          | some t => some (t, L, S, z, h)
          | none => none
        | none => none
    | _ => none
  | .lookupswitch d ps => match S with
    | .int x :: S => if (ps.toList.zip (ps.toList.drop 1)).all (fun (a, next) => a.1 < next.1) = true then match zjmp pc (Op.lookupswitch.offset ps.toList d x.toInt) with
        | some t => some (t, L, S, z, h)
        | none => none
      else none
    | _ => none
  | .getfield k => match zpool mi k, S with
    | some (0, ci, j, _), .ref a :: S => match zget ci j (h a) with
      | some v => some (pc + 3, L, v :: S, z, h)
      | none => none
    | some (1, ci, j, _), .ref a :: S => match zget ci j (h a) with
      | some v => some (pc + 3, L, v :: S, z, h)
      | none => none
    | _, _ => none
  | .putfield k => match zpool mi k, S with
    | some (0, ci, j, _), v :: .ref a :: S => match zput ci j v (h a) with
      | some c => some (pc + 3, L, S, z, zup h a c)
      | none => none
    | some (1, ci, j, _), v :: .ref a :: S => if zisI mi = true ∧ zoc mi = ci then match zput ci j v (h a) with
        | some c => some (pc + 3, L, S, z, zup h a c)
        | none => none
      else none
    | _, _ => none
  | .iaload => match S with
    | .int i :: .ref a :: S => match zald 0 i (h a) with
      | some x => some (pc + 1, L, .int x :: S, z, h)
      | none => none
    | _ => none
  | .caload => match S with
    | .int i :: .ref a :: S => match zald 2 i (h a) with
      | some x => some (pc + 1, L, .int x :: S, z, h)
      | none => none
    | _ => none
  | .baload => match S with
    | .int i :: .ref a :: S => match zald 3 i (h a) with
      | some x => some (pc + 1, L, .int x :: S, z, h)
      | none => none
    | _ => none
  | .aaload => match S with
    | .int i :: .ref a :: S => match zldr i (h a) with
      | some v => some (pc + 1, L, v :: S, z, h)
      | none => none
    | _ => none
  | .iastore => match S with
    | .int x :: .int i :: .ref a :: S => match zast 0 i x (h a) with
      | some c => some (pc + 1, L, S, z, zup h a c)
      | none => none
    | _ => none
  | .castore => match S with
    | .int x :: .int i :: .ref a :: S => match zast 2 i x (h a) with
      | some c => some (pc + 1, L, S, z, zup h a c)
      | none => none
    | _ => none
  | .bastore => match S with
    | .int x :: .int i :: .ref a :: S => match zast 3 i x (h a) with
      | some c => some (pc + 1, L, S, z, zup h a c)
      | none => none
    | _ => none
  | .aastore => match S with
    | .ref v :: .int i :: .ref a :: S => match zstr i v (h v) (h a) with
      | some c => some (pc + 1, L, S, z, zup h a c)
      | none => none
    | _ => none
  | .arraylength => match S with
    | .ref a :: S => match zaln (h a) with
      | some n => some (pc + 1, L, .int n :: S, z, h)
      | none => none
    | _ => none
  | .new k => match zpool mi k with
    | some (2, ci, _, _) => match zDef[ci]? with
      | some fs => some (pc + 3, L, .ref z.1 :: S, (z.1 + 1, z.2.1 + fs.length, z.2.2), zup h z.1 (.inr (ci, fs)))
      | none => none
    | _ => none
  | .newarray t => match S with
    | .int n :: S => if zaty t < 4 ∧ 0 ≤ n.toInt ∧ n.toInt < 10000 then some (pc + 2, L, .ref z.1 :: S, (z.1 + 1, z.2.1 + n.toNatClampNeg, z.2.2), zup h z.1 (znew (zaty t) n.toNatClampNeg)) else none
    | _ => none
  | .anewarray k => match zpool mi (k + 100000), S with
    | some (3, t, _, _), .int n :: S => if 0 ≤ n.toInt ∧ n.toInt < 10000 then some (pc + 3, L, .ref z.1 :: S, (z.1 + 1, z.2.1 + n.toNatClampNeg, z.2.2), zup h z.1 (.inl (t, n.toNatClampNeg, .inr (.inr (.inr (.inr fun _ => none)))))) else none
    | _, _ => none
  | .invokespecial k => match zpool mi k, S with
    | some (15, _, _, _), .ref _ :: S => if zcat S ≤ 8 ∧ 0 < zrk mi then some (pc + 3, L, S, z, h) else none
    | _, _ => none
  | .invokestatic k => match zpool mi k, S with
    | some (16, _, _, _), .int y :: .int x :: S => if zcat S ≤ 8 ∧ 0 < zrk mi then some (pc + 3, L, .int (if y < x then y else x) :: S, z, h) else none
    | some (17, _, _, _), .int y :: .int x :: S => if zcat S ≤ 8 ∧ 0 < zrk mi then some (pc + 3, L, .int (if x < y then y else x) :: S, z, h) else none
    | some (18, _, _, _), .int n :: .int dp :: .ref a :: .int sp :: .ref b :: S => if zcat S ≤ 8 ∧ 0 < zrk mi then match zcpy sp dp n (h b) (h a) with
        | some c => some (pc + 3, L, S, z, zup h a c)
        | none => none
      else none
    | _, _ => none
  | .invokevirtual k => match zpool mi k, S with
    | some (19, _, _, _), .ref a :: S => if zcat S ≤ 8 ∧ 3 < zrk mi then match zslen (h a) with
        | some n => some (pc + 3, L, .int n :: S, z, h)
        | none => none
      else none
    | some (20, _, _, _), .int i :: .ref a :: S => if zcat S ≤ 8 ∧ 3 < zrk mi then match zschr i (h a) with
        | some n => some (pc + 3, L, .int n :: S, z, h)
        | none => none
      else none
    | _, _ => none
  | _ => none
/-- a call of one of the claim's own methods: which, its arguments, what is left of the stack -/
def zcall (mi : Nat) (i : Instr) (S : List Value) (h : zH) : Option (Nat × List Value × List Value) := match i with
  | .invokevirtual k => match zpool mi k with
    | some (10, m2, na, ci) => match S.drop na with
      | .ref a :: r => if zisC (h a) ci.toNat = true ∧ zcat r ≤ 8 ∧ zrk m2 < zrk mi ∧ (zfl (.ref a :: (S.take na).reverse)).length ≤ zmaxL m2 then some (m2, .ref a :: (S.take na).reverse, r) else none
      | _ => none
    | _ => none
  | .invokespecial k => match zpool mi k with
    | some (12, m2, na, _) => match S.drop na with
        | .ref a :: r => if zcat r ≤ 8 ∧ zrk m2 < zrk mi ∧ (zfl (.ref a :: (S.take na).reverse)).length ≤ zmaxL m2 then some (m2, .ref a :: (S.take na).reverse, r) else none
        | _ => none
    | some (14, m2, na, _) => match S.drop na with
        | .ref a :: r => if zcat r ≤ 8 ∧ zrk m2 < zrk mi ∧ (zfl (.ref a :: (S.take na).reverse)).length ≤ zmaxL m2 then some (m2, .ref a :: (S.take na).reverse, r) else none
        | _ => none
    | _ => none
  | .invokestatic k => match zpool mi k with
    | some (11, m2, na, _) => if na ≤ S.length ∧ zcat (S.drop na) ≤ 8 ∧ zrk m2 < zrk mi ∧ (zfl (S.take na).reverse).length ≤ zmaxL m2 then some (m2, (S.take na).reverse, S.drop na) else none
    | some (13, m2, na, _) => if na ≤ S.length ∧ zcat (S.drop na) ≤ 8 ∧ zrk m2 < zrk mi ∧ (zfl (S.take na).reverse).length ≤ zmaxL m2 then some (m2, (S.take na).reverse, S.drop na) else none
    | _ => none
  | _ => none
/-- a return -/
def zret (mi : Nat) (i : Instr) (S : List Value) : Option (Option Value) := match i with
  | .ireturn => match S, zrty mi with
    | [.int v], some ty => if narrow ty (.int v) = .int v then some (some (.int v)) else none
    | _, _ => none
  | .lreturn => match S, zrty mi with
    | [.long v], some .long => some (some (.long v))
    | _, _ => none
  | .areturn => match S, zrty mi with
    | [.ref v], some (.object _) => some (some (.ref v))
    | _, _ => none
  | .return_ => match S, zrty mi with
    | [], none => some none
    | _, _ => none
  | _ => none
def zex : Nat → Nat → Nat → List Value → List Value → zZ → zH → Option (Option Value × zZ × zH)
  | 0, _, _, _, _, _, _ => none
  | n + 1, mi, pc, L, S, z, h => match zcode mi pc with
    | none => none
    | some i => match zcall mi i S h with
      | some c => match zex n c.1 0 (zent c.2.1 (zmaxL c.1)) [] z h with
        | some q => zex n mi (pc + 3) L (q.1.toList ++ c.2.2) q.2.1 q.2.2
        | none => none
      | none => match zret mi i S with
        | some r => some (r, z, h)
        | none => match zstp mi i pc L S z h with
          | some q => zex n mi q.1 q.2.1 q.2.2.1 q.2.2.2.1 q.2.2.2.2
          | none => none
