/-! THE MODEL MACHINE: frames, heap and steps as plain data; what it does the machine does too (parts 1x). -/
/-- a cell: an array (its kind, its length and contents) or an object (its class's number, its fields) -/
abbrev mq_E : Type := (Nat × vp_A) ⊕ (Nat × List Value)
/-- cells made, slots made, what each cell holds -/
abbrev mq_H : Type := Nat × Nat × (Nat → mq_E)
abbrev mq_L : Type := List (Option Value)
def mq_dead : mq_E := .inl (99, 0, .inl (fun _ => 0))
def mq_up (f : Nat → mq_E) (k : Nat) (x : mq_E) : Nat → mq_E := fun j => if j = k then x else f j
def mq_dl (o : Option Value) : Option Value := match o with
  | some (.long _) => none
  | some (.double _) => none
  | some (.int x) => some (.int x)
  | some (.ref x) => some (.ref x)
  | some .null => some .null
  | _ => none
/-- a value of one slot into the locals -/
def mq_s1 : mq_L → Nat → Value → mq_L
  | [], _, _ => []
  | _ :: t, 0, v => some v :: t
  | x :: t, 1, v => mq_dl x :: mq_s1 t 0 v
  | x :: t, n + 2, v => x :: mq_s1 t (n + 1) v
/-- a value of two slots into the locals -/
def mq_s2 : mq_L → Nat → Value → mq_L
  | [], _, _ => []
  | _ :: t, 0, v => some v :: (match t with
    | [] => []
    | _ :: t' => none :: t')
  | x :: t, 1, v => mq_dl x :: mq_s2 t 0 v
  | x :: t, n + 2, v => x :: mq_s2 t (n + 1) v
def mq_ld (ls : mq_L) (i : Nat) : Option Value := match ls[i]? with
  | some o => o
  | none => none
def mq_un : Instr → Value → Option Value
  | .ineg, .int x => some (.int (-x))
  | .lneg, .long x => some (.long (-x))
  | .i2l, .int x => some (.long x.toInt64)
  | .l2i, .long x => some (.int x.toInt32)
  | .i2c, .int x => some (.int (x.toUInt32 % 65536).toInt32)
  | .i2b, .int x => some (.int x.toInt8.toInt32)
  | _, _ => none
/-- the lower operand, then the upper -/
def mq_bin : Instr → Value → Value → Option Value
  | .iadd, .int x, .int y => some (.int (x + y))
  | .isub, .int x, .int y => some (.int (x - y))
  | .imul, .int x, .int y => some (.int (x * y))
  | .idiv, .int x, .int y => if y = 0 then none else some (.int (x / y))
  | .irem, .int x, .int y => if y = 0 then none else some (.int (x - x / y * y))
  | .iand, .int x, .int y => some (.int (x &&& y))
  | .ior, .int x, .int y => some (.int (x ||| y))
  | .ixor, .int x, .int y => some (.int (x ^^^ y))
  | .ishl, .int x, .int y => some (.int (x <<< (y &&& 31)))
  | .ishr, .int x, .int y => some (.int (x >>> (y &&& 31)))
  | .iushr, .int x, .int y => some (.int (x.toUInt32 >>> (y.toUInt32 &&& Int32.toUInt32 31)).toInt32)
  | .ladd, .long x, .long y => some (.long (x + y))
  | .lsub, .long x, .long y => some (.long (x - y))
  | .lmul, .long x, .long y => some (.long (x * y))
  | .ldiv, .long x, .long y => if y = 0 then none else some (.long (x / y))
  | .lrem, .long x, .long y => if y = 0 then none else some (.long (x - x / y * y))
  | .land, .long x, .long y => some (.long (x &&& y))
  | .lor, .long x, .long y => some (.long (x ||| y))
  | .lxor, .long x, .long y => some (.long (x ^^^ y))
  | .lshl, .long x, .int y => some (.long (x <<< (y.toInt64 &&& 63)))
  | .lshr, .long x, .int y => some (.long (x >>> (y.toInt64 &&& 63)))
  | .lcmp, .long x, .long y => some (.int (lg_cmp x y))
  | _, _, _ => none
def mq_cmp : Jvm.ClassFile.Cond → Int32 → Int32 → Bool
  | .eq, x, y => decide (x = y)
  | .ne, x, y => decide (¬ x = y)
  | .lt, x, y => decide (x < y)
  | .ge, x, y => decide (y ≤ x)
  | .gt, x, y => decide (y < x)
  | .le, x, y => decide (x ≤ y)
def mq_to (pc : Nat) (off : Int) : Nat := ((pc : Int) + off).toNat
def mq_sw (dflt lo hi : Int) (offs : List Int) (x : Int32) : Option Int := if x.toInt < lo ∨ hi < x.toInt then some dflt else offs[(x.toInt - lo).toNat]?
/-- how long an instruction is (those of a fixed length that the program has) -/
def mq_ln : Instr → Nat
  | .bipush _ => 2
  | .sipush _ => 3
  | .iload _ => 2
  | .lload _ => 2
  | .aload _ => 2
  | .istore _ => 2
  | .lstore _ => 2
  | .astore _ => 2
  | .iinc _ _ => 3
  | .ifCond _ _ => 3
  | .if_icmp _ _ => 3
  | .ifnull _ => 3
  | .ifnonnull _ => 3
  | .goto _ => 3
  | .ldc _ => 2
  | .ldc2_w _ => 3
  | .ldc_w _ => 3
  | .getstatic _ => 3
  | .getfield _ => 3
  | .putfield _ => 3
  | .new _ => 3
  | .newarray _ => 2
  | .anewarray _ => 3
  | .invokevirtual _ => 3
  | .invokestatic _ => 3
  | .invokespecial _ => 3
  | _ => 1
