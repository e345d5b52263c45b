/-! A small machine beside the large one: a cell is a class's number (0 to 11) with its fields, or 64 and more with an array's elements; a reference is a cell's place in the list. Cell 0 is the law's script, cell 1 the one String constant. -/
abbrev MCell : Type := Nat × List Value
abbrev Mem : Type := List MCell
abbrev MLoc : Type := List (Nat × Value)
def mAk (k : Nat) : FieldType := if k = 64 then .int else if k = 65 then .long else if k = 66 then .byte else if k = 67 then .boolean else if k = 68 then .object RX1 else if k = 69 then .object RX4 else .array .int
/-- what a field of each class begins with, and what may stand in it: 0 an int, 1 a boolean, 2 a long, 3 a reference -/
def mFk (t : FieldType) : Nat := match t with
  | .int => 0
  | .boolean => 1
  | .long => 2
  | _ => 3
def mTy (ci : Nat) : Nat → FieldType := match ci with
  | 0 => tyX0
  | 1 => tyX1
  | 2 => tyX2
  | 3 => tyX3
  | 4 => tyX4
  | 5 => tyX5
  | 6 => tyX6
  | 7 => tyX7
  | 8 => tyX8
  | 9 => tyX9
  | 10 => tyX10
  | _ => tyX11
def mN (ci : Nat) : Nat := ([18, 10, 8, 8, 8, 6, 3, 5, 2, 3, 14, 84] : List Nat).getD ci 0
def mDef (ci : Nat) : List Value := (List.range (mN ci)).map (fun k => defaultValue (mTy ci k))
def mOkF (t : FieldType) (v : Value) : Bool := match t, v with
  | .int, .int _ => true
  | .boolean, .int x => x == 0 || x == 1
  | .long, .long _ => true
  | .object _, .ref _ => true
  | .array _, .ref _ => true
  | _, _ => false
def mLd (L : MLoc) (i : Nat) : Option Value := (L.find? (fun q => q.1 == i)).map (fun q => q.2)
def mSt1 (L : MLoc) (i : Nat) (v : Value) : MLoc := (i, v) :: L.filter (fun q => !(q.1 == i) && !(q.1 + 1 == i && q.2.category == 2))
def mSt2 (L : MLoc) (i : Nat) (v : Value) : MLoc := (i, v) :: L.filter (fun q => !(q.1 == i) && (!(q.1 == i + 1) && !(q.1 + 1 == i && q.2.category == 2)))
def mCond (c : Jvm.ClassFile.Cond) (x y : Int32) : Bool := match c with
  | .eq => decide (x = y)
  | .ne => decide (¬ x = y)
  | .lt => decide (x < y)
  | .ge => decide (y ≤ x)
  | .gt => decide (y < x)
  | .le => decide (x ≤ y)
def mKL : List Int64 := [0, 1, -1, 6148914691236517205, 3689348814741910323, 1085102592571150095, 4294967295]
def mJmp (pc : Nat) (off : Int) : Option Nat := if 0 ≤ (pc : Int) + off then some ((pc : Int) + off).toNat else none
def mIx (i : Int32) (n : Nat) : Option Nat := if 0 ≤ i.toInt ∧ i.toInt < (n : Int) then some i.toInt.toNat else none
abbrev MOut : Type := Option (Nat × MLoc × List Value × Mem)
def mBin (nx : Nat) (L : MLoc) (st : List Value) (M : Mem) (f : Int32 → Int32 → Int32) : MOut := match st with
  | .int y :: .int x :: r => some (nx, L, .int (f x y) :: r, M)
  | _ => none
def mBinL (nx : Nat) (L : MLoc) (st : List Value) (M : Mem) (f : Int64 → Int64 → Int64) : MOut := match st with
  | .long y :: .long x :: r => some (nx, L, .long (f x y) :: r, M)
  | _ => none
def mShL (nx : Nat) (L : MLoc) (st : List Value) (M : Mem) (f : Int64 → Int32 → Int64) : MOut := match st with
  | .int y :: .long x :: r => some (nx, L, .long (f x y) :: r, M)
  | _ => none
def mUn (nx : Nat) (L : MLoc) (st : List Value) (M : Mem) (f : Int32 → Value) : MOut := match st with
  | .int x :: r => some (nx, L, f x :: r, M)
  | _ => none
def mArrK (t : ArrayType) : Option (Nat × Value) := match t with
  | .int => some (64, .int 0)
  | .long => some (65, .long 0)
  | .byte => some (66, .int 0)
  | .boolean => some (67, .int 0)
  | _ => none
/-- loads out of an array and stores into one -/
def mAld (nx : Nat) (L : MLoc) (st : List Value) (M : Mem) (ok : Nat → Value → Bool) : MOut := match st with
  | .int i :: .ref a :: r => match M[a]? with
    | some (t, c) => match mIx i c.length with
      | some j => match c[j]? with
        | some v => if ok t v = true then some (nx, L, v :: r, M) else none
        | none => none
      | none => none
    | none => none
  | _ => none
def mAst (nx : Nat) (L : MLoc) (st : List Value) (M : Mem) (f : Nat → Value → Option Value) : MOut := match st with
  | v :: .int i :: .ref a :: r => match M[a]? with
    | some (t, c) => match mIx i c.length, f t v with
      | some j, some w => if a = 0 then none else some (nx, L, r, M.set a (t, c.set j w))
      | _, _ => none
    | none => none
  | _ => none
def mTagOf (M : Mem) (v : Value) : Nat := match v with
  | .ref a => match M[a]? with
    | some (t, _) => t
    | none => 999
  | _ => 999
def mIsI (v : Value) : Bool := match v with
  | .int _ => true
  | _ => false
def mIsL (v : Value) : Bool := match v with
  | .long _ => true
  | _ => false
def mIsR (v : Value) : Bool := match v with
  | .ref _ => true
  | _ => false
/-- an instruction that is neither a call nor a return; getfield and putfield: 100 times the class and the field's number; new: the class; ldc2_w: the place in mKL; ldc: the String; anewarray, multianewarray: the array's number -/
def mStep (mL : Nat) (ins : Instr) (pc nx : Nat) (L : MLoc) (st : List Value) (M : Mem) : MOut :=
  match ins with
  | .iconst v => some (nx, L, .int (Int32.ofInt v) :: st, M)
  | .ldc2_w j => some (nx, L, .long (mKL.getD j 0) :: st, M)
  | .ldc _ => some (nx, L, .ref 1 :: st, M)
  | .iload i => match mLd L i with
    | some (.int x) => some (nx, L, .int x :: st, M)
    | _ => none
  | .lload i => match mLd L i with
    | some (.long x) => some (nx, L, .long x :: st, M)
    | _ => none
  | .aload i => match mLd L i with
    | some (.ref x) => some (nx, L, .ref x :: st, M)
    | _ => none
  | .istore i => match st with
    | .int x :: r => if i < mL then some (nx, mSt1 L i (.int x), r, M) else none
    | _ => none
  | .lstore i => match st with
    | .long x :: r => if i + 1 < mL then some (nx, mSt2 L i (.long x), r, M) else none
    | _ => none
  | .astore i => match st with
    | .ref x :: r => if i < mL then some (nx, mSt1 L i (.ref x), r, M) else none
    | _ => none
  | .iinc i n => match mLd L i with
    | some (.int x) => if i < mL then some (nx, mSt1 L i (.int (x + Int32.ofInt n)), st, M) else none
    | _ => none
  | .iadd => mBin nx L st M (fun x y => x + y)
  | .isub => mBin nx L st M (fun x y => x - y)
  | .imul => mBin nx L st M (fun x y => x * y)
  | .iand => mBin nx L st M (fun x y => x &&& y)
  | .ior => mBin nx L st M (fun x y => x ||| y)
  | .ixor => mBin nx L st M (fun x y => x ^^^ y)
  | .ishl => mBin nx L st M (fun x y => x <<< (y &&& 31))
  | .ishr => mBin nx L st M (fun x y => x >>> (y &&& 31))
  | .iushr => mBin nx L st M (fun x y => (x.toUInt32 >>> (y.toUInt32 &&& Int32.toUInt32 31)).toInt32)
  | .idiv => match st with
    | .int y :: .int x :: r => if y = 0 then none else some (nx, L, .int (x / y) :: r, M)
    | _ => none
  | .irem => match st with
    | .int y :: .int x :: r => if y = 0 then none else some (nx, L, .int (x - x / y * y) :: r, M)
    | _ => none
  | .ineg => mUn nx L st M (fun x => .int (-x))
  | .i2l => mUn nx L st M (fun x => .long x.toInt64)
  | .i2b => mUn nx L st M (fun x => .int x.toInt8.toInt32)
  | .i2c => mUn nx L st M (fun x => .int (x.toUInt32 % 65536).toInt32)
  | .l2i => match st with
    | .long x :: r => some (nx, L, .int x.toInt32 :: r, M)
    | _ => none
  | .ladd => mBinL nx L st M (fun x y => x + y)
  | .lsub => mBinL nx L st M (fun x y => x - y)
  | .land => mBinL nx L st M (fun x y => x &&& y)
  | .lor => mBinL nx L st M (fun x y => x ||| y)
  | .lxor => mBinL nx L st M (fun x y => x ^^^ y)
  | .lshl => mShL nx L st M (fun x y => x <<< (y.toInt64 &&& 63))
  | .lshr => mShL nx L st M (fun x y => x >>> (y.toInt64 &&& 63))
  | .lushr => mShL nx L st M (fun x y => (x.toUInt64 >>> (y.toInt64.toUInt64 &&& Int64.toUInt64 63)).toInt64)
  | .lcmp => match st with
    | .long y :: .long x :: r => some (nx, L, .int (lg_cmp x y) :: r, M)
    | _ => none
  | .dup => match st with
    | v :: r => if v.category = 1 then some (nx, L, v :: v :: r, M) else none
    | _ => none
  | .pop => match st with
    | v :: r => if v.category = 1 then some (nx, L, r, M) else none
    | _ => none
  | .pop2 => match st with
    | .long _ :: r => some (nx, L, r, M)
    | _ => none
  | .dup2 => match st with
    | v :: w :: r => if v.category = 1 ∧ w.category = 1 then some (nx, L, v :: w :: v :: w :: r, M) else none
    | _ => none
  | .goto o => match mJmp pc o with
    | some t => some (t, L, st, M)
    | none => none
  | .ifCond c o => match st, mJmp pc o with
    | .int x :: r, some t => some (if mCond c x 0 = true then t else nx, L, r, M)
    | _, _ => none
  | .if_icmp c o => match st, mJmp pc o with
    | .int y :: .int x :: r, some t => some (if mCond c x y = true then t else nx, L, r, M)
    | _, _ => none
  | .tableswitch d lo hi offs => match st with
    | .int x :: r => match (if x.toInt < lo ∨ hi < x.toInt then some d else offs[(x.toInt - lo).toNat]?) with
      | some o => match mJmp pc o with
        | some t => some (t, L, r, M)
        | none => none
      | none => none
    | _ => none
  | .lookupswitch d ps => match st with
    | .int x :: r => match mJmp pc (Op.lookupswitch.offset ps.toList d x.toInt) with
      | some t => some (t, L, r, M)
      | none => none
    | _ => none
  | .getfield j => match st with
    | .ref a :: r => match M[a]? with
      | some (t, fs) => if t = j / 100 ∧ j / 100 < 12 then (match fs[j % 100]? with
        | some v => some (nx, L, v :: r, M)
        | none => none) else none
      | none => none
    | _ => none
  | .putfield j => match st with
    | v :: .ref a :: r => match M[a]? with
      | some (t, fs) => if t = j / 100 ∧ j / 100 < 12 ∧ j % 100 < fs.length ∧ mOkF (mTy (j / 100) (j % 100)) v = true then some (nx, L, r, M.set a (t, fs.set (j % 100) v)) else none
      | none => none
    | _ => none
  | .iaload => mAld nx L st M (fun t v => t == 64 && mIsI v)
  | .baload => mAld nx L st M (fun t v => (t == 66 || t == 67) && mIsI v)
  | .laload => mAld nx L st M (fun t v => t == 65 && mIsL v)
  | .aaload => mAld nx L st M (fun t v => (t == 68 || t == 69 || t == 70) && mIsR v)
  | .iastore => mAst nx L st M (fun t v => if t = 64 ∧ mIsI v = true then some v else none)
  | .lastore => mAst nx L st M (fun t v => if t = 65 ∧ mIsL v = true then some v else none)
  | .bastore => mAst nx L st M (fun t v => match v with
    | .int x => if t = 66 then some (.int (vp_nar .byte x)) else if t = 67 then some (.int (vp_nar .boolean x)) else none
    | _ => none)
  | .aastore => mAst nx L st M (fun t v => if (t = 68 ∧ mTagOf M v = 1) ∨ (t = 69 ∧ mTagOf M v = 4) then some v else none)
  | .arraylength => match st with
    | .ref a :: r => match M[a]? with
      | some (t, c) => if 64 ≤ t ∧ t ≤ 70 then some (nx, L, .int (Int32.ofNat c.length) :: r, M) else none
      | none => none
    | _ => none
  | .new ci => if ci < 12 then some (nx, L, .ref M.length :: st, M ++ [(ci, mDef ci)]) else none
  | .newarray t => match st, mArrK t with
    | .int n :: r, some (k, v) => if 0 ≤ n.toInt ∧ n.toInt ≤ 1000 then some (nx, L, .ref M.length :: r, M ++ [(k, List.replicate n.toInt.toNat v)]) else none
    | _, _ => none
  | .anewarray k => match st with
    | .int n :: r => if 0 ≤ n.toInt ∧ n.toInt ≤ 1000 ∧ (k = 68 ∨ k = 69) then some (nx, L, .ref M.length :: r, M ++ [(k, List.replicate n.toInt.toNat .null)]) else none
    | _ => none
  | .multianewarray k 2 => match st with
    | .int w :: .int n :: r => if 0 ≤ n.toInt ∧ n.toInt ≤ 1000 ∧ 0 ≤ w.toInt ∧ w.toInt ≤ 1000 ∧ k = 70 then some (nx, L, .ref M.length :: r, M ++ ((70, (List.range n.toInt.toNat).map (fun i => .ref (M.length + 1 + i))) :: List.replicate n.toInt.toNat (64, List.replicate w.toInt.toNat (.int 0)))) else none
    | _ => none
  | _ => none
/-- a method: arguments (with the receiver), locals, what it answers (0 nothing, 1 int, 2 boolean, 3 long, 4 a reference), its class's number, 0 static 1 virtual 2 a constructor -/
abbrev MInf : Type := Nat × Nat × Nat × Nat × Nat
def mCpy (c0 c1 : List Value) (sp dp n : Nat) : List Value := (List.range c1.length).map (fun k => if dp ≤ k ∧ k < dp + n then c0.getD (sp + (k - dp)) (.int 0) else c1.getD k (.int 0))
def mLet : List Int32 := [110, 102, 99, 117, 118, 112, 103, 120, 107, 119, 105, 113, 104, 116]
def mIxOf (x : Int32) : Int32 := match mLet.findIdx? (fun y => y == x) with
  | some k => Int32.ofNat k
  | none => -1
/-- what the machine's own members do: 900 Object's constructor, 901 arraycopy, 902 indexOf, 903 max, 904 min -/
def mPrim (d j : Nat) (st : List Value) (M : Mem) : Option (List Value × Mem) :=
  if j = 900 then match st with
    | .ref _ :: r => if 1 ≤ d ∧ (r.map fun v => v.category).sum ≤ 8 then some (r, M) else none
    | _ => none
  else if j = 901 then match st with
    | .int n :: .int dp :: .ref a1 :: .int sp :: .ref a0 :: r => match M[a0]?, M[a1]? with
      | some (64, c0), some (64, c1) => if 1 ≤ d ∧ (r.map fun v => v.category).sum ≤ 8 ∧ a0 ≠ 0 ∧ a1 ≠ 0 ∧ 0 ≤ n.toInt ∧ 0 ≤ sp.toInt ∧ 0 ≤ dp.toInt ∧ sp.toInt.toNat + n.toInt.toNat ≤ c0.length ∧ dp.toInt.toNat + n.toInt.toNat ≤ c1.length then some (r, M.set a1 (64, mCpy c0 c1 sp.toInt.toNat dp.toInt.toNat n.toInt.toNat)) else none
      | _, _ => none
    | _ => none
  else if j = 902 then match st with
    | .int x :: .ref 1 :: r => if 6 ≤ d ∧ (r.map fun v => v.category).sum ≤ 8 then some (.int (mIxOf x) :: r, M) else none
    | _ => none
  else if j = 903 then match st with
    | .int y :: .int x :: r => if 1 ≤ d ∧ (r.map fun v => v.category).sum ≤ 8 then some (.int (if x < y then y else x) :: r, M) else none
    | _ => none
  else if j = 904 then match st with
    | .int y :: .int x :: r => if 1 ≤ d ∧ (r.map fun v => v.category).sum ≤ 8 then some (.int (if y < x then y else x) :: r, M) else none
    | _ => none
  else none
