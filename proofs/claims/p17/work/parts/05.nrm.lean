/-! an instruction of the file, in the small machine's words -/
def mF (own i : Nat) : Option Nat := (mFR.find? (fun q => q.1 == own && q.2.1 == i)).map (fun q => q.2.2.1)
def mM (own i : Nat) : Option Nat := (mMR.find? (fun q => q.1 == own && q.2.1 == i)).map (fun q => q.2.2.1)
def mC (own i : Nat) : Option Nat := (mCR.find? (fun q => q.1 == own && q.2.1 == i)).map (fun q => q.2.2.1)
def mA (own i : Nat) : Option Nat := (mAR.find? (fun q => q.1 == own && q.2.1 == i)).map (fun q => q.2.2.1)
def mK (own i : Nat) : Option Int := (mKR.find? (fun q => q.1 == own && q.2.1 == i)).map (fun q => q.2.2.1)
def mLg (own i : Nat) : Option Nat := (mLR.find? (fun q => q.1 == own && q.2.1 == i)).map (fun q => q.2.2.1)
def mFin (j : Nat) : Bool := match vwCl[j / 100]? with
  | some q => (q.2.1 (j % 100)).2.2.2
  | none => false
def mKd (j : Nat) : Nat := if 900 ≤ j then (if j = 900 then 2 else if j = 902 then 1 else 0) else ((mInf[j]?).map (fun q => q.2.2.2.2)).getD 9
def mNrm (own : Nat) (ini : Bool) (len : Nat) (ins : Instr) : Option Instr :=
  match ins with
  | .iconst v => if len = 1 then some (.iconst v) else none
  | .bipush v => if len = 2 ∧ (Int8.ofInt v).toInt32 = Int32.ofInt v then some (.iconst v) else none
  | .sipush v => if len = 3 ∧ (Int16.ofInt v).toInt32 = Int32.ofInt v then some (.iconst v) else none
  | .ldc i => if len = 2 then (if own = 5 ∧ i = 111 then some (.ldc 0) else (mK own i).map (fun v => .iconst v)) else none
  | .ldc_w i => if len = 3 then (mK own i).map (fun v => .iconst v) else none
  | .ldc2_w i => if len = 3 then (mLg own i).map (fun v => .ldc2_w v) else none
  | .lconst n => if len = 1 then some (.ldc2_w n) else none
  | .iload i => if len = 2 then some (.iload i) else none
  | .iload_n i => if len = 1 then some (.iload i) else none
  | .lload i => if len = 2 then some (.lload i) else none
  | .lload_n i => if len = 1 then some (.lload i) else none
  | .aload i => if len = 2 then some (.aload i) else none
  | .aload_n i => if len = 1 then some (.aload i) else none
  | .istore i => if len = 2 then some (.istore i) else none
  | .istore_n i => if len = 1 then some (.istore i) else none
  | .lstore i => if len = 2 then some (.lstore i) else none
  | .lstore_n i => if len = 1 then some (.lstore i) else none
  | .astore i => if len = 2 then some (.astore i) else none
  | .astore_n i => if len = 1 then some (.astore i) else none
  | .iinc i n => if len = 3 then some (.iinc i n) else none
  | .goto o => if len = 3 then some (.goto o) else none
  | .ifCond c o => if len = 3 then some (.ifCond c o) else none
  | .if_icmp c o => if len = 3 then some (.if_icmp c o) else none
  | .tableswitch d lo hi offs => some (.tableswitch d lo hi offs)
  | .lookupswitch d ps => if (ps.toList.zip (ps.toList.drop 1)).all (fun (a, next) => a.1 < next.1) = true then some (.lookupswitch d ps) else none
  | .getfield i => if len = 3 then (mF own i).map (fun j => .getfield j) else none
  | .putfield i => if len = 3 then (match mF own i with
    | some j => if mFin j = true ∧ ¬ (ini = true ∧ own = j / 100) then none else some (.putfield j)
    | none => none) else none
  | .new i => if len = 3 then (mC own i).map (fun j => .new j) else none
  | .newarray t => if len = 2 then some (.newarray t) else none
  | .anewarray i => if len = 3 then (mA own i).map (fun j => .anewarray j) else none
  | .multianewarray i n => if len = 4 ∧ n = 2 then (mA own i).map (fun j => .multianewarray j 2) else none
  | .invokestatic i => if len = 3 then (match mM own i with
    | some j => if mKd j = 0 then some (.invokestatic j) else none
    | none => none) else none
  | .invokevirtual i => if len = 3 then (match mM own i with
    | some j => if mKd j = 1 then some (.invokevirtual j) else none
    | none => none) else none
  | .invokespecial i => if len = 3 then (match mM own i with
    | some j => if mKd j = 2 then some (.invokespecial j) else none
    | none => none) else none
  | .iadd => if len = 1 then some .iadd else none
  | .isub => if len = 1 then some .isub else none
  | .imul => if len = 1 then some .imul else none
  | .idiv => if len = 1 then some .idiv else none
  | .irem => if len = 1 then some .irem else none
  | .ineg => if len = 1 then some .ineg else none
  | .iand => if len = 1 then some .iand else none
  | .ior => if len = 1 then some .ior else none
  | .ixor => if len = 1 then some .ixor else none
  | .ishl => if len = 1 then some .ishl else none
  | .ishr => if len = 1 then some .ishr else none
  | .iushr => if len = 1 then some .iushr else none
  | .ladd => if len = 1 then some .ladd else none
  | .lsub => if len = 1 then some .lsub else none
  | .land => if len = 1 then some .land else none
  | .lor => if len = 1 then some .lor else none
  | .lxor => if len = 1 then some .lxor else none
  | .lshl => if len = 1 then some .lshl else none
  | .lshr => if len = 1 then some .lshr else none
  | .lushr => if len = 1 then some .lushr else none
  | .lcmp => if len = 1 then some .lcmp else none
  | .i2l => if len = 1 then some .i2l else none
  | .i2b => if len = 1 then some .i2b else none
  | .i2c => if len = 1 then some .i2c else none
  | .l2i => if len = 1 then some .l2i else none
  | .dup => if len = 1 then some .dup else none
  | .dup2 => if len = 1 then some .dup2 else none
  | .pop => if len = 1 then some .pop else none
  | .pop2 => if len = 1 then some .pop2 else none
  | .iaload => if len = 1 then some .iaload else none
  | .laload => if len = 1 then some .laload else none
  | .aaload => if len = 1 then some .aaload else none
  | .baload => if len = 1 then some .baload else none
  | .iastore => if len = 1 then some .iastore else none
  | .lastore => if len = 1 then some .lastore else none
  | .aastore => if len = 1 then some .aastore else none
  | .bastore => if len = 1 then some .bastore else none
  | .arraylength => if len = 1 then some .arraylength else none
  | .ireturn => if len = 1 then some .ireturn else none
  | .lreturn => if len = 1 then some .lreturn else none
  | .areturn => if len = 1 then some .areturn else none
  | .return_ => if len = 1 then some .return_ else none
  | _ => none
/-- the small machine's table at one place of a method is what the method's bytes say -/
def mCk (own : Nat) (ini : Bool) (cc : ByteArray) (at0 : Nat → Option (Nat × Instr)) (pc : Nat) : Bool := match at0 pc with
  | none => true
  | some (len, ins) => match decode cc pc with
    | .ok (i0, l0) => decide (l0 = len) && decide (mNrm own ini l0 i0 = some ins)
    | _ => false
