/-! the same, the other way: is this the instruction that the bytes begin with, and how many bytes has it -/
def mB0 (o : Nat) (l : List UInt8) : Option Nat := match l with
  | b :: _ => if b.toNat = o then some 1 else none
  | _ => none
def mB1 (o x : Nat) (l : List UInt8) : Option Nat := match l with
  | b :: c :: _ => if b.toNat = o ∧ c.toNat = x then some 2 else none
  | _ => none
def mB2 (o x : Nat) (l : List UInt8) : Option Nat := match l with
  | b :: c :: d :: _ => if b.toNat = o ∧ c.toNat * 256 + d.toNat = x then some 3 else none
  | _ => none
def mS2 (o : Nat) (x : Int) (l : List UInt8) : Option Nat := match l with
  | b :: c :: d :: _ => if b.toNat = o ∧ Reader.signed 16 (c.toNat * 256 + d.toNat) = x then some 3 else none
  | _ => none
def mCn (c : Jvm.ClassFile.Cond) : Nat := match c with
  | .eq => 0
  | .ne => 1
  | .lt => 2
  | .ge => 3
  | .gt => 4
  | .le => 5
def mSame (i : Instr) (l : List UInt8) : Option Nat :=
  match i with
  | .iaload => mB0 46 l
  | .laload => mB0 47 l
  | .aaload => mB0 50 l
  | .baload => mB0 51 l
  | .iastore => mB0 79 l
  | .lastore => mB0 80 l
  | .aastore => mB0 83 l
  | .bastore => mB0 84 l
  | .pop => mB0 87 l
  | .pop2 => mB0 88 l
  | .dup => mB0 89 l
  | .dup2 => mB0 92 l
  | .iadd => mB0 96 l
  | .ladd => mB0 97 l
  | .isub => mB0 100 l
  | .lsub => mB0 101 l
  | .imul => mB0 104 l
  | .idiv => mB0 108 l
  | .irem => mB0 112 l
  | .ineg => mB0 116 l
  | .ishl => mB0 120 l
  | .lshl => mB0 121 l
  | .ishr => mB0 122 l
  | .lshr => mB0 123 l
  | .iushr => mB0 124 l
  | .lushr => mB0 125 l
  | .iand => mB0 126 l
  | .land => mB0 127 l
  | .ior => mB0 128 l
  | .lor => mB0 129 l
  | .ixor => mB0 130 l
  | .lxor => mB0 131 l
  | .i2l => mB0 133 l
  | .l2i => mB0 136 l
  | .i2b => mB0 145 l
  | .i2c => mB0 146 l
  | .lcmp => mB0 148 l
  | .ireturn => mB0 172 l
  | .lreturn => mB0 173 l
  | .areturn => mB0 176 l
  | .return_ => mB0 177 l
  | .arraylength => mB0 190 l
  | .ldc x => mB1 18 x l
  | .iload x => mB1 21 x l
  | .lload x => mB1 22 x l
  | .aload x => mB1 25 x l
  | .istore x => mB1 54 x l
  | .lstore x => mB1 55 x l
  | .astore x => mB1 58 x l
  | .ldc_w x => mB2 19 x l
  | .ldc2_w x => mB2 20 x l
  | .getfield x => mB2 180 x l
  | .putfield x => mB2 181 x l
  | .invokevirtual x => mB2 182 x l
  | .invokespecial x => mB2 183 x l
  | .invokestatic x => mB2 184 x l
  | .new x => mB2 187 x l
  | .anewarray x => mB2 189 x l
  | .iload_n k => mB0 (26 + k.val) l
  | .lload_n k => mB0 (30 + k.val) l
  | .aload_n k => mB0 (42 + k.val) l
  | .istore_n k => mB0 (59 + k.val) l
  | .lstore_n k => mB0 (63 + k.val) l
  | .astore_n k => mB0 (75 + k.val) l
  | .iconst v => if v = -1 then mB0 2 l else if v = 0 then mB0 3 l else if v = 1 then mB0 4 l else if v = 2 then mB0 5 l else if v = 3 then mB0 6 l else if v = 4 then mB0 7 l else if v = 5 then mB0 8 l else none
  | .lconst n => mB0 (9 + n.val) l
  | .bipush v => match l with
    | b :: c :: _ => if b.toNat = 16 ∧ Reader.signed 8 c.toNat = v then some 2 else none
    | _ => none
  | .sipush v => mS2 17 v l
  | .iinc x v => match l with
    | b :: c :: d :: _ => if b.toNat = 132 ∧ c.toNat = x ∧ Reader.signed 8 d.toNat = v then some 3 else none
    | _ => none
  | .goto v => mS2 167 v l
  | .ifCond c v => mS2 (153 + mCn c) v l
  | .if_icmp c v => mS2 (159 + mCn c) v l
  | .newarray k => match k with
    | .boolean => mB1 188 4 l
    | .byte => mB1 188 8 l
    | .int => mB1 188 10 l
    | .long => mB1 188 11 l
    | _ => none
  | _ => none
theorem mB0_ok {o n : Nat} {l : List UInt8} (h : mB0 o l = some n) : ∃ b r, l = b :: r ∧ b.toNat = o ∧ n = 1 := by
  unfold mB0 at h
  split at h
  · split at h
    · rename_i b r h1; exact ⟨b, r, rfl, h1, (Option.some.inj h).symm⟩
    · cases h
  · cases h
theorem mB1_ok {o x n : Nat} {l : List UInt8} (h : mB1 o x l = some n) : ∃ b c r, l = b :: c :: r ∧ b.toNat = o ∧ c.toNat = x ∧ n = 2 := by
  unfold mB1 at h
  split at h
  · split at h
    · rename_i b c r h1; exact ⟨b, c, r, rfl, h1.1, h1.2, (Option.some.inj h).symm⟩
    · cases h
  · cases h
theorem mB2_ok {o x n : Nat} {l : List UInt8} (h : mB2 o x l = some n) : ∃ b c d r, l = b :: c :: d :: r ∧ b.toNat = o ∧ c.toNat * 256 + d.toNat = x ∧ n = 3 := by
  unfold mB2 at h
  split at h
  · split at h
    · rename_i b c d r h1; exact ⟨b, c, d, r, rfl, h1.1, h1.2, (Option.some.inj h).symm⟩
    · cases h
  · cases h
theorem mS2_ok {o n : Nat} {x : Int} {l : List UInt8} (h : mS2 o x l = some n) : ∃ b c d r, l = b :: c :: d :: r ∧ b.toNat = o ∧ Reader.signed 16 (c.toNat * 256 + d.toNat) = x ∧ n = 3 := by
  unfold mS2 at h
  split at h
  · split at h
    · rename_i b c d r h1; exact ⟨b, c, d, r, rfl, h1.1, h1.2, (Option.some.inj h).symm⟩
    · cases h
  · cases h
set_option maxHeartbeats 4000000 in
theorem mSame_ok {i : Instr} {l : List UInt8} {pc n : Nat} (h : mSame i (l.drop pc) = some n) : decode ⟨⟨l⟩⟩ pc = .ok (i, n) := by
  cases i with
  | iaload => obtain ⟨b, r, hl, hb, rfl⟩ := mB0_ok h; exact dc_iaload hl hb
  | laload => obtain ⟨b, r, hl, hb, rfl⟩ := mB0_ok h; exact dc_laload hl hb
  | aaload => obtain ⟨b, r, hl, hb, rfl⟩ := mB0_ok h; exact dc_aaload hl hb
  | baload => obtain ⟨b, r, hl, hb, rfl⟩ := mB0_ok h; exact dc_baload hl hb
  | iastore => obtain ⟨b, r, hl, hb, rfl⟩ := mB0_ok h; exact dc_iastore hl hb
  | lastore => obtain ⟨b, r, hl, hb, rfl⟩ := mB0_ok h; exact dc_lastore hl hb
  | aastore => obtain ⟨b, r, hl, hb, rfl⟩ := mB0_ok h; exact dc_aastore hl hb
  | bastore => obtain ⟨b, r, hl, hb, rfl⟩ := mB0_ok h; exact dc_bastore hl hb
  | pop => obtain ⟨b, r, hl, hb, rfl⟩ := mB0_ok h; exact dc_pop hl hb
  | pop2 => obtain ⟨b, r, hl, hb, rfl⟩ := mB0_ok h; exact dc_pop2 hl hb
  | dup => obtain ⟨b, r, hl, hb, rfl⟩ := mB0_ok h; exact dc_dup hl hb
  | dup2 => obtain ⟨b, r, hl, hb, rfl⟩ := mB0_ok h; exact dc_dup2 hl hb
  | iadd => obtain ⟨b, r, hl, hb, rfl⟩ := mB0_ok h; exact dc_iadd hl hb
  | ladd => obtain ⟨b, r, hl, hb, rfl⟩ := mB0_ok h; exact dc_ladd hl hb
  | isub => obtain ⟨b, r, hl, hb, rfl⟩ := mB0_ok h; exact dc_isub hl hb
  | lsub => obtain ⟨b, r, hl, hb, rfl⟩ := mB0_ok h; exact dc_lsub hl hb
  | imul => obtain ⟨b, r, hl, hb, rfl⟩ := mB0_ok h; exact dc_imul hl hb
  | idiv => obtain ⟨b, r, hl, hb, rfl⟩ := mB0_ok h; exact dc_idiv hl hb
  | irem => obtain ⟨b, r, hl, hb, rfl⟩ := mB0_ok h; exact dc_irem hl hb
  | ineg => obtain ⟨b, r, hl, hb, rfl⟩ := mB0_ok h; exact dc_ineg hl hb
  | ishl => obtain ⟨b, r, hl, hb, rfl⟩ := mB0_ok h; exact dc_ishl hl hb
  | lshl => obtain ⟨b, r, hl, hb, rfl⟩ := mB0_ok h; exact dc_lshl hl hb
  | ishr => obtain ⟨b, r, hl, hb, rfl⟩ := mB0_ok h; exact dc_ishr hl hb
  | lshr => obtain ⟨b, r, hl, hb, rfl⟩ := mB0_ok h; exact dc_lshr hl hb
  | iushr => obtain ⟨b, r, hl, hb, rfl⟩ := mB0_ok h; exact dc_iushr hl hb
  | lushr => obtain ⟨b, r, hl, hb, rfl⟩ := mB0_ok h; exact dc_lushr hl hb
  | iand => obtain ⟨b, r, hl, hb, rfl⟩ := mB0_ok h; exact dc_iand hl hb
  | land => obtain ⟨b, r, hl, hb, rfl⟩ := mB0_ok h; exact dc_land hl hb
  | ior => obtain ⟨b, r, hl, hb, rfl⟩ := mB0_ok h; exact dc_ior hl hb
  | lor => obtain ⟨b, r, hl, hb, rfl⟩ := mB0_ok h; exact dc_lor hl hb
  | ixor => obtain ⟨b, r, hl, hb, rfl⟩ := mB0_ok h; exact dc_ixor hl hb
  | lxor => obtain ⟨b, r, hl, hb, rfl⟩ := mB0_ok h; exact dc_lxor hl hb
  | i2l => obtain ⟨b, r, hl, hb, rfl⟩ := mB0_ok h; exact dc_i2l hl hb
  | l2i => obtain ⟨b, r, hl, hb, rfl⟩ := mB0_ok h; exact dc_l2i hl hb
  | i2b => obtain ⟨b, r, hl, hb, rfl⟩ := mB0_ok h; exact dc_i2b hl hb
  | i2c => obtain ⟨b, r, hl, hb, rfl⟩ := mB0_ok h; exact dc_i2c hl hb
  | lcmp => obtain ⟨b, r, hl, hb, rfl⟩ := mB0_ok h; exact dc_lcmp hl hb
  | ireturn => obtain ⟨b, r, hl, hb, rfl⟩ := mB0_ok h; exact dc_ireturn hl hb
  | lreturn => obtain ⟨b, r, hl, hb, rfl⟩ := mB0_ok h; exact dc_lreturn hl hb
  | areturn => obtain ⟨b, r, hl, hb, rfl⟩ := mB0_ok h; exact dc_areturn hl hb
  | return_ => obtain ⟨b, r, hl, hb, rfl⟩ := mB0_ok h; exact dc_return_ hl hb
  | arraylength => obtain ⟨b, r, hl, hb, rfl⟩ := mB0_ok h; exact dc_arraylength hl hb
  | ldc x => obtain ⟨b, c, r, hl, hb, rfl, rfl⟩ := mB1_ok h; exact dc_ldc hl hb
  | iload x => obtain ⟨b, c, r, hl, hb, rfl, rfl⟩ := mB1_ok h; exact dc_iload hl hb
  | lload x => obtain ⟨b, c, r, hl, hb, rfl, rfl⟩ := mB1_ok h; exact dc_lload hl hb
  | aload x => obtain ⟨b, c, r, hl, hb, rfl, rfl⟩ := mB1_ok h; exact dc_aload hl hb
  | istore x => obtain ⟨b, c, r, hl, hb, rfl, rfl⟩ := mB1_ok h; exact dc_istore hl hb
  | lstore x => obtain ⟨b, c, r, hl, hb, rfl, rfl⟩ := mB1_ok h; exact dc_lstore hl hb
  | astore x => obtain ⟨b, c, r, hl, hb, rfl, rfl⟩ := mB1_ok h; exact dc_astore hl hb
  | ldc_w x => obtain ⟨b, c, d, r, hl, hb, rfl, rfl⟩ := mB2_ok h; exact dc_ldc_w hl hb
  | ldc2_w x => obtain ⟨b, c, d, r, hl, hb, rfl, rfl⟩ := mB2_ok h; exact dc_ldc2_w hl hb
  | getfield x => obtain ⟨b, c, d, r, hl, hb, rfl, rfl⟩ := mB2_ok h; exact dc_getfield hl hb
  | putfield x => obtain ⟨b, c, d, r, hl, hb, rfl, rfl⟩ := mB2_ok h; exact dc_putfield hl hb
  | invokevirtual x => obtain ⟨b, c, d, r, hl, hb, rfl, rfl⟩ := mB2_ok h; exact dc_invokevirtual hl hb
  | invokespecial x => obtain ⟨b, c, d, r, hl, hb, rfl, rfl⟩ := mB2_ok h; exact dc_invokespecial hl hb
  | invokestatic x => obtain ⟨b, c, d, r, hl, hb, rfl, rfl⟩ := mB2_ok h; exact dc_invokestatic hl hb
  | new x => obtain ⟨b, c, d, r, hl, hb, rfl, rfl⟩ := mB2_ok h; exact dc_new hl hb
  | anewarray x => obtain ⟨b, c, d, r, hl, hb, rfl, rfl⟩ := mB2_ok h; exact dc_anewarray hl hb
  | iload_n k =>
    obtain ⟨b, r, hl, hb, rfl⟩ := mB0_ok h
    match k, hb with
    | 0, hb => exact dc_iload_n0 hl hb
    | 1, hb => exact dc_iload_n1 hl hb
    | 2, hb => exact dc_iload_n2 hl hb
    | 3, hb => exact dc_iload_n3 hl hb
  | lload_n k =>
    obtain ⟨b, r, hl, hb, rfl⟩ := mB0_ok h
    match k, hb with
    | 0, hb => exact dc_lload_n0 hl hb
    | 1, hb => exact dc_lload_n1 hl hb
    | 2, hb => exact dc_lload_n2 hl hb
    | 3, hb => exact dc_lload_n3 hl hb
  | aload_n k =>
    obtain ⟨b, r, hl, hb, rfl⟩ := mB0_ok h
    match k, hb with
    | 0, hb => exact dc_aload_n0 hl hb
    | 1, hb => exact dc_aload_n1 hl hb
    | 2, hb => exact dc_aload_n2 hl hb
    | 3, hb => exact dc_aload_n3 hl hb
  | istore_n k =>
    obtain ⟨b, r, hl, hb, rfl⟩ := mB0_ok h
    match k, hb with
    | 0, hb => exact dc_istore_n0 hl hb
    | 1, hb => exact dc_istore_n1 hl hb
    | 2, hb => exact dc_istore_n2 hl hb
    | 3, hb => exact dc_istore_n3 hl hb
  | lstore_n k =>
    obtain ⟨b, r, hl, hb, rfl⟩ := mB0_ok h
    match k, hb with
    | 0, hb => exact dc_lstore_n0 hl hb
    | 1, hb => exact dc_lstore_n1 hl hb
    | 2, hb => exact dc_lstore_n2 hl hb
    | 3, hb => exact dc_lstore_n3 hl hb
  | astore_n k =>
    obtain ⟨b, r, hl, hb, rfl⟩ := mB0_ok h
    match k, hb with
    | 0, hb => exact dc_astore_n0 hl hb
    | 1, hb => exact dc_astore_n1 hl hb
    | 2, hb => exact dc_astore_n2 hl hb
    | 3, hb => exact dc_astore_n3 hl hb
  | iconst v =>
    unfold mSame at h
    dsimp only at h
    split at h
    · rename_i hv; subst hv; obtain ⟨b, r, hl, hb, rfl⟩ := mB0_ok h; exact dc_iconst_0 hl hb
    split at h
    · rename_i hv; subst hv; obtain ⟨b, r, hl, hb, rfl⟩ := mB0_ok h; exact dc_iconst_1 hl hb
    split at h
    · rename_i hv; subst hv; obtain ⟨b, r, hl, hb, rfl⟩ := mB0_ok h; exact dc_iconst_2 hl hb
    split at h
    · rename_i hv; subst hv; obtain ⟨b, r, hl, hb, rfl⟩ := mB0_ok h; exact dc_iconst_3 hl hb
    split at h
    · rename_i hv; subst hv; obtain ⟨b, r, hl, hb, rfl⟩ := mB0_ok h; exact dc_iconst_4 hl hb
    split at h
    · rename_i hv; subst hv; obtain ⟨b, r, hl, hb, rfl⟩ := mB0_ok h; exact dc_iconst_5 hl hb
    split at h
    · rename_i hv; subst hv; obtain ⟨b, r, hl, hb, rfl⟩ := mB0_ok h; exact dc_iconst_6 hl hb
    cases h
  | lconst k =>
    obtain ⟨b, r, hl, hb, rfl⟩ := mB0_ok h
    match k, hb with
    | 0, hb => exact dc_lconst_0 hl hb
    | 1, hb => exact dc_lconst_1 hl hb
  | bipush v =>
    unfold mSame at h
    dsimp only at h
    split at h
    · rename_i b c r hl
      split at h
      · rename_i h1; obtain ⟨h0, rfl⟩ := h1; cases h; exact dc_bipush hl h0
      · cases h
    · cases h
  | sipush v => obtain ⟨b, c, d, r, hl, hb, rfl, rfl⟩ := mS2_ok h; exact dc_sipush hl hb
  | iinc x v =>
    unfold mSame at h
    dsimp only at h
    split at h
    · rename_i b c d r hl
      split at h
      · rename_i h1; obtain ⟨h0, rfl, rfl⟩ := h1; cases h; exact dc_iinc hl h0
      · cases h
    · cases h
  | goto v => obtain ⟨b, c, d, r, hl, hb, rfl, rfl⟩ := mS2_ok h; exact dc_goto hl hb
  | ifCond k v =>
    obtain ⟨b, c, d, r, hl, hb, rfl, rfl⟩ := mS2_ok h
    cases k
    · exact dc_if_eq hl hb
    · exact dc_if_ne hl hb
    · exact dc_if_lt hl hb
    · exact dc_if_ge hl hb
    · exact dc_if_gt hl hb
    · exact dc_if_le hl hb
  | if_icmp k v =>
    obtain ⟨b, c, d, r, hl, hb, rfl, rfl⟩ := mS2_ok h
    cases k
    · exact dc_icmp_eq hl hb
    · exact dc_icmp_ne hl hb
    · exact dc_icmp_lt hl hb
    · exact dc_icmp_ge hl hb
    · exact dc_icmp_gt hl hb
    · exact dc_icmp_le hl hb
  | newarray k =>
    cases k with
    | boolean => obtain ⟨b, c, r, hl, hb, hc, rfl⟩ := mB1_ok h; exact dc_newarray_boolean hl hb hc
    | byte => obtain ⟨b, c, r, hl, hb, hc, rfl⟩ := mB1_ok h; exact dc_newarray_byte hl hb hc
    | int => obtain ⟨b, c, r, hl, hb, hc, rfl⟩ := mB1_ok h; exact dc_newarray_int hl hb hc
    | long => obtain ⟨b, c, r, hl, hb, hc, rfl⟩ := mB1_ok h; exact dc_newarray_long hl hb hc
    | _ => cases h
  | _ => cases h
