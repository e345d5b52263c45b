/-! an instruction read off a list of bytes -/
theorem dc_drop {α : Type} {l : List α} {p : Nat} {b : α} {r : List α} (h : l.drop p = b :: r) : l.drop (p + 1) = r := by
  rw [← List.tail_drop, h]
  rfl
theorem dc_u1 {l : List UInt8} {p : Nat} {b : UInt8} {r : List UInt8} (h : l.drop p = b :: r) : Reader.runAt (Reader.u1 : Decoder Nat) ⟨⟨l⟩⟩ p = .ok (b.toNat, p + 1) := by
  have hl : p < l.length := by
    rcases Nat.lt_or_ge p l.length with z | z
    · exact z
    · rw [List.drop_eq_nil_of_le z] at h; cases h
  have hg : l[p] = b := by
    have := List.drop_eq_getElem_cons hl
    rw [this] at h
    exact (List.cons.inj h).1
  have h1 : p < (ByteArray.mk ⟨l⟩).size := hl
  show (if h : p < (ByteArray.mk ⟨l⟩).size then _ else _ : ReaderT ByteArray (StateT Nat (Except DecodeError)) Nat) (ByteArray.mk ⟨l⟩) p = _
  rw [dif_pos h1]
  show Except.ok (((ByteArray.mk ⟨l⟩)[p]'h1).toNat, p + 1) = _
  have : (ByteArray.mk ⟨l⟩)[p]'h1 = b := hg
  rw [this]
theorem dc_bind {α β : Type} {x : Decoder α} {f : α → Decoder β} {cc : ByteArray} {p q : Nat} {a : α} (h : Reader.runAt x cc p = .ok (a, q)) : Reader.runAt (x >>= f) cc p = Reader.runAt (f a) cc q := by
  have e : Reader.runAt (x >>= f) cc p = Except.bind (Reader.runAt x cc p) (fun z => Reader.runAt (f z.1) cc z.2) := rfl
  rw [e, h]
  rfl
theorem dc_u2 {l : List UInt8} {p : Nat} {b c : UInt8} {r : List UInt8} (h : l.drop p = b :: c :: r) : Reader.runAt (Reader.u2 : Decoder Nat) ⟨⟨l⟩⟩ p = .ok (b.toNat * 256 + c.toNat, p + 2) := by
  unfold Reader.u2
  rw [dc_bind (dc_u1 h), dc_bind (dc_u1 (dc_drop h))]
  rfl
theorem dc_s1 {l : List UInt8} {p : Nat} {b : UInt8} {r : List UInt8} (h : l.drop p = b :: r) : Reader.runAt (Reader.s1 : Decoder Int) ⟨⟨l⟩⟩ p = .ok (Reader.signed 8 b.toNat, p + 1) := by
  unfold Reader.s1
  rw [← bind_pure_comp]
  rw [dc_bind (dc_u1 h)]
  rfl
theorem dc_s2 {l : List UInt8} {p : Nat} {b c : UInt8} {r : List UInt8} (h : l.drop p = b :: c :: r) : Reader.runAt (Reader.s2 : Decoder Int) ⟨⟨l⟩⟩ p = .ok (Reader.signed 16 (b.toNat * 256 + c.toNat), p + 2) := by
  unfold Reader.s2
  rw [← bind_pure_comp]
  rw [dc_bind (dc_u2 h)]
  rfl
theorem dc_len {cc : ByteArray} {pc n : Nat} {i : Instr} (h : Reader.runAt (Decoder.instr pc) cc pc = .ok (i, pc + n)) : decode cc pc = .ok (i, n) := by
  have e : decode cc pc = Except.bind (Reader.runAt (Decoder.instr pc) cc pc) (fun z => .ok (z.1, z.2 - pc)) := rfl
  rw [e, h]
  show Except.ok (i, pc + n - pc) = _
  rw [Nat.add_sub_cancel_left]
theorem dc_aconst_null {l : List UInt8} {pc : Nat} {b : UInt8} {r : List UInt8} (h : l.drop pc = b :: r) (h0 : b.toNat = 1) : decode ⟨⟨l⟩⟩ pc = .ok (.aconst_null, 1) := by
  refine dc_len ?_
  unfold Decoder.instr
  rw [dc_bind (dc_u1 h), h0]
  rfl
theorem dc_iaload {l : List UInt8} {pc : Nat} {b : UInt8} {r : List UInt8} (h : l.drop pc = b :: r) (h0 : b.toNat = 46) : decode ⟨⟨l⟩⟩ pc = .ok (.iaload, 1) := by
  refine dc_len ?_
  unfold Decoder.instr
  rw [dc_bind (dc_u1 h), h0]
  rfl
theorem dc_laload {l : List UInt8} {pc : Nat} {b : UInt8} {r : List UInt8} (h : l.drop pc = b :: r) (h0 : b.toNat = 47) : decode ⟨⟨l⟩⟩ pc = .ok (.laload, 1) := by
  refine dc_len ?_
  unfold Decoder.instr
  rw [dc_bind (dc_u1 h), h0]
  rfl
theorem dc_aaload {l : List UInt8} {pc : Nat} {b : UInt8} {r : List UInt8} (h : l.drop pc = b :: r) (h0 : b.toNat = 50) : decode ⟨⟨l⟩⟩ pc = .ok (.aaload, 1) := by
  refine dc_len ?_
  unfold Decoder.instr
  rw [dc_bind (dc_u1 h), h0]
  rfl
theorem dc_baload {l : List UInt8} {pc : Nat} {b : UInt8} {r : List UInt8} (h : l.drop pc = b :: r) (h0 : b.toNat = 51) : decode ⟨⟨l⟩⟩ pc = .ok (.baload, 1) := by
  refine dc_len ?_
  unfold Decoder.instr
  rw [dc_bind (dc_u1 h), h0]
  rfl
theorem dc_iastore {l : List UInt8} {pc : Nat} {b : UInt8} {r : List UInt8} (h : l.drop pc = b :: r) (h0 : b.toNat = 79) : decode ⟨⟨l⟩⟩ pc = .ok (.iastore, 1) := by
  refine dc_len ?_
  unfold Decoder.instr
  rw [dc_bind (dc_u1 h), h0]
  rfl
theorem dc_lastore {l : List UInt8} {pc : Nat} {b : UInt8} {r : List UInt8} (h : l.drop pc = b :: r) (h0 : b.toNat = 80) : decode ⟨⟨l⟩⟩ pc = .ok (.lastore, 1) := by
  refine dc_len ?_
  unfold Decoder.instr
  rw [dc_bind (dc_u1 h), h0]
  rfl
theorem dc_aastore {l : List UInt8} {pc : Nat} {b : UInt8} {r : List UInt8} (h : l.drop pc = b :: r) (h0 : b.toNat = 83) : decode ⟨⟨l⟩⟩ pc = .ok (.aastore, 1) := by
  refine dc_len ?_
  unfold Decoder.instr
  rw [dc_bind (dc_u1 h), h0]
  rfl
theorem dc_bastore {l : List UInt8} {pc : Nat} {b : UInt8} {r : List UInt8} (h : l.drop pc = b :: r) (h0 : b.toNat = 84) : decode ⟨⟨l⟩⟩ pc = .ok (.bastore, 1) := by
  refine dc_len ?_
  unfold Decoder.instr
  rw [dc_bind (dc_u1 h), h0]
  rfl
theorem dc_pop {l : List UInt8} {pc : Nat} {b : UInt8} {r : List UInt8} (h : l.drop pc = b :: r) (h0 : b.toNat = 87) : decode ⟨⟨l⟩⟩ pc = .ok (.pop, 1) := by
  refine dc_len ?_
  unfold Decoder.instr
  rw [dc_bind (dc_u1 h), h0]
  rfl
theorem dc_pop2 {l : List UInt8} {pc : Nat} {b : UInt8} {r : List UInt8} (h : l.drop pc = b :: r) (h0 : b.toNat = 88) : decode ⟨⟨l⟩⟩ pc = .ok (.pop2, 1) := by
  refine dc_len ?_
  unfold Decoder.instr
  rw [dc_bind (dc_u1 h), h0]
  rfl
theorem dc_dup {l : List UInt8} {pc : Nat} {b : UInt8} {r : List UInt8} (h : l.drop pc = b :: r) (h0 : b.toNat = 89) : decode ⟨⟨l⟩⟩ pc = .ok (.dup, 1) := by
  refine dc_len ?_
  unfold Decoder.instr
  rw [dc_bind (dc_u1 h), h0]
  rfl
theorem dc_dup2 {l : List UInt8} {pc : Nat} {b : UInt8} {r : List UInt8} (h : l.drop pc = b :: r) (h0 : b.toNat = 92) : decode ⟨⟨l⟩⟩ pc = .ok (.dup2, 1) := by
  refine dc_len ?_
  unfold Decoder.instr
  rw [dc_bind (dc_u1 h), h0]
  rfl
theorem dc_iadd {l : List UInt8} {pc : Nat} {b : UInt8} {r : List UInt8} (h : l.drop pc = b :: r) (h0 : b.toNat = 96) : decode ⟨⟨l⟩⟩ pc = .ok (.iadd, 1) := by
  refine dc_len ?_
  unfold Decoder.instr
  rw [dc_bind (dc_u1 h), h0]
  rfl
theorem dc_ladd {l : List UInt8} {pc : Nat} {b : UInt8} {r : List UInt8} (h : l.drop pc = b :: r) (h0 : b.toNat = 97) : decode ⟨⟨l⟩⟩ pc = .ok (.ladd, 1) := by
  refine dc_len ?_
  unfold Decoder.instr
  rw [dc_bind (dc_u1 h), h0]
  rfl
theorem dc_isub {l : List UInt8} {pc : Nat} {b : UInt8} {r : List UInt8} (h : l.drop pc = b :: r) (h0 : b.toNat = 100) : decode ⟨⟨l⟩⟩ pc = .ok (.isub, 1) := by
  refine dc_len ?_
  unfold Decoder.instr
  rw [dc_bind (dc_u1 h), h0]
  rfl
theorem dc_lsub {l : List UInt8} {pc : Nat} {b : UInt8} {r : List UInt8} (h : l.drop pc = b :: r) (h0 : b.toNat = 101) : decode ⟨⟨l⟩⟩ pc = .ok (.lsub, 1) := by
  refine dc_len ?_
  unfold Decoder.instr
  rw [dc_bind (dc_u1 h), h0]
  rfl
theorem dc_imul {l : List UInt8} {pc : Nat} {b : UInt8} {r : List UInt8} (h : l.drop pc = b :: r) (h0 : b.toNat = 104) : decode ⟨⟨l⟩⟩ pc = .ok (.imul, 1) := by
  refine dc_len ?_
  unfold Decoder.instr
  rw [dc_bind (dc_u1 h), h0]
  rfl
theorem dc_idiv {l : List UInt8} {pc : Nat} {b : UInt8} {r : List UInt8} (h : l.drop pc = b :: r) (h0 : b.toNat = 108) : decode ⟨⟨l⟩⟩ pc = .ok (.idiv, 1) := by
  refine dc_len ?_
  unfold Decoder.instr
  rw [dc_bind (dc_u1 h), h0]
  rfl
theorem dc_irem {l : List UInt8} {pc : Nat} {b : UInt8} {r : List UInt8} (h : l.drop pc = b :: r) (h0 : b.toNat = 112) : decode ⟨⟨l⟩⟩ pc = .ok (.irem, 1) := by
  refine dc_len ?_
  unfold Decoder.instr
  rw [dc_bind (dc_u1 h), h0]
  rfl
theorem dc_ineg {l : List UInt8} {pc : Nat} {b : UInt8} {r : List UInt8} (h : l.drop pc = b :: r) (h0 : b.toNat = 116) : decode ⟨⟨l⟩⟩ pc = .ok (.ineg, 1) := by
  refine dc_len ?_
  unfold Decoder.instr
  rw [dc_bind (dc_u1 h), h0]
  rfl
theorem dc_ishl {l : List UInt8} {pc : Nat} {b : UInt8} {r : List UInt8} (h : l.drop pc = b :: r) (h0 : b.toNat = 120) : decode ⟨⟨l⟩⟩ pc = .ok (.ishl, 1) := by
  refine dc_len ?_
  unfold Decoder.instr
  rw [dc_bind (dc_u1 h), h0]
  rfl
theorem dc_lshl {l : List UInt8} {pc : Nat} {b : UInt8} {r : List UInt8} (h : l.drop pc = b :: r) (h0 : b.toNat = 121) : decode ⟨⟨l⟩⟩ pc = .ok (.lshl, 1) := by
  refine dc_len ?_
  unfold Decoder.instr
  rw [dc_bind (dc_u1 h), h0]
  rfl
theorem dc_ishr {l : List UInt8} {pc : Nat} {b : UInt8} {r : List UInt8} (h : l.drop pc = b :: r) (h0 : b.toNat = 122) : decode ⟨⟨l⟩⟩ pc = .ok (.ishr, 1) := by
  refine dc_len ?_
  unfold Decoder.instr
  rw [dc_bind (dc_u1 h), h0]
  rfl
theorem dc_lshr {l : List UInt8} {pc : Nat} {b : UInt8} {r : List UInt8} (h : l.drop pc = b :: r) (h0 : b.toNat = 123) : decode ⟨⟨l⟩⟩ pc = .ok (.lshr, 1) := by
  refine dc_len ?_
  unfold Decoder.instr
  rw [dc_bind (dc_u1 h), h0]
  rfl
theorem dc_iushr {l : List UInt8} {pc : Nat} {b : UInt8} {r : List UInt8} (h : l.drop pc = b :: r) (h0 : b.toNat = 124) : decode ⟨⟨l⟩⟩ pc = .ok (.iushr, 1) := by
  refine dc_len ?_
  unfold Decoder.instr
  rw [dc_bind (dc_u1 h), h0]
  rfl
theorem dc_lushr {l : List UInt8} {pc : Nat} {b : UInt8} {r : List UInt8} (h : l.drop pc = b :: r) (h0 : b.toNat = 125) : decode ⟨⟨l⟩⟩ pc = .ok (.lushr, 1) := by
  refine dc_len ?_
  unfold Decoder.instr
  rw [dc_bind (dc_u1 h), h0]
  rfl
theorem dc_iand {l : List UInt8} {pc : Nat} {b : UInt8} {r : List UInt8} (h : l.drop pc = b :: r) (h0 : b.toNat = 126) : decode ⟨⟨l⟩⟩ pc = .ok (.iand, 1) := by
  refine dc_len ?_
  unfold Decoder.instr
  rw [dc_bind (dc_u1 h), h0]
  rfl
theorem dc_land {l : List UInt8} {pc : Nat} {b : UInt8} {r : List UInt8} (h : l.drop pc = b :: r) (h0 : b.toNat = 127) : decode ⟨⟨l⟩⟩ pc = .ok (.land, 1) := by
  refine dc_len ?_
  unfold Decoder.instr
  rw [dc_bind (dc_u1 h), h0]
  rfl
theorem dc_ior {l : List UInt8} {pc : Nat} {b : UInt8} {r : List UInt8} (h : l.drop pc = b :: r) (h0 : b.toNat = 128) : decode ⟨⟨l⟩⟩ pc = .ok (.ior, 1) := by
  refine dc_len ?_
  unfold Decoder.instr
  rw [dc_bind (dc_u1 h), h0]
  rfl
theorem dc_lor {l : List UInt8} {pc : Nat} {b : UInt8} {r : List UInt8} (h : l.drop pc = b :: r) (h0 : b.toNat = 129) : decode ⟨⟨l⟩⟩ pc = .ok (.lor, 1) := by
  refine dc_len ?_
  unfold Decoder.instr
  rw [dc_bind (dc_u1 h), h0]
  rfl
theorem dc_ixor {l : List UInt8} {pc : Nat} {b : UInt8} {r : List UInt8} (h : l.drop pc = b :: r) (h0 : b.toNat = 130) : decode ⟨⟨l⟩⟩ pc = .ok (.ixor, 1) := by
  refine dc_len ?_
  unfold Decoder.instr
  rw [dc_bind (dc_u1 h), h0]
  rfl
theorem dc_lxor {l : List UInt8} {pc : Nat} {b : UInt8} {r : List UInt8} (h : l.drop pc = b :: r) (h0 : b.toNat = 131) : decode ⟨⟨l⟩⟩ pc = .ok (.lxor, 1) := by
  refine dc_len ?_
  unfold Decoder.instr
  rw [dc_bind (dc_u1 h), h0]
  rfl
theorem dc_i2l {l : List UInt8} {pc : Nat} {b : UInt8} {r : List UInt8} (h : l.drop pc = b :: r) (h0 : b.toNat = 133) : decode ⟨⟨l⟩⟩ pc = .ok (.i2l, 1) := by
  refine dc_len ?_
  unfold Decoder.instr
  rw [dc_bind (dc_u1 h), h0]
  rfl
theorem dc_l2i {l : List UInt8} {pc : Nat} {b : UInt8} {r : List UInt8} (h : l.drop pc = b :: r) (h0 : b.toNat = 136) : decode ⟨⟨l⟩⟩ pc = .ok (.l2i, 1) := by
  refine dc_len ?_
  unfold Decoder.instr
  rw [dc_bind (dc_u1 h), h0]
  rfl
theorem dc_i2b {l : List UInt8} {pc : Nat} {b : UInt8} {r : List UInt8} (h : l.drop pc = b :: r) (h0 : b.toNat = 145) : decode ⟨⟨l⟩⟩ pc = .ok (.i2b, 1) := by
  refine dc_len ?_
  unfold Decoder.instr
  rw [dc_bind (dc_u1 h), h0]
  rfl
theorem dc_i2c {l : List UInt8} {pc : Nat} {b : UInt8} {r : List UInt8} (h : l.drop pc = b :: r) (h0 : b.toNat = 146) : decode ⟨⟨l⟩⟩ pc = .ok (.i2c, 1) := by
  refine dc_len ?_
  unfold Decoder.instr
  rw [dc_bind (dc_u1 h), h0]
  rfl
theorem dc_lcmp {l : List UInt8} {pc : Nat} {b : UInt8} {r : List UInt8} (h : l.drop pc = b :: r) (h0 : b.toNat = 148) : decode ⟨⟨l⟩⟩ pc = .ok (.lcmp, 1) := by
  refine dc_len ?_
  unfold Decoder.instr
  rw [dc_bind (dc_u1 h), h0]
  rfl
theorem dc_ireturn {l : List UInt8} {pc : Nat} {b : UInt8} {r : List UInt8} (h : l.drop pc = b :: r) (h0 : b.toNat = 172) : decode ⟨⟨l⟩⟩ pc = .ok (.ireturn, 1) := by
  refine dc_len ?_
  unfold Decoder.instr
  rw [dc_bind (dc_u1 h), h0]
  rfl
theorem dc_lreturn {l : List UInt8} {pc : Nat} {b : UInt8} {r : List UInt8} (h : l.drop pc = b :: r) (h0 : b.toNat = 173) : decode ⟨⟨l⟩⟩ pc = .ok (.lreturn, 1) := by
  refine dc_len ?_
  unfold Decoder.instr
  rw [dc_bind (dc_u1 h), h0]
  rfl
theorem dc_areturn {l : List UInt8} {pc : Nat} {b : UInt8} {r : List UInt8} (h : l.drop pc = b :: r) (h0 : b.toNat = 176) : decode ⟨⟨l⟩⟩ pc = .ok (.areturn, 1) := by
  refine dc_len ?_
  unfold Decoder.instr
  rw [dc_bind (dc_u1 h), h0]
  rfl
theorem dc_return_ {l : List UInt8} {pc : Nat} {b : UInt8} {r : List UInt8} (h : l.drop pc = b :: r) (h0 : b.toNat = 177) : decode ⟨⟨l⟩⟩ pc = .ok (.return_, 1) := by
  refine dc_len ?_
  unfold Decoder.instr
  rw [dc_bind (dc_u1 h), h0]
  rfl
theorem dc_arraylength {l : List UInt8} {pc : Nat} {b : UInt8} {r : List UInt8} (h : l.drop pc = b :: r) (h0 : b.toNat = 190) : decode ⟨⟨l⟩⟩ pc = .ok (.arraylength, 1) := by
  refine dc_len ?_
  unfold Decoder.instr
  rw [dc_bind (dc_u1 h), h0]
  rfl
theorem dc_iconst_0 {l : List UInt8} {pc : Nat} {b : UInt8} {r : List UInt8} (h : l.drop pc = b :: r) (h0 : b.toNat = 2) : decode ⟨⟨l⟩⟩ pc = .ok (.iconst (-1), 1) := by
  refine dc_len ?_
  unfold Decoder.instr
  rw [dc_bind (dc_u1 h), h0]
  rfl
theorem dc_iconst_1 {l : List UInt8} {pc : Nat} {b : UInt8} {r : List UInt8} (h : l.drop pc = b :: r) (h0 : b.toNat = 3) : decode ⟨⟨l⟩⟩ pc = .ok (.iconst (0), 1) := by
  refine dc_len ?_
  unfold Decoder.instr
  rw [dc_bind (dc_u1 h), h0]
  rfl
theorem dc_iconst_2 {l : List UInt8} {pc : Nat} {b : UInt8} {r : List UInt8} (h : l.drop pc = b :: r) (h0 : b.toNat = 4) : decode ⟨⟨l⟩⟩ pc = .ok (.iconst (1), 1) := by
  refine dc_len ?_
  unfold Decoder.instr
  rw [dc_bind (dc_u1 h), h0]
  rfl
theorem dc_iconst_3 {l : List UInt8} {pc : Nat} {b : UInt8} {r : List UInt8} (h : l.drop pc = b :: r) (h0 : b.toNat = 5) : decode ⟨⟨l⟩⟩ pc = .ok (.iconst (2), 1) := by
  refine dc_len ?_
  unfold Decoder.instr
  rw [dc_bind (dc_u1 h), h0]
  rfl
theorem dc_iconst_4 {l : List UInt8} {pc : Nat} {b : UInt8} {r : List UInt8} (h : l.drop pc = b :: r) (h0 : b.toNat = 6) : decode ⟨⟨l⟩⟩ pc = .ok (.iconst (3), 1) := by
  refine dc_len ?_
  unfold Decoder.instr
  rw [dc_bind (dc_u1 h), h0]
  rfl
theorem dc_iconst_5 {l : List UInt8} {pc : Nat} {b : UInt8} {r : List UInt8} (h : l.drop pc = b :: r) (h0 : b.toNat = 7) : decode ⟨⟨l⟩⟩ pc = .ok (.iconst (4), 1) := by
  refine dc_len ?_
  unfold Decoder.instr
  rw [dc_bind (dc_u1 h), h0]
  rfl
theorem dc_iconst_6 {l : List UInt8} {pc : Nat} {b : UInt8} {r : List UInt8} (h : l.drop pc = b :: r) (h0 : b.toNat = 8) : decode ⟨⟨l⟩⟩ pc = .ok (.iconst (5), 1) := by
  refine dc_len ?_
  unfold Decoder.instr
  rw [dc_bind (dc_u1 h), h0]
  rfl
theorem dc_lconst_0 {l : List UInt8} {pc : Nat} {b : UInt8} {r : List UInt8} (h : l.drop pc = b :: r) (h0 : b.toNat = 9) : decode ⟨⟨l⟩⟩ pc = .ok (.lconst 0, 1) := by
  refine dc_len ?_
  unfold Decoder.instr
  rw [dc_bind (dc_u1 h), h0]
  rfl
theorem dc_lconst_1 {l : List UInt8} {pc : Nat} {b : UInt8} {r : List UInt8} (h : l.drop pc = b :: r) (h0 : b.toNat = 10) : decode ⟨⟨l⟩⟩ pc = .ok (.lconst 1, 1) := by
  refine dc_len ?_
  unfold Decoder.instr
  rw [dc_bind (dc_u1 h), h0]
  rfl
theorem dc_iload_n0 {l : List UInt8} {pc : Nat} {b : UInt8} {r : List UInt8} (h : l.drop pc = b :: r) (h0 : b.toNat = 26) : decode ⟨⟨l⟩⟩ pc = .ok (.iload_n 0, 1) := by
  refine dc_len ?_
  unfold Decoder.instr
  rw [dc_bind (dc_u1 h), h0]
  rfl
theorem dc_iload_n1 {l : List UInt8} {pc : Nat} {b : UInt8} {r : List UInt8} (h : l.drop pc = b :: r) (h0 : b.toNat = 27) : decode ⟨⟨l⟩⟩ pc = .ok (.iload_n 1, 1) := by
  refine dc_len ?_
  unfold Decoder.instr
  rw [dc_bind (dc_u1 h), h0]
  rfl
theorem dc_iload_n2 {l : List UInt8} {pc : Nat} {b : UInt8} {r : List UInt8} (h : l.drop pc = b :: r) (h0 : b.toNat = 28) : decode ⟨⟨l⟩⟩ pc = .ok (.iload_n 2, 1) := by
  refine dc_len ?_
  unfold Decoder.instr
  rw [dc_bind (dc_u1 h), h0]
  rfl
theorem dc_iload_n3 {l : List UInt8} {pc : Nat} {b : UInt8} {r : List UInt8} (h : l.drop pc = b :: r) (h0 : b.toNat = 29) : decode ⟨⟨l⟩⟩ pc = .ok (.iload_n 3, 1) := by
  refine dc_len ?_
  unfold Decoder.instr
  rw [dc_bind (dc_u1 h), h0]
  rfl
theorem dc_lload_n0 {l : List UInt8} {pc : Nat} {b : UInt8} {r : List UInt8} (h : l.drop pc = b :: r) (h0 : b.toNat = 30) : decode ⟨⟨l⟩⟩ pc = .ok (.lload_n 0, 1) := by
  refine dc_len ?_
  unfold Decoder.instr
  rw [dc_bind (dc_u1 h), h0]
  rfl
theorem dc_lload_n1 {l : List UInt8} {pc : Nat} {b : UInt8} {r : List UInt8} (h : l.drop pc = b :: r) (h0 : b.toNat = 31) : decode ⟨⟨l⟩⟩ pc = .ok (.lload_n 1, 1) := by
  refine dc_len ?_
  unfold Decoder.instr
  rw [dc_bind (dc_u1 h), h0]
  rfl
theorem dc_lload_n2 {l : List UInt8} {pc : Nat} {b : UInt8} {r : List UInt8} (h : l.drop pc = b :: r) (h0 : b.toNat = 32) : decode ⟨⟨l⟩⟩ pc = .ok (.lload_n 2, 1) := by
  refine dc_len ?_
  unfold Decoder.instr
  rw [dc_bind (dc_u1 h), h0]
  rfl
theorem dc_lload_n3 {l : List UInt8} {pc : Nat} {b : UInt8} {r : List UInt8} (h : l.drop pc = b :: r) (h0 : b.toNat = 33) : decode ⟨⟨l⟩⟩ pc = .ok (.lload_n 3, 1) := by
  refine dc_len ?_
  unfold Decoder.instr
  rw [dc_bind (dc_u1 h), h0]
  rfl
theorem dc_aload_n0 {l : List UInt8} {pc : Nat} {b : UInt8} {r : List UInt8} (h : l.drop pc = b :: r) (h0 : b.toNat = 42) : decode ⟨⟨l⟩⟩ pc = .ok (.aload_n 0, 1) := by
  refine dc_len ?_
  unfold Decoder.instr
  rw [dc_bind (dc_u1 h), h0]
  rfl
theorem dc_aload_n1 {l : List UInt8} {pc : Nat} {b : UInt8} {r : List UInt8} (h : l.drop pc = b :: r) (h0 : b.toNat = 43) : decode ⟨⟨l⟩⟩ pc = .ok (.aload_n 1, 1) := by
  refine dc_len ?_
  unfold Decoder.instr
  rw [dc_bind (dc_u1 h), h0]
  rfl
theorem dc_aload_n2 {l : List UInt8} {pc : Nat} {b : UInt8} {r : List UInt8} (h : l.drop pc = b :: r) (h0 : b.toNat = 44) : decode ⟨⟨l⟩⟩ pc = .ok (.aload_n 2, 1) := by
  refine dc_len ?_
  unfold Decoder.instr
  rw [dc_bind (dc_u1 h), h0]
  rfl
theorem dc_aload_n3 {l : List UInt8} {pc : Nat} {b : UInt8} {r : List UInt8} (h : l.drop pc = b :: r) (h0 : b.toNat = 45) : decode ⟨⟨l⟩⟩ pc = .ok (.aload_n 3, 1) := by
  refine dc_len ?_
  unfold Decoder.instr
  rw [dc_bind (dc_u1 h), h0]
  rfl
theorem dc_istore_n0 {l : List UInt8} {pc : Nat} {b : UInt8} {r : List UInt8} (h : l.drop pc = b :: r) (h0 : b.toNat = 59) : decode ⟨⟨l⟩⟩ pc = .ok (.istore_n 0, 1) := by
  refine dc_len ?_
  unfold Decoder.instr
  rw [dc_bind (dc_u1 h), h0]
  rfl
theorem dc_istore_n1 {l : List UInt8} {pc : Nat} {b : UInt8} {r : List UInt8} (h : l.drop pc = b :: r) (h0 : b.toNat = 60) : decode ⟨⟨l⟩⟩ pc = .ok (.istore_n 1, 1) := by
  refine dc_len ?_
  unfold Decoder.instr
  rw [dc_bind (dc_u1 h), h0]
  rfl
theorem dc_istore_n2 {l : List UInt8} {pc : Nat} {b : UInt8} {r : List UInt8} (h : l.drop pc = b :: r) (h0 : b.toNat = 61) : decode ⟨⟨l⟩⟩ pc = .ok (.istore_n 2, 1) := by
  refine dc_len ?_
  unfold Decoder.instr
  rw [dc_bind (dc_u1 h), h0]
  rfl
theorem dc_istore_n3 {l : List UInt8} {pc : Nat} {b : UInt8} {r : List UInt8} (h : l.drop pc = b :: r) (h0 : b.toNat = 62) : decode ⟨⟨l⟩⟩ pc = .ok (.istore_n 3, 1) := by
  refine dc_len ?_
  unfold Decoder.instr
  rw [dc_bind (dc_u1 h), h0]
  rfl
theorem dc_lstore_n0 {l : List UInt8} {pc : Nat} {b : UInt8} {r : List UInt8} (h : l.drop pc = b :: r) (h0 : b.toNat = 63) : decode ⟨⟨l⟩⟩ pc = .ok (.lstore_n 0, 1) := by
  refine dc_len ?_
  unfold Decoder.instr
  rw [dc_bind (dc_u1 h), h0]
  rfl
theorem dc_lstore_n1 {l : List UInt8} {pc : Nat} {b : UInt8} {r : List UInt8} (h : l.drop pc = b :: r) (h0 : b.toNat = 64) : decode ⟨⟨l⟩⟩ pc = .ok (.lstore_n 1, 1) := by
  refine dc_len ?_
  unfold Decoder.instr
  rw [dc_bind (dc_u1 h), h0]
  rfl
theorem dc_lstore_n2 {l : List UInt8} {pc : Nat} {b : UInt8} {r : List UInt8} (h : l.drop pc = b :: r) (h0 : b.toNat = 65) : decode ⟨⟨l⟩⟩ pc = .ok (.lstore_n 2, 1) := by
  refine dc_len ?_
  unfold Decoder.instr
  rw [dc_bind (dc_u1 h), h0]
  rfl
theorem dc_lstore_n3 {l : List UInt8} {pc : Nat} {b : UInt8} {r : List UInt8} (h : l.drop pc = b :: r) (h0 : b.toNat = 66) : decode ⟨⟨l⟩⟩ pc = .ok (.lstore_n 3, 1) := by
  refine dc_len ?_
  unfold Decoder.instr
  rw [dc_bind (dc_u1 h), h0]
  rfl
theorem dc_astore_n0 {l : List UInt8} {pc : Nat} {b : UInt8} {r : List UInt8} (h : l.drop pc = b :: r) (h0 : b.toNat = 75) : decode ⟨⟨l⟩⟩ pc = .ok (.astore_n 0, 1) := by
  refine dc_len ?_
  unfold Decoder.instr
  rw [dc_bind (dc_u1 h), h0]
  rfl
theorem dc_astore_n1 {l : List UInt8} {pc : Nat} {b : UInt8} {r : List UInt8} (h : l.drop pc = b :: r) (h0 : b.toNat = 76) : decode ⟨⟨l⟩⟩ pc = .ok (.astore_n 1, 1) := by
  refine dc_len ?_
  unfold Decoder.instr
  rw [dc_bind (dc_u1 h), h0]
  rfl
theorem dc_astore_n2 {l : List UInt8} {pc : Nat} {b : UInt8} {r : List UInt8} (h : l.drop pc = b :: r) (h0 : b.toNat = 77) : decode ⟨⟨l⟩⟩ pc = .ok (.astore_n 2, 1) := by
  refine dc_len ?_
  unfold Decoder.instr
  rw [dc_bind (dc_u1 h), h0]
  rfl
theorem dc_astore_n3 {l : List UInt8} {pc : Nat} {b : UInt8} {r : List UInt8} (h : l.drop pc = b :: r) (h0 : b.toNat = 78) : decode ⟨⟨l⟩⟩ pc = .ok (.astore_n 3, 1) := by
  refine dc_len ?_
  unfold Decoder.instr
  rw [dc_bind (dc_u1 h), h0]
  rfl
theorem dc_ldc {l : List UInt8} {pc : Nat} {b c : UInt8} {r : List UInt8} (h : l.drop pc = b :: c :: r) (h0 : b.toNat = 18) : decode ⟨⟨l⟩⟩ pc = .ok (.ldc c.toNat, 2) := by
  refine dc_len ?_
  unfold Decoder.instr
  rw [dc_bind (dc_u1 h), h0]
  exact (dc_bind (dc_u1 (dc_drop h))).trans rfl
theorem dc_iload {l : List UInt8} {pc : Nat} {b c : UInt8} {r : List UInt8} (h : l.drop pc = b :: c :: r) (h0 : b.toNat = 21) : decode ⟨⟨l⟩⟩ pc = .ok (.iload c.toNat, 2) := by
  refine dc_len ?_
  unfold Decoder.instr
  rw [dc_bind (dc_u1 h), h0]
  exact (dc_bind (dc_u1 (dc_drop h))).trans rfl
theorem dc_lload {l : List UInt8} {pc : Nat} {b c : UInt8} {r : List UInt8} (h : l.drop pc = b :: c :: r) (h0 : b.toNat = 22) : decode ⟨⟨l⟩⟩ pc = .ok (.lload c.toNat, 2) := by
  refine dc_len ?_
  unfold Decoder.instr
  rw [dc_bind (dc_u1 h), h0]
  exact (dc_bind (dc_u1 (dc_drop h))).trans rfl
theorem dc_aload {l : List UInt8} {pc : Nat} {b c : UInt8} {r : List UInt8} (h : l.drop pc = b :: c :: r) (h0 : b.toNat = 25) : decode ⟨⟨l⟩⟩ pc = .ok (.aload c.toNat, 2) := by
  refine dc_len ?_
  unfold Decoder.instr
  rw [dc_bind (dc_u1 h), h0]
  exact (dc_bind (dc_u1 (dc_drop h))).trans rfl
theorem dc_istore {l : List UInt8} {pc : Nat} {b c : UInt8} {r : List UInt8} (h : l.drop pc = b :: c :: r) (h0 : b.toNat = 54) : decode ⟨⟨l⟩⟩ pc = .ok (.istore c.toNat, 2) := by
  refine dc_len ?_
  unfold Decoder.instr
  rw [dc_bind (dc_u1 h), h0]
  exact (dc_bind (dc_u1 (dc_drop h))).trans rfl
theorem dc_lstore {l : List UInt8} {pc : Nat} {b c : UInt8} {r : List UInt8} (h : l.drop pc = b :: c :: r) (h0 : b.toNat = 55) : decode ⟨⟨l⟩⟩ pc = .ok (.lstore c.toNat, 2) := by
  refine dc_len ?_
  unfold Decoder.instr
  rw [dc_bind (dc_u1 h), h0]
  exact (dc_bind (dc_u1 (dc_drop h))).trans rfl
theorem dc_astore {l : List UInt8} {pc : Nat} {b c : UInt8} {r : List UInt8} (h : l.drop pc = b :: c :: r) (h0 : b.toNat = 58) : decode ⟨⟨l⟩⟩ pc = .ok (.astore c.toNat, 2) := by
  refine dc_len ?_
  unfold Decoder.instr
  rw [dc_bind (dc_u1 h), h0]
  exact (dc_bind (dc_u1 (dc_drop h))).trans rfl
theorem dc_ldc_w {l : List UInt8} {pc : Nat} {b c d : UInt8} {r : List UInt8} (h : l.drop pc = b :: c :: d :: r) (h0 : b.toNat = 19) : decode ⟨⟨l⟩⟩ pc = .ok (.ldc_w (c.toNat * 256 + d.toNat), 3) := by
  refine dc_len ?_
  unfold Decoder.instr
  rw [dc_bind (dc_u1 h), h0]
  exact (dc_bind (dc_u2 (dc_drop h))).trans rfl
theorem dc_ldc2_w {l : List UInt8} {pc : Nat} {b c d : UInt8} {r : List UInt8} (h : l.drop pc = b :: c :: d :: r) (h0 : b.toNat = 20) : decode ⟨⟨l⟩⟩ pc = .ok (.ldc2_w (c.toNat * 256 + d.toNat), 3) := by
  refine dc_len ?_
  unfold Decoder.instr
  rw [dc_bind (dc_u1 h), h0]
  exact (dc_bind (dc_u2 (dc_drop h))).trans rfl
theorem dc_getfield {l : List UInt8} {pc : Nat} {b c d : UInt8} {r : List UInt8} (h : l.drop pc = b :: c :: d :: r) (h0 : b.toNat = 180) : decode ⟨⟨l⟩⟩ pc = .ok (.getfield (c.toNat * 256 + d.toNat), 3) := by
  refine dc_len ?_
  unfold Decoder.instr
  rw [dc_bind (dc_u1 h), h0]
  exact (dc_bind (dc_u2 (dc_drop h))).trans rfl
theorem dc_putfield {l : List UInt8} {pc : Nat} {b c d : UInt8} {r : List UInt8} (h : l.drop pc = b :: c :: d :: r) (h0 : b.toNat = 181) : decode ⟨⟨l⟩⟩ pc = .ok (.putfield (c.toNat * 256 + d.toNat), 3) := by
  refine dc_len ?_
  unfold Decoder.instr
  rw [dc_bind (dc_u1 h), h0]
  exact (dc_bind (dc_u2 (dc_drop h))).trans rfl
theorem dc_invokevirtual {l : List UInt8} {pc : Nat} {b c d : UInt8} {r : List UInt8} (h : l.drop pc = b :: c :: d :: r) (h0 : b.toNat = 182) : decode ⟨⟨l⟩⟩ pc = .ok (.invokevirtual (c.toNat * 256 + d.toNat), 3) := by
  refine dc_len ?_
  unfold Decoder.instr
  rw [dc_bind (dc_u1 h), h0]
  exact (dc_bind (dc_u2 (dc_drop h))).trans rfl
theorem dc_invokespecial {l : List UInt8} {pc : Nat} {b c d : UInt8} {r : List UInt8} (h : l.drop pc = b :: c :: d :: r) (h0 : b.toNat = 183) : decode ⟨⟨l⟩⟩ pc = .ok (.invokespecial (c.toNat * 256 + d.toNat), 3) := by
  refine dc_len ?_
  unfold Decoder.instr
  rw [dc_bind (dc_u1 h), h0]
  exact (dc_bind (dc_u2 (dc_drop h))).trans rfl
theorem dc_invokestatic {l : List UInt8} {pc : Nat} {b c d : UInt8} {r : List UInt8} (h : l.drop pc = b :: c :: d :: r) (h0 : b.toNat = 184) : decode ⟨⟨l⟩⟩ pc = .ok (.invokestatic (c.toNat * 256 + d.toNat), 3) := by
  refine dc_len ?_
  unfold Decoder.instr
  rw [dc_bind (dc_u1 h), h0]
  exact (dc_bind (dc_u2 (dc_drop h))).trans rfl
theorem dc_new {l : List UInt8} {pc : Nat} {b c d : UInt8} {r : List UInt8} (h : l.drop pc = b :: c :: d :: r) (h0 : b.toNat = 187) : decode ⟨⟨l⟩⟩ pc = .ok (.new (c.toNat * 256 + d.toNat), 3) := by
  refine dc_len ?_
  unfold Decoder.instr
  rw [dc_bind (dc_u1 h), h0]
  exact (dc_bind (dc_u2 (dc_drop h))).trans rfl
theorem dc_anewarray {l : List UInt8} {pc : Nat} {b c d : UInt8} {r : List UInt8} (h : l.drop pc = b :: c :: d :: r) (h0 : b.toNat = 189) : decode ⟨⟨l⟩⟩ pc = .ok (.anewarray (c.toNat * 256 + d.toNat), 3) := by
  refine dc_len ?_
  unfold Decoder.instr
  rw [dc_bind (dc_u1 h), h0]
  exact (dc_bind (dc_u2 (dc_drop h))).trans rfl
theorem dc_bipush {l : List UInt8} {pc : Nat} {b c : UInt8} {r : List UInt8} (h : l.drop pc = b :: c :: r) (h0 : b.toNat = 16) : decode ⟨⟨l⟩⟩ pc = .ok (.bipush (Reader.signed 8 c.toNat), 2) := by
  refine dc_len ?_
  unfold Decoder.instr
  rw [dc_bind (dc_u1 h), h0]
  exact (dc_bind (dc_s1 (dc_drop h))).trans rfl
theorem dc_sipush {l : List UInt8} {pc : Nat} {b c d : UInt8} {r : List UInt8} (h : l.drop pc = b :: c :: d :: r) (h0 : b.toNat = 17) : decode ⟨⟨l⟩⟩ pc = .ok (.sipush (Reader.signed 16 (c.toNat * 256 + d.toNat)), 3) := by
  refine dc_len ?_
  unfold Decoder.instr
  rw [dc_bind (dc_u1 h), h0]
  exact (dc_bind (dc_s2 (dc_drop h))).trans rfl
theorem dc_iinc {l : List UInt8} {pc : Nat} {b c d : UInt8} {r : List UInt8} (h : l.drop pc = b :: c :: d :: r) (h0 : b.toNat = 132) : decode ⟨⟨l⟩⟩ pc = .ok (.iinc c.toNat (Reader.signed 8 d.toNat), 3) := by
  refine dc_len ?_
  unfold Decoder.instr
  rw [dc_bind (dc_u1 h), h0]
  refine (dc_bind (dc_u1 (dc_drop h))).trans ?_
  exact (dc_bind (dc_s1 (dc_drop (dc_drop h)))).trans rfl
theorem dc_goto {l : List UInt8} {pc : Nat} {b c d : UInt8} {r : List UInt8} (h : l.drop pc = b :: c :: d :: r) (h0 : b.toNat = 167) : decode ⟨⟨l⟩⟩ pc = .ok (.goto (Reader.signed 16 (c.toNat * 256 + d.toNat)), 3) := by
  refine dc_len ?_
  unfold Decoder.instr
  rw [dc_bind (dc_u1 h), h0]
  exact (dc_bind (dc_s2 (dc_drop h))).trans rfl
theorem dc_if_eq {l : List UInt8} {pc : Nat} {b c d : UInt8} {r : List UInt8} (h : l.drop pc = b :: c :: d :: r) (h0 : b.toNat = 153) : decode ⟨⟨l⟩⟩ pc = .ok (.ifCond .eq (Reader.signed 16 (c.toNat * 256 + d.toNat)), 3) := by
  refine dc_len ?_
  unfold Decoder.instr
  rw [dc_bind (dc_u1 h), h0]
  exact (dc_bind (dc_s2 (dc_drop h))).trans rfl
theorem dc_icmp_eq {l : List UInt8} {pc : Nat} {b c d : UInt8} {r : List UInt8} (h : l.drop pc = b :: c :: d :: r) (h0 : b.toNat = 159) : decode ⟨⟨l⟩⟩ pc = .ok (.if_icmp .eq (Reader.signed 16 (c.toNat * 256 + d.toNat)), 3) := by
  refine dc_len ?_
  unfold Decoder.instr
  rw [dc_bind (dc_u1 h), h0]
  exact (dc_bind (dc_s2 (dc_drop h))).trans rfl
theorem dc_if_ne {l : List UInt8} {pc : Nat} {b c d : UInt8} {r : List UInt8} (h : l.drop pc = b :: c :: d :: r) (h0 : b.toNat = 154) : decode ⟨⟨l⟩⟩ pc = .ok (.ifCond .ne (Reader.signed 16 (c.toNat * 256 + d.toNat)), 3) := by
  refine dc_len ?_
  unfold Decoder.instr
  rw [dc_bind (dc_u1 h), h0]
  exact (dc_bind (dc_s2 (dc_drop h))).trans rfl
theorem dc_icmp_ne {l : List UInt8} {pc : Nat} {b c d : UInt8} {r : List UInt8} (h : l.drop pc = b :: c :: d :: r) (h0 : b.toNat = 160) : decode ⟨⟨l⟩⟩ pc = .ok (.if_icmp .ne (Reader.signed 16 (c.toNat * 256 + d.toNat)), 3) := by
  refine dc_len ?_
  unfold Decoder.instr
  rw [dc_bind (dc_u1 h), h0]
  exact (dc_bind (dc_s2 (dc_drop h))).trans rfl
theorem dc_if_lt {l : List UInt8} {pc : Nat} {b c d : UInt8} {r : List UInt8} (h : l.drop pc = b :: c :: d :: r) (h0 : b.toNat = 155) : decode ⟨⟨l⟩⟩ pc = .ok (.ifCond .lt (Reader.signed 16 (c.toNat * 256 + d.toNat)), 3) := by
  refine dc_len ?_
  unfold Decoder.instr
  rw [dc_bind (dc_u1 h), h0]
  exact (dc_bind (dc_s2 (dc_drop h))).trans rfl
theorem dc_icmp_lt {l : List UInt8} {pc : Nat} {b c d : UInt8} {r : List UInt8} (h : l.drop pc = b :: c :: d :: r) (h0 : b.toNat = 161) : decode ⟨⟨l⟩⟩ pc = .ok (.if_icmp .lt (Reader.signed 16 (c.toNat * 256 + d.toNat)), 3) := by
  refine dc_len ?_
  unfold Decoder.instr
  rw [dc_bind (dc_u1 h), h0]
  exact (dc_bind (dc_s2 (dc_drop h))).trans rfl
theorem dc_if_ge {l : List UInt8} {pc : Nat} {b c d : UInt8} {r : List UInt8} (h : l.drop pc = b :: c :: d :: r) (h0 : b.toNat = 156) : decode ⟨⟨l⟩⟩ pc = .ok (.ifCond .ge (Reader.signed 16 (c.toNat * 256 + d.toNat)), 3) := by
  refine dc_len ?_
  unfold Decoder.instr
  rw [dc_bind (dc_u1 h), h0]
  exact (dc_bind (dc_s2 (dc_drop h))).trans rfl
theorem dc_icmp_ge {l : List UInt8} {pc : Nat} {b c d : UInt8} {r : List UInt8} (h : l.drop pc = b :: c :: d :: r) (h0 : b.toNat = 162) : decode ⟨⟨l⟩⟩ pc = .ok (.if_icmp .ge (Reader.signed 16 (c.toNat * 256 + d.toNat)), 3) := by
  refine dc_len ?_
  unfold Decoder.instr
  rw [dc_bind (dc_u1 h), h0]
  exact (dc_bind (dc_s2 (dc_drop h))).trans rfl
theorem dc_if_gt {l : List UInt8} {pc : Nat} {b c d : UInt8} {r : List UInt8} (h : l.drop pc = b :: c :: d :: r) (h0 : b.toNat = 157) : decode ⟨⟨l⟩⟩ pc = .ok (.ifCond .gt (Reader.signed 16 (c.toNat * 256 + d.toNat)), 3) := by
  refine dc_len ?_
  unfold Decoder.instr
  rw [dc_bind (dc_u1 h), h0]
  exact (dc_bind (dc_s2 (dc_drop h))).trans rfl
theorem dc_icmp_gt {l : List UInt8} {pc : Nat} {b c d : UInt8} {r : List UInt8} (h : l.drop pc = b :: c :: d :: r) (h0 : b.toNat = 163) : decode ⟨⟨l⟩⟩ pc = .ok (.if_icmp .gt (Reader.signed 16 (c.toNat * 256 + d.toNat)), 3) := by
  refine dc_len ?_
  unfold Decoder.instr
  rw [dc_bind (dc_u1 h), h0]
  exact (dc_bind (dc_s2 (dc_drop h))).trans rfl
theorem dc_if_le {l : List UInt8} {pc : Nat} {b c d : UInt8} {r : List UInt8} (h : l.drop pc = b :: c :: d :: r) (h0 : b.toNat = 158) : decode ⟨⟨l⟩⟩ pc = .ok (.ifCond .le (Reader.signed 16 (c.toNat * 256 + d.toNat)), 3) := by
  refine dc_len ?_
  unfold Decoder.instr
  rw [dc_bind (dc_u1 h), h0]
  exact (dc_bind (dc_s2 (dc_drop h))).trans rfl
theorem dc_icmp_le {l : List UInt8} {pc : Nat} {b c d : UInt8} {r : List UInt8} (h : l.drop pc = b :: c :: d :: r) (h0 : b.toNat = 164) : decode ⟨⟨l⟩⟩ pc = .ok (.if_icmp .le (Reader.signed 16 (c.toNat * 256 + d.toNat)), 3) := by
  refine dc_len ?_
  unfold Decoder.instr
  rw [dc_bind (dc_u1 h), h0]
  exact (dc_bind (dc_s2 (dc_drop h))).trans rfl
theorem dc_newarray_boolean {l : List UInt8} {pc : Nat} {b c : UInt8} {r : List UInt8} (h : l.drop pc = b :: c :: r) (h0 : b.toNat = 188) (h1 : c.toNat = 4) : decode ⟨⟨l⟩⟩ pc = .ok (.newarray .boolean, 2) := by
  refine dc_len ?_
  unfold Decoder.instr
  rw [dc_bind (dc_u1 h), h0]
  show Reader.runAt (Decoder.newarray pc) _ _ = _
  unfold Decoder.newarray
  rw [dc_bind (dc_u1 (dc_drop h)), h1]
  rfl
theorem dc_newarray_byte {l : List UInt8} {pc : Nat} {b c : UInt8} {r : List UInt8} (h : l.drop pc = b :: c :: r) (h0 : b.toNat = 188) (h1 : c.toNat = 8) : decode ⟨⟨l⟩⟩ pc = .ok (.newarray .byte, 2) := by
  refine dc_len ?_
  unfold Decoder.instr
  rw [dc_bind (dc_u1 h), h0]
  show Reader.runAt (Decoder.newarray pc) _ _ = _
  unfold Decoder.newarray
  rw [dc_bind (dc_u1 (dc_drop h)), h1]
  rfl
theorem dc_newarray_int {l : List UInt8} {pc : Nat} {b c : UInt8} {r : List UInt8} (h : l.drop pc = b :: c :: r) (h0 : b.toNat = 188) (h1 : c.toNat = 10) : decode ⟨⟨l⟩⟩ pc = .ok (.newarray .int, 2) := by
  refine dc_len ?_
  unfold Decoder.instr
  rw [dc_bind (dc_u1 h), h0]
  show Reader.runAt (Decoder.newarray pc) _ _ = _
  unfold Decoder.newarray
  rw [dc_bind (dc_u1 (dc_drop h)), h1]
  rfl
theorem dc_newarray_long {l : List UInt8} {pc : Nat} {b c : UInt8} {r : List UInt8} (h : l.drop pc = b :: c :: r) (h0 : b.toNat = 188) (h1 : c.toNat = 11) : decode ⟨⟨l⟩⟩ pc = .ok (.newarray .long, 2) := by
  refine dc_len ?_
  unfold Decoder.instr
  rw [dc_bind (dc_u1 h), h0]
  show Reader.runAt (Decoder.newarray pc) _ _ = _
  unfold Decoder.newarray
  rw [dc_bind (dc_u1 (dc_drop h)), h1]
  rfl
