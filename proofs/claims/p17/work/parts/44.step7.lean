/-! every instruction that is neither a call nor a return -/
def aStep (mod : List (Nat × Nat)) (mL : Nat) (ins : Instr) (pc nx : Nat) (S : AS) : Option (List (Nat × AS)) := match ins with
  | .iconst v => bif aIn v v then some [(nx, S.1, S.2.1, (1, 0, v) :: S.2.2)] else none
  | .ldc2_w _ => some [(nx, S.1, S.2.1, (3, 0, 0) :: S.2.2)]
  | .ldc _ => some [(nx, S.1, S.2.1, (4, 0, 0) :: S.2.2)]
  | .iload i => aLoc (fun k => Nat.beq k 1) i nx S
  | .lload i => aLoc (fun k => Nat.beq k 3) i nx S
  | .aload i => aLoc (fun k => Nat.beq k 2 || Nat.ble 4 k) i nx S
  | .istore i => aSto (fun k => Nat.beq k 1) false mL i nx S
  | .lstore i => aSto (fun k => Nat.beq k 3) true mL i nx S
  | .astore i => aSto (fun k => Nat.beq k 2 || Nat.ble 4 k) false mL i nx S
  | .iinc i n => aInc mL i n nx S
  | .iadd => aBinI aAdd nx S
  | .isub => aBinI aSub nx S
  | .imul => aBinI aMul nx S
  | .iand => aBinI aAnd nx S
  | .ior => aBinI aOr nx S
  | .ixor => aBinI aOr nx S
  | .ishl => aBinI (fun K _ _ _ _ => aAny K) nx S
  | .ishr => aBinI aShr nx S
  | .iushr => aBinI (fun K a p _ _ => aUsh K a p) nx S
  | .idiv => aDvI aDiv nx S
  | .irem => aDvI aRem nx S
  | .ineg => aUnI aNegI nx S
  | .i2b => aUnI aI2b nx S
  | .i2c => aUnI aI2c nx S
  | .i2l => aI2l nx S
  | .l2i => aL2i nx S
  | .ladd => aTwo 3 3 (.inr ()) nx S
  | .lsub => aTwo 3 3 (.inr ()) nx S
  | .land => aTwo 3 3 (.inr ()) nx S
  | .lor => aTwo 3 3 (.inr ()) nx S
  | .lxor => aTwo 3 3 (.inr ()) nx S
  | .lshl => aTwo 3 1 (.inr ()) nx S
  | .lshr => aTwo 3 1 (.inr ()) nx S
  | .lushr => aTwo 3 1 (.inr ()) nx S
  | .lcmp => aLcm nx S
  | .dup => aDup nx S
  | .pop => aPop nx S
  | .pop2 => aPop2 nx S
  | .dup2 => aDup2 nx S
  | .goto o => (match mJmp pc o with
    | some t => some [(t, S.1, S.2.1, S.2.2)]
    | none => none)
  | .ifCond c o => aIfc c o pc nx S
  | .if_icmp c o => aIcm c o pc nx S
  | .tableswitch d lo hi os => aTsw d lo hi os.toList pc S
  | .lookupswitch d ps => aLsw d ps.toList pc S
  | .getfield j => aGetf j nx S
  | .putfield j => aPutf mod j nx S
  | .iaload => aArl 1 nx S
  | .aaload => aArl 2 nx S
  | .laload => aArl 3 nx S
  | .baload => aArl 4 nx S
  | .iastore => aArs 1 nx S
  | .lastore => aArs 3 nx S
  | .bastore => aArs 4 nx S
  | .arraylength => aLen nx S
  | _ => none
section
variable {scr : SG} {σ : Nat → Int} {S : AS} {L : MLoc} {st : List Value} {M : Mem} {mod : List (Nat × Nat)} {pc nx : Nat} {outs : List (Nat × AS)}
theorem aStep_ok {mL : Nat} {ins : Instr} (h : aHold scr σ S L st M) (ho : aStep mod mL ins pc nx S = some outs) : aGo scr σ S.1.1.length mod M outs (mStep mL ins pc nx L st M) := by
  cases ins with
  | iconst v =>
    have ho : (bif aIn v v then some [(nx, S.1, S.2.1, (1, 0, v) :: S.2.2)] else none) = some outs := ho
    cases hq : aIn v v with
    | false => rw [hq] at ho; cases ho
    | true =>
      rw [hq] at ho
      cases ho
      have r := aIn_ok hq (Int.le_refl v) (Int.le_refl v)
      have h0 := h.1.2.1.1
      exact aGo_same h rfl h.2.1 ⟨⟨h.1.1, _, rfl, by show (Int32.ofInt v).toInt = σ 0 + v; rw [i32_ofInt r.1 r.2]; omega⟩, h.2.2.1⟩
  | ldc2_w j => cases ho; exact aGo_same h rfl h.2.1 ⟨⟨_, rfl⟩, h.2.2.1⟩
  | ldc j => cases ho; exact aGo_same h rfl h.2.1 ⟨rfl, h.2.2.1⟩
  | iload i => exact aLocI_ok h ho
  | lload i => exact aLocL_ok h ho
  | aload i => exact aLocR_ok h ho
  | istore i => exact aStoI_ok h ho
  | lstore i => exact aStoL_ok h ho
  | astore i => exact aStoR_ok h ho
  | iinc i n => exact aInc_ok h ho
  | iadd => exact aBinI_ok h (fun a b c d => aAdd_ok h.1 a b c d) ho
  | isub => exact aBinI_ok h (fun a b c d => aSub_ok h.1 a b c d) ho
  | imul => exact aBinI_ok h (fun a b c d => aMul_ok h.1 a b c d) ho
  | iand => exact aBinI_ok h (fun a b c d => aAnd_ok h.1 a b c d) ho
  | ior => exact aBinI_ok h (fun a b c d => (aOr_ok h.1 a b c d).1) ho
  | ixor => exact aBinI_ok h (fun a b c d => (aOr_ok h.1 a b c d).2) ho
  | ishl => exact aBinI_ok (f := fun K _ _ _ _ => aAny K) h (fun _ _ _ _ => aAny_ok h.1 _) ho
  | ishr => exact aBinI_ok h (fun a _ c d => aShr_ok h.1 a c d) ho
  | iushr => exact aBinI_ok (f := fun K a p _ _ => aUsh K a p) (g := fun x y => (x.toUInt32 >>> (y.toUInt32 &&& Int32.toUInt32 31)).toInt32) h (fun a _ c _ => aUsh_ok h.1 a c) ho
  | idiv =>
    obtain ⟨x, y, r, rfl, hy, hg⟩ := aDvI_ok (mod := mod) h ho
    have e : mStep mL .idiv pc nx L (.int y :: .int x :: r) M = some (nx, L, .int (x / y) :: r, M) := if_neg hy
    rw [e]
    exact hg (fun x y => x / y) (fun a b c d => aDiv_ok h.1 a b c d)
  | irem =>
    obtain ⟨x, y, r, rfl, hy, hg⟩ := aDvI_ok (mod := mod) h ho
    have e : mStep mL .irem pc nx L (.int y :: .int x :: r) M = some (nx, L, .int (x - x / y * y) :: r, M) := if_neg hy
    rw [e]
    exact hg (fun x y => x - x / y * y) (fun a b c d => aRem_ok h.1 a b c d)
  | ineg => exact aUnI_ok h (fun a b => aNegI_ok h.1 a b) ho
  | i2b => exact aUnI_ok (g := fun x => x.toInt8.toInt32) h (fun a b => aI2b_ok h.1 a b) ho
  | i2c => exact aUnI_ok (g := fun x => (x.toUInt32 % 65536).toInt32) h (fun a b => aI2c_ok h.1 a b) ho
  | i2l => exact aI2l_ok (mL := mL) h ho
  | l2i => exact aL2i_ok h ho
  | ladd => exact aTwoL_ok h ho
  | lsub => exact aTwoL_ok h ho
  | land => exact aTwoL_ok h ho
  | lor => exact aTwoL_ok h ho
  | lxor => exact aTwoL_ok h ho
  | lshl => exact aTwoS_ok h ho
  | lshr => exact aTwoS_ok h ho
  | lushr => exact aTwoS_ok h ho
  | lcmp => exact aLcm_ok h ho
  | dup => exact aDup_ok h ho
  | pop => exact aPop_ok h ho
  | pop2 => exact aPop2_ok h ho
  | dup2 => exact aDup2_ok h ho
  | goto o =>
    have ho : (match mJmp pc o with
      | some t => some [(t, S.1, S.2.1, S.2.2)]
      | none => none) = some outs := ho
    unfold mStep
    dsimp only
    cases hj : mJmp pc o with
    | none => rw [hj] at ho; cases ho
    | some t =>
      rw [hj] at ho
      cases ho
      exact aGo_same h rfl h.2.1 h.2.2.1
  | ifCond c o => exact aIfc_ok h ho
  | if_icmp c o => exact aIcm_ok h ho
  | tableswitch d lo hi os => exact aTsw_ok h ho
  | lookupswitch d ps => exact aLsw_ok h ho
  | getfield j => exact aGetf_ok h ho
  | putfield j => exact aPutf_ok h ho
  | iaload => exact aArl_ok (kd := 1) (by omega) h ho
  | aaload => exact aArl_ok (kd := 2) (by omega) h ho
  | laload => exact aArl_ok (kd := 3) (by omega) h ho
  | baload => exact aArl_ok (kd := 4) (by omega) h ho
  | iastore => exact aArs_ok (kd := 1) (by omega) h ho
  | lastore => exact aArs_ok (kd := 3) (by omega) h ho
  | bastore => exact aArs_ok (kd := 4) (by omega) h ho
  | arraylength => exact aLen_ok h ho
  | _ => cases ho
end
