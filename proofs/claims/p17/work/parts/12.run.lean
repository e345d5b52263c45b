/-! the small machine runs a method -/
def mCall (d j : Nat) (st : List Value) (M : Mem) : Option (List Value × List Value) :=
  let q := mIT j
  let as := (st.take q.1).reverse
  if (1 ≤ d ∧ j < 282 ∧ q.1 ≤ st.length ∧ ((st.drop q.1).map fun v => v.category).sum ≤ 8 ∧ (lg_sl as).length ≤ q.2.1) ∧ (q.2.2.2.2 = 0 ∨ (q.2.2.2.2 = 1 ∧ mTagOf M (as.headD .null) = q.2.2.2.1) ∨ (q.2.2.2.2 = 2 ∧ mIsR (as.headD .null) = true)) then some (as, st.drop q.1) else none
def mRun : Nat → Nat → Nat → Nat → MLoc → List Value → Mem → Option (Option Value × Mem)
  | 0, _, _, _, _, _, _ => none
  | n + 1, d, mi, pc, L, st, M => match mAt mi pc with
    | none => none
    | some (len, ins) => match ins with
      | .ireturn => match st with
        | [.int x] => if (mIT mi).2.2.1 = 1 ∨ ((mIT mi).2.2.1 = 2 ∧ (x = 0 ∨ x = 1)) then some (some (.int x), M) else none
        | _ => none
      | .lreturn => match st with
        | [.long x] => if (mIT mi).2.2.1 = 3 then some (some (.long x), M) else none
        | _ => none
      | .areturn => match st with
        | [.ref x] => if (mIT mi).2.2.1 = 4 then some (some (.ref x), M) else none
        | _ => none
      | .return_ => match st with
        | [] => if (mIT mi).2.2.1 = 0 then some (none, M) else none
        | _ => none
      | .invokestatic j => if 900 ≤ j then (match mPrim d j st M with
          | some (st', M') => mRun n d mi (pc + len) L st' M'
          | none => none) else (match mCall d j st M with
          | some (as, rest) => (match mRun n (d - 1) j 0 (lv_args 0 as) [] M with
            | some (r, M') => mRun n d mi (pc + len) L (r.toList ++ rest) M'
            | none => none)
          | none => none)
      | .invokevirtual j => if 900 ≤ j then (match mPrim d j st M with
          | some (st', M') => mRun n d mi (pc + len) L st' M'
          | none => none) else (match mCall d j st M with
          | some (as, rest) => (match mRun n (d - 1) j 0 (lv_args 0 as) [] M with
            | some (r, M') => mRun n d mi (pc + len) L (r.toList ++ rest) M'
            | none => none)
          | none => none)
      | .invokespecial j => if 900 ≤ j then (match mPrim d j st M with
          | some (st', M') => mRun n d mi (pc + len) L st' M'
          | none => none) else (match mCall d j st M with
          | some (as, rest) => (match mRun n (d - 1) j 0 (lv_args 0 as) [] M with
            | some (r, M') => mRun n d mi (pc + len) L (r.toList ++ rest) M'
            | none => none)
          | none => none)
      | ins => match mStep (mIT mi).2.1 ins pc (pc + len) L st M with
        | some (pc', L', st', M') => mRun n d mi pc' L' st' M'
        | none => none
/-- memory only grows -/
def mLe (M M' : Mem) : Prop := M.length ≤ M'.length ∧ mSl M ≤ mSl M'
theorem mLe.rf {M : Mem} : mLe M M := ⟨Nat.le_refl _, Nat.le_refl _⟩
theorem mLe.tr {A B C : Mem} (h1 : mLe A B) (h2 : mLe B C) : mLe A C := ⟨Nat.le_trans h1.1 h2.1, Nat.le_trans h1.2 h2.2⟩
theorem mLe.set {M : Mem} {a t t' : Nat} {c c' : List Value} (h : M[a]? = some (t, c)) (hl : c'.length = c.length) : mLe M (M.set a (t', c')) := ⟨by rw [List.length_set]; exact Nat.le_refl _, by rw [mSl_set h hl]; exact Nat.le_refl _⟩
theorem mLe.app {M N : Mem} : mLe M (M ++ N) := ⟨by rw [List.length_append]; omega, by rw [mSl_app]; omega⟩
theorem mBin_M {nx : Nat} {L : MLoc} {st : List Value} {M : Mem} {f : Int32 → Int32 → Int32} {o : Nat × MLoc × List Value × Mem} (h : mBin nx L st M f = some o) : mLe M o.2.2.2 := by
  obtain ⟨_, _, _, -, -, -, -, h5⟩ := mBin_ok (pc' := o.1) (L' := o.2.1) (st' := o.2.2.1) (M' := o.2.2.2) h
  rw [h5]; exact mLe.rf
theorem mBinL_M {nx : Nat} {L : MLoc} {st : List Value} {M : Mem} {f : Int64 → Int64 → Int64} {o : Nat × MLoc × List Value × Mem} (h : mBinL nx L st M f = some o) : mLe M o.2.2.2 := by
  obtain ⟨_, _, _, -, -, -, -, h5⟩ := mBinL_ok (pc' := o.1) (L' := o.2.1) (st' := o.2.2.1) (M' := o.2.2.2) h
  rw [h5]; exact mLe.rf
theorem mShL_M {nx : Nat} {L : MLoc} {st : List Value} {M : Mem} {f : Int64 → Int32 → Int64} {o : Nat × MLoc × List Value × Mem} (h : mShL nx L st M f = some o) : mLe M o.2.2.2 := by
  obtain ⟨_, _, _, -, -, -, -, h5⟩ := mShL_ok (pc' := o.1) (L' := o.2.1) (st' := o.2.2.1) (M' := o.2.2.2) h
  rw [h5]; exact mLe.rf
theorem mUn_M {nx : Nat} {L : MLoc} {st : List Value} {M : Mem} {f : Int32 → Value} {o : Nat × MLoc × List Value × Mem} (h : mUn nx L st M f = some o) : mLe M o.2.2.2 := by
  obtain ⟨_, _, -, -, -, -, h5⟩ := mUn_ok (pc' := o.1) (L' := o.2.1) (st' := o.2.2.1) (M' := o.2.2.2) h
  rw [h5]; exact mLe.rf
theorem mAld_M {nx : Nat} {L : MLoc} {st : List Value} {M : Mem} {f : Nat → Value → Bool} {o : Nat × MLoc × List Value × Mem} (h : mAld nx L st M f = some o) : mLe M o.2.2.2 := by
  obtain ⟨_, _, _, _, _, _, _, -, -, -, -, -, -, -, -, h5⟩ := mAld_ok (pc' := o.1) (L' := o.2.1) (st' := o.2.2.1) (M' := o.2.2.2) h
  rw [h5]; exact mLe.rf
theorem mAst_M {nx : Nat} {L : MLoc} {st : List Value} {M : Mem} {f : Nat → Value → Option Value} {o : Nat × MLoc × List Value × Mem} (h : mAst nx L st M f = some o) : mLe M o.2.2.2 := by
  obtain ⟨_, _, _, _, _, _, _, _, -, hm, -, -, -, -, -, -, h5⟩ := mAst_ok (pc' := o.1) (L' := o.2.1) (st' := o.2.2.1) (M' := o.2.2.2) h
  rw [h5]; exact mLe.set hm (List.length_set ..)
theorem mStep_M {mL pc nx : Nat} {ins : Instr} {L : MLoc} {st : List Value} {M : Mem} {o : Nat × MLoc × List Value × Mem} (h : mStep mL ins pc nx L st M = some o) : mLe M o.2.2.2 := by
  cases ins with
  | iconst v =>
    cases h; exact mLe.rf
  | ldc2_w v =>
    cases h; exact mLe.rf
  | ldc v =>
    cases h; exact mLe.rf
  | iload i =>
    unfold mStep at h
    dsimp only at h
    split at h
    · cases h; exact mLe.rf
    · cases h
  | lload i =>
    unfold mStep at h
    dsimp only at h
    split at h
    · cases h; exact mLe.rf
    · cases h
  | aload i =>
    unfold mStep at h
    dsimp only at h
    split at h
    · cases h; exact mLe.rf
    · cases h
  | istore i =>
    unfold mStep at h
    dsimp only at h
    split at h
    · split at h
      · cases h; exact mLe.rf
      · cases h
    · cases h
  | lstore i =>
    unfold mStep at h
    dsimp only at h
    split at h
    · split at h
      · cases h; exact mLe.rf
      · cases h
    · cases h
  | astore i =>
    unfold mStep at h
    dsimp only at h
    split at h
    · split at h
      · cases h; exact mLe.rf
      · cases h
    · cases h
  | iinc i n =>
    unfold mStep at h
    dsimp only at h
    split at h
    · split at h
      · cases h; exact mLe.rf
      · cases h
    · cases h
  | iadd =>
    exact mBin_M h
  | isub =>
    exact mBin_M h
  | imul =>
    exact mBin_M h
  | iand =>
    exact mBin_M h
  | ior =>
    exact mBin_M h
  | ixor =>
    exact mBin_M h
  | ishl =>
    exact mBin_M h
  | ishr =>
    exact mBin_M h
  | iushr =>
    exact mBin_M h
  | idiv =>
    unfold mStep at h
    dsimp only at h
    split at h
    · split at h
      · cases h
      · cases h; exact mLe.rf
    · cases h
  | irem =>
    unfold mStep at h
    dsimp only at h
    split at h
    · split at h
      · cases h
      · cases h; exact mLe.rf
    · cases h
  | ineg =>
    exact mUn_M h
  | i2l =>
    exact mUn_M h
  | i2b =>
    exact mUn_M h
  | i2c =>
    exact mUn_M h
  | l2i =>
    unfold mStep at h
    dsimp only at h
    split at h
    · cases h; exact mLe.rf
    · cases h
  | ladd =>
    exact mBinL_M h
  | lsub =>
    exact mBinL_M h
  | land =>
    exact mBinL_M h
  | lor =>
    exact mBinL_M h
  | lxor =>
    exact mBinL_M h
  | lshl =>
    exact mShL_M h
  | lshr =>
    exact mShL_M h
  | lushr =>
    exact mShL_M h
  | lcmp =>
    unfold mStep at h
    dsimp only at h
    split at h
    · cases h; exact mLe.rf
    · cases h
  | dup =>
    unfold mStep at h
    dsimp only at h
    split at h
    · split at h
      · cases h; exact mLe.rf
      · cases h
    · cases h
  | pop =>
    unfold mStep at h
    dsimp only at h
    split at h
    · split at h
      · cases h; exact mLe.rf
      · cases h
    · cases h
  | dup2 =>
    unfold mStep at h
    dsimp only at h
    split at h
    · split at h
      · cases h; exact mLe.rf
      · cases h
    · cases h
  | pop2 =>
    unfold mStep at h
    dsimp only at h
    split at h
    · cases h; exact mLe.rf
    · cases h
  | goto o =>
    unfold mStep at h
    dsimp only at h
    split at h
    · cases h; exact mLe.rf
    · cases h
  | ifCond k o =>
    unfold mStep at h
    dsimp only at h
    split at h
    · cases h; exact mLe.rf
    · cases h
  | if_icmp k o =>
    unfold mStep at h
    dsimp only at h
    split at h
    · cases h; exact mLe.rf
    · cases h
  | tableswitch a b2 c2 d2 =>
    unfold mStep at h
    dsimp only at h
    split at h
    · split at h
      · split at h
        · cases h; exact mLe.rf
        · cases h
      · cases h
    · cases h
  | lookupswitch a b2 =>
    unfold mStep at h
    dsimp only at h
    split at h
    · split at h
      · cases h; exact mLe.rf
      · cases h
    · cases h
  | getfield j =>
    unfold mStep at h
    dsimp only at h
    split at h
    · split at h
      · split at h
        · split at h
          · cases h; exact mLe.rf
          · cases h
        · cases h
      · cases h
    · cases h
  | putfield j =>
    unfold mStep at h
    dsimp only at h
    split at h
    · split at h
      · rename_i hm
        split at h
        · cases h; exact mLe.set hm (List.length_set ..)
        · cases h
      · cases h
    · cases h
  | iaload =>
    exact mAld_M h
  | baload =>
    exact mAld_M h
  | laload =>
    exact mAld_M h
  | aaload =>
    exact mAld_M h
  | iastore =>
    exact mAst_M h
  | bastore =>
    exact mAst_M h
  | lastore =>
    exact mAst_M h
  | aastore =>
    exact mAst_M h
  | arraylength =>
    unfold mStep at h
    dsimp only at h
    split at h
    · split at h
      · split at h
        · cases h; exact mLe.rf
        · cases h
      · cases h
    · cases h
  | new ci =>
    unfold mStep at h
    dsimp only at h
    split at h
    · cases h; exact mLe.app
    · cases h
  | newarray k =>
    unfold mStep at h
    dsimp only at h
    split at h
    · split at h
      · cases h; exact mLe.app
      · cases h
    · cases h
  | anewarray k =>
    unfold mStep at h
    dsimp only at h
    split at h
    · split at h
      · cases h; exact mLe.app
      · cases h
    · cases h
  | multianewarray k n =>
    by_cases hn : n = 2
    · subst hn
      rw [mStep_multi] at h
      split at h
      · split at h
        · cases h; exact mLe.app
        · cases h
      · cases h
    · match n, hn, h with
      | 0, _, h => cases h
      | 1, _, h => cases h
      | 2, hn, _ => exact absurd rfl hn
      | n + 3, _, h => cases h
  | _ => cases h
theorem mCpy_len (c0 c1 : List Value) (sp dp n : Nat) : (mCpy c0 c1 sp dp n).length = c1.length := by
  unfold mCpy
  rw [List.length_map, List.length_range]
theorem mPrim_M {d j : Nat} {st : List Value} {M : Mem} {o : List Value × Mem} (h : mPrim d j st M = some o) : mLe M o.2 := by
  unfold mPrim at h
  split at h
  · split at h
    · split at h
      · cases h; exact mLe.rf
      · cases h
    · cases h
  split at h
  · split at h
    · split at h
      · rename_i hm
        split at h
        · cases h; exact mLe.set hm (mCpy_len ..)
        · cases h
      · cases h
    · cases h
  split at h
  · split at h
    · split at h
      · cases h; exact mLe.rf
      · cases h
    · cases h
  split at h
  · split at h
    · split at h
      · cases h; exact mLe.rf
      · cases h
    · cases h
  split at h
  · split at h
    · split at h
      · cases h; exact mLe.rf
      · cases h
    · cases h
  cases h
/-- what a run of n + 1 steps is, by its first instruction -/
def mGo (n d mi pc len j : Nat) (L : MLoc) (st : List Value) (M : Mem) : Option (Option Value × Mem) := if 900 ≤ j then (match mPrim d j st M with
    | some (st', M') => mRun n d mi (pc + len) L st' M'
    | none => none) else (match mCall d j st M with
    | some (as, rest) => (match mRun n (d - 1) j 0 (lv_args 0 as) [] M with
      | some (r, M') => mRun n d mi (pc + len) L (r.toList ++ rest) M'
      | none => none)
    | none => none)
def mRet (mi : Nat) (ins : Instr) (st : List Value) (M : Mem) : Option (Option Value × Mem) := match ins with
  | .ireturn => match st with
    | [.int x] => if (mIT mi).2.2.1 = 1 ∨ ((mIT mi).2.2.1 = 2 ∧ (x = 0 ∨ x = 1)) then some (some (.int x), M) else none
    | _ => none
  | .lreturn => match st with
    | [.long x] => if (mIT mi).2.2.1 = 3 then some (some (.long x), M) else none
    | _ => none
  | .areturn => match st with
    | [.ref x] => if (mIT mi).2.2.1 = 4 then some (some (.ref x), M) else none
    | _ => none
  | .return_ => match st with
    | [] => if (mIT mi).2.2.1 = 0 then some (none, M) else none
    | _ => none
  | _ => none
theorem mRun_cases {n d mi pc : Nat} {L : MLoc} {st : List Value} {M : Mem} {o : Option Value × Mem} (h : mRun (n + 1) d mi pc L st M = some o) :
    ∃ len ins, mAt mi pc = some (len, ins) ∧ (mRet mi ins st M = some o ∨ (∃ j, (ins = .invokestatic j ∨ ins = .invokevirtual j ∨ ins = .invokespecial j) ∧ mGo n d mi pc len j L st M = some o) ∨ (∃ pc' L' st' M', mStep (mIT mi).2.1 ins pc (pc + len) L st M = some (pc', L', st', M') ∧ mRun n d mi pc' L' st' M' = some o)) := by
  unfold mRun at h
  cases hA : mAt mi pc with
  | none => rw [hA] at h; cases h
  | some x =>
    obtain ⟨len, ins⟩ := x
    rw [hA] at h
    refine ⟨len, ins, rfl, ?_⟩
    have hstep : ∀ ins : Instr, (match mStep (mIT mi).2.1 ins pc (pc + len) L st M with
        | some (pc', L', st', M') => mRun n d mi pc' L' st' M'
        | none => none) = some o → ∃ pc' L' st' M', mStep (mIT mi).2.1 ins pc (pc + len) L st M = some (pc', L', st', M') ∧ mRun n d mi pc' L' st' M' = some o := by
      intro ins h
      split at h
      · rename_i pc' L' st' M' hs
        exact ⟨pc', L', st', M', hs, h⟩
      · cases h
    cases ins with
    | ireturn => exact Or.inl h
    | lreturn => exact Or.inl h
    | areturn => exact Or.inl h
    | return_ => exact Or.inl h
    | invokestatic j => exact Or.inr (Or.inl ⟨j, Or.inl rfl, h⟩)
    | invokevirtual j => exact Or.inr (Or.inl ⟨j, Or.inr (Or.inl rfl), h⟩)
    | invokespecial j => exact Or.inr (Or.inl ⟨j, Or.inr (Or.inr rfl), h⟩)
    | _ => exact Or.inr (Or.inr (hstep _ h))
theorem mRet_ok {mi : Nat} {ins : Instr} {st : List Value} {M : Mem} {o : Option Value × Mem} (h : mRet mi ins st M = some o) : (∃ x, ins = .ireturn ∧ st = [.int x] ∧ ((mIT mi).2.2.1 = 1 ∨ ((mIT mi).2.2.1 = 2 ∧ (x = 0 ∨ x = 1))) ∧ o = (some (.int x), M)) ∨ (∃ x, ins = .lreturn ∧ st = [.long x] ∧ (mIT mi).2.2.1 = 3 ∧ o = (some (.long x), M)) ∨ (∃ x, ins = .areturn ∧ st = [.ref x] ∧ (mIT mi).2.2.1 = 4 ∧ o = (some (.ref x), M)) ∨ (ins = .return_ ∧ st = [] ∧ (mIT mi).2.2.1 = 0 ∧ o = (none, M)) := by
  unfold mRet at h
  split at h
  · split at h
    · obtain ⟨h1, h2⟩ := mIf h
      exact Or.inl ⟨_, rfl, rfl, h1, h2.symm⟩
    · cases h
  · split at h
    · obtain ⟨h1, h2⟩ := mIf h
      exact Or.inr (Or.inl ⟨_, rfl, rfl, h1, h2.symm⟩)
    · cases h
  · split at h
    · obtain ⟨h1, h2⟩ := mIf h
      exact Or.inr (Or.inr (Or.inl ⟨_, rfl, rfl, h1, h2.symm⟩))
    · cases h
  · split at h
    · obtain ⟨h1, h2⟩ := mIf h
      exact Or.inr (Or.inr (Or.inr ⟨rfl, rfl, h1, h2.symm⟩))
    · cases h
  · cases h
theorem mGo_ok {n d mi pc len j : Nat} {L : MLoc} {st : List Value} {M : Mem} {o : Option Value × Mem} (h : mGo n d mi pc len j L st M = some o) : (900 ≤ j ∧ ∃ st' M', mPrim d j st M = some (st', M') ∧ mRun n d mi (pc + len) L st' M' = some o) ∨ (¬ 900 ≤ j ∧ ∃ as rest r M', mCall d j st M = some (as, rest) ∧ mRun n (d - 1) j 0 (lv_args 0 as) [] M = some (r, M') ∧ mRun n d mi (pc + len) L (r.toList ++ rest) M' = some o) := by
  unfold mGo at h
  split at h
  · rename_i h9
    split at h
    · rename_i st' M' hp
      exact Or.inl ⟨h9, st', M', hp, h⟩
    · cases h
  · rename_i h9
    split at h
    · rename_i as rest hp
      split at h
      · rename_i r M' hr
        exact Or.inr ⟨h9, as, rest, r, M', hp, hr, h⟩
      · cases h
    · cases h
theorem mRun_M : ∀ (n d mi pc : Nat) (L : MLoc) (st : List Value) (M : Mem) (o : Option Value × Mem), mRun n d mi pc L st M = some o → mLe M o.2 := by
  intro n
  induction n with
  | zero => intro d mi pc L st M o h; cases h
  | succ n ih =>
    intro d mi pc L st M o h
    obtain ⟨len, ins, -, h | ⟨j, -, h⟩ | ⟨pc', L', st', M', h1, h2⟩⟩ := mRun_cases h
    · rcases mRet_ok h with ⟨_, -, -, -, rfl⟩ | ⟨_, -, -, -, rfl⟩ | ⟨_, -, -, -, rfl⟩ | ⟨-, -, -, rfl⟩ <;> exact mLe.rf
    · rcases mGo_ok h with ⟨-, st', M', h1, h2⟩ | ⟨-, as, rest, r, M', -, h1, h2⟩
      · exact (mPrim_M h1).tr (ih _ _ _ _ _ _ _ h2)
      · exact (ih _ _ _ _ _ _ _ h1).tr (ih _ _ _ _ _ _ _ h2)
    · exact (mStep_M h1).tr (ih _ _ _ _ _ _ _ h2)
