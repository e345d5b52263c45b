/-! what never touches cell 0 doesn't ask what it is -/
abbrev mZz : MCell := (62, [])
def mFr (f : Mem → MOut) (M : Mem) : Prop := ∀ pc' L' st' M1, f (mZz :: M) = some (pc', L', st', M1) → ∃ M', M1 = mZz :: M' ∧ ∀ w : MCell, f (w :: M) = some (pc', L', st', w :: M')
theorem mFr_k {M : Mem} {g : Option (Nat × MLoc × List Value)} {f : Mem → MOut} (hf : ∀ N, f N = g.map (fun q => (q.1, q.2.1, q.2.2, N))) : mFr f M := by
  intro pc' L' st' M1 h
  rw [hf] at h
  obtain ⟨q, hq, h2⟩ := Option.map_eq_some_iff.mp h
  cases h2
  exact ⟨M, rfl, fun w => by rw [hf, hq]; rfl⟩
theorem mFr_bin {nx : Nat} {L : MLoc} {st : List Value} {M : Mem} {f : Int32 → Int32 → Int32} : mFr (fun N => mBin nx L st N f) M := by
  intro pc' L' st' M1 h
  obtain ⟨x, y, r, rfl, rfl, rfl, rfl, rfl⟩ := mBin_ok h
  exact ⟨M, rfl, fun w => rfl⟩
theorem mFr_binL {nx : Nat} {L : MLoc} {st : List Value} {M : Mem} {f : Int64 → Int64 → Int64} : mFr (fun N => mBinL nx L st N f) M := by
  intro pc' L' st' M1 h
  obtain ⟨x, y, r, rfl, rfl, rfl, rfl, rfl⟩ := mBinL_ok h
  exact ⟨M, rfl, fun w => rfl⟩
theorem mFr_shL {nx : Nat} {L : MLoc} {st : List Value} {M : Mem} {f : Int64 → Int32 → Int64} : mFr (fun N => mShL nx L st N f) M := by
  intro pc' L' st' M1 h
  obtain ⟨x, y, r, rfl, rfl, rfl, rfl, rfl⟩ := mShL_ok h
  exact ⟨M, rfl, fun w => rfl⟩
theorem mFr_un {nx : Nat} {L : MLoc} {st : List Value} {M : Mem} {f : Int32 → Value} : mFr (fun N => mUn nx L st N f) M := by
  intro pc' L' st' M1 h
  obtain ⟨x, r, rfl, rfl, rfl, rfl, rfl⟩ := mUn_ok h
  exact ⟨M, rfl, fun w => rfl⟩
theorem mFr_ald {nx : Nat} {L : MLoc} {st : List Value} {M : Mem} {ok : Nat → Value → Bool} (h62 : ∀ v, ok 62 v = false) : mFr (fun N => mAld nx L st N ok) M := by
  intro pc' L' st' M1 h
  obtain ⟨i, a, r, t, c, j, v, rfl, hm, hix, hv, hok, rfl, rfl, rfl, rfl⟩ := mAld_ok h
  cases a with
  | zero =>
    cases hm
    rw [h62] at hok
    cases hok
  | succ k =>
    have hm : M[k]? = some (t, c) := hm
    refine ⟨M, rfl, fun w => ?_⟩
    show (match M[k]? with
      | some (t, c) => _
      | none => _) = _
    rw [hm]
    dsimp only
    rw [hix]
    dsimp only
    rw [hv]
    dsimp only
    rw [if_pos hok]
theorem mFr_ast {nx : Nat} {L : MLoc} {st : List Value} {M : Mem} {f : Mem → Nat → Value → Option Value} (hf : ∀ t v x w, f (mZz :: M) t v = some x → f (w :: M) t v = some x) : mFr (fun N => mAst nx L st N (f N)) M := by
  intro pc' L' st' M1 h
  obtain ⟨v, i, a, r, t, c, j, x, rfl, hm, hix, hfx, ha0, rfl, rfl, rfl, rfl⟩ := mAst_ok h
  cases a with
  | zero => exact absurd rfl ha0
  | succ k =>
    have hm : M[k]? = some (t, c) := hm
    refine ⟨M.set k (t, c.set j x), rfl, fun w => ?_⟩
    show (match M[k]? with
      | some (t, c) => _
      | none => _) = _
    rw [hm]
    dsimp only
    rw [hix, hf t v x w hfx]
    rfl
theorem mStep_fr (mL : Nat) (ins : Instr) (pc nx : Nat) (L : MLoc) (st : List Value) (M : Mem) : mFr (fun N => mStep mL ins pc nx L st N) M := by
  cases ins with
  | iconst v =>
    intro pc' L' st' M1 h
    cases h; exact ⟨M, rfl, fun w => rfl⟩
  | ldc2_w v =>
    intro pc' L' st' M1 h
    cases h; exact ⟨M, rfl, fun w => rfl⟩
  | ldc v =>
    intro pc' L' st' M1 h
    cases h; exact ⟨M, rfl, fun w => rfl⟩
  | iload i =>
    intro pc' L' st' M1 h
    unfold mStep at h
    dsimp only at h
    split at h
    · rename_i hm
      cases h; exact ⟨M, rfl, fun w => (by unfold mStep; dsimp only; rw [hm])⟩
    · cases h
  | lload i =>
    intro pc' L' st' M1 h
    unfold mStep at h
    dsimp only at h
    split at h
    · rename_i hm
      cases h; exact ⟨M, rfl, fun w => (by unfold mStep; dsimp only; rw [hm])⟩
    · cases h
  | aload i =>
    intro pc' L' st' M1 h
    unfold mStep at h
    dsimp only at h
    split at h
    · rename_i hm
      cases h; exact ⟨M, rfl, fun w => (by unfold mStep; dsimp only; rw [hm])⟩
    · cases h
  | istore i =>
    intro pc' L' st' M1 h
    unfold mStep at h
    dsimp only at h
    split at h
    · obtain ⟨hc, h2⟩ := mIf h
      cases h2; exact ⟨M, rfl, fun w => (by unfold mStep; dsimp only; rw [if_pos hc])⟩
    · cases h
  | lstore i =>
    intro pc' L' st' M1 h
    unfold mStep at h
    dsimp only at h
    split at h
    · obtain ⟨hc, h2⟩ := mIf h
      cases h2; exact ⟨M, rfl, fun w => (by unfold mStep; dsimp only; rw [if_pos hc])⟩
    · cases h
  | astore i =>
    intro pc' L' st' M1 h
    unfold mStep at h
    dsimp only at h
    split at h
    · obtain ⟨hc, h2⟩ := mIf h
      cases h2; exact ⟨M, rfl, fun w => (by unfold mStep; dsimp only; rw [if_pos hc])⟩
    · cases h
  | iinc i n =>
    intro pc' L' st' M1 h
    unfold mStep at h
    dsimp only at h
    split at h
    · rename_i hm
      obtain ⟨hc, h2⟩ := mIf h
      cases h2; exact ⟨M, rfl, fun w => (by unfold mStep; dsimp only; rw [hm]; dsimp only; rw [if_pos hc])⟩
    · cases h
  | iadd =>
    exact mFr_bin
  | isub =>
    exact mFr_bin
  | imul =>
    exact mFr_bin
  | iand =>
    exact mFr_bin
  | ior =>
    exact mFr_bin
  | ixor =>
    exact mFr_bin
  | ishl =>
    exact mFr_bin
  | ishr =>
    exact mFr_bin
  | iushr =>
    exact mFr_bin
  | idiv =>
    intro pc' L' st' M1 h
    unfold mStep at h
    dsimp only at h
    split at h
    · split at h
      · cases h
      · rename_i hc
        cases h; exact ⟨M, rfl, fun w => (by unfold mStep; dsimp only; rw [if_neg hc])⟩
    · cases h
  | irem =>
    intro pc' L' st' M1 h
    unfold mStep at h
    dsimp only at h
    split at h
    · split at h
      · cases h
      · rename_i hc
        cases h; exact ⟨M, rfl, fun w => (by unfold mStep; dsimp only; rw [if_neg hc])⟩
    · cases h
  | ineg =>
    exact mFr_un
  | i2l =>
    exact mFr_un
  | i2b =>
    exact mFr_un
  | i2c =>
    exact mFr_un
  | l2i =>
    intro pc' L' st' M1 h
    unfold mStep at h
    dsimp only at h
    split at h
    · cases h; exact ⟨M, rfl, fun w => rfl⟩
    · cases h
  | ladd =>
    exact mFr_binL
  | lsub =>
    exact mFr_binL
  | land =>
    exact mFr_binL
  | lor =>
    exact mFr_binL
  | lxor =>
    exact mFr_binL
  | lshl =>
    exact mFr_shL
  | lshr =>
    exact mFr_shL
  | lushr =>
    exact mFr_shL
  | lcmp =>
    intro pc' L' st' M1 h
    unfold mStep at h
    dsimp only at h
    split at h
    · cases h; exact ⟨M, rfl, fun w => rfl⟩
    · cases h
  | dup =>
    intro pc' L' st' M1 h
    unfold mStep at h
    dsimp only at h
    split at h
    · obtain ⟨hc, h2⟩ := mIf h
      cases h2; exact ⟨M, rfl, fun w => (by unfold mStep; dsimp only; rw [if_pos hc])⟩
    · cases h
  | pop =>
    intro pc' L' st' M1 h
    unfold mStep at h
    dsimp only at h
    split at h
    · obtain ⟨hc, h2⟩ := mIf h
      cases h2; exact ⟨M, rfl, fun w => (by unfold mStep; dsimp only; rw [if_pos hc])⟩
    · cases h
  | dup2 =>
    intro pc' L' st' M1 h
    unfold mStep at h
    dsimp only at h
    split at h
    · obtain ⟨hc, h2⟩ := mIf h
      cases h2; exact ⟨M, rfl, fun w => (by unfold mStep; dsimp only; rw [if_pos hc])⟩
    · cases h
  | pop2 =>
    intro pc' L' st' M1 h
    unfold mStep at h
    dsimp only at h
    split at h
    · cases h; exact ⟨M, rfl, fun w => rfl⟩
    · cases h
  | goto o =>
    intro pc' L' st' M1 h
    unfold mStep at h
    dsimp only at h
    split at h
    · rename_i hm
      cases h; exact ⟨M, rfl, fun w => (by unfold mStep; dsimp only; rw [hm])⟩
    · cases h
  | ifCond k o =>
    intro pc' L' st' M1 h
    unfold mStep at h
    dsimp only at h
    split at h
    · rename_i hm
      cases h; exact ⟨M, rfl, fun w => (by unfold mStep; dsimp only; rw [hm])⟩
    · cases h
  | if_icmp k o =>
    intro pc' L' st' M1 h
    unfold mStep at h
    dsimp only at h
    split at h
    · rename_i hm
      cases h; exact ⟨M, rfl, fun w => (by unfold mStep; dsimp only; rw [hm])⟩
    · cases h
  | tableswitch a b2 c2 d2 =>
    intro pc' L' st' M1 h
    unfold mStep at h
    dsimp only at h
    split at h
    · split at h
      · rename_i hm
        split at h
        · rename_i hm2
          cases h; exact ⟨M, rfl, fun w => (by unfold mStep; dsimp only; rw [hm]; dsimp only; rw [hm2])⟩
        · cases h
      · cases h
    · cases h
  | lookupswitch a b2 =>
    intro pc' L' st' M1 h
    unfold mStep at h
    dsimp only at h
    split at h
    · split at h
      · rename_i hm
        cases h; exact ⟨M, rfl, fun w => (by unfold mStep; dsimp only; rw [hm])⟩
      · cases h
    · cases h
  | getfield j =>
    intro pc' L' st' M1 h
    unfold mStep at h
    dsimp only at h
    split at h
    · rename_i a r
      cases a with
      | zero =>
        obtain ⟨hc, -⟩ := mIfO (show (if 62 = j / 100 ∧ j / 100 < 12 then _ else none) = some _ from h)
        omega
      | succ k =>
        split at h
        · rename_i tt fs hm
          have hm : M[k]? = some (tt, fs) := hm
          obtain ⟨hc, h2⟩ := mIfO h
          split at h2
          · rename_i v hv
            cases h2
            refine ⟨M, rfl, fun w => ?_⟩
            unfold mStep
            dsimp only
            show (match M[k]? with
              | some (t, fs) => _
              | none => _) = _
            rw [hm]
            dsimp only
            rw [if_pos hc, hv]
          · cases h2
        · cases h
    · cases h
  | putfield j =>
    intro pc' L' st' M1 h
    unfold mStep at h
    dsimp only at h
    split at h
    · rename_i v a r
      cases a with
      | zero =>
        obtain ⟨hc, -⟩ := mIf (show (if 62 = j / 100 ∧ j / 100 < 12 ∧ j % 100 < ([] : List Value).length ∧ mOkF (mTy (j / 100) (j % 100)) v = true then some _ else none) = some _ from h)
        omega
      | succ k =>
        split at h
        · rename_i tt fs hm
          have hm : M[k]? = some (tt, fs) := hm
          obtain ⟨hc, h2⟩ := mIf h
          cases h2
          refine ⟨M.set k (tt, fs.set (j % 100) v), rfl, fun w => ?_⟩
          unfold mStep
          dsimp only
          show (match M[k]? with
            | some (t, fs) => _
            | none => _) = _
          rw [hm]
          dsimp only
          rw [if_pos hc]
          rfl
        · cases h
    · cases h
  | iaload =>
    exact mFr_ald (fun _ => rfl)
  | baload =>
    exact mFr_ald (fun _ => rfl)
  | laload =>
    exact mFr_ald (fun _ => rfl)
  | aaload =>
    exact mFr_ald (fun _ => rfl)
  | iastore =>
    exact mFr_ast (f := fun _ => _) (fun _ _ _ _ h => h)
  | bastore =>
    exact mFr_ast (f := fun _ => _) (fun _ _ _ _ h => h)
  | lastore =>
    exact mFr_ast (f := fun _ => _) (fun _ _ _ _ h => h)
  | aastore =>
    refine mFr_ast (f := fun N t v => if (t = 68 ∧ mTagOf N v = 1) ∨ (t = 69 ∧ mTagOf N v = 4) then some v else none) (fun t v x w h => ?_)
    obtain ⟨hc, rfl⟩ := mIf h
    refine if_pos ?_
    cases v with
    | ref a =>
      cases a with
      | zero =>
        have h62 : mTagOf (mZz :: M) (.ref 0) = 62 := rfl
        rw [h62] at hc
        omega
      | succ k => exact hc
    | _ => exact hc
  | arraylength =>
    intro pc' L' st' M1 h
    unfold mStep at h
    dsimp only at h
    split at h
    · rename_i a r
      cases a with
      | zero =>
        obtain ⟨hc, -⟩ := mIf (show (if 64 ≤ 62 ∧ 62 ≤ 70 then some _ else none) = some _ from h)
        omega
      | succ k =>
        split at h
        · rename_i tt x hm
          have hm : M[k]? = some (tt, x) := hm
          obtain ⟨hc, h2⟩ := mIf h
          cases h2
          refine ⟨M, rfl, fun w => ?_⟩
          unfold mStep
          dsimp only
          show (match M[k]? with
            | some (t, c) => _
            | none => _) = _
          rw [hm]
          dsimp only
          rw [if_pos hc]
        · cases h
    · cases h
  | new ci =>
    intro pc' L' st' M1 h
    unfold mStep at h
    dsimp only at h
    obtain ⟨hc, h2⟩ := mIf h
    cases h2
    exact ⟨M ++ [(ci, mDef ci)], rfl, fun w => if_pos hc⟩
  | newarray k =>
    intro pc' L' st' M1 h
    unfold mStep at h
    dsimp only at h
    split at h
    · rename_i hm
      obtain ⟨hc, h2⟩ := mIf h
      cases h2
      refine ⟨_, rfl, fun w => ?_⟩
      unfold mStep
      dsimp only
      rw [hm]
      dsimp only
      rw [if_pos hc]
      rfl
    · cases h
  | anewarray k =>
    intro pc' L' st' M1 h
    unfold mStep at h
    dsimp only at h
    split at h
    · obtain ⟨hc, h2⟩ := mIf h
      cases h2
      refine ⟨_, rfl, fun w => ?_⟩
      unfold mStep
      dsimp only
      rw [if_pos hc]
      rfl
    · cases h
  | multianewarray k n =>
    intro pc' L' st' M1 h
    by_cases hn : n = 2
    · subst hn
      dsimp only at h
      rw [mStep_multi] at h
      split at h
      · obtain ⟨hc, h2⟩ := mIf h
        cases h2
        refine ⟨_, rfl, fun w => ?_⟩
        dsimp only
        rw [mStep_multi]
        dsimp only
        rw [if_pos hc]
        rfl
      · cases h
    · match n, hn, h with
      | 0, _, h => cases h
      | 1, _, h => cases h
      | 2, hn, _ => exact absurd rfl hn
      | n + 3, _, h => cases h
  | _ => intro pc' L' st' M1 h; cases h
theorem mOwn62 : (List.range 283).all (fun j => decide (¬ (mIT j).2.2.2.1 = 62)) = true := by decide +kernel
theorem mPrim_fr {d j : Nat} {st st' : List Value} {M M1 : Mem} (h : mPrim d j st (mZz :: M) = some (st', M1)) : ∃ M', M1 = mZz :: M' ∧ ∀ w : MCell, mPrim d j st (w :: M) = some (st', w :: M') := by
  unfold mPrim at h
  split at h
  · rename_i hj
    split at h
    · obtain ⟨hc, h2⟩ := mIf h
      cases h2
      exact ⟨M, rfl, fun w => by unfold mPrim; rw [if_pos hj]; dsimp only; rw [if_pos hc]⟩
    · cases h
  rename_i n0
  split at h
  · rename_i hj
    split at h
    · rename_i nn dp a1 sp a0 rr
      split at h
      · rename_i c0 c1 hm0 hm1
        obtain ⟨hc, h2⟩ := mIf h
        cases h2
        obtain ⟨-, -, ha0, ha1, -⟩ := id hc
        cases a0 with
        | zero => exact absurd rfl ha0
        | succ k0 =>
          cases a1 with
          | zero => exact absurd rfl ha1
          | succ k1 =>
            have hm0 : M[k0]? = some (64, c0) := hm0
            have hm1 : M[k1]? = some (64, c1) := hm1
            refine ⟨M.set k1 (64, mCpy c0 c1 sp.toInt.toNat dp.toInt.toNat nn.toInt.toNat), rfl, fun w => ?_⟩
            unfold mPrim
            rw [if_neg n0, if_pos hj]
            have g0 : (w :: M)[k0 + 1]? = some (64, c0) := hm0
            have g1 : (w :: M)[k1 + 1]? = some (64, c1) := hm1
            dsimp only
            rw [g0, g1]
            exact if_pos hc
      · cases h
    · cases h
  rename_i n1
  split at h
  · rename_i hj
    split at h
    · obtain ⟨hc, h2⟩ := mIf h
      cases h2
      exact ⟨M, rfl, fun w => by unfold mPrim; rw [if_neg n0, if_neg n1, if_pos hj]; exact if_pos hc⟩
    · cases h
  rename_i n2
  split at h
  · rename_i hj
    split at h
    · obtain ⟨hc, h2⟩ := mIf h
      cases h2
      exact ⟨M, rfl, fun w => by unfold mPrim; rw [if_neg n0, if_neg n1, if_neg n2, if_pos hj]; dsimp only; rw [if_pos hc]⟩
    · cases h
  rename_i n3
  split at h
  · rename_i hj
    split at h
    · obtain ⟨hc, h2⟩ := mIf h
      cases h2
      exact ⟨M, rfl, fun w => by unfold mPrim; rw [if_neg n0, if_neg n1, if_neg n2, if_neg n3, if_pos hj]; dsimp only; rw [if_pos hc]⟩
    · cases h
  cases h
theorem mCall_fr {d j : Nat} {st : List Value} {M : Mem} {o : List Value × List Value} (h : mCall d j st (mZz :: M) = some o) (w : MCell) : mCall d j st (w :: M) = some o := by
  unfold mCall at h ⊢
  dsimp only at h ⊢
  obtain ⟨⟨h1, h2⟩, h3⟩ := mIf h
  rw [if_pos, h3]
  refine ⟨h1, ?_⟩
  rcases h2 with h2 | ⟨h2, h4⟩ | h2
  · exact Or.inl h2
  · refine Or.inr (Or.inl ⟨h2, ?_⟩)
    have hne := of_decide_eq_true (List.all_eq_true.mp mOwn62 j (List.mem_range.mpr (by omega)))
    generalize (List.take (mIT j).1 st).reverse.headD Value.null = v at h4 ⊢
    cases v with
    | ref a =>
      cases a with
      | zero =>
        have h62 : mTagOf (mZz :: M) (.ref 0) = 62 := rfl
        rw [h62] at h4
        exact absurd h4.symm hne
      | succ k => exact h4
    | _ => exact h4
  · exact Or.inr (Or.inr h2)
theorem mRun_fr : ∀ (n d mi pc : Nat) (L : MLoc) (st : List Value) (M : Mem) (r : Option Value) (M1 : Mem), mRun n d mi pc L st (mZz :: M) = some (r, M1) → ∃ M', M1 = mZz :: M' ∧ ∀ w : MCell, mRun n d mi pc L st (w :: M) = some (r, w :: M') := by
  intro n
  induction n with
  | zero => intro d mi pc L st M r M1 h; cases h
  | succ n ih =>
    intro d mi pc L st M r M1 h
    obtain ⟨len, ins, hat, hret | ⟨j, hi, hg⟩ | ⟨pc', L', st', M', h1, h2⟩⟩ := mRun_cases h
    · rcases mRet_ok hret with ⟨x, rfl, rfl, hk, ho⟩ | ⟨x, rfl, rfl, hk, ho⟩ | ⟨x, rfl, rfl, hk, ho⟩ | ⟨rfl, rfl, hk, ho⟩
      all_goals (cases ho; exact ⟨M, rfl, fun w => mRun_ret hat (if_pos hk)⟩)
    · rcases mGo_ok hg with ⟨h9, st', M', h1, h2⟩ | ⟨h9, as, rest, r2, M', hc, h1, h2⟩
      · obtain ⟨N, rfl, h3⟩ := mPrim_fr h1
        obtain ⟨N2, rfl, h4⟩ := ih _ _ _ _ _ _ _ _ h2
        refine ⟨N2, rfl, fun w => ?_⟩
        rw [mRun_go hat hi]
        unfold mGo
        rw [if_pos h9, h3 w]
        exact h4 w
      · obtain ⟨N, rfl, h3⟩ := ih _ _ _ _ _ _ _ _ h1
        obtain ⟨N2, rfl, h4⟩ := ih _ _ _ _ _ _ _ _ h2
        refine ⟨N2, rfl, fun w => ?_⟩
        rw [mRun_go hat hi]
        unfold mGo
        rw [if_neg h9, mCall_fr hc w]
        dsimp only
        rw [h3 w]
        exact h4 w
    · obtain ⟨N, rfl, h3⟩ := mStep_fr _ _ _ _ _ _ _ _ _ _ _ h1
      obtain ⟨N2, rfl, h4⟩ := ih _ _ _ _ _ _ _ _ h2
      refine ⟨N2, rfl, fun w => ?_⟩
      rw [mRun_step hat (mStep_plain h1) (h3 w)]
      exact h4 w
