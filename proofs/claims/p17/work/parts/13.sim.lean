/-! a run of the small machine is one of the large one -/
theorem mIf0 {α : Type} {c : Prop} [Decidable c] {a : α} {b : α} (h : (if c then some a else none) = some b) : a = b := (mIf h).2
set_option maxHeartbeats 4000000 in
theorem mNrm_inv {own len : Nat} {ini : Bool} {i0 ins : Instr} (h : mNrm own ini len i0 = some ins) :
    (ins = .ireturn → i0 = .ireturn ∧ len = 1) ∧ (ins = .lreturn → i0 = .lreturn ∧ len = 1) ∧ (ins = .areturn → i0 = .areturn ∧ len = 1) ∧ (ins = .return_ → i0 = .return_ ∧ len = 1) ∧
    (∀ j, ins = .invokestatic j → ∃ i, i0 = .invokestatic i ∧ len = 3 ∧ mM own i = some j ∧ mKd j = 0) ∧ (∀ j, ins = .invokevirtual j → ∃ i, i0 = .invokevirtual i ∧ len = 3 ∧ mM own i = some j ∧ mKd j = 1) ∧ (∀ j, ins = .invokespecial j → ∃ i, i0 = .invokespecial i ∧ len = 3 ∧ mM own i = some j ∧ mKd j = 2) := by
  cases i0 with
  | invokestatic i =>
    obtain ⟨rfl, h1⟩ := mIfO h
    split at h1
    · rename_i j hj
      obtain ⟨hk, rfl⟩ := mIf h1
      refine ⟨(fun h => nomatch h), (fun h => nomatch h), (fun h => nomatch h), (fun h => nomatch h), fun j' h => ?_, (fun j' h => nomatch h), (fun j' h => nomatch h)⟩
      cases h
      exact ⟨i, rfl, rfl, hj, hk⟩
    · cases h1
  | invokevirtual i =>
    obtain ⟨rfl, h1⟩ := mIfO h
    split at h1
    · rename_i j hj
      obtain ⟨hk, rfl⟩ := mIf h1
      refine ⟨(fun h => nomatch h), (fun h => nomatch h), (fun h => nomatch h), (fun h => nomatch h), (fun j' h => nomatch h), fun j' h => ?_, (fun j' h => nomatch h)⟩
      cases h
      exact ⟨i, rfl, rfl, hj, hk⟩
    · cases h1
  | invokespecial i =>
    obtain ⟨rfl, h1⟩ := mIfO h
    split at h1
    · rename_i j hj
      obtain ⟨hk, rfl⟩ := mIf h1
      refine ⟨(fun h => nomatch h), (fun h => nomatch h), (fun h => nomatch h), (fun h => nomatch h), (fun j' h => nomatch h), (fun j' h => nomatch h), fun j' h => ?_⟩
      cases h
      exact ⟨i, rfl, rfl, hj, hk⟩
    · cases h1
  | ireturn =>
    obtain ⟨rfl, rfl⟩ := mIf h
    exact ⟨fun _ => ⟨rfl, rfl⟩, (fun h => nomatch h), (fun h => nomatch h), (fun h => nomatch h), (fun j' h => nomatch h), (fun j' h => nomatch h), (fun j' h => nomatch h)⟩
  | lreturn =>
    obtain ⟨rfl, rfl⟩ := mIf h
    exact ⟨(fun h => nomatch h), fun _ => ⟨rfl, rfl⟩, (fun h => nomatch h), (fun h => nomatch h), (fun j' h => nomatch h), (fun j' h => nomatch h), (fun j' h => nomatch h)⟩
  | areturn =>
    obtain ⟨rfl, rfl⟩ := mIf h
    exact ⟨(fun h => nomatch h), (fun h => nomatch h), fun _ => ⟨rfl, rfl⟩, (fun h => nomatch h), (fun j' h => nomatch h), (fun j' h => nomatch h), (fun j' h => nomatch h)⟩
  | return_ =>
    obtain ⟨rfl, rfl⟩ := mIf h
    exact ⟨(fun h => nomatch h), (fun h => nomatch h), (fun h => nomatch h), fun _ => ⟨rfl, rfl⟩, (fun j' h => nomatch h), (fun j' h => nomatch h), (fun j' h => nomatch h)⟩
  | putfield i =>
    obtain ⟨rfl, h1⟩ := mIfO h
    split at h1
    · split at h1
      · cases h1
      · cases h1
        exact ⟨(fun h => nomatch h), (fun h => nomatch h), (fun h => nomatch h), (fun h => nomatch h), (fun j' h => nomatch h), (fun j' h => nomatch h), (fun j' h => nomatch h)⟩
    · cases h1
  | ldc i =>
    obtain ⟨rfl, h1⟩ := mIfO h
    split at h1
    · cases h1
      exact ⟨(fun h => nomatch h), (fun h => nomatch h), (fun h => nomatch h), (fun h => nomatch h), (fun j' h => nomatch h), (fun j' h => nomatch h), (fun j' h => nomatch h)⟩
    · obtain ⟨_, -, rfl⟩ := Option.map_eq_some_iff.mp h1
      exact ⟨(fun h => nomatch h), (fun h => nomatch h), (fun h => nomatch h), (fun h => nomatch h), (fun j' h => nomatch h), (fun j' h => nomatch h), (fun j' h => nomatch h)⟩
  | tableswitch a b c d =>
    cases h
    exact ⟨(fun h => nomatch h), (fun h => nomatch h), (fun h => nomatch h), (fun h => nomatch h), (fun j' h => nomatch h), (fun j' h => nomatch h), (fun j' h => nomatch h)⟩
  | ldc_w i =>
    obtain ⟨-, h1⟩ := mIfO h
    obtain ⟨_, -, rfl⟩ := Option.map_eq_some_iff.mp h1
    exact ⟨(fun h => nomatch h), (fun h => nomatch h), (fun h => nomatch h), (fun h => nomatch h), (fun j' h => nomatch h), (fun j' h => nomatch h), (fun j' h => nomatch h)⟩
  | ldc2_w i =>
    obtain ⟨-, h1⟩ := mIfO h
    obtain ⟨_, -, rfl⟩ := Option.map_eq_some_iff.mp h1
    exact ⟨(fun h => nomatch h), (fun h => nomatch h), (fun h => nomatch h), (fun h => nomatch h), (fun j' h => nomatch h), (fun j' h => nomatch h), (fun j' h => nomatch h)⟩
  | getfield i =>
    obtain ⟨-, h1⟩ := mIfO h
    obtain ⟨_, -, rfl⟩ := Option.map_eq_some_iff.mp h1
    exact ⟨(fun h => nomatch h), (fun h => nomatch h), (fun h => nomatch h), (fun h => nomatch h), (fun j' h => nomatch h), (fun j' h => nomatch h), (fun j' h => nomatch h)⟩
  | new i =>
    obtain ⟨-, h1⟩ := mIfO h
    obtain ⟨_, -, rfl⟩ := Option.map_eq_some_iff.mp h1
    exact ⟨(fun h => nomatch h), (fun h => nomatch h), (fun h => nomatch h), (fun h => nomatch h), (fun j' h => nomatch h), (fun j' h => nomatch h), (fun j' h => nomatch h)⟩
  | anewarray i =>
    obtain ⟨-, h1⟩ := mIfO h
    obtain ⟨_, -, rfl⟩ := Option.map_eq_some_iff.mp h1
    exact ⟨(fun h => nomatch h), (fun h => nomatch h), (fun h => nomatch h), (fun h => nomatch h), (fun j' h => nomatch h), (fun j' h => nomatch h), (fun j' h => nomatch h)⟩
  | multianewarray i n =>
    obtain ⟨-, h1⟩ := mIfO h
    obtain ⟨_, -, rfl⟩ := Option.map_eq_some_iff.mp h1
    exact ⟨(fun h => nomatch h), (fun h => nomatch h), (fun h => nomatch h), (fun h => nomatch h), (fun j' h => nomatch h), (fun j' h => nomatch h), (fun j' h => nomatch h)⟩
  | iconst v =>
    have e := mIf0 h
    subst e
    exact ⟨(fun h => nomatch h), (fun h => nomatch h), (fun h => nomatch h), (fun h => nomatch h), (fun j' h => nomatch h), (fun j' h => nomatch h), (fun j' h => nomatch h)⟩
  | bipush v =>
    have e := mIf0 h
    subst e
    exact ⟨(fun h => nomatch h), (fun h => nomatch h), (fun h => nomatch h), (fun h => nomatch h), (fun j' h => nomatch h), (fun j' h => nomatch h), (fun j' h => nomatch h)⟩
  | sipush v =>
    have e := mIf0 h
    subst e
    exact ⟨(fun h => nomatch h), (fun h => nomatch h), (fun h => nomatch h), (fun h => nomatch h), (fun j' h => nomatch h), (fun j' h => nomatch h), (fun j' h => nomatch h)⟩
  | lconst v =>
    have e := mIf0 h
    subst e
    exact ⟨(fun h => nomatch h), (fun h => nomatch h), (fun h => nomatch h), (fun h => nomatch h), (fun j' h => nomatch h), (fun j' h => nomatch h), (fun j' h => nomatch h)⟩
  | iload i =>
    have e := mIf0 h
    subst e
    exact ⟨(fun h => nomatch h), (fun h => nomatch h), (fun h => nomatch h), (fun h => nomatch h), (fun j' h => nomatch h), (fun j' h => nomatch h), (fun j' h => nomatch h)⟩
  | iload_n i =>
    have e := mIf0 h
    subst e
    exact ⟨(fun h => nomatch h), (fun h => nomatch h), (fun h => nomatch h), (fun h => nomatch h), (fun j' h => nomatch h), (fun j' h => nomatch h), (fun j' h => nomatch h)⟩
  | lload i =>
    have e := mIf0 h
    subst e
    exact ⟨(fun h => nomatch h), (fun h => nomatch h), (fun h => nomatch h), (fun h => nomatch h), (fun j' h => nomatch h), (fun j' h => nomatch h), (fun j' h => nomatch h)⟩
  | lload_n i =>
    have e := mIf0 h
    subst e
    exact ⟨(fun h => nomatch h), (fun h => nomatch h), (fun h => nomatch h), (fun h => nomatch h), (fun j' h => nomatch h), (fun j' h => nomatch h), (fun j' h => nomatch h)⟩
  | aload i =>
    have e := mIf0 h
    subst e
    exact ⟨(fun h => nomatch h), (fun h => nomatch h), (fun h => nomatch h), (fun h => nomatch h), (fun j' h => nomatch h), (fun j' h => nomatch h), (fun j' h => nomatch h)⟩
  | aload_n i =>
    have e := mIf0 h
    subst e
    exact ⟨(fun h => nomatch h), (fun h => nomatch h), (fun h => nomatch h), (fun h => nomatch h), (fun j' h => nomatch h), (fun j' h => nomatch h), (fun j' h => nomatch h)⟩
  | istore i =>
    have e := mIf0 h
    subst e
    exact ⟨(fun h => nomatch h), (fun h => nomatch h), (fun h => nomatch h), (fun h => nomatch h), (fun j' h => nomatch h), (fun j' h => nomatch h), (fun j' h => nomatch h)⟩
  | istore_n i =>
    have e := mIf0 h
    subst e
    exact ⟨(fun h => nomatch h), (fun h => nomatch h), (fun h => nomatch h), (fun h => nomatch h), (fun j' h => nomatch h), (fun j' h => nomatch h), (fun j' h => nomatch h)⟩
  | lstore i =>
    have e := mIf0 h
    subst e
    exact ⟨(fun h => nomatch h), (fun h => nomatch h), (fun h => nomatch h), (fun h => nomatch h), (fun j' h => nomatch h), (fun j' h => nomatch h), (fun j' h => nomatch h)⟩
  | lstore_n i =>
    have e := mIf0 h
    subst e
    exact ⟨(fun h => nomatch h), (fun h => nomatch h), (fun h => nomatch h), (fun h => nomatch h), (fun j' h => nomatch h), (fun j' h => nomatch h), (fun j' h => nomatch h)⟩
  | astore i =>
    have e := mIf0 h
    subst e
    exact ⟨(fun h => nomatch h), (fun h => nomatch h), (fun h => nomatch h), (fun h => nomatch h), (fun j' h => nomatch h), (fun j' h => nomatch h), (fun j' h => nomatch h)⟩
  | astore_n i =>
    have e := mIf0 h
    subst e
    exact ⟨(fun h => nomatch h), (fun h => nomatch h), (fun h => nomatch h), (fun h => nomatch h), (fun j' h => nomatch h), (fun j' h => nomatch h), (fun j' h => nomatch h)⟩
  | iinc i n =>
    have e := mIf0 h
    subst e
    exact ⟨(fun h => nomatch h), (fun h => nomatch h), (fun h => nomatch h), (fun h => nomatch h), (fun j' h => nomatch h), (fun j' h => nomatch h), (fun j' h => nomatch h)⟩
  | goto o =>
    have e := mIf0 h
    subst e
    exact ⟨(fun h => nomatch h), (fun h => nomatch h), (fun h => nomatch h), (fun h => nomatch h), (fun j' h => nomatch h), (fun j' h => nomatch h), (fun j' h => nomatch h)⟩
  | ifCond c o =>
    have e := mIf0 h
    subst e
    exact ⟨(fun h => nomatch h), (fun h => nomatch h), (fun h => nomatch h), (fun h => nomatch h), (fun j' h => nomatch h), (fun j' h => nomatch h), (fun j' h => nomatch h)⟩
  | if_icmp c o =>
    have e := mIf0 h
    subst e
    exact ⟨(fun h => nomatch h), (fun h => nomatch h), (fun h => nomatch h), (fun h => nomatch h), (fun j' h => nomatch h), (fun j' h => nomatch h), (fun j' h => nomatch h)⟩
  | lookupswitch d ps =>
    have e := mIf0 h
    subst e
    exact ⟨(fun h => nomatch h), (fun h => nomatch h), (fun h => nomatch h), (fun h => nomatch h), (fun j' h => nomatch h), (fun j' h => nomatch h), (fun j' h => nomatch h)⟩
  | newarray t =>
    have e := mIf0 h
    subst e
    exact ⟨(fun h => nomatch h), (fun h => nomatch h), (fun h => nomatch h), (fun h => nomatch h), (fun j' h => nomatch h), (fun j' h => nomatch h), (fun j' h => nomatch h)⟩
  | iadd =>
    have e := mIf0 h
    subst e
    exact ⟨(fun h => nomatch h), (fun h => nomatch h), (fun h => nomatch h), (fun h => nomatch h), (fun j' h => nomatch h), (fun j' h => nomatch h), (fun j' h => nomatch h)⟩
  | isub =>
    have e := mIf0 h
    subst e
    exact ⟨(fun h => nomatch h), (fun h => nomatch h), (fun h => nomatch h), (fun h => nomatch h), (fun j' h => nomatch h), (fun j' h => nomatch h), (fun j' h => nomatch h)⟩
  | imul =>
    have e := mIf0 h
    subst e
    exact ⟨(fun h => nomatch h), (fun h => nomatch h), (fun h => nomatch h), (fun h => nomatch h), (fun j' h => nomatch h), (fun j' h => nomatch h), (fun j' h => nomatch h)⟩
  | idiv =>
    have e := mIf0 h
    subst e
    exact ⟨(fun h => nomatch h), (fun h => nomatch h), (fun h => nomatch h), (fun h => nomatch h), (fun j' h => nomatch h), (fun j' h => nomatch h), (fun j' h => nomatch h)⟩
  | irem =>
    have e := mIf0 h
    subst e
    exact ⟨(fun h => nomatch h), (fun h => nomatch h), (fun h => nomatch h), (fun h => nomatch h), (fun j' h => nomatch h), (fun j' h => nomatch h), (fun j' h => nomatch h)⟩
  | ineg =>
    have e := mIf0 h
    subst e
    exact ⟨(fun h => nomatch h), (fun h => nomatch h), (fun h => nomatch h), (fun h => nomatch h), (fun j' h => nomatch h), (fun j' h => nomatch h), (fun j' h => nomatch h)⟩
  | iand =>
    have e := mIf0 h
    subst e
    exact ⟨(fun h => nomatch h), (fun h => nomatch h), (fun h => nomatch h), (fun h => nomatch h), (fun j' h => nomatch h), (fun j' h => nomatch h), (fun j' h => nomatch h)⟩
  | ior =>
    have e := mIf0 h
    subst e
    exact ⟨(fun h => nomatch h), (fun h => nomatch h), (fun h => nomatch h), (fun h => nomatch h), (fun j' h => nomatch h), (fun j' h => nomatch h), (fun j' h => nomatch h)⟩
  | ixor =>
    have e := mIf0 h
    subst e
    exact ⟨(fun h => nomatch h), (fun h => nomatch h), (fun h => nomatch h), (fun h => nomatch h), (fun j' h => nomatch h), (fun j' h => nomatch h), (fun j' h => nomatch h)⟩
  | ishl =>
    have e := mIf0 h
    subst e
    exact ⟨(fun h => nomatch h), (fun h => nomatch h), (fun h => nomatch h), (fun h => nomatch h), (fun j' h => nomatch h), (fun j' h => nomatch h), (fun j' h => nomatch h)⟩
  | ishr =>
    have e := mIf0 h
    subst e
    exact ⟨(fun h => nomatch h), (fun h => nomatch h), (fun h => nomatch h), (fun h => nomatch h), (fun j' h => nomatch h), (fun j' h => nomatch h), (fun j' h => nomatch h)⟩
  | iushr =>
    have e := mIf0 h
    subst e
    exact ⟨(fun h => nomatch h), (fun h => nomatch h), (fun h => nomatch h), (fun h => nomatch h), (fun j' h => nomatch h), (fun j' h => nomatch h), (fun j' h => nomatch h)⟩
  | ladd =>
    have e := mIf0 h
    subst e
    exact ⟨(fun h => nomatch h), (fun h => nomatch h), (fun h => nomatch h), (fun h => nomatch h), (fun j' h => nomatch h), (fun j' h => nomatch h), (fun j' h => nomatch h)⟩
  | lsub =>
    have e := mIf0 h
    subst e
    exact ⟨(fun h => nomatch h), (fun h => nomatch h), (fun h => nomatch h), (fun h => nomatch h), (fun j' h => nomatch h), (fun j' h => nomatch h), (fun j' h => nomatch h)⟩
  | land =>
    have e := mIf0 h
    subst e
    exact ⟨(fun h => nomatch h), (fun h => nomatch h), (fun h => nomatch h), (fun h => nomatch h), (fun j' h => nomatch h), (fun j' h => nomatch h), (fun j' h => nomatch h)⟩
  | lor =>
    have e := mIf0 h
    subst e
    exact ⟨(fun h => nomatch h), (fun h => nomatch h), (fun h => nomatch h), (fun h => nomatch h), (fun j' h => nomatch h), (fun j' h => nomatch h), (fun j' h => nomatch h)⟩
  | lxor =>
    have e := mIf0 h
    subst e
    exact ⟨(fun h => nomatch h), (fun h => nomatch h), (fun h => nomatch h), (fun h => nomatch h), (fun j' h => nomatch h), (fun j' h => nomatch h), (fun j' h => nomatch h)⟩
  | lshl =>
    have e := mIf0 h
    subst e
    exact ⟨(fun h => nomatch h), (fun h => nomatch h), (fun h => nomatch h), (fun h => nomatch h), (fun j' h => nomatch h), (fun j' h => nomatch h), (fun j' h => nomatch h)⟩
  | lshr =>
    have e := mIf0 h
    subst e
    exact ⟨(fun h => nomatch h), (fun h => nomatch h), (fun h => nomatch h), (fun h => nomatch h), (fun j' h => nomatch h), (fun j' h => nomatch h), (fun j' h => nomatch h)⟩
  | lushr =>
    have e := mIf0 h
    subst e
    exact ⟨(fun h => nomatch h), (fun h => nomatch h), (fun h => nomatch h), (fun h => nomatch h), (fun j' h => nomatch h), (fun j' h => nomatch h), (fun j' h => nomatch h)⟩
  | lcmp =>
    have e := mIf0 h
    subst e
    exact ⟨(fun h => nomatch h), (fun h => nomatch h), (fun h => nomatch h), (fun h => nomatch h), (fun j' h => nomatch h), (fun j' h => nomatch h), (fun j' h => nomatch h)⟩
  | i2l =>
    have e := mIf0 h
    subst e
    exact ⟨(fun h => nomatch h), (fun h => nomatch h), (fun h => nomatch h), (fun h => nomatch h), (fun j' h => nomatch h), (fun j' h => nomatch h), (fun j' h => nomatch h)⟩
  | i2b =>
    have e := mIf0 h
    subst e
    exact ⟨(fun h => nomatch h), (fun h => nomatch h), (fun h => nomatch h), (fun h => nomatch h), (fun j' h => nomatch h), (fun j' h => nomatch h), (fun j' h => nomatch h)⟩
  | i2c =>
    have e := mIf0 h
    subst e
    exact ⟨(fun h => nomatch h), (fun h => nomatch h), (fun h => nomatch h), (fun h => nomatch h), (fun j' h => nomatch h), (fun j' h => nomatch h), (fun j' h => nomatch h)⟩
  | l2i =>
    have e := mIf0 h
    subst e
    exact ⟨(fun h => nomatch h), (fun h => nomatch h), (fun h => nomatch h), (fun h => nomatch h), (fun j' h => nomatch h), (fun j' h => nomatch h), (fun j' h => nomatch h)⟩
  | dup =>
    have e := mIf0 h
    subst e
    exact ⟨(fun h => nomatch h), (fun h => nomatch h), (fun h => nomatch h), (fun h => nomatch h), (fun j' h => nomatch h), (fun j' h => nomatch h), (fun j' h => nomatch h)⟩
  | dup2 =>
    have e := mIf0 h
    subst e
    exact ⟨(fun h => nomatch h), (fun h => nomatch h), (fun h => nomatch h), (fun h => nomatch h), (fun j' h => nomatch h), (fun j' h => nomatch h), (fun j' h => nomatch h)⟩
  | pop =>
    have e := mIf0 h
    subst e
    exact ⟨(fun h => nomatch h), (fun h => nomatch h), (fun h => nomatch h), (fun h => nomatch h), (fun j' h => nomatch h), (fun j' h => nomatch h), (fun j' h => nomatch h)⟩
  | pop2 =>
    have e := mIf0 h
    subst e
    exact ⟨(fun h => nomatch h), (fun h => nomatch h), (fun h => nomatch h), (fun h => nomatch h), (fun j' h => nomatch h), (fun j' h => nomatch h), (fun j' h => nomatch h)⟩
  | iaload =>
    have e := mIf0 h
    subst e
    exact ⟨(fun h => nomatch h), (fun h => nomatch h), (fun h => nomatch h), (fun h => nomatch h), (fun j' h => nomatch h), (fun j' h => nomatch h), (fun j' h => nomatch h)⟩
  | laload =>
    have e := mIf0 h
    subst e
    exact ⟨(fun h => nomatch h), (fun h => nomatch h), (fun h => nomatch h), (fun h => nomatch h), (fun j' h => nomatch h), (fun j' h => nomatch h), (fun j' h => nomatch h)⟩
  | aaload =>
    have e := mIf0 h
    subst e
    exact ⟨(fun h => nomatch h), (fun h => nomatch h), (fun h => nomatch h), (fun h => nomatch h), (fun j' h => nomatch h), (fun j' h => nomatch h), (fun j' h => nomatch h)⟩
  | baload =>
    have e := mIf0 h
    subst e
    exact ⟨(fun h => nomatch h), (fun h => nomatch h), (fun h => nomatch h), (fun h => nomatch h), (fun j' h => nomatch h), (fun j' h => nomatch h), (fun j' h => nomatch h)⟩
  | iastore =>
    have e := mIf0 h
    subst e
    exact ⟨(fun h => nomatch h), (fun h => nomatch h), (fun h => nomatch h), (fun h => nomatch h), (fun j' h => nomatch h), (fun j' h => nomatch h), (fun j' h => nomatch h)⟩
  | lastore =>
    have e := mIf0 h
    subst e
    exact ⟨(fun h => nomatch h), (fun h => nomatch h), (fun h => nomatch h), (fun h => nomatch h), (fun j' h => nomatch h), (fun j' h => nomatch h), (fun j' h => nomatch h)⟩
  | aastore =>
    have e := mIf0 h
    subst e
    exact ⟨(fun h => nomatch h), (fun h => nomatch h), (fun h => nomatch h), (fun h => nomatch h), (fun j' h => nomatch h), (fun j' h => nomatch h), (fun j' h => nomatch h)⟩
  | bastore =>
    have e := mIf0 h
    subst e
    exact ⟨(fun h => nomatch h), (fun h => nomatch h), (fun h => nomatch h), (fun h => nomatch h), (fun j' h => nomatch h), (fun j' h => nomatch h), (fun j' h => nomatch h)⟩
  | arraylength =>
    have e := mIf0 h
    subst e
    exact ⟨(fun h => nomatch h), (fun h => nomatch h), (fun h => nomatch h), (fun h => nomatch h), (fun j' h => nomatch h), (fun j' h => nomatch h), (fun j' h => nomatch h)⟩
  | _ => cases h
/-- start and end of a method of ours -/
def mPc (g : MG) (D : va_G) (aC : Nat → ClassId) (scr : List Int32) (as : List Value) (M : Mem) : Array Value → State → Prop := fun v U => v = (as.map (mCv g)).toArray ∧ mFx g D aC scr U U.heap ∧ va_P D vwCl (mWs g aC M) U.heap ∧ U.heap.size + 2 = g.1 + M.length ∧ ∃ rr, M = (64, scr.map .int) :: (63, []) :: rr
def mQc (g : MG) (D : va_G) (aC : Nat → ClassId) (scr : List Int32) (r : Option Value) (M1 : Mem) : Array Value → State → Outcome → State → Prop := fun _ st oc t => oc = .returned (r.map (mCv g)) ∧ va_P D vwCl (mWs g aC M1) t.heap ∧ t.heap.size + 2 = g.1 + M1.length ∧ (∃ rr, M1 = (64, scr.map .int) :: (63, []) :: rr) ∧ va_F (mA0 g) st t
abbrev mRm (d mc ms : Nat) : Room := { frames := d, cells := mc, slots := ms, locals := 64 * d }
abbrev mTW (cd : MethodName × ByteArray × Nat × Option FieldType) : List Cond := Cond.code cd.1 cd.2.1 cd.2.2.1 cd.2.2.2 :: mTB
def mRk (mi : Nat) (cd : MethodName × ByteArray × Nat × Option FieldType) : Prop := ((mIT mi).2.2.1 = 0 → cd.2.2.2 = none) ∧ ((mIT mi).2.2.1 = 1 → cd.2.2.2 = some .int) ∧ ((mIT mi).2.2.1 = 2 → cd.2.2.2 = some .boolean) ∧ ((mIT mi).2.2.1 = 3 → cd.2.2.2 = some .long) ∧ ((mIT mi).2.2.1 = 4 → cd.2.2.2 = some (.object RX1))
/-- the contract of String.indexOf, at our one String -/
def mIxY : MethodName := ⟨"java/lang/String", "indexOf", "(I)I"⟩
def MIx (l : Launch) (g : MG) (D : va_G) (aC : Nat → ClassId) (scr : List Int32) : Prop := ∃ (b : ByteArray) (n : Nat), n ≤ 40 ∧ Cond.code mIxY b n (some .int) ∈ mTB ∧ ∀ (x : Int32) (M : Mem), Met l mIxY (Cond.code mIxY b n (some .int) :: mTB) (mRm 5 0 0) (mPc g D aC scr [.ref 1, .int x] M) (mQc g D aC scr (some (.int (mIxOf x))) M) 0 0 (mA0 g)
def mSimAt (n : Nat) : Prop := ∀ (d mi pc : Nat) (L : MLoc) (st : List Value) (M : Mem) (r : Option Value) (M1 : Mem), mRun n d mi pc L st M = some (r, M1) →
  ∀ (p : Program) (l : Launch) (e : Env) (R : Room) (s : State) (m : MethodId) (args : Array Value) (below : List Frame) (meth : Method) (c : Code) (H : Heap) (locs : List Loc) (cells slots : Nat) (g : MG) (D : va_G) (aC : Nat → ClassId) (scr : List Int32) (ini : Bool) (cd : MethodName × ByteArray × Nat × Option FieldType) (n0 sl0 mc ms : Nat) (ls : Array Slot),
    mIni[mi]? = some ini → mCd mi = some cd → mRk mi cd → mCx p s m args meth c (mIT mi) ini cd → mFx g D aC scr s s.heap → s.heap.size + 2 = g.1 + n0 → 2 ≤ n0 → d ≤ R.frames → 64 * d ≤ R.locals → mc ≤ R.cells → ms ≤ R.slots → mc + n0 = M1.length → ms + sl0 = mSl M1 → MIx l g D aC scr → mIn g D aC scr n0 sl0 M s H locs cells slots → lv_has ls (mIT mi).2.1 (mCL g L) →
    W p l e R s m args below meth c H locs cells slots (MQ below (mQc g D aC scr r M1) args s mc ms (mA0 g)) (F0 m pc ls (st.map (mCv g)))
theorem mPc_blind {g : MG} {D : va_G} {aC : Nat → ClassId} {scr : List Int32} {as : List Value} {M : Mem} : FrameBlind (mPc g D aC scr as M) := by
  intro a U f mk h
  obtain ⟨h1, h2, h3, h4, h5⟩ := h
  exact ⟨h1, mFx.same rfl h2, h3, h4, h5⟩
/-- what mWs4 says of a method -/
theorem mW4 {j : Nat} (h : j < 282) : ∃ cd ini, mCd j = some cd ∧ mIni[j]? = some ini ∧ mMN j = cd.1 ∧ mRk j cd ∧ cd.2.2.1 = (mIT j).2.1 ∧ Cond.code cd.1 cd.2.1 cd.2.2.1 cd.2.2.2 ∈ mTB ∧ Cond.initialized cd.1.cls ∈ mTB ∧ cd.1.cls = mOw (mIT j).2.2.2.1 ∧ plainName cd.1.cls = true ∧ (cd.1.cls ≠ "java/lang/invoke/MethodHandle" ∧ cd.1.cls ≠ "java/lang/invoke/VarHandle") ∧ (ini = true → cd.1.name = "<init>") ∧ (mIT j).2.1 ≤ 40 ∧
    ((mIT j).2.2.2.2 = 0 → Cond.static cd.1 ∈ mTB ∧ (parseMethodDescriptor cd.1.desc).map (fun d => d.parameters.length) = some (mIT j).1) ∧
    ((mIT j).2.2.2.2 = 1 → Cond.instanceMethod cd.1 ∈ mTB ∧ Cond.selects cd.1.cls cd.1 cd.1 ∈ mTB ∧ (parseMethodDescriptor cd.1.desc).map (fun d => d.parameters.length + 1) = some (mIT j).1 ∧ (mIT j).2.2.2.1 < 12) ∧
    ((mIT j).2.2.2.2 = 2 → Cond.instanceMethod cd.1 ∈ mTB ∧ cd.1.name = "<init>" ∧ cd.2.2.2 = none ∧ (parseMethodDescriptor cd.1.desc).map (fun d => d.parameters.length + 1) = some (mIT j).1) ∧ mKd j = (mIT j).2.2.2.2 := by
  have hw := mWs4_all j h
  unfold mWs4 at hw
  have hit := mIT_ok (mi := j) (by omega)
  rw [hit] at hw
  cases hcd : mCd j with
  | none => rw [hcd] at hw; cases hw
  | some cd =>
    obtain ⟨y, b, n, r⟩ := cd
    rw [hcd] at hw
    cases hpl : mPl[j]? with
    | none => rw [hpl] at hw; cases hw
    | some pl =>
      rw [hpl] at hw
      cases hnm : mNm[j]? with
      | none => rw [hnm] at hw; cases hw
      | some y0 =>
        rw [hnm] at hw
        dsimp only at hw
        obtain ⟨e1, e2, e3, e4, e5, e6, e7, e8, e9, e10, e11, e12, e13⟩ := of_decide_eq_true hw
        have hcode : Cond.code y b n r ∈ lw_tbl := by
          unfold mCd at hcd
          rw [if_neg (by omega), hpl] at hcd
          dsimp only [Option.bind_some] at hcd
          split at hcd
          · rename_i y' b' n' r' hq
            cases hcd
            exact List.mem_of_getElem? hq
          · cases hcd
        cases hini : mIni[j]? with
        | none =>
          exfalso
          have hlen : mIni.length = 283 := by decide +kernel
          have := List.getElem?_eq_none_iff.mp hini
          omega
        | some ini =>
          have hmn : mMN j = y := by
            unfold mMN
            rw [if_neg (by omega), if_neg (by omega), if_neg (by omega), if_neg (by omega), if_neg (by omega), List.getD_eq_getElem?_getD, hnm, e1]
            rfl
          have hkd : mKd j = (mIT j).2.2.2.2 := by
            unfold mKd
            rw [if_neg (by omega), hit]
            rfl
          have hrf : (mIT j).2.2.1 = 4 → r = some (.object RX1) := by
            intro h4
            have := List.all_eq_true.mp mRef_ok0 j (List.mem_range.mpr (by omega))
            rw [h4, hcd] at this
            exact Option.some.inj (of_decide_eq_true this)
          refine ⟨(y, b, n, r), ini, rfl, rfl, hmn, ⟨e8, e9, e10, e11, hrf⟩, e2, mTB_in hcode rfl, mTB_in (List.mem_of_getElem? e3) rfl, e4, e5, e6, fun hi => e12 (by rw [hini, hi]), e13, ?_, ?_, ?_, hkd⟩
          · intro hk
            rw [if_pos hk] at e7
            exact ⟨mTB_in (List.mem_of_getElem? e7.1) rfl, e7.2⟩
          · intro hk
            rw [if_neg (by omega), if_pos hk] at e7
            exact ⟨mTB_in (List.mem_of_getElem? e7.1) rfl, mTB_in (List.mem_of_getElem? e7.2.1) rfl, e7.2.2.1, e7.2.2.2⟩
          · intro hk
            rw [if_neg (by omega), if_neg (by omega)] at e7
            exact ⟨mTB_in (List.mem_of_getElem? e7.1) rfl, e7.2.1, e7.2.2.2.1, e7.2.2.2.2.1⟩
