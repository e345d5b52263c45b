/-! runs of the small machine, as a judgement: from here on nothing speaks of the large machine -/
/-- an instruction that is neither a call nor a return -/
def mPlain (ins : Instr) : Bool := match ins with
  | .ireturn | .lreturn | .areturn | .return_ | .invokestatic _ | .invokevirtual _ | .invokespecial _ => false
  | _ => true
set_option maxHeartbeats 4000000 in
theorem mRun_step {n d mi pc len pc' : Nat} {ins : Instr} {L L' : MLoc} {st st' : List Value} {M M' : Mem} (hat : mAt mi pc = some (len, ins)) (hp : mPlain ins = true) (hs : mStep (mIT mi).2.1 ins pc (pc + len) L st M = some (pc', L', st', M')) : mRun (n + 1) d mi pc L st M = mRun n d mi pc' L' st' M' := by
  generalize hX : mRun n d mi pc' L' st' M' = X
  unfold mRun
  rw [hat]
  cases ins <;> first | (cases hp; done) | (dsimp only; rw [hs]; exact hX)
theorem mRun_ret {n d mi pc len : Nat} {ins : Instr} {L : MLoc} {st : List Value} {M : Mem} {o : Option Value × Mem} (hat : mAt mi pc = some (len, ins)) (hs : mRet mi ins st M = some o) : mRun (n + 1) d mi pc L st M = some o := by
  unfold mRun
  rw [hat]
  cases ins <;> first | (cases hs; done) | exact hs
theorem mRun_go {n d mi pc len j : Nat} {ins : Instr} {L : MLoc} {st : List Value} {M : Mem} (hat : mAt mi pc = some (len, ins)) (hi : ins = .invokestatic j ∨ ins = .invokevirtual j ∨ ins = .invokespecial j) : mRun (n + 1) d mi pc L st M = mGo n d mi pc len j L st M := by
  generalize hX : mGo n d mi pc len j L st M = X
  unfold mRun
  rw [hat]
  rcases hi with rfl | rfl | rfl <;> exact hX
theorem mStep_plain {mL pc nx : Nat} {ins : Instr} {L : MLoc} {st : List Value} {M : Mem} {o : Nat × MLoc × List Value × Mem} (h : mStep mL ins pc nx L st M = some o) : mPlain ins = true := by
  cases ins <;> first | rfl | (cases h; done)
theorem mRun_up : ∀ (n d mi pc : Nat) (L : MLoc) (st : List Value) (M : Mem) (o : Option Value × Mem), mRun n d mi pc L st M = some o → mRun (n + 1) d mi pc L st M = some o := by
  intro n
  induction n with
  | zero => intro d mi pc L st M o h; cases h
  | succ n ih =>
    intro d mi pc L st M o h
    obtain ⟨len, ins, hat, hret | ⟨j, hi, hg⟩ | ⟨pc', L', st', M', h1, h2⟩⟩ := mRun_cases h
    · exact mRun_ret hat hret
    · rw [mRun_go hat hi]
      rcases mGo_ok hg with ⟨h9, st', M', h1, h2⟩ | ⟨h9, as, rest, r, M', hc, h1, h2⟩
      · unfold mGo
        rw [if_pos h9, h1]
        exact ih _ _ _ _ _ _ _ h2
      · unfold mGo
        rw [if_neg h9, hc]
        dsimp only
        rw [ih _ _ _ _ _ _ _ h1]
        exact ih _ _ _ _ _ _ _ h2
    · rw [mRun_step hat (mStep_plain h1) h1]
      exact ih _ _ _ _ _ _ _ h2
theorem mRun_le {n k d mi pc : Nat} {L : MLoc} {st : List Value} {M : Mem} {o : Option Value × Mem} (h : mRun n d mi pc L st M = some o) (hk : n ≤ k) : mRun k d mi pc L st M = some o := by
  obtain ⟨j, rfl⟩ := Nat.le.dest hk
  clear hk
  induction j with
  | zero => exact h
  | succ j ih => exact mRun_up _ _ _ _ _ _ _ _ ih
/-- the method comes to its end, and Q holds of its answer and of the memory then -/
def Ok (d mi pc : Nat) (L : MLoc) (st : List Value) (M : Mem) (Q : Option Value → Mem → Prop) : Prop := ∃ n r M1, mRun n d mi pc L st M = some (r, M1) ∧ Q r M1
theorem Ok.mono {d mi pc : Nat} {L : MLoc} {st : List Value} {M : Mem} {Q Q' : Option Value → Mem → Prop} (h : Ok d mi pc L st M Q) (hq : ∀ r M1, Q r M1 → Q' r M1) : Ok d mi pc L st M Q' := by
  obtain ⟨n, r, M1, h1, h2⟩ := h
  exact ⟨n, r, M1, h1, hq r M1 h2⟩
theorem Ok.step {d mi pc len pc' : Nat} {ins : Instr} {L L' : MLoc} {st st' : List Value} {M M' : Mem} {Q : Option Value → Mem → Prop} (hat : mAt mi pc = some (len, ins)) (hp : mPlain ins = true) (hs : mStep (mIT mi).2.1 ins pc (pc + len) L st M = some (pc', L', st', M')) (k : Ok d mi pc' L' st' M' Q) : Ok d mi pc L st M Q := by
  obtain ⟨n, r, M1, h1, h2⟩ := k
  exact ⟨n + 1, r, M1, (mRun_step hat hp hs).trans h1, h2⟩
theorem Ok.ret {d mi pc len : Nat} {ins : Instr} {L : MLoc} {st : List Value} {M : Mem} {o : Option Value × Mem} {Q : Option Value → Mem → Prop} (hat : mAt mi pc = some (len, ins)) (hs : mRet mi ins st M = some o) (k : Q o.1 o.2) : Ok d mi pc L st M Q := by
  exact ⟨1, o.1, o.2, mRun_ret hat hs, k⟩
theorem Ok.prim {d mi pc len j : Nat} {ins : Instr} {L : MLoc} {st st' : List Value} {M M' : Mem} {Q : Option Value → Mem → Prop} (hat : mAt mi pc = some (len, ins)) (hi : ins = .invokestatic j ∨ ins = .invokevirtual j ∨ ins = .invokespecial j) (h9 : 900 ≤ j) (hs : mPrim d j st M = some (st', M')) (k : Ok d mi (pc + len) L st' M' Q) : Ok d mi pc L st M Q := by
  obtain ⟨n, r, M1, h1, h2⟩ := k
  refine ⟨n + 1, r, M1, ?_, h2⟩
  have hg : mGo n d mi pc len j L st M = some (r, M1) := by
    unfold mGo
    rw [if_pos h9, hs]
    exact h1
  exact (mRun_go hat hi).trans hg
theorem Ok.call {d mi pc len j : Nat} {ins : Instr} {L : MLoc} {st as rest : List Value} {M : Mem} {Q : Option Value → Mem → Prop} (hat : mAt mi pc = some (len, ins)) (hi : ins = .invokestatic j ∨ ins = .invokevirtual j ∨ ins = .invokespecial j) (h9 : ¬ 900 ≤ j) (hc : mCall d j st M = some (as, rest)) (k : Ok (d - 1) j 0 (lv_args 0 as) [] M (fun r M' => Ok d mi (pc + len) L (r.toList ++ rest) M' Q)) : Ok d mi pc L st M Q := by
  obtain ⟨n1, r1, M2, h1, n2, r, M1, h2, h3⟩ := k
  refine ⟨n1 + n2 + 1, r, M1, ?_, h3⟩
  have hg : mGo (n1 + n2) d mi pc len j L st M = some (r, M1) := by
    unfold mGo
    rw [if_neg h9, hc]
    dsimp only
    rw [mRun_le h1 (by omega)]
    exact mRun_le h2 (by omega)
  exact (mRun_go hat hi).trans hg
