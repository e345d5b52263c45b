/-! whole states matched -/
def aMl (K : AK) : ATh → List AV → List AV → Option ATh
  | θ, [], _ => some θ
  | θ, w :: ws, vs => match aM1 K θ w (vs.headD (0, 0, 0)) with
    | some θ' => aMl K θ' ws vs.tail
    | none => none
def aMk (K : AK) : ATh → List AV → List AV → Option ATh
  | θ, [], [] => some θ
  | θ, w :: ws, v :: vs => match aM1 K θ w v with
    | some θ' => aMk K θ' ws vs
    | none => none
  | _, _, _ => none
section
variable {scr : SG} {σ : Nat → Int} {K : AK} {M : Mem} {L : MLoc}
theorem aMl_ok (hk : aK scr σ K M) : ∀ {ws vs : List AV} {θ θ' : ATh} {j : Nat}, tOk K.1.length θ → (∀ (i : Nat) v, vs[i]? = some v → v.1 = 0 ∨ ∃ x, mLd L (j + i) = some x ∧ aG scr σ K.1.length v x) → aMl K θ ws vs = some θ' → tPre θ θ' ∧ tOk K.1.length θ' ∧ ∀ θ'', tPre θ' θ'' → ∀ (i : Nat) w, ws[i]? = some w → w.1 = 0 ∨ ∃ x, mLd L (j + i) = some x ∧ aG scr (tSig σ θ'') θ''.length w x
  | [], vs, θ, θ', j, ht, _, h => by
    cases h
    exact ⟨tPre.rf, ht, fun _ _ i w hw => by cases hw⟩
  | w :: ws, vs, θ, θ', j, ht, hl, h => by
    unfold aMl at h
    cases h1 : aM1 K θ w (vs.headD (0, 0, 0)) with
    | none => rw [h1] at h; cases h
    | some θ1 =>
      rw [h1] at h
      dsimp only at h
      have hh : (vs.headD (0, 0, 0)).1 = 0 ∨ ∃ x, mLd L j = some x ∧ aG scr σ K.1.length (vs.headD (0, 0, 0)) x := by
        cases vs with
        | nil => exact Or.inl rfl
        | cons v vs => exact hl 0 v rfl
      have hx : (vs.headD (0, 0, 0)).2.1 < K.1.length ∨ ((vs.headD (0, 0, 0)).1 ≠ 1 ∧ (vs.headD (0, 0, 0)).1 ≠ 5) := by
        rcases hh with h0 | ⟨x, _, hg⟩
        · exact Or.inr ⟨by omega, by omega⟩
        · exact aG_lt hg
      obtain ⟨a1, a2, a3⟩ := aM1_ok hk ht h1 hx
      obtain ⟨b1, b2, b3⟩ := aMl_ok hk (vs := vs.tail) (j := j + 1) a2 (by
        intro i v hv
        cases vs with
        | nil => cases hv
        | cons u vs =>
          have := hl (i + 1) v hv
          rw [show j + 1 + i = j + (i + 1) by omega]
          exact this) h
      refine ⟨a1.tr b1, b2, fun θ'' hp i u hu => ?_⟩
      cases i with
      | zero =>
        cases hu
        rcases hh with h0 | ⟨x, x1, x2⟩
        · exact Or.inl (aM1_zero h0 h1)
        · exact Or.inr ⟨x, x1, a3 θ'' (b1.tr hp) x x2⟩
      | succ i =>
        have := b3 θ'' hp i u hu
        rw [show j + 1 + i = j + (i + 1) by omega] at this
        exact this
theorem aMk_ok (hk : aK scr σ K M) : ∀ {ws vs : List AV} {st : List Value} {θ θ' : ATh}, tOk K.1.length θ → aSs scr σ K.1.length vs st → aMk K θ ws vs = some θ' → tPre θ θ' ∧ tOk K.1.length θ' ∧ ∀ θ'', tPre θ' θ'' → aSs scr (tSig σ θ'') θ''.length ws st
  | [], [], [], θ, θ', ht, _, h => by
    cases h
    exact ⟨tPre.rf, ht, fun _ _ => True.intro⟩
  | [], [], _ :: _, _, _, _, hs, _ => hs.elim
  | [], _ :: _, _, _, _, _, _, h => nomatch h
  | _ :: _, [], _, _, _, _, _, h => nomatch h
  | w :: ws, v :: vs, st, θ, θ', ht, hs, h => by
    obtain ⟨x, r, rfl, g1, s1⟩ := aSs_cons hs
    unfold aMk at h
    cases h1 : aM1 K θ w v with
    | none => rw [h1] at h; cases h
    | some θ1 =>
      rw [h1] at h
      dsimp only at h
      obtain ⟨a1, a2, a3⟩ := aM1_ok hk ht h1 (aG_lt g1)
      obtain ⟨b1, b2, b3⟩ := aMk_ok hk a2 s1 h
      exact ⟨a1.tr b1, b2, fun θ'' hp => ⟨a3 θ'' (b1.tr hp) x g1, b3 θ'' hp⟩⟩
def aMf (K : AK) : ATh → AF → Option ATh
  | θ, [] => some θ
  | θ, (g, i, w) :: r => match aFind g i K.2.2.2 with
    | none => none
    | some v => bif Nat.blt v.2.1 K.1.length || (!(Nat.beq v.1 1) && !(Nat.beq v.1 5)) then (match aM1 K θ w v with
      | some θ' => aMf K θ' r
      | none => none) else none
theorem aMf_ok (hk : aK scr σ K M) : ∀ {F : AF} {θ θ' : ATh}, tOk K.1.length θ → aMf K θ F = some θ' → tPre θ θ' ∧ tOk K.1.length θ' ∧ ∀ θ'', tPre θ' θ'' → aFs scr (tSig σ θ'') θ''.length F M
  | [], θ, θ', ht, h => by
    cases h
    exact ⟨tPre.rf, ht, fun _ _ _ _ _ hm => nomatch hm⟩
  | (g, i, w) :: r, θ, θ', ht, h => by
    unfold aMf at h
    cases hf : aFind g i K.2.2.2 with
    | none => rw [hf] at h; cases h
    | some v =>
      rw [hf] at h
      dsimp only at h
      cases hq : (Nat.blt v.2.1 K.1.length || (!(Nat.beq v.1 1) && !(Nat.beq v.1 5))) with
      | false => rw [hq] at h; cases h
      | true =>
        rw [hq] at h
        dsimp only [cond_true] at h
        have hx : v.2.1 < K.1.length ∨ (v.1 ≠ 1 ∧ v.1 ≠ 5) := by
          rw [Bool.or_eq_true, Bool.and_eq_true] at hq
          rcases hq with h1 | ⟨h1, h2⟩
          · exact Or.inl (Nat.le_of_ble_eq_true h1)
          · exact Or.inr ⟨(fun e => by rw [e] at h1; cases h1), (fun e => by rw [e] at h2; cases h2)⟩
        cases h1 : aM1 K θ w v with
        | none => rw [h1] at h; cases h
        | some θ1 =>
          rw [h1] at h
          dsimp only at h
          obtain ⟨a1, a2, a3⟩ := aM1_ok hk ht h1 hx
          obtain ⟨b1, b2, b3⟩ := aMf_ok hk a2 h
          refine ⟨a1.tr b1, b2, fun θ'' hp => ?_⟩
          intro g' i' u hm
          cases List.mem_cons.mp hm with
          | inr e => exact b3 θ'' hp g' i' u e
          | inl e =>
            cases e
            refine ⟨fun a p1 p2 p3 => ?_, fun hg => a3 θ'' (b1.tr hp) _ ((hk.2.2.2 _ _ _ (aFind_ok hf)).2 hg)⟩
            obtain ⟨x, x1, x2⟩ := (hk.2.2.2 _ _ _ (aFind_ok hf)).1 a p1 p2 p3
            exact ⟨x, x1, a3 θ'' (b1.tr hp) x x2⟩
end
