/-! one instruction: branches, fields, arrays -/
section
variable {scr : List Int32} {σ : Nat → Int} {S : AS} {L : MLoc} {st : List Value} {M : Mem} {mod : List (Nat × Nat)} {pc nx : Nat} {outs : List (Nat × AS)}
/-- the outcomes that can be -/
def aOpt (t : Nat) (K : Option AK) (A r : List AV) : List (Nat × AS) := match K with
  | some K => [(t, K, A, r)]
  | none => []
def aBr (c : Jvm.ClassFile.Cond) (t nx : Nat) (S : AS) (v w : AV) (r : List AV) : Option (List (Nat × AS)) :=
  bif Nat.beq v.1 1 && Nat.beq w.1 1 then some (aOpt t (aCond c S.1 v.2.1 v.2.2 w.2.1 w.2.2) S.2.1 r ++ aOpt nx (aCond (aNeg c) S.1 v.2.1 v.2.2 w.2.1 w.2.2) S.2.1 r) else none
theorem aOpt_go {K : AK} {A r : List AV} {st' : List Value} (hM : aMem scr M) (hl : aLs scr σ K.1.length A L) (hs : aSs scr σ K.1.length r st') {t : Nat} {Ko : Option AK} (hk : ∃ K', Ko = some K' ∧ aK scr σ K' M ∧ K'.1.length = K.1.length) {outs : List (Nat × AS)} (hin : ∀ q, q ∈ aOpt t Ko A r → q ∈ outs) {o : MOut} (ho : o = some (t, L, st', M)) : aGo scr σ K.1.length mod M outs o := by
  obtain ⟨K', rfl, k1, k2⟩ := hk
  refine ⟨(t, K', A, r), hin _ List.mem_cons_self, σ, L, st', M, ho, aExt.rf, ?_, ⟨k1, ?_, ?_, hM⟩, aFr.rf⟩
  · show K.1.length ≤ K'.1.length; omega
  · show aLs scr σ K'.1.length A L; rw [k2]; exact hl
  · show aSs scr σ K'.1.length r st'; rw [k2]; exact hs
theorem aBr_ok {c : Jvm.ClassFile.Cond} {t : Nat} {v w : AV} {r : List AV} {x' y' : Value} {st' : List Value} (h : aHold scr σ S L st M) (g2 : aG scr σ S.1.1.length v x') (g1 : aG scr σ S.1.1.length w y') (hs : aSs scr σ S.1.1.length r st') (ho : aBr c t nx S v w r = some outs) : ∃ x y : Int32, x' = .int x ∧ y' = .int y ∧ aGo scr σ S.1.1.length mod M outs (some (if mCond c x y = true then t else nx, L, st', M)) := by
  unfold aBr at ho
  cases hq : (Nat.beq v.1 1 && Nat.beq w.1 1) with
  | false => rw [hq] at ho; cases ho
  | true =>
    rw [hq] at ho
    cases ho
    rw [Bool.and_eq_true] at hq
    obtain ⟨x, rfl, x1, x2⟩ := aG_int g2 hq.1
    obtain ⟨y, rfl, y1, y2⟩ := aG_int g1 hq.2
    refine ⟨x, y, rfl, rfl, ?_⟩
    cases hc : mCond c x y with
    | true => exact aOpt_go h.2.2.2 h.2.1 hs (aCond_ok h.1 x1 y1 x2 y2 hc) (fun q hq => List.mem_append_left _ hq) rfl
    | false => exact aOpt_go h.2.2.2 h.2.1 hs (aCond_ok h.1 x1 y1 x2 y2 (mCond_neg hc)) (fun q hq => List.mem_append_right _ hq) rfl
/-- the ways of a lookupswitch -/
def aLks (pc d : Nat) (dOff : Int) (K : AK) (a : Nat) (p : Int) (A r : List AV) : List (Int × Int) → Option (List (Nat × AS))
  | [] => match mJmp pc dOff with
    | some t => some [(t, K, A, r)]
    | none => none
  | (k, o) :: ps => match mJmp pc o with
    | none => none
    | some t => match aNe K a 0 (k - p) with
      | none => some (aOpt t (aEq K a 0 (k - p)) A r)
      | some K' => match aLks pc d dOff K' a p A r ps with
        | some os => some (aOpt t (aEq K a 0 (k - p)) A r ++ os)
        | none => none
end
