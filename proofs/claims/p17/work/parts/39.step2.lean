/-! one instruction: branches, fields, arrays -/
section
variable {scr : SG} {σ : Nat → Int} {S : AS} {L : MLoc} {st : List Value} {M : Mem} {mod : List (Nat × Nat)} {pc nx : Nat} {outs : List (Nat × AS)}
/-- the outcomes that can be -/
def aOpt (t : Nat) (K : Option AK) (A r : List AV) : List (Nat × AS) := match K with
  | some K => [(t, K, A, r)]
  | none => []
def aBr (c : Jvm.ClassFile.Cond) (t nx : Nat) (S : AS) (v w : AV) (r : List AV) : Option (List (Nat × AS)) :=
  bif Nat.beq v.1 1 && Nat.beq w.1 1 then some (aOpt t (aCond c S.1 v.2.1 v.2.2 w.2.1 w.2.2) S.2.1 r ++ aOpt nx (aCond (aNeg c) S.1 v.2.1 v.2.2 w.2.1 w.2.2) S.2.1 r) else none
theorem aOpt_go {K : AK} {A r : List AV} {st' : List Value} (hM : aMem scr M) (hl : aLs scr σ K.1.length A L) (hs : aSs scr σ K.1.length r st') {t : Nat} {Ko : Option AK} (hk : ∃ K', Ko = some K' ∧ aK scr σ K' M ∧ K'.1.length = K.1.length) {outs : List (Nat × AS)} (hin : ∀ q, q ∈ aOpt t Ko A r → q ∈ outs) {o : MOut} (ho : o = some (t, L, st', M)) : aGo scr σ K.1.length mod M outs o := by
  obtain ⟨K', rfl, k1, k2⟩ := hk
  refine ⟨(t, K', A, r), hin _ List.mem_cons_self, σ, L, st', M, ho, aExt.rf, ?_, ⟨k1, ?_, ?_, hM⟩, aFr.rf⟩
  · show K.1.length ≤ K'.1.length; omega
  · show aLs scr σ K'.1.length A L; rw [k2]; exact hl
  · show aSs scr σ K'.1.length r st'; rw [k2]; exact hs
theorem aBr_ok {c : Jvm.ClassFile.Cond} {t : Nat} {v w : AV} {r : List AV} {x' y' : Value} {st' : List Value} (h : aHold scr σ S L st M) (g2 : aG scr σ S.1.1.length v x') (g1 : aG scr σ S.1.1.length w y') (hs : aSs scr σ S.1.1.length r st') (ho : aBr c t nx S v w r = some outs) : ∃ x y : Int32, x' = .int x ∧ y' = .int y ∧ aGo scr σ S.1.1.length mod M outs (some (if mCond c x y = true then t else nx, L, st', M)) := by
  unfold aBr at ho
  cases hq : (Nat.beq v.1 1 && Nat.beq w.1 1) with
  | false => rw [hq] at ho; cases ho
  | true =>
    rw [hq] at ho
    cases ho
    rw [Bool.and_eq_true] at hq
    obtain ⟨x, rfl, x1, x2⟩ := aG_int g2 hq.1
    obtain ⟨y, rfl, y1, y2⟩ := aG_int g1 hq.2
    refine ⟨x, y, rfl, rfl, ?_⟩
    cases hc : mCond c x y with
    | true => exact aOpt_go h.2.2.2 h.2.1 hs (aCond_ok h.1 x1 y1 x2 y2 hc) (fun q hq => List.mem_append_left _ hq) rfl
    | false => exact aOpt_go h.2.2.2 h.2.1 hs (aCond_ok h.1 x1 y1 x2 y2 (mCond_neg hc)) (fun q hq => List.mem_append_right _ hq) rfl
/-- the ways of a lookupswitch -/
def aLks (pc : Nat) (d : Int) (K : AK) (a : Nat) (p : Int) (A r : List AV) : List (Int × Int) → Option (List (Nat × AS))
  | [] => match mJmp pc d with
    | some t => some [(t, K, A, r)]
    | none => none
  | (k, o) :: ps => match mJmp pc o with
    | none => none
    | some t => match aNe K a 0 (k - p) with
      | none => some (aOpt t (aEq K a 0 (k - p)) A r)
      | some K' => match aLks pc d K' a p A r ps with
        | some os => some (aOpt t (aEq K a 0 (k - p)) A r ++ os)
        | none => none
def mJo (o : Option Nat) (L : MLoc) (r : List Value) (M : Mem) : MOut := match o with
  | some t => some (t, L, r, M)
  | none => none
theorem aGo_sub {n : Nat} {os os' : List (Nat × AS)} {o : MOut} (h : aGo scr σ n mod M os o) (hs : ∀ q, q ∈ os → q ∈ os') : aGo scr σ n mod M os' o := by
  obtain ⟨q, h1, h2⟩ := h
  exact ⟨q, hs q h1, h2⟩
theorem aLks_ok {a : Nat} {p : Int} {x : Int32} {A r : List AV} {st' : List Value} {d : Int} (hM : aMem scr M) (hx : x.toInt = σ a + p) : ∀ {ps : List (Int × Int)} {K : AK} {outs : List (Nat × AS)}, a < K.1.length → aK scr σ K M → aLs scr σ K.1.length A L → aSs scr σ K.1.length r st' → aLks pc d K a p A r ps = some outs → aGo scr σ K.1.length mod M outs (mJo (mJmp pc (Op.lookupswitch.offset ps d x.toInt)) L st' M)
  | [], K, outs, _, hk, hl, hs, ho => by
    unfold aLks at ho
    rw [Op.lookupswitch.offset_nil]
    cases hj : mJmp pc d with
    | none => rw [hj] at ho; cases ho
    | some t =>
      rw [hj] at ho
      cases ho
      exact ⟨_, List.mem_cons_self, σ, L, st', M, rfl, aExt.rf, Nat.le_refl _, ⟨hk, hl, hs, hM⟩, aFr.rf⟩
  | (k, o) :: ps, K, outs, ha, hk, hl, hs, ho => by
    unfold aLks at ho
    have h0 := hk.2.1.1
    rw [Op.lookupswitch.offset_cons]
    cases hj : mJmp pc o with
    | none => rw [hj] at ho; cases ho
    | some t =>
      rw [hj] at ho
      dsimp only at ho
      by_cases e : x.toInt = k
      · have hin : ∀ q, q ∈ aOpt t (aEq K a 0 (k - p)) A r → q ∈ outs := by
          intro q hq
          cases hn : aNe K a 0 (k - p) with
          | none => rw [hn] at ho; cases ho; exact hq
          | some K' =>
            rw [hn] at ho
            dsimp only at ho
            cases hr : aLks pc d K' a p A r ps with
            | none => rw [hr] at ho; cases ho
            | some os => rw [hr] at ho; cases ho; exact List.mem_append_left _ hq
        rw [if_pos (by first | exact e | exact e.symm), hj]
        exact aOpt_go hM hl hs (aEq_ok hk ha hk.1 (by omega)) hin rfl
      · obtain ⟨K', e1, e2, e3⟩ := aNe_ok hk ha hk.1 (d := k - p) (by omega)
        rw [e1] at ho
        dsimp only at ho
        rw [if_neg (by first | exact e | exact fun h => e h.symm)]
        cases hr : aLks pc d K' a p A r ps with
        | none => rw [hr] at ho; cases ho
        | some os =>
          rw [hr] at ho
          cases ho
          have ih := aLks_ok hM hx (ps := ps) (K := K') (by omega) e2 (by rw [e3]; exact hl) (by rw [e3]; exact hs) hr
          rw [e3] at ih
          exact aGo_sub ih (fun q hq => List.mem_append_right _ hq)
/-- the ways of a tableswitch's table -/
def aTbl (pc : Nat) (K : AK) (a : Nat) (p : Int) (A r : List AV) (k : Int) : List Int → Option (List (Nat × AS))
  | [] => some []
  | o :: os => match mJmp pc o, aTbl pc K a p A r (k + 1) os with
    | some t, some qs => some (aOpt t (aEq K a 0 (k - p)) A r ++ qs)
    | _, _ => none
theorem aTbl_ok {a : Nat} {p : Int} {x : Int32} {A r : List AV} {st' : List Value} {K : AK} (hM : aMem scr M) (hx : x.toInt = σ a + p) (ha : a < K.1.length) (hk : aK scr σ K M) (hl : aLs scr σ K.1.length A L) (hs : aSs scr σ K.1.length r st') : ∀ {os : List Int} {k : Int} {outs : List (Nat × AS)}, aTbl pc K a p A r k os = some outs → k ≤ x.toInt → x.toInt < k + os.length → ∃ o, os[(x.toInt - k).toNat]? = some o ∧ aGo scr σ K.1.length mod M outs (mJo (mJmp pc o) L st' M)
  | [], k, outs, ho, h1, h2 => by
    have : x.toInt < k + (0 : Nat) := h2
    omega
  | o :: os, k, outs, ho, h1, h2 => by
    have h0 := hk.2.1.1
    have h2 : x.toInt < k + ((os.length + 1 : Nat) : Int) := h2
    unfold aTbl at ho
    cases hj : mJmp pc o with
    | none => rw [hj] at ho; cases ho
    | some t =>
      cases hr : aTbl pc K a p A r (k + 1) os with
      | none => rw [hj, hr] at ho; cases ho
      | some qs =>
        rw [hj, hr] at ho
        cases ho
        by_cases e : x.toInt = k
        · refine ⟨o, ?_, ?_⟩
          · have : (x.toInt - k).toNat = 0 := by omega
            rw [this]; rfl
          · rw [hj]
            exact aOpt_go hM hl hs (aEq_ok hk ha hk.1 (by omega)) (fun q hq => List.mem_append_left _ hq) rfl
        · obtain ⟨o', e1, e2⟩ := aTbl_ok hM hx ha hk hl hs hr (by omega) (by omega)
          refine ⟨o', ?_, aGo_sub e2 (fun q hq => List.mem_append_right _ hq)⟩
          have : (x.toInt - k).toNat = (x.toInt - (k + 1)).toNat + 1 := by omega
          rw [this]; exact e1
/-- outcomes of a load pushed -/
def aPut (nx : Nat) (A r : List AV) (os : List (AK × AV)) : List (Nat × AS) := os.map (fun o => (nx, o.1, A, o.2 :: r))
theorem aPut_go {K : AK} {A r : List AV} {st' : List Value} {os : List (AK × AV)} {w : Value} (hM : aMem scr M) (hl : aLs scr σ K.1.length A L) (hs : aSs scr σ K.1.length r st') (h : aOne scr σ K M os w) {o : MOut} (ho : o = some (nx, L, w :: st', M)) : aGo scr σ K.1.length mod M (aPut nx A r os) o := by
  obtain ⟨q, h1, σ', h2, h3, h4, h5⟩ := h
  exact ⟨_, List.mem_map.mpr ⟨q, h1, rfl⟩, σ', L, _, M, ho, h2, h3, ⟨h4, aLs_ext h2 h3 hl, ⟨h5, aSs_ext h2 h3 hs⟩, hM⟩, aFr.rf⟩
def aGetf (j nx : Nat) (S : AS) : Option (List (Nat × AS)) := match S.2.2 with
  | v :: r => bif Nat.beq v.1 2 && Nat.beq (tTag v.2.1) (j / 100) && Nat.blt (j / 100) 12 && Nat.blt (j % 100) (tSiz v.2.1) then some (aPut nx S.2.1 r (aLdF S.1 v.2.1 (j % 100))) else none
  | _ => none
theorem aGetf_ok {mL j : Nat} (h : aHold scr σ S L st M) (ho : aGetf j nx S = some outs) : aGo scr σ S.1.1.length mod M outs (mStep mL (.getfield j) pc nx L st M) := by
  obtain ⟨K, A, T⟩ := S
  obtain ⟨h1, h2, h3, h4⟩ := h
  unfold aGetf at ho
  dsimp only at ho h1 h2 h3 ⊢
  match T, h3, ho with
  | [], _, ho => cases ho
  | v :: r, h3, ho =>
    obtain ⟨v', r2, rfl, g2, s2⟩ := aSs_cons h3
    dsimp only at ho
    cases hq : (Nat.beq v.1 2 && Nat.beq (tTag v.2.1) (j / 100) && Nat.blt (j / 100) 12 && Nat.blt (j % 100) (tSiz v.2.1)) with
    | false => rw [hq] at ho; cases ho
    | true =>
      rw [hq] at ho
      cases ho
      rw [Bool.and_eq_true, Bool.and_eq_true, Bool.and_eq_true] at hq
      obtain ⟨⟨⟨q1, q2⟩, q3⟩, q4⟩ := hq
      obtain ⟨a, rfl, a1, a2, a3⟩ := aG_ref g2 q1
      obtain ⟨fs, m1, m2, m3⟩ := h4.2.2.1 a a1 a2
      have e2 := Nat.eq_of_beq_eq_true q2
      have e3 : j / 100 < 12 := Nat.le_of_ble_eq_true q3
      have e4 : j % 100 < tSiz v.2.1 := Nat.le_of_ble_eq_true q4
      rw [a3] at m1 m2
      have hf : fs[j % 100]? = some (fs[j % 100]'(by omega)) := List.getElem?_eq_getElem _
      rw [← a3]
      refine aPut_go h4 h2 s2 (aLdF_ok h4 h1 a1 a2 (i := j % 100) (by rw [mSlot_eq m1]; exact hf)) ?_
      unfold mStep
      dsimp only
      rw [m1]
      dsimp only
      rw [if_pos ⟨e2, e3⟩, hf]
end
