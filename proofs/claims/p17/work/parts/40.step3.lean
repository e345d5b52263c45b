/-! one instruction: stores, arrays -/
section
variable {scr : SG} {σ : Nat → Int} {S : AS} {L : MLoc} {st : List Value} {M : Mem} {mod : List (Nat × Nat)} {pc nx : Nat} {outs : List (Nat × AS)}
def aOkF (K : AK) (t : FieldType) (v : AV) : Bool := match t with
  | .int => Nat.beq v.1 1
  | .boolean => Nat.beq v.1 1 && (ile 0 (aLo K v.2.1 v.2.2) && ile (aHi K v.2.1 v.2.2) 1)
  | .long => Nat.beq v.1 3
  | .object _ => Nat.beq v.1 2 || Nat.ble 4 v.1
  | .array _ => Nat.beq v.1 2 || Nat.ble 4 v.1
  | _ => false
theorem i32_01 {x : Int32} (h0 : 0 ≤ x.toInt) (h1 : x.toInt ≤ 1) : x = 0 ∨ x = 1 := by
  by_cases e : x.toInt = 0
  · exact Or.inl (Int32.toInt_inj.mp e)
  · exact Or.inr (Int32.toInt_inj.mp (show x.toInt = 1 by omega))
theorem aOkF_ok {K : AK} {t : FieldType} {v : AV} {w : Value} (hk : aK scr σ K M) (hg : aG scr σ K.1.length v w) (h : aOkF K t v = true) : mOkF t w = true := by
  unfold aOkF at h
  cases t with
  | int => obtain ⟨x, rfl, _, _⟩ := aG_int hg h; rfl
  | long => obtain ⟨x, rfl⟩ := aG_long hg h; rfl
  | object _ => obtain ⟨x, rfl⟩ := aG_refs hg h; rfl
  | array _ => obtain ⟨x, rfl⟩ := aG_refs hg h; rfl
  | boolean =>
    dsimp only at h
    rw [Bool.and_eq_true, Bool.and_eq_true, ile_iff, ile_iff] at h
    obtain ⟨x, rfl, x1, x2⟩ := aG_int hg h.1
    have b := aLoHi hk x1 x2
    rcases i32_01 (x := x) (by omega) (by omega) with rfl | rfl <;> rfl
  | _ => cases h
def aPutf (mod : List (Nat × Nat)) (j nx : Nat) (S : AS) : Option (List (Nat × AS)) := match S.2.2 with
  | v :: o :: r => bif Nat.beq o.1 2 && Nat.beq (tTag o.2.1) (j / 100) && Nat.blt (j / 100) 12 && Nat.blt (j % 100) (tSiz o.2.1) && aOkF S.1 (mTy (j / 100) (j % 100)) v then (match aStF mod S.1 o.2.1 (j % 100) v with
    | some K => some [(nx, K, S.2.1, r)]
    | none => none) else none
  | _ => none
theorem aPutf_ok {mL j : Nat} (h : aHold scr σ S L st M) (ho : aPutf mod j nx S = some outs) : aGo scr σ S.1.1.length mod M outs (mStep mL (.putfield j) pc nx L st M) := by
  obtain ⟨K, A, T⟩ := S
  obtain ⟨h1, h2, h3, h4⟩ := h
  unfold aPutf at ho
  dsimp only at ho h1 h2 h3 ⊢
  match T, h3, ho with
  | [], _, ho => cases ho
  | [_], _, ho => cases ho
  | v :: o :: r, h3, ho =>
    obtain ⟨w, r1, rfl, g1, s1⟩ := aSs_cons h3
    obtain ⟨o', r2, rfl, g2, s2⟩ := aSs_cons s1
    dsimp only at ho
    cases hq : (Nat.beq o.1 2 && Nat.beq (tTag o.2.1) (j / 100) && Nat.blt (j / 100) 12 && Nat.blt (j % 100) (tSiz o.2.1) && aOkF K (mTy (j / 100) (j % 100)) v) with
    | false => rw [hq] at ho; cases ho
    | true =>
      rw [hq] at ho
      dsimp only [cond_true] at ho
      rw [Bool.and_eq_true, Bool.and_eq_true, Bool.and_eq_true, Bool.and_eq_true] at hq
      obtain ⟨⟨⟨⟨q1, q2⟩, q3⟩, q4⟩, q5⟩ := hq
      obtain ⟨a, rfl, a1, a2, a3⟩ := aG_ref g2 q1
      obtain ⟨fs, m1, m2, m3⟩ := h4.2.2.1 a a1 a2
      have e2 := Nat.eq_of_beq_eq_true q2
      have e3 : j / 100 < 12 := Nat.le_of_ble_eq_true q3
      have e4 : j % 100 < tSiz o.2.1 := Nat.le_of_ble_eq_true q4
      have e5 := aOkF_ok h1 g1 q5
      cases hs : aStF mod K o.2.1 (j % 100) v with
      | none => rw [hs] at ho; cases ho
      | some K' =>
        rw [hs] at ho
        cases ho
        rw [← a3] at hs
        rw [a3] at m2
        obtain ⟨t1, t2, t3, t4⟩ := aStF_ok h4 h1 a1 a2 m1 (by omega) hs g1
        refine ⟨_, List.mem_cons_self, σ, L, r2, _, ?_, aExt.rf, ?_, ⟨t2, ?_, ?_, t3⟩, t4⟩
        · unfold mStep
          dsimp only
          rw [m1]
          dsimp only
          rw [if_pos ⟨by rw [a3]; exact e2, e3, by omega, e5⟩]
        · show K.1.length ≤ K'.1.length
          rw [t1]; exact Nat.le_refl _
        · show aLs scr σ K'.1.length A L
          rw [t1]; exact h2
        · show aSs scr σ K'.1.length r r2
          rw [t1]; exact s2
/-- the index lies in the array -/
theorem mIx_in {x : Int32} {n : Nat} (h0 : 0 ≤ x.toInt) (h1 : x.toInt < (n : Int)) : mIx x n = some x.toInt.toNat := by
  unfold mIx
  rw [if_pos ⟨h0, h1⟩]
def aIdx (K : AK) (i : AV) (n : Nat) : Bool := Nat.beq i.1 1 && (ile 0 (aLo K i.2.1 i.2.2) && ile (aHi K i.2.1 i.2.2 + 1) (n : Int))
theorem aIdx_ok {K : AK} {i : AV} {n : Nat} {w : Value} (hk : aK scr σ K M) (hg : aG scr σ K.1.length i w) (h : aIdx K i n = true) : ∃ x : Int32, w = .int x ∧ mIx x n = some x.toInt.toNat ∧ x.toInt.toNat < n := by
  unfold aIdx at h
  rw [Bool.and_eq_true, Bool.and_eq_true, ile_iff, ile_iff] at h
  obtain ⟨x, rfl, x1, x2⟩ := aG_int hg h.1
  have b := aLoHi hk x1 x2
  exact ⟨x, rfl, mIx_in (by omega) (by omega), by omega⟩
def aKind (kd : Nat) (t : Nat) : Bool := match kd with
  | 1 => Nat.beq t 64
  | 2 => Nat.beq t 68 || Nat.beq t 69 || Nat.beq t 70
  | 3 => Nat.beq t 65
  | _ => Nat.beq t 66 || Nat.beq t 67
/-- what is loaded: kd 1 iaload, 2 aaload, 3 laload, 4 baload -/
def aArl (kd nx : Nat) (S : AS) : Option (List (Nat × AS)) := match S.2.2 with
  | i :: o :: r => bif Nat.beq o.1 2 then (bif aIdx S.1 i (tSiz o.2.1) && aKind kd (tTag o.2.1) && Nat.beq (tTyA o.2.1).1 (bif Nat.beq kd 4 then 1 else kd) && Nat.ble 64 (tTag o.2.1) then some (aPut nx S.2.1 r (aLdT S.1 (tTyA o.2.1))) else none)
    else bif Nat.beq o.1 5 && Nat.beq kd 1 && Nat.beq i.1 1 && ile 0 (aLo S.1 i.2.1 i.2.2) && ent S.1.1 S.1.2.1 i.2.1 o.2.1 (-1 - i.2.2) then some [(nx, aPush (aAny S.1) S.2.1 r)] else none
  | _ => none
def mLok (kd : Nat) (t : Nat) (v : Value) : Bool := match kd with
  | 1 => t == 64 && mIsI v
  | 2 => (t == 68 || t == 69 || t == 70) && mIsR v
  | 3 => t == 65 && mIsL v
  | _ => (t == 66 || t == 67) && mIsI v
theorem mLok_ok {kd : Nat} (hkd : kd = 1 ∨ kd = 2 ∨ kd = 3 ∨ kd = 4) {t : Nat} {ty : AT} {v : Value} (h1 : aKind kd t = true) (h2 : ty.1 = (bif Nat.beq kd 4 then 1 else kd)) (h3 : aTy ty v) : mLok kd t v = true := by
  obtain ⟨k, lo, hi, gs⟩ := ty
  unfold aTy aTyk at h3
  dsimp only at h2 h3
  rcases hkd with rfl | rfl | rfl | rfl
  · have e : k = 1 := h2
    subst e
    obtain ⟨x, rfl, _⟩ := h3
    have e := Nat.eq_of_beq_eq_true h1
    subst e; rfl
  · have e : k = 2 := h2
    subst e
    obtain ⟨x, rfl, _⟩ := h3
    have h1 : (Nat.beq t 68 || Nat.beq t 69 || Nat.beq t 70) = true := h1
    rw [Bool.or_eq_true, Bool.or_eq_true] at h1
    rcases h1 with (h1 | h1) | h1 <;> (have e := Nat.eq_of_beq_eq_true h1; subst e; rfl)
  · have e : k = 3 := h2
    subst e
    obtain ⟨x, rfl⟩ := h3
    have e := Nat.eq_of_beq_eq_true h1
    subst e; rfl
  · have e : k = 1 := h2
    subst e
    obtain ⟨x, rfl, _⟩ := h3
    have h1 : (Nat.beq t 66 || Nat.beq t 67) = true := h1
    rw [Bool.or_eq_true] at h1
    rcases h1 with h1 | h1 <;> (have e := Nat.eq_of_beq_eq_true h1; subst e; rfl)
theorem aArl_ok {kd : Nat} (hkd : kd = 1 ∨ kd = 2 ∨ kd = 3 ∨ kd = 4) (h : aHold scr σ S L st M) (ho : aArl kd nx S = some outs) : aGo scr σ S.1.1.length mod M outs (mAld nx L st M (mLok kd)) := by
  obtain ⟨K, A, T⟩ := S
  obtain ⟨h1, h2, h3, h4⟩ := h
  unfold aArl at ho
  dsimp only at ho h1 h2 h3 ⊢
  match T, h3, ho with
  | [], _, ho => cases ho
  | [_], _, ho => cases ho
  | i :: o :: r, h3, ho =>
    obtain ⟨i', r1, rfl, g1, s1⟩ := aSs_cons h3
    obtain ⟨o', r2, rfl, g2, s2⟩ := aSs_cons s1
    dsimp only at ho
    cases hk : Nat.beq o.1 2 with
    | true =>
      rw [hk] at ho
      dsimp only [cond_true] at ho
      cases hq : (aIdx K i (tSiz o.2.1) && aKind kd (tTag o.2.1) && Nat.beq (tTyA o.2.1).1 (bif Nat.beq kd 4 then 1 else kd) && Nat.ble 64 (tTag o.2.1)) with
      | false => rw [hq] at ho; cases ho
      | true =>
        rw [hq] at ho
        cases ho
        rw [Bool.and_eq_true, Bool.and_eq_true, Bool.and_eq_true] at hq
        obtain ⟨⟨⟨q1, q2⟩, q3⟩, q4⟩ := hq
        obtain ⟨a, rfl, a1, a2, a3⟩ := aG_ref g2 hk
        obtain ⟨fs, m1, m2, m3⟩ := h4.2.2.1 a a1 a2
        rw [← a3] at q1 q2 q3 q4 ⊢
        obtain ⟨x, rfl, x1, x2⟩ := aIdx_ok h1 g1 q1
        rw [← m2] at x1 x2
        have hv : fs[x.toInt.toNat]? = some fs[x.toInt.toNat] := List.getElem?_eq_getElem _
        have ty := m3 _ _ hv
        unfold tTy at ty
        rw [q4] at ty
        have ty : aTy (tTyA (tGrp a)) fs[x.toInt.toNat] := ty
        refine aPut_go h4 h2 s2 (aLdT_ok h1 ty) ?_
        unfold mAld
        dsimp only
        rw [m1]
        dsimp only
        rw [x1]
        dsimp only
        rw [hv]
        dsimp only
        rw [if_pos (mLok_ok hkd q2 (Nat.eq_of_beq_eq_true q3) ty)]
    | false =>
      rw [hk] at ho
      dsimp only [cond_false] at ho
      cases hq : (Nat.beq o.1 5 && Nat.beq kd 1 && Nat.beq i.1 1 && ile 0 (aLo K i.2.1 i.2.2) && ent K.1 K.2.1 i.2.1 o.2.1 (-1 - i.2.2)) with
      | false => rw [hq] at ho; cases ho
      | true =>
        rw [hq] at ho
        cases ho
        rw [Bool.and_eq_true, Bool.and_eq_true, Bool.and_eq_true, Bool.and_eq_true] at hq
        obtain ⟨⟨⟨⟨q1, q2⟩, q3⟩, q4⟩, q5⟩ := hq
        have e2 := Nat.eq_of_beq_eq_true q2
        subst e2
        obtain ⟨ok, os, oc⟩ := o
        have e1 := Nat.eq_of_beq_eq_true q1
        dsimp only at e1 q5
        subst e1
        obtain ⟨o1, rfl, o3⟩ := g2
        obtain ⟨x, rfl, x1, x2⟩ := aG_int g1 q3
        have b := aLoHi h1 x1 x2
        have b0 := ile_iff.mp q4
        have b1 := ent_ok h1.2.1 x1 o1 q5
        have o3 : σ os = (scr.1.length : Int) := o3
        have ix := mIx_in (x := x) (n := (scr.1.map Value.int).length) (by omega) (by rw [List.length_map]; omega)
        have hl : x.toInt.toNat < scr.1.length := by omega
        have hv : (scr.1.map Value.int)[x.toInt.toNat]? = some (.int scr.1[x.toInt.toNat]) := by rw [List.getElem?_map, List.getElem?_eq_getElem hl]; rfl
        refine aGo_push h4 (aAny_ok h1 scr.1[x.toInt.toNat]) h2 s2 ?_
        unfold mAld
        dsimp only
        rw [h4.1.1]
        dsimp only
        rw [ix]
        dsimp only
        rw [hv]
        rfl
end
