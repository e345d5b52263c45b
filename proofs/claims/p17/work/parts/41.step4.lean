/-! one instruction: array stores, the rest -/
section
variable {scr : SG} {σ : Nat → Int} {S : AS} {L : MLoc} {st : List Value} {M : Mem} {mod : List (Nat × Nat)} {pc nx : Nat} {outs : List (Nat × AS)}
def aNoF (g : Nat) : AF → Bool
  | [] => true
  | q :: r => bif Nat.beq q.1 g then false else aNoF g r
theorem aNoF_ok {g : Nat} : ∀ {F : AF}, aNoF g F = true → ∀ j v, (g, j, v) ∈ F → False
  | [], _, _, _, h => nomatch h
  | q :: r, hF, j, v, h => by
    unfold aNoF at hF
    cases hq : Nat.beq q.1 g with
    | true => rw [hq] at hF; cases hF
    | false =>
      rw [hq] at hF
      cases List.mem_cons.mp h with
      | inl e =>
        rw [← e] at hq
        have : Nat.beq g g = true := Nat.beq_refl g
        rw [this] at hq; cases hq
      | inr e => exact aNoF_ok hF j v e
/-- what is stored: kd 1 iastore, 3 lastore, 4 bastore -/
def aArs (kd nx : Nat) (S : AS) : Option (List (Nat × AS)) := match S.2.2 with
  | v :: i :: o :: r => bif Nat.beq o.1 2 && aIdx S.1 i (tSiz o.2.1) && aStA S.1 o.2.1 v && aNoF o.2.1 S.1.2.2.2 && (match kd with
    | 1 => Nat.beq v.1 1 && Nat.beq (tTag o.2.1) 64
    | 3 => Nat.beq v.1 3 && Nat.beq (tTag o.2.1) 65
    | _ => Nat.beq v.1 1 && ((Nat.beq (tTag o.2.1) 66 && (ile (-128) (aLo S.1 v.2.1 v.2.2) && ile (aHi S.1 v.2.1 v.2.2) 127)) || (Nat.beq (tTag o.2.1) 67 && (ile 0 (aLo S.1 v.2.1 v.2.2) && ile (aHi S.1 v.2.1 v.2.2) 1)))) then some [(nx, S.1, S.2.1, r)] else none
  | _ => none
def mSok (kd : Nat) (t : Nat) (v : Value) : Option Value := match kd with
  | 1 => if t = 64 ∧ mIsI v = true then some v else none
  | 3 => if t = 65 ∧ mIsL v = true then some v else none
  | _ => match v with
    | .int x => if t = 66 then some (.int (vp_nar .byte x)) else if t = 67 then some (.int (vp_nar .boolean x)) else none
    | _ => none
theorem aArs_ok {kd : Nat} (hkd : kd = 1 ∨ kd = 3 ∨ kd = 4) (h : aHold scr σ S L st M) (ho : aArs kd nx S = some outs) : aGo scr σ S.1.1.length mod M outs (mAst nx L st M (mSok kd)) := by
  obtain ⟨K, A, T⟩ := S
  obtain ⟨h1, h2, h3, h4⟩ := h
  unfold aArs at ho
  dsimp only at ho h1 h2 h3 ⊢
  match T, h3, ho with
  | [], _, ho => cases ho
  | [_], _, ho => cases ho
  | [_, _], _, ho => cases ho
  | v :: i :: o :: r, h3, ho =>
    obtain ⟨w, r0, rfl, g0, s0⟩ := aSs_cons h3
    obtain ⟨i', r1, rfl, g1, s1⟩ := aSs_cons s0
    obtain ⟨o', r2, rfl, g2, s2⟩ := aSs_cons s1
    dsimp only at ho
    generalize hX : (match kd with
    | 1 => Nat.beq v.1 1 && Nat.beq (tTag o.2.1) 64
    | 3 => Nat.beq v.1 3 && Nat.beq (tTag o.2.1) 65
    | _ => Nat.beq v.1 1 && ((Nat.beq (tTag o.2.1) 66 && (ile (-128) (aLo K v.2.1 v.2.2) && ile (aHi K v.2.1 v.2.2) 127)) || (Nat.beq (tTag o.2.1) 67 && (ile 0 (aLo K v.2.1 v.2.2) && ile (aHi K v.2.1 v.2.2) 1)))) = X at ho
    cases hq : (Nat.beq o.1 2 && aIdx K i (tSiz o.2.1) && aStA K o.2.1 v && aNoF o.2.1 K.2.2.2 && X) with
    | false => rw [hq] at ho; cases ho
    | true =>
      rw [hq] at ho
      cases ho
      rw [Bool.and_eq_true, Bool.and_eq_true, Bool.and_eq_true, Bool.and_eq_true] at hq
      obtain ⟨⟨⟨⟨q1, q2⟩, q3⟩, q4⟩, q5⟩ := hq
      subst q5
      obtain ⟨a, rfl, a1, a2, a3⟩ := aG_ref g2 q1
      obtain ⟨fs, m1, m2, m3⟩ := h4.2.2.1 a a1 a2
      rw [← a3] at q2 q3 q4 hX
      obtain ⟨x, rfl, x1, x2⟩ := aIdx_ok h1 g1 q2
      rw [← m2] at x1 x2
      unfold aStA at q3
      rw [Bool.and_eq_true, Bool.and_eq_true] at q3
      obtain ⟨⟨p1, p2⟩, p3⟩ := q3
      have p2 : tPro (tGrp a) 0 = false := by cases hx : tPro (tGrp a) 0 with
        | false => rfl
        | true => rw [hx] at p2; cases p2
      have ty := aFit_ok h1 p1 g0
      have hs : mSok kd (tTag (tGrp a)) w = some w := by
        rcases hkd with rfl | rfl | rfl
        · have hX : (Nat.beq v.1 1 && Nat.beq (tTag (tGrp a)) 64) = true := hX
          rw [Bool.and_eq_true] at hX
          obtain ⟨y, rfl, _, _⟩ := aG_int g0 hX.1
          show (if tTag (tGrp a) = 64 ∧ mIsI (.int y) = true then some (Value.int y) else none) = some (.int y)
          exact if_pos ⟨Nat.eq_of_beq_eq_true hX.2, rfl⟩
        · have hX : (Nat.beq v.1 3 && Nat.beq (tTag (tGrp a)) 65) = true := hX
          rw [Bool.and_eq_true] at hX
          obtain ⟨y, rfl⟩ := aG_long g0 hX.1
          show (if tTag (tGrp a) = 65 ∧ mIsL (.long y) = true then some (Value.long y) else none) = some (.long y)
          exact if_pos ⟨Nat.eq_of_beq_eq_true hX.2, rfl⟩
        · have hX : (Nat.beq v.1 1 && ((Nat.beq (tTag (tGrp a)) 66 && (ile (-128) (aLo K v.2.1 v.2.2) && ile (aHi K v.2.1 v.2.2) 127)) || (Nat.beq (tTag (tGrp a)) 67 && (ile 0 (aLo K v.2.1 v.2.2) && ile (aHi K v.2.1 v.2.2) 1)))) = true := hX
          rw [Bool.and_eq_true, Bool.or_eq_true, Bool.and_eq_true, Bool.and_eq_true, Bool.and_eq_true, Bool.and_eq_true, ile_iff, ile_iff, ile_iff, ile_iff] at hX
          obtain ⟨hX1, hX2⟩ := hX
          obtain ⟨y, rfl, y1, y2⟩ := aG_int g0 hX1
          have b := aLoHi h1 y1 y2
          show (if tTag (tGrp a) = 66 then some (Value.int (vp_nar .byte y)) else if tTag (tGrp a) = 67 then some (.int (vp_nar .boolean y)) else none) = some (.int y)
          rcases hX2 with ⟨t1, t2, t3⟩ | ⟨t1, t2, t3⟩
          · rw [if_pos (Nat.eq_of_beq_eq_true t1), vp_nar_byte]
            have e : y.toInt8.toInt32 = y := Int32.toInt_inj.mp (i32_b_in (by omega) (by omega))
            rw [e]
          · have e := Nat.eq_of_beq_eq_true t1
            rw [if_neg (by omega), if_pos e]
            rcases i32_01 (x := y) (by omega) (by omega) with rfl | rfl <;> rfl
      have key := aArr_ok (mod := mod) h4 h1 a1 a2 m1 (fs' := fs.set x.toInt.toNat w) List.length_set (aNoF_ok q4) p3 p2 (by
        intro j u hu
        rcases set_get hu with ⟨_, e⟩ | ⟨_, e⟩
        · subst e; exact ty
        · have t := m3 j u e
          unfold tTy at t
          rw [p3] at t
          exact t)
      refine ⟨_, List.mem_cons_self, σ, L, r2, _, ?_, aExt.rf, Nat.le_refl _, ⟨key.1, h2, s2, key.2.1⟩, key.2.2⟩
      unfold mAst
      dsimp only
      rw [m1]
      dsimp only
      rw [x1, hs]
      dsimp only
      rw [if_neg (fun e : a = 0 => by rw [e] at a1; exact absurd a1 (by decide))]
/-- a value of a local pushed -/
def aLoc (ks : Nat → Bool) (i nx : Nat) (S : AS) : Option (List (Nat × AS)) := bif ks (aLd S.2.1 i).1 then some [(nx, S.1, S.2.1, aLd S.2.1 i :: S.2.2)] else none
theorem aLocI_ok {mL i : Nat} (h : aHold scr σ S L st M) (ho : aLoc (fun k => Nat.beq k 1) i nx S = some outs) : aGo scr σ S.1.1.length mod M outs (mStep mL (.iload i) pc nx L st M) := by
  unfold aLoc at ho
  dsimp only at ho
  cases hq : Nat.beq (aLd S.2.1 i).1 1 with
  | false => rw [hq] at ho; cases ho
  | true =>
    rw [hq] at ho
    cases ho
    obtain ⟨w, w1, w2⟩ := aLd_ok h.2.1 (i := i) (fun e => by rw [e] at hq; cases hq)
    obtain ⟨x, rfl, _, _⟩ := aG_int w2 hq
    refine aGo_same h (L' := L) (st' := .int x :: st) ?_ h.2.1 ⟨w2, h.2.2.1⟩
    unfold mStep
    dsimp only
    rw [w1]
theorem aLocL_ok {mL i : Nat} (h : aHold scr σ S L st M) (ho : aLoc (fun k => Nat.beq k 3) i nx S = some outs) : aGo scr σ S.1.1.length mod M outs (mStep mL (.lload i) pc nx L st M) := by
  unfold aLoc at ho
  dsimp only at ho
  cases hq : Nat.beq (aLd S.2.1 i).1 3 with
  | false => rw [hq] at ho; cases ho
  | true =>
    rw [hq] at ho
    cases ho
    obtain ⟨w, w1, w2⟩ := aLd_ok h.2.1 (i := i) (fun e => by rw [e] at hq; cases hq)
    obtain ⟨x, rfl⟩ := aG_long w2 hq
    refine aGo_same h (L' := L) (st' := .long x :: st) ?_ h.2.1 ⟨w2, h.2.2.1⟩
    unfold mStep
    dsimp only
    rw [w1]
theorem aLocR_ok {mL i : Nat} (h : aHold scr σ S L st M) (ho : aLoc (fun k => Nat.beq k 2 || Nat.ble 4 k) i nx S = some outs) : aGo scr σ S.1.1.length mod M outs (mStep mL (.aload i) pc nx L st M) := by
  unfold aLoc at ho
  dsimp only at ho
  cases hq : (Nat.beq (aLd S.2.1 i).1 2 || Nat.ble 4 (aLd S.2.1 i).1) with
  | false => rw [hq] at ho; cases ho
  | true =>
    rw [hq] at ho
    cases ho
    obtain ⟨w, w1, w2⟩ := aLd_ok h.2.1 (i := i) (fun e => by rw [e] at hq; cases hq)
    obtain ⟨x, rfl⟩ := aG_refs w2 hq
    refine aGo_same h (L' := L) (st' := .ref x :: st) ?_ h.2.1 ⟨w2, h.2.2.1⟩
    unfold mStep
    dsimp only
    rw [w1]
def aSto (ks : Nat → Bool) (two : Bool) (mL i nx : Nat) (S : AS) : Option (List (Nat × AS)) := match S.2.2 with
  | v :: r => bif ks v.1 && Nat.blt (bif two then i + 1 else i) mL then some [(nx, S.1, (bif two then aSt2 S.2.1 i v else aSt1 S.2.1 i v), r)] else none
  | _ => none
theorem aStoI_ok {mL i : Nat} (h : aHold scr σ S L st M) (ho : aSto (fun k => Nat.beq k 1) false mL i nx S = some outs) : aGo scr σ S.1.1.length mod M outs (mStep mL (.istore i) pc nx L st M) := by
  obtain ⟨K, A, T⟩ := S
  unfold aSto at ho
  dsimp only at ho
  match T, h, ho with
  | [], _, ho => cases ho
  | v :: r, h, ho =>
    obtain ⟨w, r1, rfl, g1, s1⟩ := aSs_cons h.2.2.1
    dsimp only at ho
    cases hq : (Nat.beq v.1 1 && Nat.blt i mL) with
    | false => rw [cond_false, hq] at ho; cases ho
    | true =>
      rw [cond_false, hq] at ho
      cases ho
      rw [Bool.and_eq_true] at hq
      obtain ⟨x, rfl, _, _⟩ := aG_int g1 hq.1
      have hi : i < mL := Nat.le_of_ble_eq_true hq.2
      exact aGo_same h (if_pos hi) (aSt1_ok h.2.1 g1) s1
theorem aStoR_ok {mL i : Nat} (h : aHold scr σ S L st M) (ho : aSto (fun k => Nat.beq k 2 || Nat.ble 4 k) false mL i nx S = some outs) : aGo scr σ S.1.1.length mod M outs (mStep mL (.astore i) pc nx L st M) := by
  obtain ⟨K, A, T⟩ := S
  unfold aSto at ho
  dsimp only at ho
  match T, h, ho with
  | [], _, ho => cases ho
  | v :: r, h, ho =>
    obtain ⟨w, r1, rfl, g1, s1⟩ := aSs_cons h.2.2.1
    dsimp only at ho
    cases hq : ((Nat.beq v.1 2 || Nat.ble 4 v.1) && Nat.blt i mL) with
    | false => rw [cond_false, hq] at ho; cases ho
    | true =>
      rw [cond_false, hq] at ho
      cases ho
      rw [Bool.and_eq_true] at hq
      obtain ⟨x, rfl⟩ := aG_refs g1 hq.1
      have hi : i < mL := Nat.le_of_ble_eq_true hq.2
      exact aGo_same h (if_pos hi) (aSt1_ok h.2.1 g1) s1
theorem aStoL_ok {mL i : Nat} (h : aHold scr σ S L st M) (ho : aSto (fun k => Nat.beq k 3) true mL i nx S = some outs) : aGo scr σ S.1.1.length mod M outs (mStep mL (.lstore i) pc nx L st M) := by
  obtain ⟨K, A, T⟩ := S
  unfold aSto at ho
  dsimp only at ho
  match T, h, ho with
  | [], _, ho => cases ho
  | v :: r, h, ho =>
    obtain ⟨w, r1, rfl, g1, s1⟩ := aSs_cons h.2.2.1
    dsimp only at ho
    cases hq : (Nat.beq v.1 3 && Nat.blt (i + 1) mL) with
    | false => rw [cond_true, hq] at ho; cases ho
    | true =>
      rw [cond_true, hq] at ho
      cases ho
      rw [Bool.and_eq_true] at hq
      obtain ⟨x, rfl⟩ := aG_long g1 hq.1
      have hi : i + 1 < mL := Nat.le_of_ble_eq_true hq.2
      exact aGo_same h (if_pos hi) (aSt2_ok h.2.1 g1) s1
end
