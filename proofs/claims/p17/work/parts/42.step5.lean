/-! one instruction: all of them -/
section
variable {scr : SG} {σ : Nat → Int} {S : AS} {L : MLoc} {st : List Value} {M : Mem} {mod : List (Nat × Nat)} {pc nx : Nat} {outs : List (Nat × AS)}
def aInc (mL i : Nat) (n : Int) (nx : Nat) (S : AS) : Option (List (Nat × AS)) :=
  bif Nat.beq (aLd S.2.1 i).1 1 && Nat.blt i mL && aIn n n then
    some [(nx, (aAdd S.1 (aLd S.2.1 i).2.1 (aLd S.2.1 i).2.2 0 n).1, aSt1 S.2.1 i (1, (aAdd S.1 (aLd S.2.1 i).2.1 (aLd S.2.1 i).2.2 0 n).2), S.2.2)] else none
theorem aInc_ok {mL i : Nat} {n : Int} (h : aHold scr σ S L st M) (ho : aInc mL i n nx S = some outs) : aGo scr σ S.1.1.length mod M outs (mStep mL (.iinc i n) pc nx L st M) := by
  unfold aInc at ho
  cases hq : (Nat.beq (aLd S.2.1 i).1 1 && Nat.blt i mL && aIn n n) with
  | false => rw [hq] at ho; cases ho
  | true =>
    rw [hq] at ho
    cases ho
    rw [Bool.and_eq_true, Bool.and_eq_true] at hq
    obtain ⟨⟨q1, q2⟩, q3⟩ := hq
    obtain ⟨w, w1, w2⟩ := aLd_ok h.2.1 (i := i) (fun e => by rw [e] at q1; cases q1)
    obtain ⟨x, rfl, x1, x2⟩ := aG_int w2 q1
    have hi : i < mL := Nat.le_of_ble_eq_true q2
    have r := aIn_ok q3 (Int.le_refl n) (Int.le_refl n)
    have h0 := h.1.2.1.1
    have hn : (Int32.ofInt n).toInt = σ 0 + n := by rw [i32_ofInt r.1 r.2]; omega
    obtain ⟨σ', e1, e2, e3, e4, e5⟩ := aAdd_ok h.1 x1 h.1.1 x2 hn
    refine ⟨_, List.mem_cons_self, σ', mSt1 L i (.int (x + Int32.ofInt n)), st, M, ?_, e1, e2, ⟨e3, aSt1_ok (aLs_ext e1 e2 h.2.1) ⟨e4, _, rfl, e5⟩, aSs_ext e1 e2 h.2.2.1, h.2.2.2⟩, aFr.rf⟩
    unfold mStep
    dsimp only
    rw [w1]
    exact if_pos hi
/-- a comparison's three answers, out of two longs -/
def aLcm (nx : Nat) (S : AS) : Option (List (Nat × AS)) := match S.2.2 with
  | w :: v :: r => bif Nat.beq v.1 3 && Nat.beq w.1 3 then some [(nx, aPush (aAny S.1) S.2.1 r)] else none
  | _ => none
theorem aLcm_ok {mL : Nat} (h : aHold scr σ S L st M) (ho : aLcm nx S = some outs) : aGo scr σ S.1.1.length mod M outs (mStep mL .lcmp pc nx L st M) := by
  obtain ⟨K, A, T⟩ := S
  unfold aLcm at ho
  dsimp only at ho
  match T, h, ho with
  | [], _, ho => cases ho
  | [_], _, ho => cases ho
  | w :: v :: r, h, ho =>
    obtain ⟨w', r1, rfl, g1, s1⟩ := aSs_cons h.2.2.1
    obtain ⟨v', r2, rfl, g2, s2⟩ := aSs_cons s1
    dsimp only at ho
    cases hq : (Nat.beq v.1 3 && Nat.beq w.1 3) with
    | false => rw [hq] at ho; cases ho
    | true =>
      rw [hq] at ho
      cases ho
      rw [Bool.and_eq_true] at hq
      obtain ⟨x, rfl⟩ := aG_long g2 hq.1
      obtain ⟨y, rfl⟩ := aG_long g1 hq.2
      exact aGo_push h.2.2.2 (aAny_ok h.1 _) h.2.1 s2 rfl
def aL2i (nx : Nat) (S : AS) : Option (List (Nat × AS)) := match S.2.2 with
  | v :: r => bif Nat.beq v.1 3 then some [(nx, aPush (aAny S.1) S.2.1 r)] else none
  | _ => none
theorem aL2i_ok {mL : Nat} (h : aHold scr σ S L st M) (ho : aL2i nx S = some outs) : aGo scr σ S.1.1.length mod M outs (mStep mL .l2i pc nx L st M) := by
  obtain ⟨K, A, T⟩ := S
  unfold aL2i at ho
  dsimp only at ho
  match T, h, ho with
  | [], _, ho => cases ho
  | v :: r, h, ho =>
    obtain ⟨v', r2, rfl, g2, s2⟩ := aSs_cons h.2.2.1
    dsimp only at ho
    cases hq : Nat.beq v.1 3 with
    | false => rw [hq] at ho; cases ho
    | true =>
      rw [hq] at ho
      cases ho
      obtain ⟨x, rfl⟩ := aG_long g2 hq
      exact aGo_push h.2.2.2 (aAny_ok h.1 _) h.2.1 s2 rfl
def aI2l (nx : Nat) (S : AS) : Option (List (Nat × AS)) := match S.2.2 with
  | v :: r => bif Nat.beq v.1 1 then some [(nx, S.1, S.2.1, (3, 0, 0) :: r)] else none
  | _ => none
theorem aI2l_ok {mL : Nat} (h : aHold scr σ S L st M) (ho : aI2l nx S = some outs) : aGo scr σ S.1.1.length mod M outs (mStep mL .i2l pc nx L st M) := by
  obtain ⟨K, A, T⟩ := S
  unfold aI2l at ho
  dsimp only at ho
  match T, h, ho with
  | [], _, ho => cases ho
  | v :: r, h, ho =>
    obtain ⟨v', r2, rfl, g2, s2⟩ := aSs_cons h.2.2.1
    dsimp only at ho
    cases hq : Nat.beq v.1 1 with
    | false => rw [hq] at ho; cases ho
    | true =>
      rw [hq] at ho
      cases ho
      obtain ⟨x, rfl, _, _⟩ := aG_int g2 hq
      exact aGo_same h rfl h.2.1 ⟨⟨_, rfl⟩, s2⟩
def aDup (nx : Nat) (S : AS) : Option (List (Nat × AS)) := match S.2.2 with
  | v :: r => bif aCat1 v.1 then some [(nx, S.1, S.2.1, v :: v :: r)] else none
  | _ => none
theorem aCat1_ok {n : Nat} {v : AV} {w : Value} (hg : aG scr σ n v w) (h : aCat1 v.1 = true) : w.category = 1 := by
  unfold aCat1 at h
  rw [Bool.and_eq_true] at h
  refine aG_cat hg (fun e => ?_) (fun e => ?_)
  · rw [e] at h; cases h.1
  · rw [e] at h; cases h.2
theorem aDup_ok {mL : Nat} (h : aHold scr σ S L st M) (ho : aDup nx S = some outs) : aGo scr σ S.1.1.length mod M outs (mStep mL .dup pc nx L st M) := by
  obtain ⟨K, A, T⟩ := S
  unfold aDup at ho
  dsimp only at ho
  match T, h, ho with
  | [], _, ho => cases ho
  | v :: r, h, ho =>
    obtain ⟨v', r2, rfl, g2, s2⟩ := aSs_cons h.2.2.1
    dsimp only at ho
    cases hq : aCat1 v.1 with
    | false => rw [hq] at ho; cases ho
    | true =>
      rw [hq] at ho
      cases ho
      exact aGo_same h (if_pos (aCat1_ok g2 hq)) h.2.1 ⟨g2, g2, s2⟩
def aPop (nx : Nat) (S : AS) : Option (List (Nat × AS)) := match S.2.2 with
  | v :: r => bif aCat1 v.1 then some [(nx, S.1, S.2.1, r)] else none
  | _ => none
theorem aPop_ok {mL : Nat} (h : aHold scr σ S L st M) (ho : aPop nx S = some outs) : aGo scr σ S.1.1.length mod M outs (mStep mL .pop pc nx L st M) := by
  obtain ⟨K, A, T⟩ := S
  unfold aPop at ho
  dsimp only at ho
  match T, h, ho with
  | [], _, ho => cases ho
  | v :: r, h, ho =>
    obtain ⟨v', r2, rfl, g2, s2⟩ := aSs_cons h.2.2.1
    dsimp only at ho
    cases hq : aCat1 v.1 with
    | false => rw [hq] at ho; cases ho
    | true =>
      rw [hq] at ho
      cases ho
      exact aGo_same h (if_pos (aCat1_ok g2 hq)) h.2.1 s2
def aPop2 (nx : Nat) (S : AS) : Option (List (Nat × AS)) := match S.2.2 with
  | v :: r => bif Nat.beq v.1 3 then some [(nx, S.1, S.2.1, r)] else none
  | _ => none
theorem aPop2_ok {mL : Nat} (h : aHold scr σ S L st M) (ho : aPop2 nx S = some outs) : aGo scr σ S.1.1.length mod M outs (mStep mL .pop2 pc nx L st M) := by
  obtain ⟨K, A, T⟩ := S
  unfold aPop2 at ho
  dsimp only at ho
  match T, h, ho with
  | [], _, ho => cases ho
  | v :: r, h, ho =>
    obtain ⟨v', r2, rfl, g2, s2⟩ := aSs_cons h.2.2.1
    dsimp only at ho
    cases hq : Nat.beq v.1 3 with
    | false => rw [hq] at ho; cases ho
    | true =>
      rw [hq] at ho
      cases ho
      obtain ⟨x, rfl⟩ := aG_long g2 hq
      exact aGo_same h rfl h.2.1 s2
def aDup2 (nx : Nat) (S : AS) : Option (List (Nat × AS)) := match S.2.2 with
  | v :: w :: r => bif aCat1 v.1 && aCat1 w.1 then some [(nx, S.1, S.2.1, v :: w :: v :: w :: r)] else none
  | _ => none
theorem aDup2_ok {mL : Nat} (h : aHold scr σ S L st M) (ho : aDup2 nx S = some outs) : aGo scr σ S.1.1.length mod M outs (mStep mL .dup2 pc nx L st M) := by
  obtain ⟨K, A, T⟩ := S
  unfold aDup2 at ho
  dsimp only at ho
  match T, h, ho with
  | [], _, ho => cases ho
  | [_], _, ho => cases ho
  | v :: w :: r, h, ho =>
    obtain ⟨v', r1, rfl, g1, s1⟩ := aSs_cons h.2.2.1
    obtain ⟨w', r2, rfl, g2, s2⟩ := aSs_cons s1
    dsimp only at ho
    cases hq : (aCat1 v.1 && aCat1 w.1) with
    | false => rw [hq] at ho; cases ho
    | true =>
      rw [hq] at ho
      cases ho
      rw [Bool.and_eq_true] at hq
      exact aGo_same h (if_pos ⟨aCat1_ok g1 hq.1, aCat1_ok g2 hq.2⟩) h.2.1 ⟨g1, g2, g1, g2, s2⟩
end
