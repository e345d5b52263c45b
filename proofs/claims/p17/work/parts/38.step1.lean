/-! one instruction: the reckoning ones -/
abbrev AS : Type := AK × List AV × List AV
def aHold (scr : SG) (σ : Nat → Int) (S : AS) (L : MLoc) (st : List Value) (M : Mem) : Prop := aK scr σ S.1 M ∧ aLs scr σ S.1.1.length S.2.1 L ∧ aSs scr σ S.1.1.length S.2.2 st ∧ aMem scr M
def aGo (scr : SG) (σ : Nat → Int) (n : Nat) (mod : List (Nat × Nat)) (M : Mem) (outs : List (Nat × AS)) (o : MOut) : Prop := ∃ q, q ∈ outs ∧ ∃ σ' L' st' M', o = some (q.1, L', st', M') ∧ aExt n σ σ' ∧ n ≤ q.2.1.1.length ∧ aHold scr σ' q.2 L' st' M' ∧ aFr mod M M'
theorem aSs_cons {scr : SG} {σ : Nat → Int} {n : Nat} {v : AV} {A : List AV} {st : List Value} (h : aSs scr σ n (v :: A) st) : ∃ w r, st = w :: r ∧ aG scr σ n v w ∧ aSs scr σ n A r := by
  cases st with
  | nil => exact h.elim
  | cons w r => exact ⟨w, r, rfl, h.1, h.2⟩
theorem aG_int {scr : SG} {σ : Nat → Int} {n : Nat} {v : AV} {w : Value} (h : aG scr σ n v w) (hk : Nat.beq v.1 1 = true) : ∃ x : Int32, w = .int x ∧ v.2.1 < n ∧ x.toInt = σ v.2.1 + v.2.2 := by
  obtain ⟨k, s, c⟩ := v
  have e := Nat.eq_of_beq_eq_true hk
  dsimp only at e
  subst e
  obtain ⟨h1, x, h2, h3⟩ := h
  exact ⟨x, h2, h1, h3⟩
theorem aG_long {scr : SG} {σ : Nat → Int} {n : Nat} {v : AV} {w : Value} (h : aG scr σ n v w) (hk : Nat.beq v.1 3 = true) : ∃ x, w = .long x := by
  obtain ⟨k, s, c⟩ := v
  have e := Nat.eq_of_beq_eq_true hk
  dsimp only at e
  subst e
  exact h
theorem aG_ref {scr : SG} {σ : Nat → Int} {n : Nat} {v : AV} {w : Value} (h : aG scr σ n v w) (hk : Nat.beq v.1 2 = true) : ∃ a, w = .ref a ∧ 2 ≤ a ∧ a < tEnd ∧ tGrp a = v.2.1 := by
  obtain ⟨k, s, c⟩ := v
  have e := Nat.eq_of_beq_eq_true hk
  dsimp only at e
  subst e
  obtain ⟨a, h1, h2, h3, h4, _⟩ := h
  exact ⟨a, h1, h2, h3, h4⟩
theorem aG_refs {scr : SG} {σ : Nat → Int} {n : Nat} {v : AV} {w : Value} (h : aG scr σ n v w) (hk : (Nat.beq v.1 2 || Nat.ble 4 v.1) = true) : ∃ a, w = .ref a := by
  obtain ⟨k, s, c⟩ := v
  unfold aG aGk at h
  dsimp only at h hk
  match k, h, hk with
  | 0, _, hk => cases hk
  | 1, _, hk => cases hk
  | 2, ⟨a, h1, _⟩, _ => exact ⟨a, h1⟩
  | 3, _, hk => cases hk
  | 4, h, _ => exact ⟨1, h⟩
  | k + 5, ⟨_, h, _⟩, _ => exact ⟨0, h⟩
section
variable {scr : SG} {σ : Nat → Int} {S : AS} {L : MLoc} {st : List Value} {M : Mem} {mod : List (Nat × Nat)} {nx : Nat} {outs : List (Nat × AS)}
/-- the numbers stay, stack and locals are given -/
theorem aGo_same (h : aHold scr σ S L st M) {A' B' : List AV} {L' : MLoc} {st' : List Value} {o : MOut} (ho : o = some (nx, L', st', M)) (hl : aLs scr σ S.1.1.length A' L') (hs : aSs scr σ S.1.1.length B' st') : aGo scr σ S.1.1.length mod M [(nx, S.1, A', B')] o :=
  ⟨_, List.mem_cons_self, σ, L', st', M, ho, aExt.rf, Nat.le_refl _, ⟨h.1, hl, hs, h.2.2.2⟩, aFr.rf⟩
/-- an int is pushed -/
def aPush (o : AO) (A r : List AV) : AS := (o.1, A, (1, o.2.1, o.2.2) :: r)
theorem aGo_push (hM : aMem scr M) {K : AK} {o : AO} {x : Int32} (hr : aRes scr σ K M o x.toInt) {A r : List AV} {st' : List Value} {p : MOut} (hl : aLs scr σ K.1.length A L) (hs : aSs scr σ K.1.length r st') (hp : p = some (nx, L, .int x :: st', M)) : aGo scr σ K.1.length mod M [(nx, aPush o A r)] p := by
  obtain ⟨σ', e1, e2, e3, e4, e5⟩ := hr
  exact ⟨_, List.mem_cons_self, σ', L, _, M, hp, e1, e2, ⟨e3, aLs_ext e1 e2 hl, ⟨⟨e4, x, rfl, e5⟩, aSs_ext e1 e2 hs⟩, hM⟩, aFr.rf⟩
def aBinI (f : AK → Nat → Int → Nat → Int → AO) (nx : Nat) (S : AS) : Option (List (Nat × AS)) := match S.2.2 with
  | w :: v :: r => bif Nat.beq v.1 1 && Nat.beq w.1 1 then some [(nx, aPush (f S.1 v.2.1 v.2.2 w.2.1 w.2.2) S.2.1 r)] else none
  | _ => none
theorem aBinI_ok {f : AK → Nat → Int → Nat → Int → AO} {g : Int32 → Int32 → Int32} (h : aHold scr σ S L st M) (hf : ∀ {a b : Nat} {p q : Int} {x y : Int32}, a < S.1.1.length → b < S.1.1.length → x.toInt = σ a + p → y.toInt = σ b + q → aRes scr σ S.1 M (f S.1 a p b q) (g x y).toInt) (ho : aBinI f nx S = some outs) : aGo scr σ S.1.1.length mod M outs (mBin nx L st M g) := by
  obtain ⟨K, A, T⟩ := S
  obtain ⟨h1, h2, h3, h4⟩ := h
  unfold aBinI at ho
  dsimp only at ho h1 h2 h3 hf ⊢
  match T, h3, ho with
  | [], _, ho => cases ho
  | [_], _, ho => cases ho
  | w :: v :: r, h3, ho =>
    obtain ⟨w', r1, rfl, g1, s1⟩ := aSs_cons h3
    obtain ⟨v', r2, rfl, g2, s2⟩ := aSs_cons s1
    dsimp only at ho
    cases hq : (Nat.beq v.1 1 && Nat.beq w.1 1) with
    | false => rw [hq] at ho; cases ho
    | true =>
      rw [hq] at ho
      cases ho
      rw [Bool.and_eq_true] at hq
      obtain ⟨x, rfl, x1, x2⟩ := aG_int g2 hq.1
      obtain ⟨y, rfl, y1, y2⟩ := aG_int g1 hq.2
      exact aGo_push h4 (hf x1 y1 x2 y2) h2 s2 rfl
def aUnI (f : AK → Nat → Int → AO) (nx : Nat) (S : AS) : Option (List (Nat × AS)) := match S.2.2 with
  | v :: r => bif Nat.beq v.1 1 then some [(nx, aPush (f S.1 v.2.1 v.2.2) S.2.1 r)] else none
  | _ => none
theorem aUnI_ok {f : AK → Nat → Int → AO} {g : Int32 → Int32} (h : aHold scr σ S L st M) (hf : ∀ {a : Nat} {p : Int} {x : Int32}, a < S.1.1.length → x.toInt = σ a + p → aRes scr σ S.1 M (f S.1 a p) (g x).toInt) (ho : aUnI f nx S = some outs) : aGo scr σ S.1.1.length mod M outs (mUn nx L st M (fun x => .int (g x))) := by
  obtain ⟨K, A, T⟩ := S
  obtain ⟨h1, h2, h3, h4⟩ := h
  unfold aUnI at ho
  dsimp only at ho h1 h2 h3 hf ⊢
  match T, h3, ho with
  | [], _, ho => cases ho
  | v :: r, h3, ho =>
    obtain ⟨v', r2, rfl, g2, s2⟩ := aSs_cons h3
    dsimp only at ho
    cases hq : Nat.beq v.1 1 with
    | false => rw [hq] at ho; cases ho
    | true =>
      rw [hq] at ho
      cases ho
      obtain ⟨x, rfl, x1, x2⟩ := aG_int g2 hq
      exact aGo_push h4 (hf x1 x2) h2 s2 rfl
/-- two taken off, of these kinds, and one of kind 3 put on, or an int of these bounds -/
def aTwo (k1 k2 : Nat) (o : AO ⊕ Unit) (nx : Nat) (S : AS) : Option (List (Nat × AS)) := match S.2.2 with
  | w :: v :: r => bif Nat.beq v.1 k1 && Nat.beq w.1 k2 then (match o with
    | .inl o => some [(nx, aPush o S.2.1 r)]
    | .inr _ => some [(nx, S.1, S.2.1, (3, 0, 0) :: r)]) else none
  | _ => none
theorem aTwoL_ok {g : Int64 → Int64 → Int64} (h : aHold scr σ S L st M) (ho : aTwo 3 3 (.inr ()) nx S = some outs) : aGo scr σ S.1.1.length mod M outs (mBinL nx L st M g) := by
  obtain ⟨K, A, T⟩ := S
  have hh := h
  obtain ⟨h1, h2, h3, h4⟩ := h
  unfold aTwo at ho
  dsimp only at ho h1 h2 h3 ⊢
  match T, h3, ho, hh with
  | [], _, ho, _ => cases ho
  | [_], _, ho, _ => cases ho
  | w :: v :: r, h3, ho, hh =>
    obtain ⟨w', r1, rfl, g1, s1⟩ := aSs_cons h3
    obtain ⟨v', r2, rfl, g2, s2⟩ := aSs_cons s1
    dsimp only at ho
    cases hq : (Nat.beq v.1 3 && Nat.beq w.1 3) with
    | false => rw [hq] at ho; cases ho
    | true =>
      rw [hq] at ho
      cases ho
      rw [Bool.and_eq_true] at hq
      obtain ⟨x, rfl⟩ := aG_long g2 hq.1
      obtain ⟨y, rfl⟩ := aG_long g1 hq.2
      exact aGo_same hh rfl h2 ⟨⟨_, rfl⟩, s2⟩
theorem aTwoS_ok {g : Int64 → Int32 → Int64} (h : aHold scr σ S L st M) (ho : aTwo 3 1 (.inr ()) nx S = some outs) : aGo scr σ S.1.1.length mod M outs (mShL nx L st M g) := by
  obtain ⟨K, A, T⟩ := S
  have hh := h
  obtain ⟨h1, h2, h3, h4⟩ := h
  unfold aTwo at ho
  dsimp only at ho h1 h2 h3 ⊢
  match T, h3, ho, hh with
  | [], _, ho, _ => cases ho
  | [_], _, ho, _ => cases ho
  | w :: v :: r, h3, ho, hh =>
    obtain ⟨w', r1, rfl, g1, s1⟩ := aSs_cons h3
    obtain ⟨v', r2, rfl, g2, s2⟩ := aSs_cons s1
    dsimp only at ho
    cases hq : (Nat.beq v.1 3 && Nat.beq w.1 1) with
    | false => rw [hq] at ho; cases ho
    | true =>
      rw [hq] at ho
      cases ho
      rw [Bool.and_eq_true] at hq
      obtain ⟨x, rfl⟩ := aG_long g2 hq.1
      obtain ⟨y, rfl, _, _⟩ := aG_int g1 hq.2
      exact aGo_same hh rfl h2 ⟨⟨_, rfl⟩, s2⟩
end
