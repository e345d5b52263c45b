/-! the machine's own members -/
def aCats : List AV → Nat
  | [] => 0
  | v :: r => (bif aCat1 v.1 then 1 else 2) + aCats r
theorem cat_le (w : Value) : w.category ≤ 2 := by
  cases w <;> first | exact Nat.le_refl 2 | exact Nat.le_succ 1
theorem aCats_ok {scr : SG} {σ : Nat → Int} {n : Nat} : ∀ {A : List AV} {st : List Value}, aSs scr σ n A st → (st.map fun v => v.category).sum ≤ aCats A
  | [], [], _ => Nat.le_refl _
  | v :: A, w :: st, h => by
    have ih := aCats_ok h.2
    unfold aCats
    rw [List.map_cons, List.sum_cons]
    cases hq : aCat1 v.1 with
    | true =>
      have := aCat1_ok h.1 hq
      dsimp only [cond_true]
      omega
    | false =>
      have := cat_le w
      dsimp only [cond_false]
      omega
def aGoP (scr : SG) (σ : Nat → Int) (n : Nat) (mod : List (Nat × Nat)) (L : MLoc) (M : Mem) (outs : List AS) (o : Option (List Value × Mem)) : Prop := ∃ q, q ∈ outs ∧ ∃ σ' st' M', o = some (st', M') ∧ aExt n σ σ' ∧ n ≤ q.1.1.length ∧ aHold scr σ' q L st' M' ∧ aFr mod M M'
def aOpS (K : Option AK) (A r : List AV) : List AS := match K with
  | some K => [(K, A, r)]
  | none => []
section
variable {scr : SG} {σ : Nat → Int} {S : AS} {L : MLoc} {st : List Value} {M : Mem} {mod : List (Nat × Nat)} {outs : List AS}
theorem aOpS_go {K : AK} {A r : List AV} {st' : List Value} (hM : aMem scr M) (hl : aLs scr σ K.1.length A L) (hs : aSs scr σ K.1.length r st') {Ko : Option AK} (hk : ∃ K', Ko = some K' ∧ aK scr σ K' M ∧ K'.1.length = K.1.length) {outs : List AS} (hin : ∀ q, q ∈ aOpS Ko A r → q ∈ outs) {o : Option (List Value × Mem)} (ho : o = some (st', M)) : aGoP scr σ K.1.length mod L M outs o := by
  obtain ⟨K', rfl, k1, k2⟩ := hk
  refine ⟨(K', A, r), hin _ List.mem_cons_self, σ, st', M, ho, aExt.rf, ?_, ⟨k1, ?_, ?_, hM⟩, aFr.rf⟩
  · show K.1.length ≤ K'.1.length; omega
  · show aLs scr σ K'.1.length A L; rw [k2]; exact hl
  · show aSs scr σ K'.1.length r st'; rw [k2]; exact hs
/-- max: the second where the first is less; min: the second where it is less -/
def aMx (isMax : Bool) (S : AS) : Option (List AS) := match S.2.2 with
  | w :: v :: r => bif Nat.beq v.1 1 && Nat.beq w.1 1 && Nat.ble (aCats r) 8 then some (aOpS (aCond (bif isMax then .lt else .gt) S.1 v.2.1 v.2.2 w.2.1 w.2.2) S.2.1 (w :: r) ++ aOpS (aCond (aNeg (bif isMax then .lt else .gt)) S.1 v.2.1 v.2.2 w.2.1 w.2.2) S.2.1 (v :: r)) else none
  | _ => none
theorem aMax_ok {d : Nat} (hd : 1 ≤ d) (h : aHold scr σ S L st M) (ho : aMx true S = some outs) : aGoP scr σ S.1.1.length mod L M outs (mPrim d 903 st M) := by
  obtain ⟨K, A, T⟩ := S
  unfold aMx at ho
  dsimp only at ho
  match T, h, ho with
  | [], _, ho => cases ho
  | [_], _, ho => cases ho
  | w :: v :: r, h, ho =>
    obtain ⟨w', r1, rfl, g1, s1⟩ := aSs_cons h.2.2.1
    obtain ⟨v', r2, rfl, g2, s2⟩ := aSs_cons s1
    dsimp only [cond_true] at ho
    cases hq : (Nat.beq v.1 1 && Nat.beq w.1 1 && Nat.ble (aCats r) 8) with
    | false => rw [hq] at ho; cases ho
    | true =>
      rw [hq] at ho
      cases ho
      rw [Bool.and_eq_true, Bool.and_eq_true] at hq
      obtain ⟨x, rfl, x1, x2⟩ := aG_int g2 hq.1.1
      obtain ⟨y, rfl, y1, y2⟩ := aG_int g1 hq.1.2
      have hc := aCats_ok s2
      have h8 := Nat.le_of_ble_eq_true hq.2
      have e : mPrim d 903 (.int y :: .int x :: r2) M = some (.int (if x < y then y else x) :: r2, M) := by
        unfold mPrim
        rw [if_neg (by decide), if_neg (by decide), if_neg (by decide), if_pos rfl]
        exact if_pos ⟨hd, by omega⟩
      rw [e]
      by_cases hxy : x < y
      · rw [if_pos hxy]
        exact aOpS_go (K := K) (r := w :: r) (st' := .int y :: r2) h.2.2.2 h.2.1 ⟨g1, s2⟩ (aCond_ok h.1 x1 y1 x2 y2 (show mCond .lt x y = true from decide_eq_true hxy)) (fun q hq => List.mem_append_left _ hq) rfl
      · rw [if_neg hxy]
        exact aOpS_go (K := K) (r := v :: r) (st' := .int x :: r2) h.2.2.2 h.2.1 ⟨g2, s2⟩ (aCond_ok h.1 x1 y1 x2 y2 (mCond_neg (show mCond .lt x y = false from decide_eq_false hxy))) (fun q hq => List.mem_append_right _ hq) rfl
theorem aMin_ok {d : Nat} (hd : 1 ≤ d) (h : aHold scr σ S L st M) (ho : aMx false S = some outs) : aGoP scr σ S.1.1.length mod L M outs (mPrim d 904 st M) := by
  obtain ⟨K, A, T⟩ := S
  unfold aMx at ho
  dsimp only at ho
  match T, h, ho with
  | [], _, ho => cases ho
  | [_], _, ho => cases ho
  | w :: v :: r, h, ho =>
    obtain ⟨w', r1, rfl, g1, s1⟩ := aSs_cons h.2.2.1
    obtain ⟨v', r2, rfl, g2, s2⟩ := aSs_cons s1
    dsimp only [cond_false] at ho
    cases hq : (Nat.beq v.1 1 && Nat.beq w.1 1 && Nat.ble (aCats r) 8) with
    | false => rw [hq] at ho; cases ho
    | true =>
      rw [hq] at ho
      cases ho
      rw [Bool.and_eq_true, Bool.and_eq_true] at hq
      obtain ⟨x, rfl, x1, x2⟩ := aG_int g2 hq.1.1
      obtain ⟨y, rfl, y1, y2⟩ := aG_int g1 hq.1.2
      have hc := aCats_ok s2
      have h8 := Nat.le_of_ble_eq_true hq.2
      have e : mPrim d 904 (.int y :: .int x :: r2) M = some (.int (if y < x then y else x) :: r2, M) := by
        unfold mPrim
        rw [if_neg (by decide), if_neg (by decide), if_neg (by decide), if_neg (by decide), if_pos rfl]
        exact if_pos ⟨hd, by omega⟩
      rw [e]
      by_cases hxy : y < x
      · rw [if_pos hxy]
        exact aOpS_go (K := K) (r := w :: r) (st' := .int y :: r2) h.2.2.2 h.2.1 ⟨g1, s2⟩ (aCond_ok h.1 x1 y1 x2 y2 (show mCond .gt x y = true from decide_eq_true hxy)) (fun q hq => List.mem_append_left _ hq) rfl
      · rw [if_neg hxy]
        exact aOpS_go (K := K) (r := v :: r) (st' := .int x :: r2) h.2.2.2 h.2.1 ⟨g2, s2⟩ (aCond_ok h.1 x1 y1 x2 y2 (mCond_neg (show mCond .gt x y = false from decide_eq_false hxy))) (fun q hq => List.mem_append_right _ hq) rfl
end
