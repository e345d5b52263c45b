/-! a state lies within an annotation -/
def aMb (K : AK) : Nat → ATh → AB → Bool
  | _, [], [] => true
  | i, t :: θ, b :: B => (ile b.1 (lb0 K.1 t.1 + t.2) || ile b.1 (aLo K t.1 t.2)) && (ile (ub0 K.1 t.1 + t.2) b.2 || ile (aHi K t.1 t.2) b.2) && aMb K (i + 1) θ B
  | _, _, _ => false
def aMz (K : AK) (θ : ATh) (n : Nat) : AZ → Bool
  | [] => true
  | (a, b, c) :: r => Nat.blt a n && Nat.blt b n && ent K.1 K.2.1 (tGet θ a).1 (tGet θ b).1 (c - (tGet θ a).2 + (tGet θ b).2) && aMz K θ n r
/-- the state S lies within the annotation E (without differing pairs); θ0 writes E's first symbols -/
def aMatch (θ0 : ATh) (E S : AS) : Option ATh := match aMl S.1 θ0 E.2.1 S.2.1 with
  | none => none
  | some θ1 => match aMk S.1 θ1 E.2.2 S.2.2 with
    | none => none
    | some θ2 => match aMf S.1 θ2 E.1.2.2.2 with
      | none => none
      | some θ => bif aMb S.1 0 θ E.1.1 && aMz S.1 θ θ.length E.1.2.1 && E.1.2.2.1.isEmpty && (match θ with
        | t :: _ => Nat.beq t.1 0 && ieq t.2 0
        | [] => false) then some θ else none
section
variable {scr : SG} {σ : Nat → Int} {K : AK} {M : Mem} {L : MLoc} {st : List Value}
theorem aMb_ok (hk : aK scr σ K M) : ∀ {θ : ATh} {B : AB} {i : Nat}, (∀ t, t ∈ θ → t.1 < K.1.length) → aMb K i θ B = true → θ.length = B.length ∧ ∀ (j : Nat) lo hi, B[j]? = some (lo, hi) → lo ≤ tSig σ θ j ∧ tSig σ θ j ≤ hi
  | [], [], _, _, _ => ⟨rfl, fun _ _ _ h => nomatch h⟩
  | [], _ :: _, _, _, h => nomatch h
  | _ :: _, [], _, _, h => nomatch h
  | t :: θ, b :: B, i, ht, h => by
    unfold aMb at h
    rw [Bool.and_eq_true, Bool.and_eq_true, Bool.or_eq_true, Bool.or_eq_true, ile_iff, ile_iff, ile_iff, ile_iff] at h
    obtain ⟨⟨h1, h2⟩, h3⟩ := h
    have u := ub0_ok hk.2.1.2.1 (ht t List.mem_cons_self)
    obtain ⟨e1, e2⟩ := aMb_ok hk (fun t hm => ht t (List.mem_cons_of_mem _ hm)) h3
    refine ⟨by rw [List.length_cons, List.length_cons, e1], ?_⟩
    intro j lo hi hj
    cases j with
    | zero =>
      cases hj
      have b := aLoHi hk (ht t List.mem_cons_self) (p := t.2) (x := σ t.1 + t.2) rfl
      show lo ≤ σ t.1 + t.2 ∧ σ t.1 + t.2 ≤ hi
      dsimp only at h1 h2
      omega
    | succ j => exact e2 j lo hi hj
theorem aMz_ok (hk : aK scr σ K M) {θ : ATh} {n : Nat} (hn : n = θ.length) (ht : tOk K.1.length θ) : ∀ {Z : AZ}, aMz K θ n Z = true → ∀ a b c, (a, b, c) ∈ Z → a < n ∧ b < n ∧ tSig σ θ a - tSig σ θ b ≤ c
  | [], _, _, _, _, h => nomatch h
  | (x, y, d) :: r, h, a, b, c, hm => by
    unfold aMz at h
    rw [Bool.and_eq_true, Bool.and_eq_true, Bool.and_eq_true] at h
    obtain ⟨⟨⟨h1, h2⟩, h3⟩, h4⟩ := h
    cases List.mem_cons.mp hm with
    | inr e => exact aMz_ok hk hn ht h4 a b c e
    | inl e =>
      cases e
      have h1 : x < n := Nat.le_of_ble_eq_true h1
      have h2 : y < n := Nat.le_of_ble_eq_true h2
      have := ent_ok hk.2.1 (ht x (by omega)) (ht y (by omega)) h3
      refine ⟨h1, h2, ?_⟩
      unfold tSig
      omega
theorem aMatch_ok {S E : AS} {θ0 θ : ATh} (h : aHold scr σ S L st M) (h0 : tOk S.1.1.length θ0) (hm : aMatch θ0 E S = some θ) : tPre θ0 θ ∧ tOk S.1.1.length θ ∧ θ.length = E.1.1.length ∧ aHold scr (tSig σ θ) E L st M := by
  unfold aMatch at hm
  cases h1 : aMl S.1 θ0 E.2.1 S.2.1 with
  | none => rw [h1] at hm; cases hm
  | some θ1 =>
    rw [h1] at hm
    dsimp only at hm
    cases h2 : aMk S.1 θ1 E.2.2 S.2.2 with
    | none => rw [h2] at hm; cases hm
    | some θ2 =>
      rw [h2] at hm
      dsimp only at hm
      cases h3 : aMf S.1 θ2 E.1.2.2.2 with
      | none => rw [h3] at hm; cases hm
      | some θ3 =>
        rw [h3] at hm
        dsimp only at hm
        generalize hX : (match θ3 with
          | t :: _ => Nat.beq t.1 0 && ieq t.2 0
          | [] => false) = X at hm
        cases hq : (aMb S.1 0 θ3 E.1.1 && aMz S.1 θ3 θ3.length E.1.2.1 && E.1.2.2.1.isEmpty && X) with
        | false => rw [hq] at hm; cases hm
        | true =>
          rw [hq] at hm
          cases hm
          rw [Bool.and_eq_true, Bool.and_eq_true, Bool.and_eq_true] at hq
          obtain ⟨⟨⟨q1, q2⟩, q3⟩, q4⟩ := hq
          subst q4
          obtain ⟨a1, a2, a3⟩ := aMl_ok (L := L) (j := 0) h.1 h0 (fun i v hv => by rw [Nat.zero_add]; exact h.2.1 i v hv) h1
          obtain ⟨b1, b2, b3⟩ := aMk_ok h.1 a2 h.2.2.1 h2
          obtain ⟨c1, c2, c3⟩ := aMf_ok h.1 b2 h3
          have hin : ∀ t, t ∈ θ → t.1 < S.1.1.length := by
            intro t hm
            obtain ⟨i, hi, e⟩ := List.getElem_of_mem hm
            have := c2 i hi
            unfold tGet at this
            rw [List.getD_eq_getElem?_getD, List.getElem?_eq_getElem hi, e] at this
            exact this
          obtain ⟨d1, d2⟩ := aMb_ok h.1 hin q1
          have z := aMz_ok h.1 rfl c2 q2
          have hs0 := h.1.2.1.1
          have pos : 0 < θ.length := by
            cases θ with
            | nil => cases hX
            | cons t r => exact Nat.succ_pos _
          have zero : tSig σ θ 0 = 0 := by
            cases θ with
            | nil => cases hX
            | cons t r =>
              have hX : (Nat.beq t.1 0 && ieq t.2 0) = true := hX
              rw [Bool.and_eq_true, ieq_iff] at hX
              have e := Nat.eq_of_beq_eq_true hX.1
              show σ t.1 + t.2 = 0
              rw [e]; omega
          refine ⟨a1.tr (b1.tr c1), c2, d1, ⟨by omega, ⟨zero, d2, ?_⟩, ?_, ?_⟩, ?_, ?_, h.2.2.2⟩
          · rw [← d1]; exact z
          · intro a b c hm
            rw [List.isEmpty_iff.mp q3] at hm
            cases hm
          · rw [← d1]; exact c3 θ tPre.rf
          · rw [← d1]
            intro i v hv
            have := a3 θ (b1.tr c1) i v hv
            rw [Nat.zero_add] at this
            exact this
          · rw [← d1]; exact b3 θ c1
end
