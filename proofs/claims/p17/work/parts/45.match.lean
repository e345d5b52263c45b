/-! a state lies within another: its symbols written by this one's -/
abbrev ATh : Type := List (Nat × Int)
def tGet (θ : ATh) (s : Nat) : Nat × Int := θ.getD s (0, 0)
def tSig (σ : Nat → Int) (θ : ATh) : Nat → Int := fun s => σ (tGet θ s).1 + (tGet θ s).2
def tPre (θ θ' : ATh) : Prop := ∃ e, θ' = θ ++ e
theorem tPre.rf {θ : ATh} : tPre θ θ := ⟨[], (List.append_nil _).symm⟩
theorem tPre.tr {a b c : ATh} (h1 : tPre a b) (h2 : tPre b c) : tPre a c := by
  obtain ⟨e, rfl⟩ := h1
  obtain ⟨f, rfl⟩ := h2
  exact ⟨e ++ f, List.append_assoc ..⟩
theorem tPre.len {a b : ATh} (h : tPre a b) : a.length ≤ b.length := by
  obtain ⟨e, rfl⟩ := h
  rw [List.length_append]; omega
theorem tPre.get {a b : ATh} (h : tPre a b) {s : Nat} (hs : s < a.length) : tGet b s = tGet a s := by
  obtain ⟨e, rfl⟩ := h
  unfold tGet
  rw [List.getD_eq_getElem?_getD, List.getD_eq_getElem?_getD, List.getElem?_append_left hs]
def tOk (n : Nat) (θ : ATh) : Prop := ∀ s, s < θ.length → (tGet θ s).1 < n
/-- symbol s with constant c is what v is -/
def aMs (K : AK) (θ : ATh) (s : Nat) (c : Int) (vs : Nat) (vc : Int) : Option ATh :=
  bif Nat.blt s θ.length then (bif ent K.1 K.2.1 vs (tGet θ s).1 ((tGet θ s).2 + c - vc) && ent K.1 K.2.1 (tGet θ s).1 vs (vc - (tGet θ s).2 - c) then some θ else none)
  else bif Nat.beq s θ.length then some (θ ++ [(vs, vc - c)]) else none
theorem aMs_ok {scr : SG} {σ : Nat → Int} {K : AK} {M : Mem} (hk : aK scr σ K M) {θ θ' : ATh} {s vs : Nat} {c vc : Int} (ht : tOk K.1.length θ) (hv : vs < K.1.length) (h : aMs K θ s c vs vc = some θ') : tPre θ θ' ∧ tOk K.1.length θ' ∧ s < θ'.length ∧ ∀ θ'', tPre θ' θ'' → tSig σ θ'' s + c = σ vs + vc := by
  unfold aMs at h
  cases h1 : Nat.blt s θ.length with
  | true =>
    rw [h1] at h
    dsimp only [cond_true] at h
    have e1 : s < θ.length := Nat.le_of_ble_eq_true h1
    cases h2 : (ent K.1 K.2.1 vs (tGet θ s).1 ((tGet θ s).2 + c - vc) && ent K.1 K.2.1 (tGet θ s).1 vs (vc - (tGet θ s).2 - c)) with
    | false => rw [h2] at h; cases h
    | true =>
      rw [h2] at h
      cases h
      rw [Bool.and_eq_true] at h2
      have a := ent_ok hk.2.1 hv (ht s e1) h2.1
      have b := ent_ok hk.2.1 (ht s e1) hv h2.2
      refine ⟨tPre.rf, ht, e1, fun θ'' hp => ?_⟩
      unfold tSig
      rw [hp.get e1]
      omega
  | false =>
    rw [h1] at h
    dsimp only [cond_false] at h
    cases h2 : Nat.beq s θ.length with
    | false => rw [h2] at h; cases h
    | true =>
      rw [h2] at h
      cases h
      have e := Nat.eq_of_beq_eq_true h2
      have hl : (θ ++ [(vs, vc - c)]).length = θ.length + 1 := by rw [List.length_append]; rfl
      have hg : tGet (θ ++ [(vs, vc - c)]) s = (vs, vc - c) := by
        unfold tGet
        rw [List.getD_eq_getElem?_getD, List.getElem?_append_right (by omega)]
        have : s - θ.length = 0 := by omega
        rw [this]; rfl
      refine ⟨⟨_, rfl⟩, ?_, by omega, fun θ'' hp => ?_⟩
      · intro j hj
        by_cases e2 : j < θ.length
        · rw [tPre.get ⟨_, rfl⟩ e2]; exact ht j e2
        · have : j = s := by omega
          rw [this, hg]; exact hv
      · unfold tSig
        rw [hp.get (by omega), hg]
        show σ vs + (vc - c) + c = σ vs + vc
        omega
def aM1 (K : AK) (θ : ATh) (w v : AV) : Option ATh :=
  bif Nat.beq w.1 0 then some θ
  else bif Nat.beq w.1 1 then (bif Nat.beq v.1 1 then aMs K θ w.2.1 w.2.2 v.2.1 v.2.2 else none)
  else bif Nat.beq w.1 2 then (bif Nat.beq v.1 2 && Nat.beq w.2.1 v.2.1 then (bif ile w.2.2 0 then some θ else bif !(ile v.2.2 0) && Nat.blt v.2.2.toNat K.1.length then aMs K θ w.2.2.toNat 0 v.2.2.toNat 0 else none) else none)
  else bif Nat.beq w.1 3 then (bif Nat.beq v.1 3 then some θ else none)
  else bif Nat.beq w.1 5 then (bif Nat.beq v.1 5 then aMs K θ w.2.1 0 v.2.1 0 else none)
  else none
theorem aM1_ok {scr : SG} {σ : Nat → Int} {K : AK} {M : Mem} (hk : aK scr σ K M) {θ θ' : ATh} {w v : AV} (ht : tOk K.1.length θ) (h : aM1 K θ w v = some θ') : (v.2.1 < K.1.length ∨ (v.1 ≠ 1 ∧ v.1 ≠ 5)) → tPre θ θ' ∧ tOk K.1.length θ' ∧ ∀ θ'', tPre θ' θ'' → ∀ x, aG scr σ K.1.length v x → aG scr (tSig σ θ'') θ''.length w x := by
  obtain ⟨k, s, c⟩ := w
  obtain ⟨k', s', c'⟩ := v
  unfold aM1 at h
  dsimp only at h ⊢
  intro hx
  match k, h, hx with
  | 0, h, _ => cases h; exact ⟨tPre.rf, ht, fun _ _ _ _ => True.intro⟩
  | 1, h, hx =>
    have h : (bif Nat.beq k' 1 then aMs K θ s c s' c' else none) = some θ' := h
    cases hq : Nat.beq k' 1 with
    | false => rw [hq] at h; cases h
    | true =>
      rw [hq] at h
      have e := Nat.eq_of_beq_eq_true hq
      subst e
      rcases hx with x1 | hx
      · obtain ⟨a1, a2, a3, a4⟩ := aMs_ok hk ht x1 h
        refine ⟨a1, a2, fun θ'' hp x hg => ?_⟩
        obtain ⟨_, y, y1, y2⟩ := hg
        exact ⟨Nat.lt_of_lt_of_le a3 hp.len, y, y1, by rw [a4 θ'' hp]; exact y2⟩
      · exact (hx.1 rfl).elim
  | 2, h, _ =>
    have h : (bif Nat.beq k' 2 && Nat.beq s s' then (bif ile c 0 then some θ else bif !(ile c' 0) && Nat.blt c'.toNat K.1.length then aMs K θ c.toNat 0 c'.toNat 0 else none) else none) = some θ' := h
    cases hq : (Nat.beq k' 2 && Nat.beq s s') with
    | false => rw [hq] at h; cases h
    | true =>
      have g : (bif ile c 0 then some θ else bif !(ile c' 0) && Nat.blt c'.toNat K.1.length then aMs K θ c.toNat 0 c'.toNat 0 else none) = some θ' := by
        rw [hq] at h
        exact h
      clear h
      rw [Bool.and_eq_true] at hq
      have e := Nat.eq_of_beq_eq_true hq.1
      have e2 := Nat.eq_of_beq_eq_true hq.2
      subst e; subst e2
      cases hz : ile c 0 with
      | true =>
        rw [hz] at g
        cases g
        have hz := ile_iff.mp hz
        refine ⟨tPre.rf, ht, fun _ _ _ hg => ?_⟩
        obtain ⟨a, h1, h2, h3, h4, _⟩ := hg
        exact ⟨a, h1, h2, h3, h4, fun hc => absurd (show 0 < c from hc) (by omega)⟩
      | false =>
        rw [hz] at g
        dsimp only [cond_false] at g
        cases hy : (!(ile c' 0) && Nat.blt c'.toNat K.1.length) with
        | false => rw [hy] at g; cases g
        | true =>
          rw [hy] at g
          dsimp only [cond_true] at g
          rw [Bool.and_eq_true] at hy
          have y2 : c'.toNat < K.1.length := Nat.le_of_ble_eq_true hy.2
          have y1 : 0 < c' := by
            cases hx : ile c' 0 with
            | true => rw [hx] at hy; cases hy.1
            | false =>
              cases Int.lt_or_le 0 c' with
              | inl h => exact h
              | inr h => rw [ile_iff.mpr h] at hx; cases hx
          obtain ⟨a1, a2, a3, a4⟩ := aMs_ok hk ht y2 g
          refine ⟨a1, a2, fun θ'' hp x hg => ?_⟩
          obtain ⟨a, h1, h2, h3, h4, h5⟩ := hg
          have h5 := (h5 y1).2
          have h6 := a4 θ'' hp
          exact ⟨a, h1, h2, h3, h4, fun _ => ⟨Nat.lt_of_lt_of_le a3 hp.len, by
            show (a : Int) = s + tSig σ θ'' c.toNat
            have h5 : (a : Int) = s + σ c'.toNat := h5
            omega⟩⟩
  | 3, h, _ =>
    have h : (bif Nat.beq k' 3 then some θ else none) = some θ' := h
    cases hq : Nat.beq k' 3 with
    | false => rw [hq] at h; cases h
    | true =>
      rw [hq] at h
      cases h
      have e := Nat.eq_of_beq_eq_true hq
      subst e
      exact ⟨tPre.rf, ht, fun _ _ _ hg => hg⟩
  | 4, h, _ => cases h
  | 5, h, hx =>
    have h : (bif Nat.beq k' 5 then aMs K θ s 0 s' 0 else none) = some θ' := h
    cases hq : Nat.beq k' 5 with
    | false => rw [hq] at h; cases h
    | true =>
      rw [hq] at h
      have e := Nat.eq_of_beq_eq_true hq
      subst e
      rcases hx with x1 | hx
      · obtain ⟨a1, a2, a3, a4⟩ := aMs_ok hk ht x1 h
        refine ⟨a1, a2, fun θ'' hp x hg => ?_⟩
        obtain ⟨_, y1, y2⟩ := hg
        refine ⟨Nat.lt_of_lt_of_le a3 hp.len, y1, ?_⟩
        have := a4 θ'' hp
        have y2 : σ s' = (scr.1.length : Int) := y2
        show tSig σ θ'' s = (scr.1.length : Int)
        omega
      · exact (hx.2 rfl).elim
  | k + 6, h, _ => cases h
theorem aG_lt {scr : SG} {σ : Nat → Int} {n : Nat} {v : AV} {x : Value} (h : aG scr σ n v x) : v.2.1 < n ∨ (v.1 ≠ 1 ∧ v.1 ≠ 5) := by
  obtain ⟨k, s, c⟩ := v
  unfold aG aGk at h
  dsimp only at h ⊢
  match k, h with
  | 0, _ => exact Or.inr ⟨by omega, by omega⟩
  | 1, h => exact Or.inl h.1
  | 2, _ => exact Or.inr ⟨by omega, by omega⟩
  | 3, _ => exact Or.inr ⟨by omega, by omega⟩
  | 4, _ => exact Or.inr ⟨by omega, by omega⟩
  | k + 5, h => exact Or.inl h.1
theorem aM1_zero {K : AK} {θ θ' : ATh} {w v : AV} (hv : v.1 = 0) (h : aM1 K θ w v = some θ') : w.1 = 0 := by
  obtain ⟨k, s, c⟩ := w
  obtain ⟨k', s', c'⟩ := v
  dsimp only at hv ⊢
  subst hv
  unfold aM1 at h
  match k, h with
  | 0, _ => rfl
  | 1, h => cases h
  | 2, h => cases h
  | 3, h => cases h
  | 4, h => cases h
  | 5, h => cases h
  | k + 6, h => cases h
