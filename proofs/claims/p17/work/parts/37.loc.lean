/-! locals -/
def aLd (A : List AV) (i : Nat) : AV := A.getD i (0, 0, 0)
theorem aLd_ok {scr : SG} {σ : Nat → Int} {n : Nat} {A : List AV} {L : MLoc} (h : aLs scr σ n A L) {i : Nat} (hk : ¬ (aLd A i).1 = 0) : ∃ w, mLd L i = some w ∧ aG scr σ n (aLd A i) w := by
  unfold aLd at hk ⊢
  rw [List.getD_eq_getElem?_getD] at hk ⊢
  cases hv : A[i]? with
  | none => rw [hv] at hk; exact (hk rfl).elim
  | some v =>
    rw [hv] at hk
    rcases h i v hv with h0 | h0
    · exact (hk h0).elim
    · exact h0
def aClr (A : List AV) (i : Nat) : List AV := match i with
  | 0 => A
  | k + 1 => bif Nat.beq (aLd A k).1 3 || Nat.ble 6 (aLd A k).1 then A.set k (0, 0, 0) else A
def aSt1 (A : List AV) (i : Nat) (v : AV) : List AV := (aClr A i).set i v
def aSt2 (A : List AV) (i : Nat) (v : AV) : List AV := ((aClr A i).set (i + 1) (0, 0, 0)).set i v
theorem find_filter {α : Type} {p f : α → Bool} {q : α} : ∀ {l : List α}, l.find? p = some q → f q = true → (l.filter f).find? p = some q
  | [], h, _ => nomatch h
  | x :: r, h, hf => by
    rw [List.find?_cons] at h
    cases hp : p x with
    | true =>
      rw [hp] at h
      cases h
      rw [List.filter_cons_of_pos hf, List.find?_cons, hp]
    | false =>
      rw [hp] at h
      have ih := find_filter (f := f) h hf
      cases hx : f x with
      | true => rw [List.filter_cons_of_pos hx, List.find?_cons, hp]; exact ih
      | false => rw [List.filter_cons_of_neg (by rw [hx]; exact Bool.false_ne_true)]; exact ih
theorem mLd_find {L : MLoc} {i : Nat} {w : Value} (h : mLd L i = some w) : ∃ q, L.find? (fun q => q.1 == i) = some q ∧ q.1 = i ∧ q.2 = w := by
  unfold mLd at h
  cases hf : L.find? (fun q => q.1 == i) with
  | none => rw [hf] at h; cases h
  | some q =>
    rw [hf] at h
    have e := List.find?_some hf
    exact ⟨q, rfl, eq_of_beq e, Option.some.inj h⟩
theorem mLd_st1 {L : MLoc} {i k : Nat} {v w : Value} (hk : k ≠ i) (h : mLd L k = some w) (hc : k + 1 = i → w.category = 1) : mLd (mSt1 L i v) k = some w := by
  obtain ⟨q, h1, h2, h3⟩ := mLd_find h
  unfold mSt1 mLd
  rw [List.find?_cons]
  have e1 : ((i, v).1 == k) = false := beq_eq_false_iff_ne.mpr (fun e => hk e.symm)
  rw [e1]
  have ff : (!(q.1 == i) && !(q.1 + 1 == i && q.2.category == 2)) = true := by
    have a1 : (q.1 == i) = false := beq_eq_false_iff_ne.mpr (by omega)
    rw [a1]
    by_cases e : k + 1 = i
    · have : (q.2.category == 2) = false := by rw [h3, hc e]; rfl
      rw [this, Bool.and_false]; rfl
    · have : (q.1 + 1 == i) = false := beq_eq_false_iff_ne.mpr (by omega)
      rw [this]; rfl
  dsimp only
  rw [find_filter h1 ff]
  exact congrArg some h3
theorem mLd_st2 {L : MLoc} {i k : Nat} {v w : Value} (hk : k ≠ i) (hk2 : k ≠ i + 1) (h : mLd L k = some w) (hc : k + 1 = i → w.category = 1) : mLd (mSt2 L i v) k = some w := by
  obtain ⟨q, h1, h2, h3⟩ := mLd_find h
  unfold mSt2 mLd
  rw [List.find?_cons]
  have e1 : ((i, v).1 == k) = false := beq_eq_false_iff_ne.mpr (fun e => hk e.symm)
  rw [e1]
  have ff : (!(q.1 == i) && (!(q.1 == i + 1) && !(q.1 + 1 == i && q.2.category == 2))) = true := by
    have a1 : (q.1 == i) = false := beq_eq_false_iff_ne.mpr (by omega)
    have a2 : (q.1 == i + 1) = false := beq_eq_false_iff_ne.mpr (by omega)
    rw [a1, a2]
    by_cases e : k + 1 = i
    · have : (q.2.category == 2) = false := by rw [h3, hc e]; rfl
      rw [this, Bool.and_false]; rfl
    · have : (q.1 + 1 == i) = false := beq_eq_false_iff_ne.mpr (by omega)
      rw [this]; rfl
  dsimp only
  rw [find_filter h1 ff]
  exact congrArg some h3
theorem mLd_st1_i {L : MLoc} {i : Nat} {v : Value} : mLd (mSt1 L i v) i = some v := by
  unfold mSt1 mLd
  rw [List.find?_cons]
  have e1 : ((i, v).1 == i) = true := beq_self_eq_true i
  rw [e1]; rfl
theorem mLd_st2_i {L : MLoc} {i : Nat} {v : Value} : mLd (mSt2 L i v) i = some v := by
  unfold mSt2 mLd
  rw [List.find?_cons]
  have e1 : ((i, v).1 == i) = true := beq_self_eq_true i
  rw [e1]; rfl
theorem setA_get {A : List AV} {i j : Nat} {v u : AV} (h : (A.set i v)[j]? = some u) : (j = i ∧ u = v) ∨ (j ≠ i ∧ A[j]? = some u) := by
  rw [List.getElem?_set] at h
  by_cases e : i = j
  · rw [if_pos e] at h
    split at h
    · cases h; exact Or.inl ⟨e.symm, rfl⟩
    · cases h
  · rw [if_neg e] at h; exact Or.inr ⟨fun h => e h.symm, h⟩
/-- one word -/
def aCat1 (k : Nat) : Bool := !(Nat.beq k 0) && !(Nat.beq k 3)
theorem aG_cat {scr : SG} {σ : Nat → Int} {n : Nat} {v : AV} {w : Value} (h : aG scr σ n v w) (h0 : v.1 ≠ 0) (h3 : v.1 ≠ 3) : w.category = 1 := by
  obtain ⟨k, s, c⟩ := v
  unfold aG aGk at h
  dsimp only at h h0 h3
  match k, h with
  | 0, _ => exact (h0 rfl).elim
  | 1, ⟨_, x, h2, _⟩ => rw [h2]; rfl
  | 2, ⟨a, h1, _⟩ => rw [h1]; rfl
  | 3, _ => exact (h3 rfl).elim
  | 4, h => rw [show w = .ref 1 from h]; rfl
  | k + 5, ⟨_, h, _⟩ => rw [h]; rfl
theorem aClr_get {A : List AV} {i j : Nat} {u : AV} (h : (aClr A i)[j]? = some u) : u.1 = 0 ∨ (A[j]? = some u ∧ (j + 1 = i → u.1 ≠ 3)) := by
  unfold aClr at h
  cases i with
  | zero => exact Or.inr ⟨h, fun e => by omega⟩
  | succ k =>
    dsimp only at h
    cases hq : (Nat.beq (aLd A k).1 3 || Nat.ble 6 (aLd A k).1) with
    | true =>
      rw [hq] at h
      rcases setA_get h with ⟨_, e⟩ | ⟨e1, e2⟩
      · exact Or.inl (by rw [e])
      · exact Or.inr ⟨e2, fun e => by omega⟩
    | false =>
      rw [hq] at h
      refine Or.inr ⟨h, fun e => ?_⟩
      have e : j = k := by omega
      subst e
      intro e3
      have : aLd A j = u := by unfold aLd; rw [List.getD_eq_getElem?_getD]; rw [show A[j]? = some u from h]; rfl
      rw [this, e3] at hq
      cases hq
theorem aSt1_ok {scr : SG} {σ : Nat → Int} {n : Nat} {A : List AV} {L : MLoc} (h : aLs scr σ n A L) {i : Nat} {v : AV} {w : Value} (hv : aG scr σ n v w) : aLs scr σ n (aSt1 A i v) (mSt1 L i w) := by
  intro j u hu
  unfold aSt1 at hu
  rcases setA_get hu with ⟨e1, e2⟩ | ⟨e1, e2⟩
  · subst e1; subst e2; exact Or.inr ⟨w, mLd_st1_i, hv⟩
  · rcases aClr_get e2 with e3 | ⟨e3, e4⟩
    · exact Or.inl e3
    · rcases h j u e3 with e5 | ⟨x, e5, e6⟩
      · exact Or.inl e5
      · by_cases h0 : u.1 = 0
        · exact Or.inl h0
        · exact Or.inr ⟨x, mLd_st1 e1 e5 (fun e => aG_cat e6 h0 (e4 e)), e6⟩
theorem aSt2_ok {scr : SG} {σ : Nat → Int} {n : Nat} {A : List AV} {L : MLoc} (h : aLs scr σ n A L) {i : Nat} {v : AV} {w : Value} (hv : aG scr σ n v w) : aLs scr σ n (aSt2 A i v) (mSt2 L i w) := by
  intro j u hu
  unfold aSt2 at hu
  rcases setA_get hu with ⟨e1, e2⟩ | ⟨e1, e2⟩
  · subst e1; subst e2; exact Or.inr ⟨w, mLd_st2_i, hv⟩
  · rcases setA_get e2 with ⟨_, e3⟩ | ⟨e0, e2⟩
    · exact Or.inl (by rw [e3])
    · rcases aClr_get e2 with e3 | ⟨e3, e4⟩
      · exact Or.inl e3
      · rcases h j u e3 with e5 | ⟨x, e5, e6⟩
        · exact Or.inl e5
        · by_cases h0 : u.1 = 0
          · exact Or.inl h0
          · exact Or.inr ⟨x, mLd_st2 e1 e0 e5 (fun e => aG_cat e6 h0 (e4 e)), e6⟩
