/-! loads and stores -/
theorem mSlot_set {M : Mem} {a t : Nat} {fs fs' : List Value} (hm : M[a]? = some (t, fs)) {b j : Nat} : mSlot (M.set a (t, fs')) b j = if b = a then fs'[j]? else mSlot M b j := by
  unfold mSlot
  have hl : a < M.length := by
    cases Nat.lt_or_ge a M.length with
    | inl h => exact h
    | inr h => rw [List.getElem?_eq_none h] at hm; cases hm
  rw [List.getElem?_set]
  by_cases e : a = b
  · rw [if_pos e, if_pos (by omega), if_pos e.symm]
  · rw [if_neg e, if_neg (fun h => e h.symm)]
theorem mSlot_eq {M : Mem} {a t : Nat} {fs : List Value} (hm : M[a]? = some (t, fs)) {j : Nat} : mSlot M a j = fs[j]? := by
  unfold mSlot; rw [hm]
theorem pro_set {M : Mem} {a t : Nat} {fs fs' : List Value} (hm : M[a]? = some (t, fs)) (hp : ∀ i, fs'[i]? = fs[i]? ∨ tPro (tGrp a) (bif Nat.ble 64 (tTag (tGrp a)) then 0 else i) = false) {c i : Nat} (h : tPro (tGrp c) (aSlK c i) = true) : mSlot (M.set a (t, fs')) c i = mSlot M c i := by
  rw [mSlot_set hm]
  by_cases e : c = a
  · subst e
    rw [if_pos rfl, mSlot_eq hm]
    rcases hp i with h1 | h1
    · exact h1
    · unfold aSlK at h
      rw [h1] at h; cases h
  · rw [if_neg e]
theorem aMem_set {scr : SG} {M : Mem} (h : aMem scr M) {a t : Nat} {fs fs' : List Value} (h2 : 2 ≤ a) (h3 : a < tEnd) (hm : M[a]? = some (t, fs)) (hl : fs'.length = fs.length) (ht : ∀ i w, fs'[i]? = some w → aTy (tTy (tGrp a) i) w) (hp : ∀ i, fs'[i]? = fs[i]? ∨ tPro (tGrp a) (bif Nat.ble 64 (tTag (tGrp a)) then 0 else i) = false) : aMem scr (M.set a (t, fs')) := by
  obtain ⟨m0, m1, m2, m3⟩ := h
  refine ⟨⟨by rw [List.getElem?_set_ne (by omega)]; exact m0.1, m0.2.1, xx_same (fun c i hq => pro_set hm hp hq) m0.2.2⟩, by rw [List.getElem?_set_ne (by omega)]; exact m1, ?_, tXI_set m3 h2 h3 hm hl hp⟩
  intro c hc hd
  obtain ⟨gs, g1, g2, g3⟩ := m2 c hc hd
  by_cases e : a = c
  · subst e
    rw [hm] at g1
    cases g1
    have hL : a < M.length := by
      cases Nat.lt_or_ge a M.length with
      | inl h => exact h
      | inr h => rw [List.getElem?_eq_none h] at hm; cases hm
    exact ⟨fs', by rw [List.getElem?_set, if_pos rfl, if_pos hL], by omega, ht⟩
  · exact ⟨gs, by rw [List.getElem?_set_ne e]; exact g1, g2, g3⟩
def memP (g i : Nat) : List (Nat × Nat) → Bool
  | [] => false
  | (x, y) :: r => bif Nat.beq x g && Nat.beq y i then true else memP g i r
/-- what a run may change -/
def aFr (mod : List (Nat × Nat)) (M M' : Mem) : Prop := M'.length = M.length ∧ mSl M' = mSl M ∧ (∀ c i, 2 ≤ c → c < tEnd → tSin (tGrp c) = true → tTag (tGrp c) < 64 → memP (tGrp c) i mod = false → mSlot M' c i = mSlot M c i) ∧ (∀ c i, 2 ≤ c → c < tEnd → tPro (tGrp c) (aSlK c i) = true → memP (tGrp c) (aSlK c i) mod = false → mSlot M' c i = mSlot M c i)
theorem aFr.rf {mod : List (Nat × Nat)} {M : Mem} : aFr mod M M := ⟨rfl, rfl, fun _ _ _ _ _ _ _ => rfl, fun _ _ _ _ _ _ => rfl⟩
theorem aFr.tr {mod : List (Nat × Nat)} {A B C : Mem} (h1 : aFr mod A B) (h2 : aFr mod B C) : aFr mod A C := ⟨h2.1.trans h1.1, h2.2.1.trans h1.2.1, fun c i a b d e f => (h2.2.2.1 c i a b d e f).trans (h1.2.2.1 c i a b d e f), fun c i a b d e => (h2.2.2.2 c i a b d e).trans (h1.2.2.2 c i a b d e)⟩
/-- a store that isn't into a protected slot -/
theorem aFr_pro {M : Mem} {a t : Nat} {fs fs' : List Value} (hm : M[a]? = some (t, fs)) (hp : ∀ i, fs'[i]? = fs[i]? ∨ tPro (tGrp a) (aSlK a i) = false) {c i : Nat} (h : tPro (tGrp c) (aSlK c i) = true) : mSlot (M.set a (t, fs')) c i = mSlot M c i := by
  rw [mSlot_set hm]
  by_cases e : c = a
  · subst e
    rw [if_pos rfl, mSlot_eq hm]
    rcases hp i with h1 | h1
    · exact h1
    · rw [h1] at h; cases h
  · rw [if_neg e]
def aFind (g i : Nat) : AF → Option AV
  | [] => none
  | (x, y, v) :: r => bif Nat.beq x g && Nat.beq y i then some v else aFind g i r
theorem aFind_ok {g i : Nat} {v : AV} : ∀ {F : AF}, aFind g i F = some v → (g, i, v) ∈ F
  | [], h => nomatch h
  | (x, y, u) :: r, h => by
    unfold aFind at h
    cases hq : (Nat.beq x g && Nat.beq y i) with
    | true =>
      rw [hq] at h
      rw [Bool.and_eq_true] at hq
      cases h
      rw [Nat.eq_of_beq_eq_true hq.1, Nat.eq_of_beq_eq_true hq.2]
      exact List.mem_cons_self
    | false => rw [hq] at h; exact List.mem_cons_of_mem _ (aFind_ok h)
def aLdT (K : AK) (t : AT) : List (AK × AV) := match t.1 with
  | 0 => [(K, 0, 0, 0)]
  | 1 => [((aFi K t.2.1 t.2.2.1).1, 1, (aFi K t.2.1 t.2.2.1).2)]
  | 2 => t.2.2.2.map (fun g => (K, 2, g, 0))
  | _ => [(K, 3, 0, 0)]
/-- one of the outcomes is what is there -/
def aOne (scr : SG) (σ : Nat → Int) (K : AK) (M : Mem) (os : List (AK × AV)) (w : Value) : Prop := ∃ o, o ∈ os ∧ ∃ σ', aExt K.1.length σ σ' ∧ K.1.length ≤ o.1.1.length ∧ aK scr σ' o.1 M ∧ aG scr σ' o.1.1.length o.2 w
theorem aLdT_ok {scr : SG} {σ : Nat → Int} {K : AK} {M : Mem} (h : aK scr σ K M) {t : AT} {w : Value} (hw : aTy t w) : aOne scr σ K M (aLdT K t) w := by
  obtain ⟨k, lo, hi, gs⟩ := t
  unfold aTy aTyk at hw
  unfold aLdT
  dsimp only at hw ⊢
  match k, hw with
  | 0, _ => exact ⟨_, List.mem_cons_self, σ, aExt.rf, Nat.le_refl _, h, True.intro⟩
  | 1, ⟨x, h1, h2, h3⟩ =>
    obtain ⟨σ', e1, e2, e3, e4, e5⟩ := aFi_ok h h2 h3
    exact ⟨_, List.mem_cons_self, σ', e1, e2, e3, e4, x, h1, e5⟩
  | 2, ⟨a, h1, h2, h3, h4⟩ => exact ⟨(K, 2, tGrp a, 0), List.mem_map.mpr ⟨tGrp a, h4, rfl⟩, σ, aExt.rf, Nat.le_refl _, h, a, h1, h2, h3, rfl, fun hc => absurd hc (Int.lt_irrefl 0)⟩
  | k + 3, ⟨x, h1⟩ => exact ⟨_, List.mem_cons_self, σ, aExt.rf, Nat.le_refl _, h, x, h1⟩
def aAddF (K : AK) (g i : Nat) (v : AV) : AK := (K.1, K.2.1, K.2.2.1, (g, i, v) :: K.2.2.2)
def aLdF (K : AK) (g i : Nat) : List (AK × AV) := match aFind g i K.2.2.2 with
  | some v => [(K, v)]
  | none => bif tSin g then (aLdT K (tTy g i)).map (fun o => bif Nat.beq o.2.1 1 then (aAddF o.1 g i o.2, o.2) else o) else aLdT K (tTy g i)
theorem aAddF_ok {scr : SG} {σ : Nat → Int} {K : AK} {M : Mem} (h : aK scr σ K M) {g i : Nat} {v : AV} (hg : g < 1000) (hv : ∀ a, 2 ≤ a → a < tEnd → tGrp a = g → ∃ w, mSlot M a i = some w ∧ aG scr σ K.1.length v w) : aK scr σ (aAddF K g i v) M := by
  refine ⟨h.1, h.2.1, h.2.2.1, ?_⟩
  intro g' i' v' hm
  have hm : (g', i', v') ∈ (g, i, v) :: K.2.2.2 := hm
  cases List.mem_cons.mp hm with
  | inl e => cases e; exact ⟨hv, fun h => by omega⟩
  | inr e => exact h.2.2.2 g' i' v' e
theorem aLdF_ok {scr : SG} {σ : Nat → Int} {K : AK} {M : Mem} (hM : aMem scr M) (h : aK scr σ K M) {a i : Nat} (h2 : 2 ≤ a) (h3 : a < tEnd) {w : Value} (hw : mSlot M a i = some w) : aOne scr σ K M (aLdF K (tGrp a) i) w := by
  unfold aLdF
  cases hf : aFind (tGrp a) i K.2.2.2 with
  | some v =>
    obtain ⟨w', h4, h5⟩ := (h.2.2.2 _ _ _ (aFind_ok hf)).1 a h2 h3 rfl
    rw [hw] at h4
    cases h4
    exact ⟨_, List.mem_cons_self, σ, aExt.rf, Nat.le_refl _, h, h5⟩
  | none =>
    obtain ⟨fs, m1, m2, m3⟩ := hM.2.2.1 a h2 h3
    have ht := m3 i w (by rw [mSlot_eq m1] at hw; exact hw)
    obtain ⟨o, o1, σ', o2, o3, o4, o5⟩ := aLdT_ok h ht
    cases hs : tSin (tGrp a) with
    | false => exact ⟨o, o1, σ', o2, o3, o4, o5⟩
    | true =>
      refine ⟨_, List.mem_map.mpr ⟨o, o1, rfl⟩, σ', o2, ?_⟩
      cases hb : Nat.beq o.2.1 1 with
      | false => exact ⟨o3, o4, o5⟩
      | true =>
        refine ⟨o3, aAddF_ok o4 (tGrp_lt h3) ?_, o5⟩
        intro b b2 b3 b4
        have e := tSin_ok a b h3 b3 h2 b2 hs b4.symm
        subst e
        exact ⟨w, hw, o5⟩
/-- a value fits a type -/
def aFit (K : AK) (t : AT) (v : AV) : Bool := match t.1, v.1 with
  | 0, _ => true
  | 1, 1 => ile t.2.1 (aLo K v.2.1 v.2.2) && ile (aHi K v.2.1 v.2.2) t.2.2.1
  | 2, 2 => t.2.2.2.any (fun g => Nat.beq g v.2.1)
  | 3, 3 => true
  | _, _ => false
theorem aFit_ok {scr : SG} {σ : Nat → Int} {K : AK} {M : Mem} (h : aK scr σ K M) {t : AT} {v : AV} {w : Value} (hf : aFit K t v = true) (hw : aG scr σ K.1.length v w) : aTy t w := by
  obtain ⟨k, lo, hi, gs⟩ := t
  obtain ⟨k', s, c⟩ := v
  unfold aG aGk at hw
  unfold aFit at hf
  unfold aTy aTyk
  dsimp only at hf hw ⊢
  match k, k', hf, hw with
  | 0, _, _, _ => exact True.intro
  | 1, 1, hf, ⟨h1, x, h2, h3⟩ =>
    have hf : (ile lo (aLo K s c) && ile (aHi K s c) hi) = true := hf
    rw [Bool.and_eq_true, ile_iff, ile_iff] at hf
    have b := aLoHi h h1 h3
    exact ⟨x, h2, by omega, by omega⟩
  | 2, 2, hf, ⟨a, h1, h2, h3, h4, _⟩ =>
    have hf : (gs.any (fun g => Nat.beq g s)) = true := hf
    obtain ⟨g, g1, g2⟩ := List.any_eq_true.mp hf
    have e := Nat.eq_of_beq_eq_true g2
    exact ⟨a, h1, h2, h3, by rw [h4, ← e]; exact g1⟩
  | 3, 3, _, h => exact h
def aOut (g i : Nat) (F : AF) : AF := F.filter (fun q => !(Nat.beq q.1 g && Nat.beq q.2.1 i))
/-- a store into a field -/
def aStF (mod : List (Nat × Nat)) (K : AK) (g i : Nat) (v : AV) : Option AK :=
  bif aFit K (tTy g i) v && !(tPro g i) && !(Nat.ble 64 (tTag g)) && (!(tSin g) || memP g i mod) then
    (bif tSin g && (Nat.beq v.1 1 || Nat.beq v.1 2) then some (K.1, K.2.1, K.2.2.1, (g, i, v) :: aOut g i K.2.2.2) else some (K.1, K.2.1, K.2.2.1, aOut g i K.2.2.2))
  else none
theorem set_get {fs : List Value} {i j : Nat} {v w : Value} (h : (fs.set i v)[j]? = some w) : (j = i ∧ w = v) ∨ (j ≠ i ∧ fs[j]? = some w) := by
  rw [List.getElem?_set] at h
  by_cases e : i = j
  · rw [if_pos e] at h
    split at h
    · cases h; exact Or.inl ⟨e.symm, rfl⟩
    · cases h
  · rw [if_neg e] at h; exact Or.inr ⟨fun h => e h.symm, h⟩
theorem set_same {fs : List Value} {i j : Nat} {v : Value} (h : j ≠ i) : (fs.set i v)[j]? = fs[j]? := List.getElem?_set_ne (fun e => h e.symm)
theorem aStF_ok {scr : SG} {σ : Nat → Int} {mod : List (Nat × Nat)} {K K' : AK} {M : Mem} (hM : aMem scr M) (h : aK scr σ K M) {a i t : Nat} {fs : List Value} (h2 : 2 ≤ a) (h3 : a < tEnd) (hm : M[a]? = some (t, fs)) (hi : i < fs.length) {v : AV} {w : Value} (hs : aStF mod K (tGrp a) i v = some K') (hw : aG scr σ K.1.length v w) : K'.1 = K.1 ∧ aK scr σ K' (M.set a (t, fs.set i w)) ∧ aMem scr (M.set a (t, fs.set i w)) ∧ aFr mod M (M.set a (t, fs.set i w)) := by
  unfold aStF at hs
  cases hq : (aFit K (tTy (tGrp a) i) v && !(tPro (tGrp a) i) && !(Nat.ble 64 (tTag (tGrp a))) && (!(tSin (tGrp a)) || memP (tGrp a) i mod)) with
  | false => rw [hq] at hs; cases hs
  | true =>
    rw [hq] at hs
    rw [Bool.and_eq_true, Bool.and_eq_true, Bool.and_eq_true] at hq
    obtain ⟨⟨⟨q1, q2⟩, q3⟩, q4⟩ := hq
    have q2 : tPro (tGrp a) i = false := by cases hx : tPro (tGrp a) i with
      | false => rfl
      | true => rw [hx] at q2; cases q2
    have q3 : Nat.ble 64 (tTag (tGrp a)) = false := by cases hx : Nat.ble 64 (tTag (tGrp a)) with
      | false => rfl
      | true => rw [hx] at q3; cases q3
    have ty := aFit_ok h q1 hw
    obtain ⟨gs, g1, g2, g3⟩ := hM.2.2.1 a h2 h3
    rw [hm] at g1
    cases g1
    have hl : (fs.set i w).length = fs.length := List.length_set
    have mem : aMem scr (M.set a (tTag (tGrp a), fs.set i w)) := by
      refine aMem_set hM h2 h3 hm hl ?_ ?_
      · intro j u hu
        rcases set_get hu with ⟨e1, e2⟩ | ⟨_, e2⟩
        · subst e1; subst e2; exact ty
        · exact g3 j u e2
      · intro j
        by_cases e : j = i
        · subst e; exact Or.inr (by rw [q3]; exact q2)
        · exact Or.inl (set_same e)
    have fr : aFr mod M (M.set a (tTag (tGrp a), fs.set i w)) := by
      refine ⟨List.length_set, mSl_set hm hl, ?_, fun c j _ _ hp _ => aFr_pro hm (fun k => ?_) hp⟩
      rotate_left
      · by_cases e : k = i
        · subst e; exact Or.inr (by unfold aSlK; rw [q3]; exact q2)
        · exact Or.inl (set_same e)
      intro c j c1 c2 c3 c4 c5
      rw [mSlot_set hm]
      by_cases e : c = a
      · rw [if_pos e, e, mSlot_eq hm]
        subst e
        by_cases f : j = i
        · subst f
          rw [c3, c5] at q4
          cases q4
        · exact set_same f
      · rw [if_neg e]
    have out : aFs scr σ K.1.length (aOut (tGrp a) i K.2.2.2) (M.set a (tTag (tGrp a), fs.set i w)) := by
      intro g j u hu
      obtain ⟨hu1, hu2⟩ := List.mem_filter.mp hu
      refine ⟨fun b b1 b2 b3 => ?_, (h.2.2.2 g j u hu1).2⟩
      obtain ⟨x, x1, x2⟩ := (h.2.2.2 g j u hu1).1 b b1 b2 b3
      refine ⟨x, ?_, x2⟩
      rw [mSlot_set hm]
      by_cases e : b = a
      · rw [if_pos e]
        subst e
        have hn : j ≠ i := by
          intro e
          subst e; subst b3
          have e1 : Nat.beq (tGrp b) (tGrp b) = true := Nat.beq_refl _
          have e2 : Nat.beq j j = true := Nat.beq_refl _
          have hu2 : (!(Nat.beq (tGrp b) (tGrp b) && Nat.beq j j)) = true := hu2
          rw [e1, e2] at hu2
          cases hu2
        rw [set_same hn, ← mSlot_eq hm]; exact x1
      · rw [if_neg e]; exact x1
    cases hc : (tSin (tGrp a) && (Nat.beq v.1 1 || Nat.beq v.1 2)) with
    | false =>
      rw [hc] at hs
      cases hs
      exact ⟨rfl, ⟨h.1, h.2.1, h.2.2.1, out⟩, mem, fr⟩
    | true =>
      rw [hc] at hs
      cases hs
      rw [Bool.and_eq_true] at hc
      refine ⟨rfl, ⟨h.1, h.2.1, h.2.2.1, ?_⟩, mem, fr⟩
      intro g j u hu
      have hu : (g, j, u) ∈ (tGrp a, i, v) :: aOut (tGrp a) i K.2.2.2 := hu
      cases List.mem_cons.mp hu with
      | inr e => exact out g j u e
      | inl e =>
        cases e
        refine ⟨fun b b1 b2 b3 => ?_, fun hg => by have := tGrp_lt h3; omega⟩
        have e := tSin_ok a b h3 b2 h2 b1 hc.1 b3.symm
        subst e
        refine ⟨w, ?_, hw⟩
        rw [mSlot_set hm, if_pos rfl, List.getElem?_set, if_pos rfl, if_pos hi]
/-- a store into an array -/
def aStA (K : AK) (g : Nat) (v : AV) : Bool := aFit K (tTyA g) v && !(tPro g 0) && Nat.ble 64 (tTag g)
/-- an array changed within its type -/
theorem aArr_ok {scr : SG} {σ : Nat → Int} {mod : List (Nat × Nat)} {K : AK} {M : Mem} (hM : aMem scr M) (h : aK scr σ K M) {a t : Nat} {fs fs' : List Value} (h2 : 2 ≤ a) (h3 : a < tEnd) (hm : M[a]? = some (t, fs)) (hl : fs'.length = fs.length) (hF : ∀ j v, (tGrp a, j, v) ∈ K.2.2.2 → False) (h64 : Nat.ble 64 (tTag (tGrp a)) = true) (hp : tPro (tGrp a) 0 = false) (ht : ∀ (i : Nat) (w : Value), fs'[i]? = some w → aTy (tTyA (tGrp a)) w) : aK scr σ K (M.set a (t, fs')) ∧ aMem scr (M.set a (t, fs')) ∧ aFr mod M (M.set a (t, fs')) := by
  refine ⟨⟨h.1, h.2.1, h.2.2.1, ?_⟩, aMem_set hM h2 h3 hm hl ?_ ?_, List.length_set, mSl_set hm hl, ?_, fun c j _ _ hq _ => aFr_pro hm (fun k => Or.inr (by unfold aSlK; rw [h64]; exact hp)) hq⟩
  · intro g j u hu
    refine ⟨fun b b1 b2 b3 => ?_, (h.2.2.2 g j u hu).2⟩
    obtain ⟨x, x1, x2⟩ := (h.2.2.2 g j u hu).1 b b1 b2 b3
    refine ⟨x, ?_, x2⟩
    rw [mSlot_set hm]
    by_cases e : b = a
    · subst e; subst b3; exact (hF j u hu).elim
    · rw [if_neg e]; exact x1
  · intro i w hw
    unfold tTy
    rw [h64]
    exact ht i w hw
  · intro i
    rw [h64]
    exact Or.inr hp
  · intro c j c1 c2 c3 c4 c5
    rw [mSlot_set hm]
    by_cases e : c = a
    · subst e
      have := Nat.le_of_ble_eq_true h64
      omega
    · rw [if_neg e]
