/-! tools for the pieces that are proved by hand -/
def mHd (M : Mem) (a : Nat) : Option (Nat × Nat) := match M[a]? with
  | some q => some (q.1, q.2.length)
  | none => none
def mPut (M : Mem) (a i : Nat) (v : Value) : Mem := match M[a]? with
  | some q => M.set a (q.1, q.2.set i v)
  | none => M
theorem mHd_ex {M : Mem} {a t n : Nat} (h : mHd M a = some (t, n)) : ∃ fs, M[a]? = some (t, fs) ∧ fs.length = n := by
  unfold mHd at h
  cases hm : M[a]? with
  | none => rw [hm] at h; cases h
  | some q => rw [hm] at h; cases h; exact ⟨q.2, rfl, rfl⟩
theorem mPut_eq {M : Mem} {a i t : Nat} {fs : List Value} {v : Value} (h : M[a]? = some (t, fs)) : mPut M a i v = M.set a (t, fs.set i v) := by
  unfold mPut; rw [h]
theorem mHd_put {M : Mem} {a i b : Nat} {v : Value} : mHd (mPut M a i v) b = mHd M b := by
  unfold mPut
  cases hm : M[a]? with
  | none => rfl
  | some q =>
    obtain ⟨t, fs⟩ := q
    dsimp only
    unfold mHd
    rw [List.getElem?_set]
    by_cases e : a = b
    · subst e
      obtain ⟨hl, _⟩ := List.getElem?_eq_some_iff.mp hm
      rw [if_pos rfl, if_pos hl, hm]
      dsimp only
      rw [List.length_set]
    · rw [if_neg e]
theorem mSlot_put_eq {M : Mem} {a i t n : Nat} {v : Value} (h : mHd M a = some (t, n)) (hi : i < n) : mSlot (mPut M a i v) a i = some v := by
  obtain ⟨fs, h1, h2⟩ := mHd_ex h
  rw [mPut_eq h1, mSlot_set h1, if_pos rfl, List.getElem?_set, if_pos rfl, if_pos (by omega)]
theorem mSlot_put_ne {M : Mem} {a i b j : Nat} {v : Value} (h : b ≠ a ∨ j ≠ i) : mSlot (mPut M a i v) b j = mSlot M b j := by
  unfold mPut
  cases hm : M[a]? with
  | none => rfl
  | some q =>
    obtain ⟨t, fs⟩ := q
    dsimp only
    rw [mSlot_set hm]
    by_cases e : b = a
    · subst e
      rw [if_pos rfl, mSlot_eq hm]
      rcases h with h | h
      · exact absurd rfl h
      · exact set_same h
    · rw [if_neg e]
section
variable {d mi pc len : Nat} {L : MLoc} {st : List Value} {M : Mem} {Q : Option Value → Mem → Prop}
theorem Ok.pl {ins : Instr} {pc' : Nat} {L' : MLoc} {st' : List Value} {M' : Mem} (hat : mAt mi pc = some (len, ins)) (hs : mStep (mIT mi).2.1 ins pc (pc + len) L st M = some (pc', L', st', M')) (k : Ok d mi pc' L' st' M' Q) : Ok d mi pc L st M Q := Ok.step hat (mStep_plain hs) hs k
theorem kIconst {v : Int} (hat : mAt mi pc = some (len, .iconst v)) (k : Ok d mi (pc + len) L (.int (Int32.ofInt v) :: st) M Q) : Ok d mi pc L st M Q := Ok.pl hat rfl k
theorem kIload {i : Nat} {x : Int32} (hat : mAt mi pc = some (len, .iload i)) (hl : mLd L i = some (.int x)) (k : Ok d mi (pc + len) L (.int x :: st) M Q) : Ok d mi pc L st M Q := Ok.pl hat (by unfold mStep; dsimp only; rw [hl]) k
theorem kAload {i a : Nat} (hat : mAt mi pc = some (len, .aload i)) (hl : mLd L i = some (.ref a)) (k : Ok d mi (pc + len) L (.ref a :: st) M Q) : Ok d mi pc L st M Q := Ok.pl hat (by unfold mStep; dsimp only; rw [hl]) k
theorem kAdd {x y : Int32} (hat : mAt mi pc = some (len, .iadd)) (k : Ok d mi (pc + len) L (.int (x + y) :: st) M Q) : Ok d mi pc L (.int y :: .int x :: st) M Q := Ok.pl hat rfl k
theorem kSub {x y : Int32} (hat : mAt mi pc = some (len, .isub)) (k : Ok d mi (pc + len) L (.int (x - y) :: st) M Q) : Ok d mi pc L (.int y :: .int x :: st) M Q := Ok.pl hat rfl k
theorem kMul {x y : Int32} (hat : mAt mi pc = some (len, .imul)) (k : Ok d mi (pc + len) L (.int (x * y) :: st) M Q) : Ok d mi pc L (.int y :: .int x :: st) M Q := Ok.pl hat rfl k
theorem kAnd {x y : Int32} (hat : mAt mi pc = some (len, .iand)) (k : Ok d mi (pc + len) L (.int (x &&& y) :: st) M Q) : Ok d mi pc L (.int y :: .int x :: st) M Q := Ok.pl hat rfl k
theorem kOr {x y : Int32} (hat : mAt mi pc = some (len, .ior)) (k : Ok d mi (pc + len) L (.int (x ||| y) :: st) M Q) : Ok d mi pc L (.int y :: .int x :: st) M Q := Ok.pl hat rfl k
theorem kShl {x y : Int32} (hat : mAt mi pc = some (len, .ishl)) (k : Ok d mi (pc + len) L (.int (x <<< (y &&& 31)) :: st) M Q) : Ok d mi pc L (.int y :: .int x :: st) M Q := Ok.pl hat rfl k
theorem kShr {x y : Int32} (hat : mAt mi pc = some (len, .ishr)) (k : Ok d mi (pc + len) L (.int (x >>> (y &&& 31)) :: st) M Q) : Ok d mi pc L (.int y :: .int x :: st) M Q := Ok.pl hat rfl k
theorem kDiv {x y : Int32} (hat : mAt mi pc = some (len, .idiv)) (h0 : y ≠ 0) (k : Ok d mi (pc + len) L (.int (x / y) :: st) M Q) : Ok d mi pc L (.int y :: .int x :: st) M Q := Ok.pl hat (by unfold mStep; dsimp only; rw [if_neg h0]) k
theorem kRem {x y : Int32} (hat : mAt mi pc = some (len, .irem)) (h0 : y ≠ 0) (k : Ok d mi (pc + len) L (.int (x - x / y * y) :: st) M Q) : Ok d mi pc L (.int y :: .int x :: st) M Q := Ok.pl hat (by unfold mStep; dsimp only; rw [if_neg h0]) k
theorem kGetf {j a n : Nat} {w : Value} (hat : mAt mi pc = some (len, .getfield j)) (hh : mHd M a = some (j / 100, n)) (h12 : j / 100 < 12) (hs : mSlot M a (j % 100) = some w) (k : Ok d mi (pc + len) L (w :: st) M Q) : Ok d mi pc L (.ref a :: st) M Q := by
  obtain ⟨fs, h1, h2⟩ := mHd_ex hh
  rw [mSlot_eq h1] at hs
  exact Ok.pl hat (by unfold mStep; dsimp only; rw [h1]; dsimp only; rw [if_pos ⟨rfl, h12⟩, hs]) k
theorem kPutf {j a n : Nat} {v : Value} (hat : mAt mi pc = some (len, .putfield j)) (hh : mHd M a = some (j / 100, n)) (h12 : j / 100 < 12) (hn : j % 100 < n) (hv : mOkF (mTy (j / 100) (j % 100)) v = true) (k : Ok d mi (pc + len) L st (mPut M a (j % 100) v) Q) : Ok d mi pc L (v :: .ref a :: st) M Q := by
  obtain ⟨fs, h1, h2⟩ := mHd_ex hh
  rw [mPut_eq h1] at k
  exact Ok.pl hat (by unfold mStep; dsimp only; rw [h1]; dsimp only; rw [if_pos ⟨rfl, h12, by omega, hv⟩]) k
theorem mIx_of {x : Int32} {n : Nat} (h0 : 0 ≤ x.toInt) (h1 : x.toInt < (n : Int)) : mIx x n = some x.toInt.toNat := by
  unfold mIx; exact if_pos ⟨h0, h1⟩
theorem mAld_run {nx a t n : Nat} {x : Int32} {w : Value} {ok : Nat → Value → Bool} (hh : mHd M a = some (t, n)) (h0 : 0 ≤ x.toInt) (h1 : x.toInt < (n : Int)) (hs : mSlot M a x.toInt.toNat = some w) (ho : ok t w = true) : mAld nx L (.int x :: .ref a :: st) M ok = some (nx, L, w :: st, M) := by
  obtain ⟨fs, g1, g2⟩ := mHd_ex hh
  rw [mSlot_eq g1] at hs
  unfold mAld
  dsimp only
  rw [g1]
  dsimp only
  rw [mIx_of h0 (by omega)]
  dsimp only
  rw [hs]
  dsimp only
  rw [if_pos ho]
theorem kIald {a n : Nat} {x y : Int32} (hat : mAt mi pc = some (len, .iaload)) (hh : mHd M a = some (64, n)) (h0 : 0 ≤ x.toInt) (h1 : x.toInt < (n : Int)) (hs : mSlot M a x.toInt.toNat = some (.int y)) (k : Ok d mi (pc + len) L (.int y :: st) M Q) : Ok d mi pc L (.int x :: .ref a :: st) M Q := Ok.pl hat (mAld_run hh h0 h1 hs rfl) k
theorem kBald {a n t : Nat} {x y : Int32} (hat : mAt mi pc = some (len, .baload)) (hh : mHd M a = some (t, n)) (ht : (t == 66 || t == 67) = true) (h0 : 0 ≤ x.toInt) (h1 : x.toInt < (n : Int)) (hs : mSlot M a x.toInt.toNat = some (.int y)) (k : Ok d mi (pc + len) L (.int y :: st) M Q) : Ok d mi pc L (.int x :: .ref a :: st) M Q := Ok.pl hat (mAld_run hh h0 h1 hs (by rw [Bool.and_eq_true]; exact ⟨ht, rfl⟩)) k
theorem mAst_run {nx a t n : Nat} {x : Int32} {v w : Value} {f : Nat → Value → Option Value} (hh : mHd M a = some (t, n)) (h0 : 0 ≤ x.toInt) (h1 : x.toInt < (n : Int)) (hf : f t v = some w) (ha : a ≠ 0) : mAst nx L (v :: .int x :: .ref a :: st) M f = some (nx, L, st, mPut M a x.toInt.toNat w) := by
  obtain ⟨fs, g1, g2⟩ := mHd_ex hh
  rw [mPut_eq g1]
  unfold mAst
  dsimp only
  rw [g1]
  dsimp only
  rw [mIx_of h0 (by omega), hf]
  exact if_neg ha
theorem kIast {a n : Nat} {x y : Int32} (hat : mAt mi pc = some (len, .iastore)) (hh : mHd M a = some (64, n)) (ha : a ≠ 0) (h0 : 0 ≤ x.toInt) (h1 : x.toInt < (n : Int)) (k : Ok d mi (pc + len) L st (mPut M a x.toInt.toNat (.int y)) Q) : Ok d mi pc L (.int y :: .int x :: .ref a :: st) M Q := Ok.pl hat (mAst_run (f := fun t v => if t = 64 ∧ mIsI v = true then some v else none) (w := .int y) hh h0 h1 (by exact if_pos ⟨rfl, rfl⟩) ha) k
theorem kBast {a n t : Nat} {x y z : Int32} (hat : mAt mi pc = some (len, .bastore)) (hh : mHd M a = some (t, n)) (ha : a ≠ 0) (h0 : 0 ≤ x.toInt) (h1 : x.toInt < (n : Int)) (hv : (if t = 66 then some (Value.int (vp_nar .byte y)) else if t = 67 then some (.int (vp_nar .boolean y)) else none) = some (.int z)) (k : Ok d mi (pc + len) L st (mPut M a x.toInt.toNat (.int z)) Q) : Ok d mi pc L (.int y :: .int x :: .ref a :: st) M Q := Ok.pl hat (mAst_run (f := fun t v => match v with
    | .int x => if t = 66 then some (.int (vp_nar .byte x)) else if t = 67 then some (.int (vp_nar .boolean x)) else none
    | _ => none) (v := .int y) (w := .int z) hh h0 h1 hv ha) k
end
/-- the memory's types alone -/
def aTp (s : List Int32) (M : Mem) : Prop := M[0]? = some (64, s.map .int) ∧ M[1]? = some (63, []) ∧ (∀ c, 2 ≤ c → c < tEnd → ∃ fs, M[c]? = some (tTag (tGrp c), fs) ∧ fs.length = tSiz (tGrp c) ∧ ∀ i w, fs[i]? = some w → aTy (tTy (tGrp c) i) w)
theorem aTp_of {scr : SG} {M : Mem} (h : aMem0 scr M) : aTp scr.1 M := ⟨h.1.1, h.2.1, h.2.2.1⟩
theorem aMem_mk {s : List Int32} {γ : Nat → Nat → Int32} {M : Mem} (h8 : x8 (s, γ)) (h : aTp s M) (hx : tXI γ M) : aMem0 (s, γ) M := ⟨⟨h.1, h8⟩, h.2.1, h.2.2, hx⟩
section
variable {s : List Int32} {M : Mem}
theorem aTp.hd (h : aTp s M) {c : Nat} (h2 : 2 ≤ c) (h3 : c < tEnd) : mHd M c = some (tTag (tGrp c), tSiz (tGrp c)) := by
  obtain ⟨fs, m1, m2, _⟩ := h.2.2 c h2 h3
  unfold mHd
  rw [m1, ← m2]
theorem aTp.get (h : aTp s M) {c i : Nat} (h2 : 2 ≤ c) (h3 : c < tEnd) (hi : i < tSiz (tGrp c)) : ∃ w, mSlot M c i = some w ∧ aTy (tTy (tGrp c) i) w := by
  obtain ⟨fs, m1, m2, m3⟩ := h.2.2 c h2 h3
  have hl : i < fs.length := by omega
  exact ⟨fs[i], by rw [mSlot_eq m1]; exact List.getElem?_eq_getElem hl, m3 i _ (List.getElem?_eq_getElem hl)⟩
theorem aTp.int (h : aTp s M) {c i : Nat} (h2 : 2 ≤ c) (h3 : c < tEnd) (hi : i < tSiz (tGrp c)) {lo hi' : Int} {gs : List Nat} (ht : tTy (tGrp c) i = (1, lo, hi', gs)) : ∃ x : Int32, mSlot M c i = some (.int x) ∧ lo ≤ x.toInt ∧ x.toInt ≤ hi' := by
  obtain ⟨w, w1, w2⟩ := h.get h2 h3 hi
  rw [ht] at w2
  obtain ⟨x, rfl, x1, x2⟩ := w2
  exact ⟨x, w1, x1, x2⟩
theorem aTp.ref (h : aTp s M) {c i g : Nat} (h2 : 2 ≤ c) (h3 : c < tEnd) (hi : i < tSiz (tGrp c)) {lo hi' : Int} (ht : tTy (tGrp c) i = (2, lo, hi', [g])) (hs : tSin g = true) : mSlot M c i = some (.ref g) := by
  obtain ⟨w, w1, w2⟩ := h.get h2 h3 hi
  rw [ht] at w2
  obtain ⟨a, rfl, a1, a2, a3⟩ := w2
  have a3 : tGrp a = g := by
    cases List.mem_cons.mp a3 with
    | inl e => exact e
    | inr e => cases e
  have e : tGrp a = a := tSin_grp (by rw [a3]; exact hs)
  rw [w1, ← a3, e]
theorem aTp.put (h : aTp s M) {a i : Nat} {v : Value} (h2 : 2 ≤ a) (h3 : a < tEnd) (ht : aTy (tTy (tGrp a) i) v) : aTp s (mPut M a i v) := by
  obtain ⟨fs, m1, m2, m3⟩ := h.2.2 a h2 h3
  rw [mPut_eq m1]
  refine ⟨by rw [List.getElem?_set_ne (by omega)]; exact h.1, by rw [List.getElem?_set_ne (by omega)]; exact h.2.1, ?_⟩
  intro c hc hd
  obtain ⟨gs, g1, g2, g3⟩ := h.2.2 c hc hd
  by_cases e : a = c
  · subst e
    rw [m1] at g1
    cases g1
    obtain ⟨hL, _⟩ := List.getElem?_eq_some_iff.mp m1
    refine ⟨fs.set i v, by rw [List.getElem?_set, if_pos rfl, if_pos hL], by rw [List.length_set]; exact m2, ?_⟩
    intro j w hw
    rcases set_get hw with ⟨e1, e2⟩ | ⟨_, e2⟩
    · subst e1; subst e2; exact ht
    · exact m3 j w e2
  · exact ⟨gs, by rw [List.getElem?_set_ne e]; exact g1, g2, g3⟩
end
theorem aFr_put {mod : List (Nat × Nat)} {M : Mem} {a i : Nat} {v : Value} (h : memP (tGrp a) (aSlK a i) mod = true) : aFr mod M (mPut M a i v) := by
  cases hm : M[a]? with
  | none => unfold mPut; rw [hm]; exact aFr.rf
  | some q =>
    obtain ⟨t, fs⟩ := q
    refine ⟨by rw [mPut_eq hm, List.length_set], by rw [mPut_eq hm]; exact mSl_set hm List.length_set, ?_, ?_⟩
    · intro c j c1 c2 c3 c4 c5
      by_cases e : c = a ∧ j = i
      · obtain ⟨e1, e2⟩ := e
        subst e1; subst e2
        have e : aSlK c j = j := by
          unfold aSlK
          cases hb : Nat.ble 64 (tTag (tGrp c)) with
          | false => rfl
          | true => have := Nat.le_of_ble_eq_true hb; omega
        rw [e, c5] at h
        cases h
      · refine mSlot_put_ne ?_
        by_cases e1 : c = a
        · exact Or.inr (fun e2 => e ⟨e1, e2⟩)
        · exact Or.inl e1
    · intro c j c1 c2 c3 c4
      by_cases e : c = a ∧ j = i
      · obtain ⟨e1, e2⟩ := e
        subst e1; subst e2
        rw [c4] at h
        cases h
      · refine mSlot_put_ne ?_
        by_cases e1 : c = a
        · exact Or.inr (fun e2 => e ⟨e1, e2⟩)
        · exact Or.inl e1
/-! a state made, and taken apart -/
def hB (σ : Nat → Int) : Nat → AB → Prop
  | _, [] => True
  | k, b :: B => (b.1 ≤ σ k ∧ σ k ≤ b.2) ∧ hB σ (k + 1) B
theorem hB_ok {σ : Nat → Int} : ∀ {B : AB} {k : Nat}, hB σ k B → ∀ (i : Nat) lo hi, B[i]? = some (lo, hi) → lo ≤ σ (k + i) ∧ σ (k + i) ≤ hi
  | [], _, _, i, _, _, e => by rw [List.getElem?_nil] at e; cases e
  | b :: B, k, h, 0, lo, hi, e => by cases e; exact h.1
  | b :: B, k, h, i + 1, lo, hi, e => by
    have := hB_ok h.2 i lo hi e
    rw [show k + (i + 1) = k + 1 + i by omega]
    exact this
def hZ (σ : Nat → Int) (n : Nat) : AZ → Prop
  | [] => True
  | z :: Z => (z.1 < n ∧ z.2.1 < n ∧ σ z.1 - σ z.2.1 ≤ z.2.2) ∧ hZ σ n Z
theorem hZ_ok {σ : Nat → Int} {n : Nat} : ∀ {Z : AZ}, hZ σ n Z → ∀ a b c, (a, b, c) ∈ Z → a < n ∧ b < n ∧ σ a - σ b ≤ c
  | [], _, _, _, _, e => nomatch e
  | z :: Z, h, a, b, c, e => by
    cases List.mem_cons.mp e with
    | inl e => cases e; exact h.1
    | inr e => exact hZ_ok h.2 a b c e
def hF1 (scr : SG) (σ : Nat → Int) (n : Nat) (M : Mem) (g i : Nat) (v : AV) : Prop := (∀ a, 2 ≤ a → a < tEnd → tGrp a = g → ∃ w, mSlot M a i = some w ∧ aG scr σ n v w) ∧ (1000 ≤ g → aG scr σ n v (.int (scr.2 g i)))
def hF (scr : SG) (σ : Nat → Int) (n : Nat) (M : Mem) : AF → Prop
  | [] => True
  | q :: F => hF1 scr σ n M q.1 q.2.1 q.2.2 ∧ hF scr σ n M F
theorem hF_ok {scr : SG} {σ : Nat → Int} {n : Nat} {M : Mem} : ∀ {F : AF}, hF scr σ n M F → aFs scr σ n F M
  | [], _ => fun _ _ _ e => nomatch e
  | q :: F, h => by
    intro g i v e
    cases List.mem_cons.mp e with
    | inl e => cases e; exact h.1
    | inr e => exact hF_ok h.2 g i v e
theorem hF1_gh {scr : SG} {σ : Nat → Int} {n : Nat} {M : Mem} {g i sy : Nat} {c : Int} (hg : 1000 ≤ g) (hs : sy < n) (h : (scr.2 g i).toInt = σ sy + c) : hF1 scr σ n M g i (1, sy, c) :=
  ⟨fun a _ h2 h3 => by have := tGrp_lt h2; omega, fun _ => ⟨hs, _, rfl, h⟩⟩
theorem hF1_re {scr : SG} {σ : Nat → Int} {n : Nat} {M : Mem} {g i sy : Nat} {c : Int} {x : Int32} (hg : tSin g = true) (hl : g < 1000) (hs : sy < n) (hm : mSlot M g i = some (.int x)) (h : x.toInt = σ sy + c) : hF1 scr σ n M g i (1, sy, c) :=
  ⟨fun a h1 h2 h3 => by
    have e : tGrp a = a := tSin_grp (by rw [h3]; exact hg)
    have e2 : a = g := e.symm.trans h3
    subst e2
    exact ⟨_, hm, hs, x, rfl, h⟩, fun h => by omega⟩
theorem mkHold {scr : SG} {σ : Nat → Int} {B : AB} {Z : AZ} {F : AF} {T : List AV} {st : List Value} {M : Mem} (h0 : 0 < B.length) (s0 : σ 0 = 0) (b : hB σ 0 B) (z : hZ σ B.length Z) (f : hF scr σ B.length M F) (ss : aSs scr σ B.length T st) (m : aMem0 scr M) : aHold0 scr σ ((B, Z, [], F), [], T) [] st M := by
  refine ⟨⟨h0, ⟨s0, ?_, hZ_ok z⟩, (fun _ _ _ e => nomatch e), hF_ok f⟩, ?_, ss, m⟩
  · intro i lo hi e
    have := hB_ok b i lo hi e
    rw [Nat.zero_add] at this
    exact this
  · intro i v e
    have e : ([] : List AV)[i]? = some v := e
    rw [List.getElem?_nil] at e
    cases e
section
variable {scr : SG} {σ : Nat → Int} {E : AS} {L : MLoc} {st : List Value} {M : Mem}
theorem eB (h : aHold0 scr σ E L st M) {i : Nat} {lo hi : Int} (e : E.1.1[i]? = some (lo, hi)) : lo ≤ σ i ∧ σ i ≤ hi := h.1.2.1.2.1 i lo hi e
theorem eI (h : aHold0 scr σ E L st M) {i sy : Nat} {c : Int} (e : E.2.1[i]? = some (1, sy, c)) : ∃ x : Int32, mLd L i = some (.int x) ∧ x.toInt = σ sy + c := by
  rcases h.2.1 i _ e with h0 | ⟨w, h1, _, x, rfl, h2⟩
  · cases h0
  · exact ⟨x, h1, h2⟩
theorem eR (h : aHold0 scr σ E L st M) {i g : Nat} {c : Int} (e : E.2.1[i]? = some (2, g, c)) (hg : tSin g = true) : mLd L i = some (.ref g) := by
  rcases h.2.1 i _ e with h0 | ⟨w, h1, a, rfl, a1, a2, a3, _⟩
  · cases h0
  · have a3 : tGrp a = g := a3
    have e2 : tGrp a = a := tSin_grp (by rw [a3]; exact hg)
    rw [h1, ← a3, e2]
theorem eG (h : aHold0 scr σ E L st M) {g i sy : Nat} {c : Int} (hg : 1000 ≤ g) (e : (g, i, 1, sy, c) ∈ E.1.2.2.2) : (scr.2 g i).toInt = σ sy + c := by
  obtain ⟨_, x, hx, h2⟩ := (h.1.2.2.2 g i _ e).2 hg
  cases hx
  exact h2
theorem eF (h : aHold0 scr σ E L st M) {g i sy : Nat} {c : Int} (h2 : 2 ≤ g) (h3 : g < tEnd) (hg : tGrp g = g) (e : (g, i, 1, sy, c) ∈ E.1.2.2.2) : ∃ x : Int32, mSlot M g i = some (.int x) ∧ x.toInt = σ sy + c := by
  obtain ⟨w, w1, _, x, rfl, w2⟩ := (h.1.2.2.2 g i _ e).1 g h2 h3 hg
  exact ⟨x, w1, w2⟩
end
