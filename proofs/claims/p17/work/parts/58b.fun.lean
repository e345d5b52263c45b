/-! runs taken backwards: what is read and written -/
section
variable {n d mi pc len : Nat} {L : MLoc} {st : List Value} {M : Mem} {r : Option Value} {M1 : Mem}
theorem eGetv {a j : Nat} (hat : mAt mi pc = some (len, .getfield j)) (h : En n d mi pc L (.ref a :: st) M r M1) : ∃ w, mSlot M a (j % 100) = some w ∧ En n d mi (pc + len) L (w :: st) M r M1 := by
  obtain ⟨m, pc', L', st', M', e, hs, h⟩ := En.stepS hat rfl h
  unfold mStep at hs
  dsimp only at hs
  cases hm : M[a]? with
  | none => rw [hm] at hs; cases hs
  | some q =>
    obtain ⟨t, fs⟩ := q
    rw [hm] at hs
    dsimp only at hs
    obtain ⟨_, hs⟩ := mIfO hs
    cases hv : fs[j % 100]? with
    | none => rw [hv] at hs; cases hs
    | some v =>
      rw [hv] at hs
      cases hs
      exact ⟨v, by rw [mSlot_eq hm]; exact hv, h.up (by omega)⟩
theorem eGetI {a j : Nat} (hS : Sh M) (h2 : 2 ≤ a) (h3 : a < tEnd) (ht : (tTy (tGrp a) (j % 100)).1 = 1) (hat : mAt mi pc = some (len, .getfield j)) (h : En n d mi pc L (.ref a :: st) M r M1) : En n d mi (pc + len) L (.int (iv M a (j % 100)) :: st) M r M1 := by
  obtain ⟨w, hw, h⟩ := eGetv hat h
  have t := (hS.slA h2 h3 hw).2
  rw [ht] at t
  obtain ⟨x, rfl⟩ := t
  rw [iv_of hw]
  exact h
theorem eGetL {a j : Nat} (hS : Sh M) (h2 : 2 ≤ a) (h3 : a < tEnd) (ht : (tTy (tGrp a) (j % 100)).1 = 3) (hat : mAt mi pc = some (len, .getfield j)) (h : En n d mi pc L (.ref a :: st) M r M1) : En n d mi (pc + len) L (.long (lv M a (j % 100)) :: st) M r M1 := by
  obtain ⟨w, hw, h⟩ := eGetv hat h
  have t := (hS.slA h2 h3 hw).2
  rw [ht] at t
  obtain ⟨x, rfl⟩ := t
  rw [lv_of hw]
  exact h
/-- a field that holds one reference for good -/
theorem eGetR {a j g : Nat} (hS : Sh M) (h2 : 2 ≤ a) (h3 : a < tEnd) (ht : (tTy (tGrp a) (j % 100)).1 = 2) (hg : (tTy (tGrp a) (j % 100)).2.2.2 = [g]) (hs : tSin g = true) (hat : mAt mi pc = some (len, .getfield j)) (h : En n d mi pc L (.ref a :: st) M r M1) : En n d mi (pc + len) L (.ref g :: st) M r M1 := by
  obtain ⟨w, hw, h⟩ := eGetv hat h
  have hi := (hS.slA h2 h3 hw).1
  rw [hS.slR h2 h3 hi ht hg hs] at hw
  cases hw
  exact h
/-- a field of a deed -/
theorem eGetD {e j f : Nat} (hS : Sh M) (hd : e < 40) (hj : j % 100 = f) (ht : (tTy 10 f).1 = 1) (hat : mAt mi pc = some (len, .getfield j)) (h : En n d mi pc L (.ref (10 + e) :: st) M r M1) : En n d mi (pc + len) L (.int (iv M (10 + e) f) :: st) M r M1 := by
  subst hj
  exact eGetI hS (by omega) (by show 10 + e < 242; omega) (by rw [grp10 e hd]; exact ht) hat h
theorem ePutv {a j : Nat} {v : Value} (hat : mAt mi pc = some (len, .putfield j)) (h : En n d mi pc L (v :: .ref a :: st) M r M1) : En n d mi (pc + len) L st (mPut M a (j % 100) v) r M1 := by
  obtain ⟨m, pc', L', st', M', e, hs, h⟩ := En.stepS hat rfl h
  unfold mStep at hs
  dsimp only at hs
  cases hm : M[a]? with
  | none => rw [hm] at hs; cases hs
  | some q =>
    obtain ⟨t, fs⟩ := q
    rw [hm] at hs
    dsimp only at hs
    obtain ⟨_, hs⟩ := mIf hs
    cases hs
    rw [mPut_eq hm]
    exact h.up (by omega)
theorem ePutE {a j f : Nat} {v : Value} {N : Mem} (hj : j % 100 = f) (hN : N = mPut M a f v) (hat : mAt mi pc = some (len, .putfield j)) (h : En n d mi pc L (v :: .ref a :: st) M r M1) : En n d mi (pc + len) L st N r M1 := by
  subst hj
  rw [hN]
  exact ePutv hat h
theorem mIx_inv {x : Int32} {k j : Nat} (h : mIx x k = some j) : 0 ≤ x.toInt ∧ x.toInt < (k : Int) ∧ j = x.toInt.toNat := by
  unfold mIx at h
  obtain ⟨h1, h2⟩ := mIf h
  exact ⟨h1.1, h1.2, h2.symm⟩
theorem eAldv {a : Nat} {x : Int32} {ins : Instr} {ok : Nat → Value → Bool} (hp : mPlain ins = true) (hm' : mStep (mIT mi).2.1 ins pc (pc + len) L (.int x :: .ref a :: st) M = mAld (pc + len) L (.int x :: .ref a :: st) M ok) (hat : mAt mi pc = some (len, ins)) (h : En n d mi pc L (.int x :: .ref a :: st) M r M1) : ∃ w, 0 ≤ x.toInt ∧ mSlot M a x.toInt.toNat = some w ∧ En n d mi (pc + len) L (w :: st) M r M1 := by
  obtain ⟨m, pc', L', st', M', e, hs, h⟩ := En.stepS hat hp h
  rw [hm'] at hs
  obtain ⟨i, b, q, t, c, j, v, e1, hm, hix, hv, _, rfl, rfl, rfl, rfl⟩ := mAld_ok hs
  cases e1
  obtain ⟨i1, i2, rfl⟩ := mIx_inv hix
  exact ⟨v, i1, by rw [mSlot_eq hm]; exact hv, h.up (by omega)⟩
theorem eIald {a : Nat} {x : Int32} (hS : Sh M) (h2 : 2 ≤ a) (h3 : a < tEnd) (ht : (tTy (tGrp a) x.toInt.toNat).1 = 1) (hat : mAt mi pc = some (len, .iaload)) (h : En n d mi pc L (.int x :: .ref a :: st) M r M1) : (0 ≤ x.toInt ∧ x.toInt.toNat < tSiz (tGrp a)) ∧ En n d mi (pc + len) L (.int (iv M a x.toInt.toNat) :: st) M r M1 := by
  obtain ⟨w, h0, hw, h⟩ := eAldv (ins := .iaload) rfl rfl hat h
  have t := hS.slA h2 h3 hw
  rw [ht] at t
  obtain ⟨t1, y, rfl⟩ := t
  rw [iv_of hw]
  exact ⟨⟨h0, t1⟩, h⟩
theorem eBald {a : Nat} {x : Int32} (hS : Sh M) (h2 : 2 ≤ a) (h3 : a < tEnd) (ht : (tTy (tGrp a) x.toInt.toNat).1 = 1) (hat : mAt mi pc = some (len, .baload)) (h : En n d mi pc L (.int x :: .ref a :: st) M r M1) : (0 ≤ x.toInt ∧ x.toInt.toNat < tSiz (tGrp a)) ∧ En n d mi (pc + len) L (.int (iv M a x.toInt.toNat) :: st) M r M1 := by
  obtain ⟨w, h0, hw, h⟩ := eAldv (ins := .baload) rfl rfl hat h
  have t := hS.slA h2 h3 hw
  rw [ht] at t
  obtain ⟨t1, y, rfl⟩ := t
  rw [iv_of hw]
  exact ⟨⟨h0, t1⟩, h⟩
theorem eLald {a : Nat} {x : Int32} (hS : Sh M) (h2 : 2 ≤ a) (h3 : a < tEnd) (ht : (tTy (tGrp a) x.toInt.toNat).1 = 3) (hat : mAt mi pc = some (len, .laload)) (h : En n d mi pc L (.int x :: .ref a :: st) M r M1) : (0 ≤ x.toInt ∧ x.toInt.toNat < tSiz (tGrp a)) ∧ En n d mi (pc + len) L (.long (lv M a x.toInt.toNat) :: st) M r M1 := by
  obtain ⟨w, h0, hw, h⟩ := eAldv (ins := .laload) rfl rfl hat h
  have t := hS.slA h2 h3 hw
  rw [ht] at t
  obtain ⟨t1, y, rfl⟩ := t
  rw [lv_of hw]
  exact ⟨⟨h0, t1⟩, h⟩
theorem eAald {a : Nat} {x : Int32} (hS : Sh M) (h2 : 2 ≤ a) (h3 : a < tEnd) (ht : (tTy (tGrp a) x.toInt.toNat).1 = 2) (hat : mAt mi pc = some (len, .aaload)) (h : En n d mi pc L (.int x :: .ref a :: st) M r M1) : (0 ≤ x.toInt ∧ x.toInt.toNat < tSiz (tGrp a)) ∧ ∃ b, mSlot M a x.toInt.toNat = some (.ref b) ∧ (2 ≤ b ∧ b < tEnd ∧ tGrp b ∈ (tTy (tGrp a) x.toInt.toNat).2.2.2) ∧ En n d mi (pc + len) L (.ref b :: st) M r M1 := by
  obtain ⟨w, h0, hw, h⟩ := eAldv (ins := .aaload) rfl rfl hat h
  have t := hS.slA h2 h3 hw
  rw [ht] at t
  obtain ⟨t1, b, rfl, b1, b2, b3⟩ := t
  exact ⟨⟨h0, t1⟩, b, hw, ⟨b1, b2, b3⟩, h⟩
/-- the deed of a number -/
theorem eDeed {x : Int32} (hS : Sh M) (hY : yT8 M) (hat : mAt mi pc = some (len, .aaload)) (h : En n d mi pc L (.int x :: .ref 8 :: st) M r M1) : (0 ≤ x.toInt ∧ x.toInt.toNat < 40) ∧ En n d mi (pc + len) L (.ref (10 + x.toInt.toNat) :: st) M r M1 := by
  obtain ⟨⟨h0, h1⟩, b, hb, _, h⟩ := eAald hS (by decide) (by decide) rfl hat h
  have h1 : x.toInt.toNat < 40 := h1
  rw [hY _ h1] at hb
  cases hb
  exact ⟨⟨h0, h1⟩, h⟩
theorem eAstv {a : Nat} {x : Int32} {v : Value} {ins : Instr} {f : Nat → Value → Option Value} (hp : mPlain ins = true) (hm' : mStep (mIT mi).2.1 ins pc (pc + len) L (v :: .int x :: .ref a :: st) M = mAst (pc + len) L (v :: .int x :: .ref a :: st) M f) (hat : mAt mi pc = some (len, ins)) (h : En n d mi pc L (v :: .int x :: .ref a :: st) M r M1) : ∃ t w, 0 ≤ x.toInt ∧ (∃ u, mSlot M a x.toInt.toNat = some u) ∧ f t v = some w ∧ En n d mi (pc + len) L st (mPut M a x.toInt.toNat w) r M1 := by
  obtain ⟨m, pc', L', st', M', e, hs, h⟩ := En.stepS hat hp h
  rw [hm'] at hs
  obtain ⟨u, i, b, q, t, c, j, w, e1, hm, hix, hf, _, rfl, rfl, rfl, rfl⟩ := mAst_ok hs
  cases e1
  obtain ⟨i1, i2, rfl⟩ := mIx_inv hix
  refine ⟨t, w, i1, ?_, hf, ?_⟩
  · have hl : x.toInt.toNat < c.length := by omega
    exact ⟨c[x.toInt.toNat], by rw [mSlot_eq hm]; exact List.getElem?_eq_getElem hl⟩
  · rw [mPut_eq hm]
    exact h.up (by omega)
theorem eIast {a : Nat} {x v : Int32} {N : Mem} (hS : Sh M) (h2 : 2 ≤ a) (h3 : a < tEnd) (hN : N = mPut M a x.toInt.toNat (.int v)) (hat : mAt mi pc = some (len, .iastore)) (h : En n d mi pc L (.int v :: .int x :: .ref a :: st) M r M1) : (0 ≤ x.toInt ∧ x.toInt.toNat < tSiz (tGrp a)) ∧ En n d mi (pc + len) L st N r M1 := by
  rw [hN]
  obtain ⟨t, w, h0, ⟨u, hu⟩, hf, h⟩ := eAstv (ins := .iastore) (f := fun t v => if t = 64 ∧ mIsI v = true then some v else none) rfl rfl hat h
  obtain ⟨_, hf⟩ := mIf hf
  subst hf
  exact ⟨⟨h0, (hS.slA h2 h3 hu).1⟩, h⟩
theorem eLast {a : Nat} {x : Int32} {v : Int64} {N : Mem} (hS : Sh M) (h2 : 2 ≤ a) (h3 : a < tEnd) (hN : N = mPut M a x.toInt.toNat (.long v)) (hat : mAt mi pc = some (len, .lastore)) (h : En n d mi pc L (.long v :: .int x :: .ref a :: st) M r M1) : (0 ≤ x.toInt ∧ x.toInt.toNat < tSiz (tGrp a)) ∧ En n d mi (pc + len) L st N r M1 := by
  rw [hN]
  obtain ⟨t, w, h0, ⟨u, hu⟩, hf, h⟩ := eAstv (ins := .lastore) (f := fun t v => if t = 65 ∧ mIsL v = true then some v else none) rfl rfl hat h
  obtain ⟨_, hf⟩ := mIf hf
  subst hf
  exact ⟨⟨h0, (hS.slA h2 h3 hu).1⟩, h⟩
theorem eAlen {a : Nat} (hS : Sh M) (h2 : 2 ≤ a) (h3 : a < tEnd) (hat : mAt mi pc = some (len, .arraylength)) (h : En n d mi pc L (.ref a :: st) M r M1) : En n d mi (pc + len) L (.int (Int32.ofNat (tSiz (tGrp a))) :: st) M r M1 := by
  obtain ⟨m, pc', L', st', M', e, hs, h⟩ := En.stepS hat rfl h
  unfold mStep at hs
  dsimp only at hs
  obtain ⟨fs, m1, m2, _⟩ := hS a h2 h3
  rw [m1] at hs
  dsimp only at hs
  obtain ⟨_, hs⟩ := mIf hs
  cases hs
  rw [← m2]
  exact h.up (by omega)
end
