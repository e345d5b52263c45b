/-! runs taken backwards: what a run that comes to its end has done -/
def En (n d mi pc : Nat) (L : MLoc) (st : List Value) (M : Mem) (r : Option Value) (M1 : Mem) : Prop := ∃ k, k ≤ n ∧ mRun k d mi pc L st M = some (r, M1)
theorem Ok.en {d mi pc : Nat} {L : MLoc} {st : List Value} {M : Mem} {Q Q' : Option Value → Mem → Prop} (h : Ok d mi pc L st M Q) (hq : ∀ n r M1, En n d mi pc L st M r M1 → Q r M1 → Q' r M1) : Ok d mi pc L st M Q' := by
  obtain ⟨n, r, M1, h1, h2⟩ := h
  exact ⟨n, r, M1, h1, hq n r M1 ⟨n, Nat.le_refl n, h1⟩ h2⟩
/-- a value of the memory's types, its bounds left out -/
def sTyk (k : Nat) (gs : List Nat) (w : Value) : Prop := match k with
  | 0 => True
  | 1 => ∃ x : Int32, w = .int x
  | 2 => ∃ a, w = .ref a ∧ 2 ≤ a ∧ a < tEnd ∧ tGrp a ∈ gs
  | _ => ∃ x, w = .long x
def Sh (M : Mem) : Prop := ∀ c, 2 ≤ c → c < tEnd → ∃ fs, M[c]? = some (tTag (tGrp c), fs) ∧ fs.length = tSiz (tGrp c) ∧ ∀ i w, fs[i]? = some w → sTyk (tTy (tGrp c) i).1 (tTy (tGrp c) i).2.2.2 w
def lv (M : Mem) (c i : Nat) : Int64 := match mSlot M c i with
  | some (.long x) => x
  | _ => 0
theorem iv_of {M : Mem} {c i : Nat} {x : Int32} (h : mSlot M c i = some (.int x)) : iv M c i = x := by unfold iv; rw [h]
theorem lv_of {M : Mem} {c i : Nat} {x : Int64} (h : mSlot M c i = some (.long x)) : lv M c i = x := by unfold lv; rw [h]
theorem Sh.of {s : List Int32} {M : Mem} (h : aTp s M) : Sh M := by
  intro c h2 h3
  obtain ⟨fs, m1, m2, m3⟩ := h.2.2 c h2 h3
  refine ⟨fs, m1, m2, fun i w hw => ?_⟩
  have t := m3 i w hw
  unfold aTy at t
  generalize (tTy (tGrp c) i).2.2.2 = gs at t ⊢
  generalize (tTy (tGrp c) i).2.2.1 = hi at t
  generalize (tTy (tGrp c) i).2.1 = lo at t
  generalize (tTy (tGrp c) i).1 = k at t ⊢
  unfold aTyk at t
  unfold sTyk
  match k, t with
  | 0, _ => exact True.intro
  | 1, ⟨x, e, _, _⟩ => exact ⟨x, e⟩
  | 2, ⟨a, e, a2, a3, a4⟩ => exact ⟨a, e, a2, a3, a4⟩
  | k + 3, ⟨x, e⟩ => exact ⟨x, e⟩
theorem mSlot_nil {M : Mem} {c : Nat} {fs : List Value} {t : Nat} (h : M[c]? = some (t, fs)) (i : Nat) : mSlot M c i = fs[i]? := mSlot_eq h
section
variable {M : Mem} {c i : Nat}
theorem Sh.hd (h : Sh M) (h2 : 2 ≤ c) (h3 : c < tEnd) : mHd M c = some (tTag (tGrp c), tSiz (tGrp c)) := by
  obtain ⟨fs, m1, m2, _⟩ := h c h2 h3
  unfold mHd
  rw [m1, ← m2]
theorem Sh.slG (h : Sh M) (h2 : 2 ≤ c) (h3 : c < tEnd) (hi : i < tSiz (tGrp c)) : ∃ w, mSlot M c i = some w ∧ sTyk (tTy (tGrp c) i).1 (tTy (tGrp c) i).2.2.2 w := by
  obtain ⟨fs, m1, m2, m3⟩ := h c h2 h3
  have hl : i < fs.length := by omega
  exact ⟨fs[i], by rw [mSlot_eq m1]; exact List.getElem?_eq_getElem hl, m3 i _ (List.getElem?_eq_getElem hl)⟩
theorem Sh.slA (h : Sh M) (h2 : 2 ≤ c) (h3 : c < tEnd) {w : Value} (hw : mSlot M c i = some w) : i < tSiz (tGrp c) ∧ sTyk (tTy (tGrp c) i).1 (tTy (tGrp c) i).2.2.2 w := by
  obtain ⟨fs, m1, m2, m3⟩ := h c h2 h3
  rw [mSlot_eq m1] at hw
  obtain ⟨hl, _⟩ := List.getElem?_eq_some_iff.mp hw
  exact ⟨by omega, m3 i w hw⟩
theorem Sh.slI (h : Sh M) (h2 : 2 ≤ c) (h3 : c < tEnd) (hi : i < tSiz (tGrp c)) (ht : (tTy (tGrp c) i).1 = 1) : mSlot M c i = some (.int (iv M c i)) := by
  obtain ⟨w, w1, w2⟩ := h.slG h2 h3 hi
  rw [ht] at w2
  obtain ⟨x, rfl⟩ := w2
  rw [iv_of w1]; exact w1
theorem Sh.slL (h : Sh M) (h2 : 2 ≤ c) (h3 : c < tEnd) (hi : i < tSiz (tGrp c)) (ht : (tTy (tGrp c) i).1 = 3) : mSlot M c i = some (.long (lv M c i)) := by
  obtain ⟨w, w1, w2⟩ := h.slG h2 h3 hi
  rw [ht] at w2
  obtain ⟨x, rfl⟩ := w2
  rw [lv_of w1]; exact w1
theorem Sh.slR (h : Sh M) (h2 : 2 ≤ c) (h3 : c < tEnd) (hi : i < tSiz (tGrp c)) {g : Nat} (ht : (tTy (tGrp c) i).1 = 2) (hg : (tTy (tGrp c) i).2.2.2 = [g]) (hs : tSin g = true) : mSlot M c i = some (.ref g) := by
  obtain ⟨w, w1, w2⟩ := h.slG h2 h3 hi
  rw [ht, hg] at w2
  obtain ⟨a, rfl, _, _, a3⟩ := w2
  have a3 : tGrp a = g := by
    cases List.mem_cons.mp a3 with
    | inl e => exact e
    | inr e => cases e
  have e : tGrp a = a := tSin_grp (by rw [a3]; exact hs)
  rw [w1, ← a3, e]
theorem Sh.putv (h : Sh M) {a : Nat} {v : Value} (h2 : 2 ≤ a) (h3 : a < tEnd) (ht : sTyk (tTy (tGrp a) i).1 (tTy (tGrp a) i).2.2.2 v) : Sh (mPut M a i v) := by
  obtain ⟨fs, m1, m2, m3⟩ := h a h2 h3
  rw [mPut_eq m1]
  intro c hc hd
  obtain ⟨gs, g1, g2, g3⟩ := h c hc hd
  by_cases e : a = c
  · subst e
    rw [m1] at g1
    cases g1
    obtain ⟨hL, _⟩ := List.getElem?_eq_some_iff.mp m1
    refine ⟨fs.set i v, by rw [List.getElem?_set, if_pos rfl, if_pos hL], by rw [List.length_set]; exact m2, ?_⟩
    intro j w hw
    rcases set_get hw with ⟨e1, e2⟩ | ⟨_, e2⟩
    · subst e1; subst e2; exact ht
    · exact m3 j w e2
  · exact ⟨gs, by rw [List.getElem?_set_ne e]; exact g1, g2, g3⟩
theorem Sh.put (h : Sh M) {a : Nat} {v : Int32} (h2 : 2 ≤ a) (h3 : a < tEnd) (ht : (tTy (tGrp a) i).1 = 1) : Sh (mPut M a i (.int v)) := h.putv h2 h3 (by rw [ht]; exact ⟨v, rfl⟩)
theorem Sh.putl (h : Sh M) {a : Nat} {v : Int64} (h2 : 2 ≤ a) (h3 : a < tEnd) (ht : (tTy (tGrp a) i).1 = 3) : Sh (mPut M a i (.long v)) := h.putv h2 h3 (by rw [ht]; exact ⟨v, rfl⟩)
theorem Sh.putr (h : Sh M) {a b : Nat} (h2 : 2 ≤ a) (h3 : a < tEnd) (ht : (tTy (tGrp a) i).1 = 2) (b2 : 2 ≤ b) (b3 : b < tEnd) (hb : tGrp b ∈ (tTy (tGrp a) i).2.2.2) : Sh (mPut M a i (.ref b)) := h.putv h2 h3 (by rw [ht]; exact ⟨b, rfl, b2, b3, hb⟩)
theorem iv_put_eq (h : Sh M) {a : Nat} {v : Int32} (h2 : 2 ≤ a) (h3 : a < tEnd) (hi : i < tSiz (tGrp a)) : iv (mPut M a i (.int v)) a i = v := iv_of (mSlot_put_eq (h.hd h2 h3) hi)
theorem lv_put_eq (h : Sh M) {a : Nat} {v : Int64} (h2 : 2 ≤ a) (h3 : a < tEnd) (hi : i < tSiz (tGrp a)) : lv (mPut M a i (.long v)) a i = v := lv_of (mSlot_put_eq (h.hd h2 h3) hi)
theorem iv_put_ne {a j : Nat} {v : Value} (h : c ≠ a ∨ j ≠ i) : iv (mPut M a i v) c j = iv M c j := by unfold iv; rw [mSlot_put_ne h]
theorem lv_put_ne {a j : Nat} {v : Value} (h : c ≠ a ∨ j ≠ i) : lv (mPut M a i v) c j = lv M c j := by unfold lv; rw [mSlot_put_ne h]
end
section
variable {n d mi pc len : Nat} {L : MLoc} {st : List Value} {M : Mem} {r : Option Value} {M1 : Mem}
theorem En.up {m : Nat} (h : En n d mi pc L st M r M1) (hn : n ≤ m) : En m d mi pc L st M r M1 := by
  obtain ⟨k, hk, h⟩ := h
  exact ⟨k, Nat.le_trans hk hn, h⟩
theorem En.stepS {ins : Instr} (hat : mAt mi pc = some (len, ins)) (hp : mPlain ins = true) (h : En n d mi pc L st M r M1) : ∃ m pc' L' st' M', n = m + 1 ∧ mStep (mIT mi).2.1 ins pc (pc + len) L st M = some (pc', L', st', M') ∧ En m d mi pc' L' st' M' r M1 := by
  obtain ⟨k, hk, h⟩ := h
  cases k with
  | zero => cases h
  | succ k =>
    obtain ⟨len', ins', hat', hret | ⟨j, hi, hg⟩ | ⟨pc', L', st', M', h1, h2⟩⟩ := mRun_cases h
    · rw [hat] at hat'
      cases hat'
      exfalso
      cases ins <;> first | (cases hp; done) | (cases hret; done)
    · rw [hat] at hat'
      cases hat'
      exfalso
      rcases hi with rfl | rfl | rfl <;> cases hp
    · rw [hat] at hat'
      cases hat'
      exact ⟨n - 1, pc', L', st', M', by omega, h1, k, by omega, h2⟩
theorem En.plS {ins : Instr} {pc' : Nat} {L' : MLoc} {st' : List Value} {M' : Mem} (hat : mAt mi pc = some (len, ins)) (hs : mStep (mIT mi).2.1 ins pc (pc + len) L st M = some (pc', L', st', M')) (h : En (n + 1) d mi pc L st M r M1) : En n d mi pc' L' st' M' r M1 := by
  obtain ⟨m, p2, L2, s2, M2, e, h1, h2⟩ := En.stepS hat (mStep_plain hs) h
  rw [hs] at h1
  cases h1
  exact h2.up (by omega)
theorem En.zero {ins : Instr} (hat : mAt mi pc = some (len, ins)) (h : En 0 d mi pc L st M r M1) : False := by
  obtain ⟨k, hk, h⟩ := h
  have e : k = 0 := by omega
  subst e
  cases h
theorem En.pl {ins : Instr} {pc' : Nat} {L' : MLoc} {st' : List Value} {M' : Mem} (hat : mAt mi pc = some (len, ins)) (hs : mStep (mIT mi).2.1 ins pc (pc + len) L st M = some (pc', L', st', M')) (h : En n d mi pc L st M r M1) : En n d mi pc' L' st' M' r M1 := by
  cases n with
  | zero => exact (En.zero hat h).elim
  | succ n => exact (En.plS hat hs h).up (Nat.le_succ n)
theorem eConst {v : Int} (hat : mAt mi pc = some (len, .iconst v)) (h : En n d mi pc L st M r M1) : En n d mi (pc + len) L (.int (Int32.ofInt v) :: st) M r M1 := En.pl hat rfl h
theorem eLdc {j : Nat} (hat : mAt mi pc = some (len, .ldc2_w j)) (h : En n d mi pc L st M r M1) : En n d mi (pc + len) L (.long (mKL.getD j 0) :: st) M r M1 := En.pl hat rfl h
theorem eIload {i : Nat} {x : Int32} (hat : mAt mi pc = some (len, .iload i)) (hl : mLd L i = some (.int x)) (h : En n d mi pc L st M r M1) : En n d mi (pc + len) L (.int x :: st) M r M1 := En.pl hat (by unfold mStep; dsimp only; rw [hl]) h
theorem eIloadS {i : Nat} {x : Int32} (hat : mAt mi pc = some (len, .iload i)) (hl : mLd L i = some (.int x)) (h : En (n + 1) d mi pc L st M r M1) : En n d mi (pc + len) L (.int x :: st) M r M1 := En.plS hat (by unfold mStep; dsimp only; rw [hl]) h
theorem eAload {i a : Nat} (hat : mAt mi pc = some (len, .aload i)) (hl : mLd L i = some (.ref a)) (h : En n d mi pc L st M r M1) : En n d mi (pc + len) L (.ref a :: st) M r M1 := En.pl hat (by unfold mStep; dsimp only; rw [hl]) h
theorem eAloadS {i a : Nat} (hat : mAt mi pc = some (len, .aload i)) (hl : mLd L i = some (.ref a)) (h : En (n + 1) d mi pc L st M r M1) : En n d mi (pc + len) L (.ref a :: st) M r M1 := En.plS hat (by unfold mStep; dsimp only; rw [hl]) h
theorem eLload {i : Nat} {x : Int64} (hat : mAt mi pc = some (len, .lload i)) (hl : mLd L i = some (.long x)) (h : En n d mi pc L st M r M1) : En n d mi (pc + len) L (.long x :: st) M r M1 := En.pl hat (by unfold mStep; dsimp only; rw [hl]) h
theorem eIstore {i : Nat} {x : Int32} (hat : mAt mi pc = some (len, .istore i)) (hi : i < (mIT mi).2.1) (h : En n d mi pc L (.int x :: st) M r M1) : En n d mi (pc + len) (mSt1 L i (.int x)) st M r M1 := En.pl hat (by unfold mStep; dsimp only; rw [if_pos hi]) h
theorem eAstore {i a : Nat} (hat : mAt mi pc = some (len, .astore i)) (hi : i < (mIT mi).2.1) (h : En n d mi pc L (.ref a :: st) M r M1) : En n d mi (pc + len) (mSt1 L i (.ref a)) st M r M1 := En.pl hat (by unfold mStep; dsimp only; rw [if_pos hi]) h
theorem eLstore {i : Nat} {x : Int64} (hat : mAt mi pc = some (len, .lstore i)) (hi : i + 1 < (mIT mi).2.1) (h : En n d mi pc L (.long x :: st) M r M1) : En n d mi (pc + len) (mSt2 L i (.long x)) st M r M1 := En.pl hat (by unfold mStep; dsimp only; rw [if_pos hi]) h
theorem eIinc {i : Nat} {k : Int} {x : Int32} (hat : mAt mi pc = some (len, .iinc i k)) (hl : mLd L i = some (.int x)) (hi : i < (mIT mi).2.1) (h : En n d mi pc L st M r M1) : En n d mi (pc + len) (mSt1 L i (.int (x + Int32.ofInt k))) st M r M1 := En.pl hat (by unfold mStep; dsimp only; rw [hl]; dsimp only; rw [if_pos hi]) h
theorem eAdd {x y : Int32} (hat : mAt mi pc = some (len, .iadd)) (h : En n d mi pc L (.int y :: .int x :: st) M r M1) : En n d mi (pc + len) L (.int (x + y) :: st) M r M1 := En.pl hat rfl h
theorem eSub {x y : Int32} (hat : mAt mi pc = some (len, .isub)) (h : En n d mi pc L (.int y :: .int x :: st) M r M1) : En n d mi (pc + len) L (.int (x - y) :: st) M r M1 := En.pl hat rfl h
theorem eMul {x y : Int32} (hat : mAt mi pc = some (len, .imul)) (h : En n d mi pc L (.int y :: .int x :: st) M r M1) : En n d mi (pc + len) L (.int (x * y) :: st) M r M1 := En.pl hat rfl h
theorem eAnd {x y : Int32} (hat : mAt mi pc = some (len, .iand)) (h : En n d mi pc L (.int y :: .int x :: st) M r M1) : En n d mi (pc + len) L (.int (x &&& y) :: st) M r M1 := En.pl hat rfl h
theorem eOr {x y : Int32} (hat : mAt mi pc = some (len, .ior)) (h : En n d mi pc L (.int y :: .int x :: st) M r M1) : En n d mi (pc + len) L (.int (x ||| y) :: st) M r M1 := En.pl hat rfl h
theorem eXor {x y : Int32} (hat : mAt mi pc = some (len, .ixor)) (h : En n d mi pc L (.int y :: .int x :: st) M r M1) : En n d mi (pc + len) L (.int (x ^^^ y) :: st) M r M1 := En.pl hat rfl h
theorem eShl {x y : Int32} (hat : mAt mi pc = some (len, .ishl)) (h : En n d mi pc L (.int y :: .int x :: st) M r M1) : En n d mi (pc + len) L (.int (x <<< (y &&& 31)) :: st) M r M1 := En.pl hat rfl h
theorem eShr {x y : Int32} (hat : mAt mi pc = some (len, .ishr)) (h : En n d mi pc L (.int y :: .int x :: st) M r M1) : En n d mi (pc + len) L (.int (x >>> (y &&& 31)) :: st) M r M1 := En.pl hat rfl h
theorem eNeg {x : Int32} (hat : mAt mi pc = some (len, .ineg)) (h : En n d mi pc L (.int x :: st) M r M1) : En n d mi (pc + len) L (.int (-x) :: st) M r M1 := En.pl hat rfl h
theorem eI2c {x : Int32} (hat : mAt mi pc = some (len, .i2c)) (h : En n d mi pc L (.int x :: st) M r M1) : En n d mi (pc + len) L (.int (x.toUInt32 % 65536).toInt32 :: st) M r M1 := En.pl hat rfl h
theorem eI2b {x : Int32} (hat : mAt mi pc = some (len, .i2b)) (h : En n d mi pc L (.int x :: st) M r M1) : En n d mi (pc + len) L (.int x.toInt8.toInt32 :: st) M r M1 := En.pl hat rfl h
theorem eI2l {x : Int32} (hat : mAt mi pc = some (len, .i2l)) (h : En n d mi pc L (.int x :: st) M r M1) : En n d mi (pc + len) L (.long x.toInt64 :: st) M r M1 := En.pl hat rfl h
theorem eL2i {x : Int64} (hat : mAt mi pc = some (len, .l2i)) (h : En n d mi pc L (.long x :: st) M r M1) : En n d mi (pc + len) L (.int x.toInt32 :: st) M r M1 := En.pl hat rfl h
theorem eLadd {x y : Int64} (hat : mAt mi pc = some (len, .ladd)) (h : En n d mi pc L (.long y :: .long x :: st) M r M1) : En n d mi (pc + len) L (.long (x + y) :: st) M r M1 := En.pl hat rfl h
theorem eLand {x y : Int64} (hat : mAt mi pc = some (len, .land)) (h : En n d mi pc L (.long y :: .long x :: st) M r M1) : En n d mi (pc + len) L (.long (x &&& y) :: st) M r M1 := En.pl hat rfl h
theorem eLor {x y : Int64} (hat : mAt mi pc = some (len, .lor)) (h : En n d mi pc L (.long y :: .long x :: st) M r M1) : En n d mi (pc + len) L (.long (x ||| y) :: st) M r M1 := En.pl hat rfl h
theorem eLxor {x y : Int64} (hat : mAt mi pc = some (len, .lxor)) (h : En n d mi pc L (.long y :: .long x :: st) M r M1) : En n d mi (pc + len) L (.long (x ^^^ y) :: st) M r M1 := En.pl hat rfl h
theorem eLshl {x : Int64} {y : Int32} (hat : mAt mi pc = some (len, .lshl)) (h : En n d mi pc L (.int y :: .long x :: st) M r M1) : En n d mi (pc + len) L (.long (x <<< (y.toInt64 &&& 63)) :: st) M r M1 := En.pl hat rfl h
theorem eLshr {x : Int64} {y : Int32} (hat : mAt mi pc = some (len, .lshr)) (h : En n d mi pc L (.int y :: .long x :: st) M r M1) : En n d mi (pc + len) L (.long (x >>> (y.toInt64 &&& 63)) :: st) M r M1 := En.pl hat rfl h
def ushl (x : Int64) (y : Int32) : Int64 := (x.toUInt64 >>> (y.toInt64.toUInt64 &&& Int64.toUInt64 63)).toInt64
theorem eLushr {x : Int64} {y : Int32} (hat : mAt mi pc = some (len, .lushr)) (h : En n d mi pc L (.int y :: .long x :: st) M r M1) : En n d mi (pc + len) L (.long (ushl x y) :: st) M r M1 := En.pl hat rfl h
theorem eLcmp {x y : Int64} (hat : mAt mi pc = some (len, .lcmp)) (h : En n d mi pc L (.long y :: .long x :: st) M r M1) : En n d mi (pc + len) L (.int (lg_cmp x y) :: st) M r M1 := En.pl hat rfl h
theorem eDupI {x : Int32} (hat : mAt mi pc = some (len, .dup)) (h : En n d mi pc L (.int x :: st) M r M1) : En n d mi (pc + len) L (.int x :: .int x :: st) M r M1 := En.pl hat rfl h
theorem eDupR {a : Nat} (hat : mAt mi pc = some (len, .dup)) (h : En n d mi pc L (.ref a :: st) M r M1) : En n d mi (pc + len) L (.ref a :: .ref a :: st) M r M1 := En.pl hat rfl h
theorem eDup2 {a : Nat} {x : Int32} (hat : mAt mi pc = some (len, .dup2)) (h : En n d mi pc L (.int x :: .ref a :: st) M r M1) : En n d mi (pc + len) L (.int x :: .ref a :: .int x :: .ref a :: st) M r M1 := En.pl hat rfl h
theorem ePopI {x : Int32} (hat : mAt mi pc = some (len, .pop)) (h : En n d mi pc L (.int x :: st) M r M1) : En n d mi (pc + len) L st M r M1 := En.pl hat rfl h
theorem eGoto {off : Int} {t : Nat} (hat : mAt mi pc = some (len, .goto off)) (hj : mJmp pc off = some t) (h : En n d mi pc L st M r M1) : En n d mi t L st M r M1 := En.pl hat (by unfold mStep; dsimp only; rw [hj]) h
theorem eIf {c : Jvm.ClassFile.Cond} {off : Int} {x : Int32} {t : Nat} (hat : mAt mi pc = some (len, .ifCond c off)) (hj : mJmp pc off = some t) (h : En n d mi pc L (.int x :: st) M r M1) : (mCond c x 0 = true ∧ En n d mi t L st M r M1) ∨ (mCond c x 0 = false ∧ En n d mi (pc + len) L st M r M1) := by
  cases hc : mCond c x 0 with
  | true => exact Or.inl ⟨rfl, En.pl hat (by unfold mStep; dsimp only; rw [hj]; dsimp only; rw [if_pos hc]) h⟩
  | false => exact Or.inr ⟨rfl, En.pl hat (by unfold mStep; dsimp only; rw [hj]; dsimp only; rw [if_neg (by rw [hc]; decide)]) h⟩
theorem eIc {c : Jvm.ClassFile.Cond} {off : Int} {x y : Int32} {t : Nat} (hat : mAt mi pc = some (len, .if_icmp c off)) (hj : mJmp pc off = some t) (h : En n d mi pc L (.int y :: .int x :: st) M r M1) : (mCond c x y = true ∧ En n d mi t L st M r M1) ∨ (mCond c x y = false ∧ En n d mi (pc + len) L st M r M1) := by
  cases hc : mCond c x y with
  | true => exact Or.inl ⟨rfl, En.pl hat (by unfold mStep; dsimp only; rw [hj]; dsimp only; rw [if_pos hc]) h⟩
  | false => exact Or.inr ⟨rfl, En.pl hat (by unfold mStep; dsimp only; rw [hj]; dsimp only; rw [if_neg (by rw [hc]; decide)]) h⟩
theorem eRetI {x : Int32} (hat : mAt mi pc = some (len, .ireturn)) (h : En n d mi pc L (.int x :: st) M r M1) : r = some (.int x) ∧ M1 = M := by
  obtain ⟨k, hk, h⟩ := h
  cases k with
  | zero => cases h
  | succ k =>
    obtain ⟨len', ins', hat', hret | ⟨j, hi, hg⟩ | ⟨pc', L', st', M', h1, h2⟩⟩ := mRun_cases h
    · rw [hat] at hat'
      cases hat'
      rcases mRet_ok hret with ⟨y, e, e2, _, e3⟩ | ⟨y, e, _⟩ | ⟨y, e, _⟩ | ⟨e, _⟩
      · cases e2; cases e3; exact ⟨rfl, rfl⟩
      · cases e
      · cases e
      · cases e
    · rw [hat] at hat'
      cases hat'
      rcases hi with hi | hi | hi <;> cases hi
    · rw [hat] at hat'
      cases hat'
      cases h1
theorem eRetL {x : Int64} (hat : mAt mi pc = some (len, .lreturn)) (h : En n d mi pc L (.long x :: st) M r M1) : r = some (.long x) ∧ M1 = M := by
  obtain ⟨k, hk, h⟩ := h
  cases k with
  | zero => cases h
  | succ k =>
    obtain ⟨len', ins', hat', hret | ⟨j, hi, hg⟩ | ⟨pc', L', st', M', h1, h2⟩⟩ := mRun_cases h
    · rw [hat] at hat'
      cases hat'
      rcases mRet_ok hret with ⟨y, e, _⟩ | ⟨y, e, e2, _, e3⟩ | ⟨y, e, _⟩ | ⟨e, _⟩
      · cases e
      · cases e2; cases e3; exact ⟨rfl, rfl⟩
      · cases e
      · cases e
    · rw [hat] at hat'
      cases hat'
      rcases hi with hi | hi | hi <;> cases hi
    · rw [hat] at hat'
      cases hat'
      cases h1
theorem eRetV (hat : mAt mi pc = some (len, .return_)) (h : En n d mi pc L st M r M1) : r = none ∧ M1 = M := by
  obtain ⟨k, hk, h⟩ := h
  cases k with
  | zero => cases h
  | succ k =>
    obtain ⟨len', ins', hat', hret | ⟨j, hi, hg⟩ | ⟨pc', L', st', M', h1, h2⟩⟩ := mRun_cases h
    · rw [hat] at hat'
      cases hat'
      rcases mRet_ok hret with ⟨y, e, _⟩ | ⟨y, e, _⟩ | ⟨y, e, _⟩ | ⟨e, _, _, e3⟩
      · cases e
      · cases e
      · cases e
      · cases e3; exact ⟨rfl, rfl⟩
    · rw [hat] at hat'
      cases hat'
      rcases hi with hi | hi | hi <;> cases hi
    · rw [hat] at hat'
      cases hat'
      cases h1
theorem eCallS {ins : Instr} {j : Nat} {as rest : List Value} (hat : mAt mi pc = some (len, ins)) (hi : ins = .invokestatic j ∨ ins = .invokevirtual j ∨ ins = .invokespecial j) (h9 : ¬ 900 ≤ j) (ha : (st.take (mIT j).1).reverse = as) (hr : st.drop (mIT j).1 = rest) (h : En n d mi pc L st M r M1) : ∃ m r' M', n = m + 1 ∧ En m (d - 1) j 0 (lv_args 0 as) [] M r' M' ∧ En m d mi (pc + len) L (r'.toList ++ rest) M' r M1 := by
  obtain ⟨k, hk, h⟩ := h
  cases k with
  | zero => cases h
  | succ k =>
    obtain ⟨len', ins', hat', hret | ⟨j', hi', hg⟩ | ⟨pc', L', st', M', h1, h2⟩⟩ := mRun_cases h
    · rw [hat] at hat'
      cases hat'
      rcases mRet_ok hret with ⟨y, e, _⟩ | ⟨y, e, _⟩ | ⟨y, e, _⟩ | ⟨e, _⟩ <;> (subst e; rcases hi with hi | hi | hi <;> cases hi)
    · rw [hat] at hat'
      cases hat'
      have ej : j' = j := by
        rcases hi with rfl | rfl | rfl <;> rcases hi' with e | e | e <;> cases e <;> rfl
      subst ej
      rcases mGo_ok hg with ⟨h90, _⟩ | ⟨_, as', rest', r', M', hc, g1, g2⟩
      · exact absurd h90 h9
      · unfold mCall at hc
        dsimp only at hc
        obtain ⟨_, hc⟩ := mIf hc
        cases hc
        rw [ha] at g1
        rw [hr] at g2
        exact ⟨n - 1, r', M', by omega, ⟨k, by omega, g1⟩, ⟨k, by omega, g2⟩⟩
    · rw [hat] at hat'
      cases hat'
      have := mStep_plain h1
      rcases hi with rfl | rfl | rfl <;> cases this
theorem eCall {ins : Instr} {j : Nat} {as rest : List Value} (hat : mAt mi pc = some (len, ins)) (hi : ins = .invokestatic j ∨ ins = .invokevirtual j ∨ ins = .invokespecial j) (h9 : ¬ 900 ≤ j) (ha : (st.take (mIT j).1).reverse = as) (hr : st.drop (mIT j).1 = rest) (h : En n d mi pc L st M r M1) : ∃ r' M', En n (d - 1) j 0 (lv_args 0 as) [] M r' M' ∧ En n d mi (pc + len) L (r'.toList ++ rest) M' r M1 := by
  obtain ⟨m, r', M', e, h1, h2⟩ := eCallS hat hi h9 ha hr h
  exact ⟨r', M', h1.up (by omega), h2.up (by omega)⟩
/-- a call that leaves the memory as it is -/
theorem eCallP {ins : Instr} {j : Nat} {as rest : List Value} {v : Value} (hat : mAt mi pc = some (len, ins)) (hi : ins = .invokestatic j ∨ ins = .invokevirtual j ∨ ins = .invokespecial j) (h9 : ¬ 900 ≤ j) (ha : (st.take (mIT j).1).reverse = as) (hr : st.drop (mIT j).1 = rest) (f : ∀ n' d' r' M', En n' d' j 0 (lv_args 0 as) [] M r' M' → r' = some v ∧ M' = M) (h : En n d mi pc L st M r M1) : En n d mi (pc + len) L (v :: rest) M r M1 := by
  obtain ⟨r', M', h1, h2⟩ := eCall hat hi h9 ha hr h
  obtain ⟨e1, e2⟩ := f _ _ _ _ h1
  subst e1
  rw [e2] at h2
  exact h2
theorem ePrimS {ins : Instr} {j : Nat} (hat : mAt mi pc = some (len, ins)) (hi : ins = .invokestatic j ∨ ins = .invokevirtual j ∨ ins = .invokespecial j) (h9 : 900 ≤ j) (h : En n d mi pc L st M r M1) : ∃ st' M', mPrim d j st M = some (st', M') ∧ En n d mi (pc + len) L st' M' r M1 := by
  obtain ⟨k, hk, h⟩ := h
  cases k with
  | zero => cases h
  | succ k =>
    obtain ⟨len', ins', hat', hret | ⟨j', hi', hg⟩ | ⟨pc', L', st', M', h1, h2⟩⟩ := mRun_cases h
    · rw [hat] at hat'
      cases hat'
      rcases mRet_ok hret with ⟨y, e, _⟩ | ⟨y, e, _⟩ | ⟨y, e, _⟩ | ⟨e, _⟩ <;> (subst e; rcases hi with hi | hi | hi <;> cases hi)
    · rw [hat] at hat'
      cases hat'
      have ej : j' = j := by
        rcases hi with rfl | rfl | rfl <;> rcases hi' with e | e | e <;> cases e <;> rfl
      subst ej
      rcases mGo_ok hg with ⟨_, st', M', g1, g2⟩ | ⟨h90, _⟩
      · exact ⟨st', M', g1, k, by omega, g2⟩
      · exact absurd h9 h90
    · rw [hat] at hat'
      cases hat'
      have := mStep_plain h1
      rcases hi with rfl | rfl | rfl <;> cases this
theorem eMin {x y : Int32} (hat : mAt mi pc = some (len, .invokestatic 904)) (h : En n d mi pc L (.int y :: .int x :: st) M r M1) : En n d mi (pc + len) L (.int (if y < x then y else x) :: st) M r M1 := by
  obtain ⟨st', M', g1, g2⟩ := ePrimS hat (Or.inl rfl) (by decide) h
  unfold mPrim at g1
  rw [if_neg (by decide), if_neg (by decide), if_neg (by decide), if_neg (by decide), if_pos rfl] at g1
  dsimp only at g1
  obtain ⟨_, g1⟩ := mIf g1
  cases g1
  exact g2
theorem eMax {x y : Int32} (hat : mAt mi pc = some (len, .invokestatic 903)) (h : En n d mi pc L (.int y :: .int x :: st) M r M1) : En n d mi (pc + len) L (.int (if x < y then y else x) :: st) M r M1 := by
  obtain ⟨st', M', g1, g2⟩ := ePrimS hat (Or.inl rfl) (by decide) h
  unfold mPrim at g1
  rw [if_neg (by decide), if_neg (by decide), if_neg (by decide), if_pos rfl] at g1
  dsimp only at g1
  obtain ⟨_, g1⟩ := mIf g1
  cases g1
  exact g2
end
