/-! what the tables say of fields, classes, constants and methods, in the form in which a step uses it -/
theorem find_fst {α : Type} {l : List (Nat × Nat × α)} {a b : Nat} {q : Nat × Nat × α} (h : l.find? (fun q => q.1 == a && q.2.1 == b) = some q) : q ∈ l ∧ q.1 = a ∧ q.2.1 = b := by
  have h1 := List.find?_some h
  simp only [Bool.and_eq_true, beq_iff_eq] at h1
  exact ⟨List.mem_of_find?_eq_some h, h1.1, h1.2⟩
theorem mF_ok {o i j : Nat} (h : mF o i = some j) : mFC o i j ∈ mTB ∧ j / 100 < 12 ∧ j % 100 < mN (j / 100) := by
  unfold mF at h
  obtain ⟨q, hq, rfl⟩ := Option.map_eq_some_iff.mp h
  obtain ⟨hm, rfl, rfl⟩ := find_fst hq
  have := of_decide_eq_true (List.all_eq_true.mp mFR_ok q hm)
  refine ⟨mTB_in (List.mem_of_getElem? this.1) ?_, this.2⟩
  unfold mFC
  split <;> rfl
theorem mM_ok {o i j : Nat} (h : mM o i = some j) : ∃ n, ((n = 0 ∧ Cond.methodLink (mOw o) i (mMN j) ∈ mTB) ∨ (n = 1 ∧ (∃ q ∈ mMR, q.1 = o ∧ q.2.1 = i ∧ q.2.2.1 = j ∧ q.2.2.2.1 = 1) ∧ j < 282 ∧ mKd j = 2)) ∧ (900 ≤ j ∨ j < 282) := by
  unfold mM at h
  obtain ⟨q, hq, rfl⟩ := Option.map_eq_some_iff.mp h
  obtain ⟨hm, rfl, rfl⟩ := find_fst hq
  obtain ⟨h1, h2, h3, h4⟩ := of_decide_eq_true (List.all_eq_true.mp mMR_ok q hm)
  refine ⟨q.2.2.2.1, ?_, h3⟩
  rcases h2 with h2 | h2
  · refine Or.inl ⟨h2, mTB_in (List.mem_of_getElem? (i := q.2.2.2.2) ?_) rfl⟩
    rw [h1, h2]
    rfl
  · exact Or.inr ⟨h2, ⟨q, hm, rfl, rfl, rfl, h2⟩, h4 h2⟩
theorem mC_ok {o i j : Nat} (h : mC o i = some j) : mCC o i j ∈ mTB ∧ j < 12 := by
  unfold mC at h
  obtain ⟨q, hq, rfl⟩ := Option.map_eq_some_iff.mp h
  obtain ⟨hm, rfl, rfl⟩ := find_fst hq
  have := of_decide_eq_true (List.all_eq_true.mp mCR_ok q hm)
  exact ⟨mTB_in (List.mem_of_getElem? this.1) rfl, this.2⟩
theorem mA_ok {o i j : Nat} (h : mA o i = some j) : mCC o i j ∈ mTB ∧ (j = 68 ∨ j = 69 ∨ j = 70) := by
  unfold mA at h
  obtain ⟨q, hq, rfl⟩ := Option.map_eq_some_iff.mp h
  obtain ⟨hm, rfl, rfl⟩ := find_fst hq
  have := of_decide_eq_true (List.all_eq_true.mp mAR_ok q hm)
  exact ⟨mTB_in (List.mem_of_getElem? this.1) rfl, this.2⟩
theorem mK_ok {o i : Nat} {v : Int} (h : mK o i = some v) : Cond.constant (mOw o) i (Int32.ofInt v) ∈ mTB := by
  unfold mK at h
  obtain ⟨q, hq, rfl⟩ := Option.map_eq_some_iff.mp h
  obtain ⟨hm, rfl, rfl⟩ := find_fst hq
  have := of_decide_eq_true (List.all_eq_true.mp mKR_ok q hm)
  exact mTB_in (List.mem_of_getElem? this) rfl
theorem mLg_ok {o i v : Nat} (h : mLg o i = some v) : Cond.constantLong (mOw o) i (mKL.getD v 0) ∈ mTB := by
  unfold mLg at h
  obtain ⟨q, hq, rfl⟩ := Option.map_eq_some_iff.mp h
  obtain ⟨hm, rfl, rfl⟩ := find_fst hq
  have := of_decide_eq_true (List.all_eq_true.mp mLR_ok q hm)
  exact mTB_in (List.mem_of_getElem? this) rfl
theorem uws_good {C : String} {T : u_T} {N : Nat} (h : ∀ w ∈ u_ws C T N, w ∈ lw_tbl) : ∀ w ∈ u_ws C T N, w ∈ mTB := by
  intro w hw
  refine mTB_in (h w hw) ?_
  obtain ⟨k, -, rfl⟩ := List.mem_map.mp hw
  unfold u_lay
  split <;> rfl
/-- a class of ours -/
def mClOK (ci : Nat) (q : vw_C) : Prop := (∀ w ∈ u_ws q.1 q.2.1 q.2.2, w ∈ mTB) ∧ (∀ k, k < q.2.2 → parseFieldDescriptor (q.2.1 k).2.2.1 = some (mTy ci k)) ∧ (∀ a, a < q.2.2 → ∀ b, b < q.2.2 → a ≠ b → (q.2.1 a).2.1 ≠ (q.2.1 b).2.1) ∧ q.2.2 = mN ci ∧ q.1 = mOw ci ∧ Cond.initialized q.1 ∈ mTB ∧ Cond.instantiable q.1 q.2.2 ∈ mTB ∧ ∀ k, k < q.2.2 → (q.2.1 k).1 = q.1
theorem mIni_ok : ((List.range 12).all (fun ci => match vwCl[ci]? with
    | some q => decide (Cond.initialized q.1 ∈ lw_tbl ∧ Cond.instantiable q.1 q.2.2 ∈ lw_tbl ∧ q.1 = mOw ci ∧ q.2.2 = mN ci) && (List.range q.2.2).all (fun k => decide ((q.2.1 k).1 = q.1))
    | none => false)) = true := by decide +kernel
theorem mCl_mk {ci : Nat} (h : ci < 12) (q : vw_C) (hq : vwCl[ci]? = some q) (h1 : ∀ w ∈ u_ws q.1 q.2.1 q.2.2, w ∈ lw_tbl) (h2 : ∀ k, k < q.2.2 → parseFieldDescriptor (q.2.1 k).2.2.1 = some (mTy ci k)) (h3 : ∀ a, a < q.2.2 → ∀ b, b < q.2.2 → a ≠ b → (q.2.1 a).2.1 ≠ (q.2.1 b).2.1) : ∃ q, vwCl[ci]? = some q ∧ mClOK ci q := by
  have key := List.all_eq_true.mp mIni_ok ci (List.mem_range.mpr h)
  rw [hq] at key
  dsimp only at key
  rw [Bool.and_eq_true] at key
  obtain ⟨k1, k2, k3, k4⟩ := of_decide_eq_true key.1
  exact ⟨q, hq, uws_good h1, h2, h3, k4, k3, mTB_in k1 rfl, mTB_in k2 rfl, fun k hk => of_decide_eq_true (List.all_eq_true.mp key.2 k (List.mem_range.mpr hk))⟩
theorem mCl_ok {ci : Nat} (h : ci < 12) : ∃ q, vwCl[ci]? = some q ∧ mClOK ci q := by
  match ci, h with
  | 0, h => exact mCl_mk h (RX0, TX0, 18) rfl inX0 tyX0_ok nmX0
  | 1, h => exact mCl_mk h (RX1, TX1, 10) rfl inX1 tyX1_ok nmX1
  | 2, h => exact mCl_mk h (RX2, TX2, 8) rfl inX2 tyX2_ok nmX2
  | 3, h => exact mCl_mk h (RX3, TX3, 8) rfl inX3 tyX3_ok nmX3
  | 4, h => exact mCl_mk h (RX4, TX4, 8) rfl inX4 tyX4_ok nmX4
  | 5, h => exact mCl_mk h (RX5, TX5, 6) rfl inX5 tyX5_ok nmX5
  | 6, h => exact mCl_mk h (RX6, TX6, 3) rfl inX6 tyX6_ok nmX6
  | 7, h => exact mCl_mk h (RX7, TX7, 5) rfl inX7 tyX7_ok nmX7
  | 8, h => exact mCl_mk h (RX8, TX8, 2) rfl inX8 tyX8_ok nmX8
  | 9, h => exact mCl_mk h (RX9, TX9, 3) rfl inX9 tyX9_ok nmX9
  | 10, h => exact mCl_mk h (RX10, TX10, 14) rfl inX10 tyX10_ok nmX10
  | 11, h => exact mCl_mk h (RX11, TX11, 84) rfl inX11 tyX11_ok nmX11
theorem mAw_ok : ([Cond.arrayClass .int, Cond.arrayClass .long, Cond.arrayClass .byte, Cond.arrayClass .boolean, Cond.static arraycopyName, Cond.native arraycopyName, Cond.initialized "java/lang/System", Cond.instanceMethod Lib.objectInit, Cond.code Lib.objectInit ⟨#[0xb1]⟩ 1 none, Cond.static Lib.Math.max.name, Cond.static Lib.Math.min.name, Cond.initialized "java/lang/Math", Cond.code Lib.Math.max.name Lib.Math.max.code 2 (some .int), Cond.code Lib.Math.min.name Lib.Math.min.code 2 (some .int)].all (fun w => decide (w ∈ mTB))) = true := by decide +kernel
theorem mAw {w : Cond} (h : w ∈ ([Cond.arrayClass .int, Cond.arrayClass .long, Cond.arrayClass .byte, Cond.arrayClass .boolean, Cond.static arraycopyName, Cond.native arraycopyName, Cond.initialized "java/lang/System", Cond.instanceMethod Lib.objectInit, Cond.code Lib.objectInit ⟨#[0xb1]⟩ 1 none, Cond.static Lib.Math.max.name, Cond.static Lib.Math.min.name, Cond.initialized "java/lang/Math", Cond.code Lib.Math.max.name Lib.Math.max.code 2 (some .int), Cond.code Lib.Math.min.name Lib.Math.min.code 2 (some .int)] : List Cond)) : w ∈ mTB := of_decide_eq_true (List.all_eq_true.mp mAw_ok w h)
theorem mIf {α : Type} {c : Prop} [Decidable c] {a b : α} (h : (if c then some a else none) = some b) : c ∧ a = b := by
  split at h
  · rename_i hc; exact ⟨hc, Option.some.inj h⟩
  · cases h
theorem mIfO {α : Type} {c : Prop} [Decidable c] {a : Option α} {b : α} (h : (if c then a else none) = some b) : c ∧ a = some b := by
  split at h
  · rename_i hc; exact ⟨hc, h⟩
  · cases h
theorem mOkF_ok {g : MG} {ty : FieldType} {v : Value} (h : mOkF ty v = true) : narrow ty (mCv g v) = mCv g v ∧ fits ty (mCv g v) = true := by
  cases ty <;> cases v <;> first | (cases h; done) | exact ⟨rfl, rfl⟩ | skip
  rename_i x
  have h : (x == 0 || x == 1) = true := h
  rw [Bool.or_eq_true, beq_iff_eq, beq_iff_eq] at h
  rcases h with rfl | rfl <;> exact ⟨rfl, rfl⟩
theorem mIx_ok {i : Int32} {n j : Nat} (h : mIx i n = some j) : vp_in i n ∧ i.toNatClampNeg = j ∧ j < n := by
  unfold mIx at h
  obtain ⟨⟨h1, h2⟩, rfl⟩ := mIf h
  refine ⟨vp_in_iff.mpr ⟨h1, h2⟩, rfl, ?_⟩
  omega
theorem mI32_set {c : List Value} {j : Nat} {x : Int32} (h : j < c.length) : mI32 (c.set j (.int x)) = upd (mI32 c) j x := by
  funext i
  unfold mI32 upd
  rw [List.getElem?_set]
  by_cases e : j = i
  · subst e
    simp [h]
  · rw [if_neg e, if_neg (Ne.symm e)]
theorem mI64_set {c : List Value} {j : Nat} {x : Int64} (h : j < c.length) : mI64 (c.set j (.long x)) = vp_updL (mI64 c) j x := by
  funext i
  unfold mI64 vp_updL
  rw [List.getElem?_set]
  by_cases e : j = i
  · subst e
    simp [h]
  · rw [if_neg e, if_neg (Ne.symm e)]
theorem mRf_set {g : MG} {c : List Value} {j k : Nat} (h : j < c.length) : mRf g (c.set j (.ref k)) = va_up (mRf g c) j (some (mAd g k)) := by
  funext i
  unfold mRf va_up
  rw [List.getElem?_set]
  by_cases e : j = i
  · subst e
    simp [h]
  · rw [if_neg e, if_neg (Ne.symm e)]
theorem mSl_set {M : Mem} {a t t' : Nat} {c c' : List Value} (h : M[a]? = some (t, c)) (hl : c'.length = c.length) : mSl (M.set a (t', c')) = mSl M := by
  unfold mSl
  rw [List.map_set]
  congr 1
  apply List.ext_getElem?
  intro k
  rw [List.getElem?_set]
  by_cases e : a = k
  · subst e
    have hlt : a < M.length := (List.getElem?_eq_some_iff.mp h).1
    rw [if_pos rfl, if_pos (by rw [List.length_map]; exact hlt), List.getElem?_map, h]
    show some c'.length = some c.length
    rw [hl]
  · rw [if_neg e]
theorem mSl_app (M N : Mem) : mSl (M ++ N) = mSl M + mSl N := by
  unfold mSl
  rw [List.map_append, List.sum_append]
