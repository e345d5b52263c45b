theorem mGood (cd : MethodName × ByteArray × Nat × Option FieldType) (h : Cond.code cd.1 cd.2.1 cd.2.2.1 cd.2.2.2 ∈ mTB) : GoodIn mTB (mTW cd) := by
  intro w hw
  rcases List.mem_cons.mp hw with rfl | hw
  · exact ⟨h, mTB_good _ h⟩
  · exact ⟨hw, mTB_good _ hw⟩
section MRUN
variable {p : Program} {l : Launch} {e : Env} {R : Room} {s : State} {m : MethodId} {args : Array Value} {below : List Frame} {meth : Method} {c : Code} {H : Heap} {locs : List Loc} {cells slots : Nat} {Q : State → Prop}
variable {g : MG} {D : va_G} {aC : Nat → ClassId} {scr : List Int32} {n0 sl0 : Nat}
/-- behind a call -/
theorem mCall_go {pc mc ms : Nat} {ls : Array Slot} {st0 rest : List Value} {a0 : Array Value} {r : Option Value} {M1 : Mem} (hr : va_Run p l e R s m args below meth c H locs cells slots mc ms (F0 m pc ls st0) rest (mQc g D aC scr r M1 a0) (mA0 g)) (hS : va_S (mA0 g) s.heap H locs) (hc : cells + mc + n0 = M1.length) (hs : slots + ms + sl0 = mSl M1)
    (kk : ∀ (H1 : Heap) (locs1 : List Loc), mIn g D aC scr n0 sl0 M1 s H1 locs1 (cells + mc) (slots + ms) → W p l e R s m args below meth c H1 locs1 (cells + mc) (slots + ms) Q (F0 m (pc + 3) ls ((r.map (mCv g)).toList ++ rest))) : W p l e R s m args below meth c H locs cells slots Q (F0 m pc ls st0) := by
  intro T hT X
  obtain ⟨v, st₀, t, T', L, h0, X', hL, e1, e2, ⟨hv, hP, hz, hsh, hzF, hk⟩, st⟩ := hr T hT X
  cases hv
  rw [h0] at hzF hk
  obtain ⟨t2, a1, b1⟩ := kk T'.heap (locs ++ L) ⟨by rw [e1]; exact hP, ⟨Nat.le_trans hS.1 (by rw [e1]; exact hzF), fun q h1 h2 => by rw [e1, hk q (Nat.lt_of_lt_of_le h1 hS.1) h2]; exact hS.2.1 q h1 h2, fun q hq => by
      rcases List.mem_append.mp hq with h | h
      · exact hS.2.2 q h
      · exact hL q h⟩, hsh, hc, hs⟩ T' rfl X'
  exact ⟨t2, st t2 a1, b1⟩
/-- a method's contract out of a run -/
theorem mMet {n d j : Nat} {as : List Value} {M M1 : Mem} {r : Option Value} {mc ms : Nat} (ih : mSimAt n) (hj : j < 282) (hrun : mRun n d j 0 (lv_args 0 as) [] M = some (r, M1)) (hla : (lg_sl as).length ≤ (mIT j).2.1) (hmc : mc + M.length = M1.length) (hms : ms + mSl M = mSl M1) (hIx : MIx l g D aC scr) {cd : MethodName × ByteArray × Nat × Option FieldType} (hcd : mCd j = some cd) :
    Met l cd.1 (mTW cd) (mRm d mc ms) (mPc g D aC scr as M) (mQc g D aC scr r M1) mc ms (mA0 g) := by
  obtain ⟨cd', ini, h1, h2, -, h4, h5, h6, h7, h8, h9, h10, h11, h12, -⟩ := mW4 hj
  cases Option.some.inj (h1.symm.trans hcd)
  refine Met.ofW (cc := cd.2.1) (maxL := cd.2.2.1) (ret := cd.2.2.2) h9 rfl ?_
  intro p e s m args below meth c s₁ B hml hv
  obtain ⟨rfl, hF, hP, hz, hsh⟩ := hv
  have hts0 := atoms_spec (ws := mTW cd) B.pre
  have hcx : mCx p s m (as.map (mCv g)).toArray meth c (mIT j) ini cd := by
    refine ⟨B.exec, B.bytes, by rw [hml, h5], ?_, fun w h => hts0 w (List.mem_cons_of_mem _ h), fun hi => (name_of_methodNamed B.named B.method).1.trans (h11 hi), B.returns, B.notSynchronized⟩
    rw [← h8]
    exact findClass_of_methodNamed B.named
  have hl := lv_entry (as.map (mCv g)) (n := cd.2.2.1) (by rw [mSl_cv, h5]; exact hla)
  rw [mArgs_cv] at hl
  rw [lg_entry_eq]
  generalize (lg_sl (as.map (mCv g)) ++ List.replicate (cd.2.2.1 - (lg_sl (as.map (mCv g))).length) Slot.unset).toArray = ls at hl ⊢
  rw [h5] at hl
  exact ih d j 0 (lv_args 0 as) [] M r M1 hrun p l e (mRm d mc ms) s m _ below meth c s.heap [] 0 0 g D aC scr ini cd M.length (mSl M) mc ms ls h2 h1 h4 hcx hF hz (mSh_len hsh) (Nat.le_refl _) (Nat.le_refl _) (Nat.le_refl _) (Nat.le_refl _) hmc hms hIx ⟨hP, va_S.rf, hsh, Nat.zero_add _, Nat.zero_add _⟩ hl
theorem mCpy_i {c0 c1 : List Value} {sp dp n : Nat} (h1 : sp + n ≤ c0.length) (h2 : dp + n ≤ c1.length) : mI32 (mCpy c0 c1 sp dp n) = va_cpy (mI32 c0) (mI32 c1) sp dp n := by
  funext k
  show mI32 (mCpy c0 c1 sp dp n) k = if dp ≤ k ∧ k < dp + n then mI32 c0 (sp + (k - dp)) else mI32 c1 k
  unfold mI32 mCpy
  rw [List.getElem?_map]
  by_cases hk : k < c1.length
  · rw [List.getElem?_range hk]
    show (match some (if dp ≤ k ∧ k < dp + n then c0.getD (sp + (k - dp)) (.int 0) else c1.getD k (.int 0)) with
      | some (.int x) => x
      | _ => (0 : Int32)) = _
    by_cases hc : dp ≤ k ∧ k < dp + n
    · rw [if_pos hc, if_pos hc, List.getD_eq_getElem?_getD]
      have : sp + (k - dp) < c0.length := by omega
      rw [List.getElem?_eq_getElem this]
      rfl
    · rw [if_neg hc, if_neg hc, List.getD_eq_getElem?_getD, List.getElem?_eq_getElem hk]
      rfl
  · rw [List.getElem?_eq_none (by rw [List.length_range]; omega), if_neg (by omega), List.getElem?_eq_none (by omega)]
    rfl
end MRUN
theorem mIx_w0 : ([Cond.initialized mIxY.cls, Cond.instanceMethod mIxY, Cond.selects "java/lang/String" mIxY mIxY].all (fun w => decide (w ∈ mTB))) = true := by decide +kernel
theorem mIx_w : Cond.initialized mIxY.cls ∈ mTB ∧ Cond.instanceMethod mIxY ∈ mTB ∧ Cond.selects "java/lang/String" mIxY mIxY ∈ mTB := ⟨of_decide_eq_true (List.all_eq_true.mp mIx_w0 _ (by simp)), of_decide_eq_true (List.all_eq_true.mp mIx_w0 _ (by simp)), of_decide_eq_true (List.all_eq_true.mp mIx_w0 _ (by simp))⟩
