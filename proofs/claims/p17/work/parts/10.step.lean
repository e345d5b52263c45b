/-! a step of the small machine is one of the large one -/
theorem mBin_ok {nx pc' : Nat} {L L' : MLoc} {st st' : List Value} {M M' : Mem} {f : Int32 → Int32 → Int32} (h : mBin nx L st M f = some (pc', L', st', M')) : ∃ x y r, st = .int y :: .int x :: r ∧ pc' = nx ∧ L' = L ∧ st' = .int (f x y) :: r ∧ M' = M := by
  unfold mBin at h
  split at h
  · cases h; exact ⟨_, _, _, rfl, rfl, rfl, rfl, rfl⟩
  · cases h
theorem mBinL_ok {nx pc' : Nat} {L L' : MLoc} {st st' : List Value} {M M' : Mem} {f : Int64 → Int64 → Int64} (h : mBinL nx L st M f = some (pc', L', st', M')) : ∃ x y r, st = .long y :: .long x :: r ∧ pc' = nx ∧ L' = L ∧ st' = .long (f x y) :: r ∧ M' = M := by
  unfold mBinL at h
  split at h
  · cases h; exact ⟨_, _, _, rfl, rfl, rfl, rfl, rfl⟩
  · cases h
theorem mShL_ok {nx pc' : Nat} {L L' : MLoc} {st st' : List Value} {M M' : Mem} {f : Int64 → Int32 → Int64} (h : mShL nx L st M f = some (pc', L', st', M')) : ∃ x y r, st = .int y :: .long x :: r ∧ pc' = nx ∧ L' = L ∧ st' = .long (f x y) :: r ∧ M' = M := by
  unfold mShL at h
  split at h
  · cases h; exact ⟨_, _, _, rfl, rfl, rfl, rfl, rfl⟩
  · cases h
theorem mUn_ok {nx pc' : Nat} {L L' : MLoc} {st st' : List Value} {M M' : Mem} {f : Int32 → Value} (h : mUn nx L st M f = some (pc', L', st', M')) : ∃ x r, st = .int x :: r ∧ pc' = nx ∧ L' = L ∧ st' = f x :: r ∧ M' = M := by
  unfold mUn at h
  split at h
  · cases h; exact ⟨_, _, rfl, rfl, rfl, rfl, rfl⟩
  · cases h
theorem mAld_ok {nx pc' : Nat} {L L' : MLoc} {st st' : List Value} {M M' : Mem} {ok : Nat → Value → Bool} (h : mAld nx L st M ok = some (pc', L', st', M')) : ∃ i a r t c j v, st = .int i :: .ref a :: r ∧ M[a]? = some (t, c) ∧ mIx i c.length = some j ∧ c[j]? = some v ∧ ok t v = true ∧ pc' = nx ∧ L' = L ∧ st' = v :: r ∧ M' = M := by
  unfold mAld at h
  split at h
  · split at h
    · split at h
      · split at h
        · obtain ⟨h1, h2⟩ := mIf h
          cases h2
          exact ⟨_, _, _, _, _, _, _, rfl, by assumption, by assumption, by assumption, h1, rfl, rfl, rfl, rfl⟩
        · cases h
      · cases h
    · cases h
  · cases h
theorem mAst_ok {nx pc' : Nat} {L L' : MLoc} {st st' : List Value} {M M' : Mem} {f : Nat → Value → Option Value} (h : mAst nx L st M f = some (pc', L', st', M')) : ∃ x i a r t c j w, st = x :: .int i :: .ref a :: r ∧ M[a]? = some (t, c) ∧ mIx i c.length = some j ∧ f t x = some w ∧ a ≠ 0 ∧ pc' = nx ∧ L' = L ∧ st' = r ∧ M' = M.set a (t, c.set j w) := by
  unfold mAst at h
  split at h
  · split at h
    · split at h
      · split at h
        · cases h
        · cases h
          exact ⟨_, _, _, _, _, _, _, _, rfl, by assumption, by assumption, by assumption, by assumption, rfl, rfl, rfl, rfl⟩
      · cases h
    · cases h
  · cases h
theorem mJmp_ok {pc t : Nat} {o : Int} (h : mJmp pc o = some t) : (pc : Int) + o = (t : Int) := by
  unfold mJmp at h
  obtain ⟨h1, rfl⟩ := mIf h
  omega
theorem mSh_ge {scr : List Int32} {M : Mem} {a t : Nat} {c : List Value} (hs : ∃ r, M = (64, scr.map .int) :: (63, []) :: r) (h : M[a]? = some (t, c)) (h0 : t ≠ 63) (h1 : a ≠ 0) : 2 ≤ a := by
  obtain ⟨r, rfl⟩ := hs
  match a, h with
  | 0, _ => exact absurd rfl h1
  | 1, h => cases h; exact absurd rfl h0
  | a + 2, _ => omega
theorem mSh_ge' {scr : List Int32} {M : Mem} {a t : Nat} {c : List Value} (hs : ∃ r, M = (64, scr.map .int) :: (63, []) :: r) (h : M[a]? = some (t, c)) (h0 : t ≠ 63) (h1 : t ≠ 64) : 2 ≤ a := by
  refine mSh_ge hs h h0 ?_
  rintro rfl
  obtain ⟨r, rfl⟩ := hs
  cases h
  exact h1 rfl
theorem mSh_set {scr : List Int32} {M : Mem} {a : Nat} {q : MCell} (hs : ∃ r, M = (64, scr.map .int) :: (63, []) :: r) (h : 2 ≤ a) : ∃ r, M.set a q = (64, scr.map .int) :: (63, []) :: r := by
  obtain ⟨r, rfl⟩ := hs
  match a, h with
  | a + 2, _ => exact ⟨r.set a q, rfl⟩
theorem mSh_app {scr : List Int32} {M N : Mem} (hs : ∃ r, M = (64, scr.map .int) :: (63, []) :: r) : ∃ r, M ++ N = (64, scr.map .int) :: (63, []) :: r := by
  obtain ⟨r, rfl⟩ := hs
  exact ⟨r ++ N, rfl⟩
theorem mSh_len {scr : List Int32} {M : Mem} (hs : ∃ r, M = (64, scr.map .int) :: (63, []) :: r) : 2 ≤ M.length := by
  obtain ⟨r, rfl⟩ := hs
  simp
theorem mEl_obj {g : MG} {aC : Nat → ClassId} {t : Nat} {fs : List Value} (h : t < 12) : mEl g aC (t, fs) = .inr (t, fs.map (mCv g)) := if_pos (show t < 64 by omega)
theorem mEl_i {g : MG} {aC : Nat → ClassId} {t : Nat} {c : List Value} (h : t = 64 ∨ t = 66 ∨ t = 67) : mEl g aC (t, c) = .inl (aC t, c.length, .inl (mI32 c)) := by
  unfold mEl mPay
  rw [if_neg (show ¬ t < 64 by omega), if_neg (show ¬ t = 65 by omega), if_neg (show ¬ 68 ≤ t by omega)]
theorem mEl_l {g : MG} {aC : Nat → ClassId} {c : List Value} : mEl g aC (65, c) = .inl (aC 65, c.length, .inr (.inl (mI64 c))) := rfl
theorem mEl_r {g : MG} {aC : Nat → ClassId} {t : Nat} {c : List Value} (h : 68 ≤ t) : mEl g aC (t, c) = .inl (aC t, c.length, .inr (.inr (.inr (.inr (mRf g c))))) := by
  unfold mEl mPay
  rw [if_neg (show ¬ t < 64 by omega), if_neg (show ¬ t = 65 by omega), if_pos h]
theorem mStep_multi (mL k pc nx : Nat) (L : MLoc) (st : List Value) (M : Mem) : mStep mL (.multianewarray k 2) pc nx L st M = (match st with
    | .int w :: .int n :: r => if 0 ≤ n.toInt ∧ n.toInt ≤ 1000 ∧ 0 ≤ w.toInt ∧ w.toInt ≤ 1000 ∧ k = 70 then some (nx, L, .ref M.length :: r, M ++ ((70, (List.range n.toInt.toNat).map (fun i => .ref (M.length + 1 + i))) :: List.replicate n.toInt.toNat (64, List.replicate w.toInt.toNat (.int 0)))) else none
    | _ => none) := rfl
/-- the machine stands in a method of ours -/
def mCx (p : Program) (s : State) (m : MethodId) (args : Array Value) (meth : Method) (c : Code) (q : MInf) (ini : Bool) (cd : MethodName × ByteArray × Nat × Option FieldType) : Prop :=
  p.tables.exec = Jvm.exec ∧ c.code = cd.2.1 ∧ c.maxLocals = q.2.1 ∧ s.vm.findClass (mOw q.2.2.2.1) = some m.cls ∧ (∀ w ∈ mTB, w.before args s = true) ∧ (ini = true → meth.name = "<init>") ∧ meth.sig.returnType = cd.2.2.2 ∧ meth.locks = false
/-- the memory M, as the cells of the heap H stand, in a method that began with n0 cells and sl0 slots -/
def mIn (g : MG) (D : va_G) (aC : Nat → ClassId) (scr : List Int32) (n0 sl0 : Nat) (M : Mem) (s : State) (H : Heap) (locs : List Loc) (cells slots : Nat) : Prop :=
  va_P D vwCl (mWs g aC M) H ∧ va_S (mA0 g) s.heap H locs ∧ (∃ r, M = (64, scr.map .int) :: (63, []) :: r) ∧ cells + n0 = M.length ∧ slots + sl0 = mSl M
theorem mI32_rep (n : Nat) : mI32 (List.replicate n (.int 0)) = fun _ => 0 := by
  funext i
  unfold mI32
  rw [List.getElem?_replicate]
  by_cases h : i < n
  · rw [if_pos h]
  · rw [if_neg h]
theorem mI64_rep (n : Nat) : mI64 (List.replicate n (.long 0)) = fun _ => 0 := by
  funext i
  unfold mI64
  rw [List.getElem?_replicate]
  by_cases h : i < n
  · rw [if_pos h]
  · rw [if_neg h]
theorem mRf_rep (g : MG) (n : Nat) : mRf g (List.replicate n .null) = fun _ => none := by
  funext i
  unfold mRf
  rw [List.getElem?_replicate]
  by_cases h : i < n
  · rw [if_pos h]
  · rw [if_neg h]
theorem mCv_def (g : MG) (t : FieldType) : mCv g (defaultValue t) = defaultValue t := by cases t <;> rfl
theorem mDef_len (ci : Nat) : (mDef ci).length = mN ci := by
  unfold mDef
  rw [List.length_map, List.length_range]
theorem mDef_at (g : MG) {ci k : Nat} (h : k < mN ci) : defaultValue (mTy ci k) = vp_V ((mDef ci).map (mCv g)) k := by
  unfold vp_V mDef
  rw [List.getD_eq_getElem?_getD, List.getElem?_map, List.getElem?_map, List.getElem?_range h]
  show _ = mCv g (defaultValue (mTy ci k))
  rw [mCv_def]
theorem mRf_rows (g : MG) {h0 n b : Nat} (hb : ∀ i, i < n → mAd g (b + i) = h0 + i) : mRf g ((List.range n).map (fun i => .ref (b + i))) = fun i => if i < n then some (h0 + i) else none := by
  funext i
  unfold mRf
  rw [List.getElem?_map]
  by_cases h : i < n
  · rw [List.getElem?_range h, if_pos h]
    show some (mAd g (b + i)) = _
    rw [hb i h]
  · rw [List.getElem?_eq_none (by rw [List.length_range]; omega), if_neg h]
    rfl
theorem mOuter (c : ClassId) (N h0 : Nat) : ∀ i : Nat, Jvm.Free.Multi.outerC c N h0 i = arrV c N (fun j => va_rf (if j < i then some (h0 + 1 + j) else none))
  | 0 => by
    show ({ cls := c, slots := Array.replicate N .null, vm := .none } : Cell) = _
    rw [arrV_new]
    refine congrArg (arrV c N) (funext fun j => ?_)
    simp [va_rf]
  | i + 1 => by
    show (Jvm.Free.Multi.outerC c N h0 i).setSlot i (.ref (h0 + 1 + i)) = _
    rw [mOuter c N h0 i, arrV_store]
    refine congrArg (arrV c N) (funext fun j => ?_)
    by_cases e : j = i
    · subst e
      simp [updV, va_rf]
    · by_cases h : j < i
      · simp [updV, e, h, Nat.lt_succ_of_lt h]
      · simp [updV, e, h, show ¬ j < i + 1 by omega]
/-- cells were made, behind all others -/
theorem mIn_app {s : State} {H H1 : Heap} {locs : List Loc} {cells slots : Nat} {g : MG} {D : va_G} {aC : Nat → ClassId} {scr : List Int32} {n0 sl0 : Nat} {M N : Mem} (hI : mIn g D aC scr n0 sl0 M s H locs cells slots) (hsz : H.size + 2 = g.1 + M.length) (hz : H1.size = H.size + N.length) (hold : ∀ q, q < H.size → H1[q]? = H[q]?)
    (hnew : ∀ (i : Nat) (x : MCell), N[i]? = some x → va_at D vwCl (H.size + i, mEl g aC x) H1) : mIn g D aC scr n0 sl0 (M ++ N) s H1 locs (cells + N.length) (slots + mSl N) := by
  obtain ⟨hP, hS, hsh, hc, hl⟩ := hI
  have h2 := mSh_len hsh
  refine ⟨?_, ⟨Nat.le_trans hS.1 (by omega), fun x h1 h3 => (hold x (Nat.lt_of_lt_of_le h1 hS.1)).trans (hS.2.1 x h1 h3), hS.2.2⟩, mSh_app hsh, by rw [List.length_append]; omega, by rw [mSl_app]; omega⟩
  rw [mWs_app h2]
  refine va_P.app (hP.kept (fun k x hx => hold x.1 ((hP k x hx).lt))) (fun k x hx => ?_)
  rw [List.getElem?_mapIdx] at hx
  obtain ⟨y, hy, rfl⟩ := Option.map_eq_some_iff.mp hx
  have := hnew k y hy
  rw [show g.1 + (M.length - 2 + k) = H.size + k by omega]
  exact this
section MSIM
variable {p : Program} {l : Launch} {e : Env} {R : Room} {s : State} {m : MethodId} {args : Array Value} {below : List Frame} {meth : Method} {c : Code} {H : Heap} {locs : List Loc} {cells slots : Nat} {Q : State → Prop}
variable {g : MG} {D : va_G} {aC : Nat → ClassId} {scr : List Int32} {q : MInf} {ini : Bool} {cd : MethodName × ByteArray × Nat × Option FieldType} {n0 sl0 : Nat}
theorem W_sized {f : JFrame} (k : H.size ≤ s.heap.size + cells → W p l e R s m args below meth c H locs cells slots Q f) : W p l e R s m args below meth c H locs cells slots Q f := fun T hT X => k (hT ▸ X.heapSize) T hT X
theorem mIn_size {M : Mem} (hI : mIn g D aC scr n0 sl0 M s H locs cells slots) (hz0 : s.heap.size + 2 = g.1 + n0) (hn0 : 2 ≤ n0) (hz : H.size ≤ s.heap.size + cells) : H.size + 2 = g.1 + M.length := by
  obtain ⟨hP, hS, hsh, hc, -⟩ := hI
  have h2 := mSh_len hsh
  have hlow : g.1 + M.length ≤ H.size + 2 := by
    rcases Nat.lt_or_ge 2 M.length with h3 | h3
    · obtain ⟨x, hx⟩ : ∃ x, M[M.length - 1]? = some x := ⟨M[M.length - 1], List.getElem?_eq_getElem (by omega)⟩
      have h5 := (hP _ _ (mWs_get (g := g) (aC := aC) hx (by omega))).lt
      have h6 : mAd g (M.length - 1) < H.size := h5
      rw [mAd_ge (by omega)] at h6
      omega
    · have := hS.1
      omega
  omega
/-- a cell was written -/
theorem mIn_set {M : Mem} {a t t' : Nat} {x x' : List Value} {H1 : Heap} {locs1 : List Loc} (hI : mIn g D aC scr n0 sl0 M s H locs cells slots) (h2 : 2 ≤ a) (hm : M[a]? = some (t, x)) (hl : x'.length = x.length) (hP : va_P D vwCl ((mWs g aC M).set (a - 2) (mAd g a, mEl g aC (t', x'))) H1) (hS : va_S (mA0 g) s.heap H1 locs1) : mIn g D aC scr n0 sl0 (M.set a (t', x')) s H1 locs1 cells slots := by
  obtain ⟨-, -, h3, h4, h5⟩ := hI
  exact ⟨by rw [mWs_set h2]; exact hP, hS, mSh_set h3 h2, by rw [List.length_set]; exact h4, by rw [mSl_set hm hl]; exact h5⟩
set_option maxHeartbeats 16000000 in
set_option maxRecDepth 100000 in
theorem mStep_sim {pc len : Nat} {i0 ins : Instr} {L L' : MLoc} {st st' : List Value} {M M' : Mem} {pc' : Nat} {ls : Array Slot} (hc : mCx p s m args meth c q ini cd) (hF : mFx g D aC scr s s.heap) (hz0 : s.heap.size + 2 = g.1 + n0) (hn0 : 2 ≤ n0)
    (hd : decode cd.2.1 pc = .ok (i0, len)) (hn : mNrm q.2.2.2.1 ini len i0 = some ins) (hs : mStep q.2.1 ins pc (pc + len) L st M = some (pc', L', st', M'))
    (hI : mIn g D aC scr n0 sl0 M s H locs cells slots) (hl : lv_has ls q.2.1 (mCL g L)) (hR : M'.length ≤ R.cells + n0 ∧ mSl M' ≤ R.slots + sl0)
    (kk : ∀ (ls' : Array Slot) (H' : Heap) (locs' : List Loc) (cells' slots' : Nat), mIn g D aC scr n0 sl0 M' s H' locs' cells' slots' → lv_has ls' q.2.1 (mCL g L') → W p l e R s m args below meth c H' locs' cells' slots' Q (F0 m pc' ls' (st'.map (mCv g)))) :
    W p l e R s m args below meth c H locs cells slots Q (F0 m pc ls (st.map (mCv g))) := by
  obtain ⟨hx, hb, hml, hown, hts, hini, hr, hlocks⟩ := id hc
  obtain ⟨hK, hX, hbs, hNw, hStr⟩ := id hF
  obtain ⟨hP, hS, hsh, hcl, hsl⟩ := id hI
  have hDD := mWs_D g aC M
  cases i0 with
  | iconst v =>
    obtain ⟨rfl, rfl⟩ := mIf hn
    cases hs
    exact lv_iconst hx hb hd rfl (kk ls H locs cells slots hI hl)
  | bipush v =>
    obtain ⟨⟨rfl, h1⟩, rfl⟩ := mIf hn
    cases hs
    exact lv_bipush hx hb hd h1 (kk ls H locs cells slots hI hl)
  | sipush v =>
    obtain ⟨⟨rfl, h1⟩, rfl⟩ := mIf hn
    cases hs
    exact lv_sipush hx hb hd h1 (kk ls H locs cells slots hI hl)
  | ldc i =>
    obtain ⟨rfl, h1⟩ := mIfO hn
    split at h1
    · rename_i h2
      cases h1
      cases hs
      have hown5 : s.vm.findClass RX5 = some m.cls := by rw [h2.1] at hown; exact hown
      have hR5 := hStr.1
      rw [h2.2] at hd
      exact va_ldcS hx hb hown5 hR5 hd (kk ls H locs cells slots hI hl)
    · obtain ⟨v, hv, rfl⟩ := Option.map_eq_some_iff.mp h1
      cases hs
      exact lv_ldc hx hb hown (hts _ (mK_ok hv)) hd (kk ls H locs cells slots hI hl)
  | ldc_w i =>
    obtain ⟨rfl, h1⟩ := mIfO hn
    obtain ⟨v, hv, rfl⟩ := Option.map_eq_some_iff.mp h1
    cases hs
    exact lv_ldcw hx hb hown (hts _ (mK_ok hv)) hd (kk ls H locs cells slots hI hl)
  | ldc2_w i =>
    obtain ⟨rfl, h1⟩ := mIfO hn
    obtain ⟨v, hv, rfl⟩ := Option.map_eq_some_iff.mp h1
    cases hs
    exact lv_ldc2 hx hb hown (hts _ (mLg_ok hv)) hd (kk ls H locs cells slots hI hl)
  | lconst n =>
    obtain ⟨rfl, rfl⟩ := mIf hn
    cases hs
    refine lv_lconst hx hb hd (v := mKL.getD n.val 0) ?_ (kk ls H locs cells slots hI hl)
    match n with
    | 0 => rfl
    | 1 => rfl
  | iload i =>
    obtain ⟨rfl, rfl⟩ := mIf hn
    unfold mStep at hs
    dsimp only at hs
    split at hs
    · rename_i x hxv
      cases hs
      exact lv_iload hx hb hd (mLd_ok hl hxv) (kk ls H locs cells slots hI hl)
    · cases hs
  | istore i =>
    obtain ⟨rfl, rfl⟩ := mIf hn
    unfold mStep at hs
    dsimp only at hs
    split at hs
    · rename_i x r
      obtain ⟨hlt, h2⟩ := mIf hs
      cases h2
      exact lv_istore (nL := q.2.1) hx hb hd hl hlt (mSt1_cv g L _ (.int x)) (fun ls' hl' => kk ls' H locs cells slots hI hl')
    · cases hs
  | iload_n i =>
    obtain ⟨rfl, rfl⟩ := mIf hn
    unfold mStep at hs
    dsimp only at hs
    split at hs
    · rename_i x hxv
      cases hs
      exact lv_iload_n hx hb hd rfl (mLd_ok hl hxv) (kk ls H locs cells slots hI hl)
    · cases hs
  | istore_n i =>
    obtain ⟨rfl, rfl⟩ := mIf hn
    unfold mStep at hs
    dsimp only at hs
    split at hs
    · rename_i x r
      obtain ⟨hlt, h2⟩ := mIf hs
      cases h2
      exact lv_istore_n (nL := q.2.1) hx hb hd rfl hl hlt (mSt1_cv g L _ (.int x)) (fun ls' hl' => kk ls' H locs cells slots hI hl')
    · cases hs
  | lload i =>
    obtain ⟨rfl, rfl⟩ := mIf hn
    unfold mStep at hs
    dsimp only at hs
    split at hs
    · rename_i x hxv
      cases hs
      exact lv_lload hx hb hd (mLd_ok hl hxv) (kk ls H locs cells slots hI hl)
    · cases hs
  | lstore i =>
    obtain ⟨rfl, rfl⟩ := mIf hn
    unfold mStep at hs
    dsimp only at hs
    split at hs
    · rename_i x r
      obtain ⟨hlt, h2⟩ := mIf hs
      cases h2
      exact lv_lstore (nL := q.2.1) hx hb hd hl hlt (mSt2_cv g L _ (.long x)) (fun ls' hl' => kk ls' H locs cells slots hI hl')
    · cases hs
  | lload_n i =>
    obtain ⟨rfl, rfl⟩ := mIf hn
    unfold mStep at hs
    dsimp only at hs
    split at hs
    · rename_i x hxv
      cases hs
      exact lv_lload_n hx hb hd rfl (mLd_ok hl hxv) (kk ls H locs cells slots hI hl)
    · cases hs
  | lstore_n i =>
    obtain ⟨rfl, rfl⟩ := mIf hn
    unfold mStep at hs
    dsimp only at hs
    split at hs
    · rename_i x r
      obtain ⟨hlt, h2⟩ := mIf hs
      cases h2
      exact lv_lstore_n (nL := q.2.1) hx hb hd rfl hl hlt (mSt2_cv g L _ (.long x)) (fun ls' hl' => kk ls' H locs cells slots hI hl')
    · cases hs
  | aload i =>
    obtain ⟨rfl, rfl⟩ := mIf hn
    unfold mStep at hs
    dsimp only at hs
    split at hs
    · rename_i x hxv
      cases hs
      exact lv_aload hx hb hd (mLd_ok hl hxv) (kk ls H locs cells slots hI hl)
    · cases hs
  | astore i =>
    obtain ⟨rfl, rfl⟩ := mIf hn
    unfold mStep at hs
    dsimp only at hs
    split at hs
    · rename_i x r
      obtain ⟨hlt, h2⟩ := mIf hs
      cases h2
      exact lv_astore (nL := q.2.1) hx hb hd hl hlt (mSt1_cv g L _ (.ref x)) (fun ls' hl' => kk ls' H locs cells slots hI hl')
    · cases hs
  | aload_n i =>
    obtain ⟨rfl, rfl⟩ := mIf hn
    unfold mStep at hs
    dsimp only at hs
    split at hs
    · rename_i x hxv
      cases hs
      exact lv_aload_n hx hb hd rfl (mLd_ok hl hxv) (kk ls H locs cells slots hI hl)
    · cases hs
  | astore_n i =>
    obtain ⟨rfl, rfl⟩ := mIf hn
    unfold mStep at hs
    dsimp only at hs
    split at hs
    · rename_i x r
      obtain ⟨hlt, h2⟩ := mIf hs
      cases h2
      exact lv_astore_n (nL := q.2.1) hx hb hd rfl hl hlt (mSt1_cv g L _ (.ref x)) (fun ls' hl' => kk ls' H locs cells slots hI hl')
    · cases hs
  | iinc i n =>
    obtain ⟨rfl, rfl⟩ := mIf hn
    unfold mStep at hs
    dsimp only at hs
    split at hs
    · rename_i x hxv
      obtain ⟨hlt, h2⟩ := mIf hs
      cases h2
      unfold mLd at hxv
      obtain ⟨w, hw, hw2⟩ := Option.map_eq_some_iff.mp hxv
      have hwm := List.mem_of_find?_eq_some hw
      have hwe : w.1 = i := by simpa using List.find?_some hw
      have hm : (i, Value.int x) ∈ mCL g L := List.mem_map.mpr ⟨w, hwm, by rw [hwe, hw2]; rfl⟩
      obtain ⟨k, hk⟩ := List.getElem?_of_mem hm
      exact lv_iinc hx hb hd hl hk rfl hlt (mSt1_cv g L i (.int (x + Int32.ofInt n))) (fun ls' hl' => kk ls' H locs cells slots hI hl')
    · cases hs
  | iadd =>
    obtain ⟨rfl, rfl⟩ := mIf hn
    obtain ⟨x, y, r, rfl, rfl, rfl, rfl, rfl⟩ := mBin_ok hs
    exact lv_iadd hx hb hd (kk ls H locs cells slots hI hl)
  | isub =>
    obtain ⟨rfl, rfl⟩ := mIf hn
    obtain ⟨x, y, r, rfl, rfl, rfl, rfl, rfl⟩ := mBin_ok hs
    exact lv_isub hx hb hd (kk ls H locs cells slots hI hl)
  | imul =>
    obtain ⟨rfl, rfl⟩ := mIf hn
    obtain ⟨x, y, r, rfl, rfl, rfl, rfl, rfl⟩ := mBin_ok hs
    exact lv_imul hx hb hd (kk ls H locs cells slots hI hl)
  | iand =>
    obtain ⟨rfl, rfl⟩ := mIf hn
    obtain ⟨x, y, r, rfl, rfl, rfl, rfl, rfl⟩ := mBin_ok hs
    exact lv_iand hx hb hd (kk ls H locs cells slots hI hl)
  | ior =>
    obtain ⟨rfl, rfl⟩ := mIf hn
    obtain ⟨x, y, r, rfl, rfl, rfl, rfl, rfl⟩ := mBin_ok hs
    exact lv_ior hx hb hd (kk ls H locs cells slots hI hl)
  | ixor =>
    obtain ⟨rfl, rfl⟩ := mIf hn
    obtain ⟨x, y, r, rfl, rfl, rfl, rfl, rfl⟩ := mBin_ok hs
    exact lv_ixor hx hb hd (kk ls H locs cells slots hI hl)
  | ishl =>
    obtain ⟨rfl, rfl⟩ := mIf hn
    obtain ⟨x, y, r, rfl, rfl, rfl, rfl, rfl⟩ := mBin_ok hs
    exact lv_ishl hx hb hd (kk ls H locs cells slots hI hl)
  | ishr =>
    obtain ⟨rfl, rfl⟩ := mIf hn
    obtain ⟨x, y, r, rfl, rfl, rfl, rfl, rfl⟩ := mBin_ok hs
    exact lv_ishr hx hb hd (kk ls H locs cells slots hI hl)
  | iushr =>
    obtain ⟨rfl, rfl⟩ := mIf hn
    obtain ⟨x, y, r, rfl, rfl, rfl, rfl, rfl⟩ := mBin_ok hs
    exact lv_iushr hx hb hd rfl (kk ls H locs cells slots hI hl)
  | idiv =>
    obtain ⟨rfl, rfl⟩ := mIf hn
    unfold mStep at hs
    dsimp only at hs
    split at hs
    · split at hs
      · cases hs
      · rename_i hne
        cases hs
        exact lv_idiv hx hb hd hne (kk ls H locs cells slots hI hl)
    · cases hs
  | irem =>
    obtain ⟨rfl, rfl⟩ := mIf hn
    unfold mStep at hs
    dsimp only at hs
    split at hs
    · split at hs
      · cases hs
      · rename_i hne
        cases hs
        exact lv_irem hx hb hd hne (kk ls H locs cells slots hI hl)
    · cases hs
  | ineg =>
    obtain ⟨rfl, rfl⟩ := mIf hn
    obtain ⟨x, r, rfl, rfl, rfl, rfl, rfl⟩ := mUn_ok hs
    exact lv_ineg hx hb hd (kk ls H locs cells slots hI hl)
  | i2l =>
    obtain ⟨rfl, rfl⟩ := mIf hn
    obtain ⟨x, r, rfl, rfl, rfl, rfl, rfl⟩ := mUn_ok hs
    exact lv_i2l hx hb hd rfl (kk ls H locs cells slots hI hl)
  | i2b =>
    obtain ⟨rfl, rfl⟩ := mIf hn
    obtain ⟨x, r, rfl, rfl, rfl, rfl, rfl⟩ := mUn_ok hs
    exact lv_i2b hx hb hd rfl (kk ls H locs cells slots hI hl)
  | i2c =>
    obtain ⟨rfl, rfl⟩ := mIf hn
    obtain ⟨x, r, rfl, rfl, rfl, rfl, rfl⟩ := mUn_ok hs
    exact lv_i2c hx hb hd rfl (kk ls H locs cells slots hI hl)
  | l2i =>
    obtain ⟨rfl, rfl⟩ := mIf hn
    unfold mStep at hs
    dsimp only at hs
    split at hs
    · cases hs
      exact lv_l2i hx hb hd rfl (kk ls H locs cells slots hI hl)
    · cases hs
  | ladd =>
    obtain ⟨rfl, rfl⟩ := mIf hn
    obtain ⟨x, y, r, rfl, rfl, rfl, rfl, rfl⟩ := mBinL_ok hs
    exact lv_ladd hx hb hd (kk ls H locs cells slots hI hl)
  | lsub =>
    obtain ⟨rfl, rfl⟩ := mIf hn
    obtain ⟨x, y, r, rfl, rfl, rfl, rfl, rfl⟩ := mBinL_ok hs
    exact lv_lsub hx hb hd (kk ls H locs cells slots hI hl)
  | land =>
    obtain ⟨rfl, rfl⟩ := mIf hn
    obtain ⟨x, y, r, rfl, rfl, rfl, rfl, rfl⟩ := mBinL_ok hs
    exact lv_land hx hb hd (kk ls H locs cells slots hI hl)
  | lor =>
    obtain ⟨rfl, rfl⟩ := mIf hn
    obtain ⟨x, y, r, rfl, rfl, rfl, rfl, rfl⟩ := mBinL_ok hs
    exact lv_lor hx hb hd (kk ls H locs cells slots hI hl)
  | lxor =>
    obtain ⟨rfl, rfl⟩ := mIf hn
    obtain ⟨x, y, r, rfl, rfl, rfl, rfl, rfl⟩ := mBinL_ok hs
    exact lv_lxor hx hb hd (kk ls H locs cells slots hI hl)
  | lshl =>
    obtain ⟨rfl, rfl⟩ := mIf hn
    obtain ⟨x, y, r, rfl, rfl, rfl, rfl, rfl⟩ := mShL_ok hs
    exact lv_lshl hx hb hd rfl (kk ls H locs cells slots hI hl)
  | lshr =>
    obtain ⟨rfl, rfl⟩ := mIf hn
    obtain ⟨x, y, r, rfl, rfl, rfl, rfl, rfl⟩ := mShL_ok hs
    exact lv_lshr hx hb hd rfl (kk ls H locs cells slots hI hl)
  | lushr =>
    obtain ⟨rfl, rfl⟩ := mIf hn
    obtain ⟨x, y, r, rfl, rfl, rfl, rfl, rfl⟩ := mShL_ok hs
    exact lv_lushr hx hb hd rfl (kk ls H locs cells slots hI hl)
  | lcmp =>
    obtain ⟨rfl, rfl⟩ := mIf hn
    unfold mStep at hs
    dsimp only at hs
    split at hs
    · cases hs
      exact W.lcmp hx hb hd (kk ls H locs cells slots hI hl)
    · cases hs
  | dup =>
    obtain ⟨rfl, rfl⟩ := mIf hn
    unfold mStep at hs
    dsimp only at hs
    split at hs
    · obtain ⟨hv, h2⟩ := mIf hs
      cases h2
      exact lv_dup hx hb hd (by rw [mCv_cat]; exact hv) (kk ls H locs cells slots hI hl)
    · cases hs
  | pop =>
    obtain ⟨rfl, rfl⟩ := mIf hn
    unfold mStep at hs
    dsimp only at hs
    split at hs
    · obtain ⟨hv, h2⟩ := mIf hs
      cases h2
      exact lv_pop hx hb hd (by rw [mCv_cat]; exact hv) (kk ls H locs cells slots hI hl)
    · cases hs
  | pop2 =>
    obtain ⟨rfl, rfl⟩ := mIf hn
    unfold mStep at hs
    dsimp only at hs
    split at hs
    · cases hs
      exact lv_pop2_2 hx hb hd rfl (kk ls H locs cells slots hI hl)
    · cases hs
  | dup2 =>
    obtain ⟨rfl, rfl⟩ := mIf hn
    unfold mStep at hs
    dsimp only at hs
    split at hs
    · obtain ⟨⟨hv, hw⟩, h2⟩ := mIf hs
      cases h2
      exact lv_dup2_11 hx hb hd (by rw [mCv_cat]; exact hv) (by rw [mCv_cat]; exact hw) (kk ls H locs cells slots hI hl)
    · cases hs
  | goto o =>
    obtain ⟨rfl, rfl⟩ := mIf hn
    unfold mStep at hs
    dsimp only at hs
    split at hs
    · rename_i t ht
      cases hs
      exact lv_goto hx hb hd (mJmp_ok ht) (kk ls H locs cells slots hI hl)
    · cases hs
  | ifCond k o =>
    obtain ⟨rfl, rfl⟩ := mIf hn
    unfold mStep at hs
    dsimp only at hs
    split at hs
    · rename_i x r t ht
      cases hs
      have ht := mJmp_ok ht
      cases k with
      | eq => exact lv_if_eq hx hb hd ht (fun hk => by have kk := kk ls H locs cells slots hI hl; rw [if_pos (show mCond .eq x 0 = true from decide_eq_true hk)] at kk; exact kk) (fun hk => by have kk := kk ls H locs cells slots hI hl; rw [if_neg (show ¬ mCond .eq x 0 = true from fun h => hk (of_decide_eq_true h))] at kk; exact kk)
      | ne => exact lv_if_ne hx hb hd ht (fun hk => by have kk := kk ls H locs cells slots hI hl; rw [if_pos (show mCond .ne x 0 = true from decide_eq_true hk)] at kk; exact kk) (fun hk => by have kk := kk ls H locs cells slots hI hl; rw [if_neg (show ¬ mCond .ne x 0 = true from fun h => (of_decide_eq_true h) hk)] at kk; exact kk)
      | lt => exact lv_if_lt hx hb hd ht (fun hk => by have kk := kk ls H locs cells slots hI hl; rw [if_pos (show mCond .lt x 0 = true from decide_eq_true hk)] at kk; exact kk) (fun hk => by have kk := kk ls H locs cells slots hI hl; rw [if_neg (show ¬ mCond .lt x 0 = true from fun h => hk (of_decide_eq_true h))] at kk; exact kk)
      | ge => exact lv_if_ge hx hb hd ht (fun hk => by have kk := kk ls H locs cells slots hI hl; rw [if_pos (show mCond .ge x 0 = true from decide_eq_true hk)] at kk; exact kk) (fun hk => by have kk := kk ls H locs cells slots hI hl; rw [if_neg (show ¬ mCond .ge x 0 = true from fun h => hk (of_decide_eq_true h))] at kk; exact kk)
      | gt => exact lv_if_gt hx hb hd ht (fun hk => by have kk := kk ls H locs cells slots hI hl; rw [if_pos (show mCond .gt x 0 = true from decide_eq_true hk)] at kk; exact kk) (fun hk => by have kk := kk ls H locs cells slots hI hl; rw [if_neg (show ¬ mCond .gt x 0 = true from fun h => hk (of_decide_eq_true h))] at kk; exact kk)
      | le => exact lv_if_le hx hb hd ht (fun hk => by have kk := kk ls H locs cells slots hI hl; rw [if_pos (show mCond .le x 0 = true from decide_eq_true hk)] at kk; exact kk) (fun hk => by have kk := kk ls H locs cells slots hI hl; rw [if_neg (show ¬ mCond .le x 0 = true from fun h => hk (of_decide_eq_true h))] at kk; exact kk)
    · cases hs
  | if_icmp k o =>
    obtain ⟨rfl, rfl⟩ := mIf hn
    unfold mStep at hs
    dsimp only at hs
    split at hs
    · rename_i y x r t ht
      cases hs
      have ht := mJmp_ok ht
      cases k with
      | eq => exact lv_icmp_eq hx hb hd ht (fun hk => by have kk := kk ls H locs cells slots hI hl; rw [if_pos (show mCond .eq x y = true from decide_eq_true hk)] at kk; exact kk) (fun hk => by have kk := kk ls H locs cells slots hI hl; rw [if_neg (show ¬ mCond .eq x y = true from fun h => hk (of_decide_eq_true h))] at kk; exact kk)
      | ne => exact lv_icmp_ne hx hb hd ht (fun hk => by have kk := kk ls H locs cells slots hI hl; rw [if_pos (show mCond .ne x y = true from decide_eq_true hk)] at kk; exact kk) (fun hk => by have kk := kk ls H locs cells slots hI hl; rw [if_neg (show ¬ mCond .ne x y = true from fun h => (of_decide_eq_true h) hk)] at kk; exact kk)
      | lt => exact lv_icmp_lt hx hb hd ht (fun hk => by have kk := kk ls H locs cells slots hI hl; rw [if_pos (show mCond .lt x y = true from decide_eq_true hk)] at kk; exact kk) (fun hk => by have kk := kk ls H locs cells slots hI hl; rw [if_neg (show ¬ mCond .lt x y = true from fun h => hk (of_decide_eq_true h))] at kk; exact kk)
      | ge => exact lv_icmp_ge hx hb hd ht (fun hk => by have kk := kk ls H locs cells slots hI hl; rw [if_pos (show mCond .ge x y = true from decide_eq_true hk)] at kk; exact kk) (fun hk => by have kk := kk ls H locs cells slots hI hl; rw [if_neg (show ¬ mCond .ge x y = true from fun h => hk (of_decide_eq_true h))] at kk; exact kk)
      | gt => exact lv_icmp_gt hx hb hd ht (fun hk => by have kk := kk ls H locs cells slots hI hl; rw [if_pos (show mCond .gt x y = true from decide_eq_true hk)] at kk; exact kk) (fun hk => by have kk := kk ls H locs cells slots hI hl; rw [if_neg (show ¬ mCond .gt x y = true from fun h => hk (of_decide_eq_true h))] at kk; exact kk)
      | le => exact lv_icmp_le hx hb hd ht (fun hk => by have kk := kk ls H locs cells slots hI hl; rw [if_pos (show mCond .le x y = true from decide_eq_true hk)] at kk; exact kk) (fun hk => by have kk := kk ls H locs cells slots hI hl; rw [if_neg (show ¬ mCond .le x y = true from fun h => hk (of_decide_eq_true h))] at kk; exact kk)
    · cases hs
  | tableswitch dd lo hi offs =>
    cases hn
    unfold mStep at hs
    dsimp only at hs
    split at hs
    · rename_i x r
      split at hs
      · rename_i o ho
        split at hs
        · rename_i t ht
          cases hs
          have ht := mJmp_ok ht
          split at ho
          · rename_i hout
            cases ho
            exact lv_tableOut hx hb hd hout ht (kk ls H locs cells slots hI hl)
          · rename_i hin
            exact lv_tableIn hx hb hd (fun h => hin (Or.inl h)) (fun h => hin (Or.inr h)) ho ht (kk ls H locs cells slots hI hl)
        · cases hs
      · cases hs
    · cases hs
  | lookupswitch dd ps =>
    obtain ⟨hp, rfl⟩ := mIf hn
    unfold mStep at hs
    dsimp only at hs
    split at hs
    · rename_i x r
      split at hs
      · rename_i t ht
        cases hs
        exact lv_lookup hx hb hd hp rfl (mJmp_ok ht) (kk ls H locs cells slots hI hl)
      · cases hs
    · cases hs
  | getfield i =>
    obtain ⟨rfl, h1⟩ := mIfO hn
    obtain ⟨j, hj, rfl⟩ := Option.map_eq_some_iff.mp h1
    obtain ⟨hlk, hci, hkn⟩ := mF_ok hj
    unfold mStep at hs
    dsimp only at hs
    split at hs
    · rename_i a r
      split at hs
      · rename_i t fs hm
        obtain ⟨⟨ht, -⟩, h2⟩ := mIfO hs
        subst ht
        split at h2
        · rename_i v hv
          cases h2
          have ha := mSh_ge' hsh hm (by omega) (by omega)
          obtain ⟨cq, hcq, hok⟩ := mCl_ok hci
          have hg := mWs_get (g := g) (aC := aC) hm ha
          rw [mEl_obj hci] at hg
          unfold mFC at hlk
          rw [hcq] at hlk
          exact va_get (D := D) (ci := j / 100) (C := cq.1) (T := cq.2.1) (N := cq.2.2) hx hb hts hok.1 hown hK hP (a - 2) hg hcq (j % 100) (by rw [hok.2.2.2.1]; exact hkn) (hts _ hlk) (fun _ h => h) (by rw [List.getElem?_map, hv]; rfl) hd (kk ls H locs cells slots hI hl)
        · cases h2
      · cases hs
    · cases hs
  | putfield i =>
    obtain ⟨rfl, h1⟩ := mIfO hn
    split at h1
    · rename_i j hj
      split at h1
      · cases h1
      · rename_i hfin
        cases h1
        obtain ⟨hlk, hci, hkn⟩ := mF_ok hj
        unfold mStep at hs
        dsimp only at hs
        split at hs
        · rename_i v a r
          split at hs
          · rename_i t fs hm
            obtain ⟨⟨ht, -, hlen, hok1⟩, h2⟩ := mIf hs
            subst ht
            cases h2
            have ha := mSh_ge' hsh hm (by omega) (by omega)
            obtain ⟨cq, hcq, hok⟩ := mCl_ok hci
            have hg := mWs_get (g := g) (aC := aC) hm ha
            rw [mEl_obj hci] at hg
            unfold mFC at hlk
            rw [hcq] at hlk
            obtain ⟨hnar, hfit⟩ := mOkF_ok (g := g) hok1
            have hkN : j % 100 < cq.2.2 := by rw [hok.2.2.2.1]; exact hkn
            have fin : ∀ (H1 : Heap) (locs1 : List Loc), va_P D vwCl ((mWs g aC M).set (a - 2) (mAd g a, .inr (j / 100, (fs.map (mCv g)).set (j % 100) (mCv g v)))) H1 → va_D (mA0 g) ((mWs g aC M).set (a - 2) (mAd g a, .inr (j / 100, (fs.map (mCv g)).set (j % 100) (mCv g v)))) → va_S (mA0 g) s.heap H1 locs1 → W p l e R s m args below meth c H1 locs1 cells slots Q (F0 m (pc + 3) ls (List.map (mCv g) st')) := by
              intro H1 locs1 hP1 _ hS1
              refine kk ls H1 locs1 cells slots (mIn_set hI ha hm (List.length_set ..) ?_ hS1) hl
              rw [mEl_obj hci, List.map_set]
              exact hP1
            cases hf : (cq.2.1 (j % 100)).2.2.2 with
            | false => exact va_put (D := D) (ci := j / 100) (C := cq.1) (T := cq.2.1) (N := cq.2.2) hx hb hts hok.1 (mTy (j / 100)) hok.2.1 hok.2.2.1 hown hK hP hDD hS (a - 2) hg hcq (j % 100) hkN (hts _ hlk) (fun _ h => h) hf (hok.2.1 _ hkN) hnar hfit (by rw [List.length_map]; exact hlen) hd fin
            | true =>
              have hmf : mFin j = true := by
                unfold mFin
                rw [hcq]
                exact hf
              have hii : ini = true ∧ q.2.2.2.1 = j / 100 := Decidable.not_not.mp (fun h => hfin ⟨hmf, h⟩)
              exact va_putF (D := D) (ci := j / 100) (C := cq.1) (T := cq.2.1) (N := cq.2.2) hx hb hts hok.1 (mTy (j / 100)) hok.2.1 hok.2.2.1 hown hK hP hDD hS (a - 2) hg hcq (j % 100) hkN (hts _ hlk) (fun _ h => h) hf (hini hii.1) (by rw [hok.2.2.2.2.2.2.2 _ hkN, hok.2.2.2.2.1, hii.2]) (hok.2.1 _ hkN) hnar hfit (by rw [List.length_map]; exact hlen) hd fin
          · cases hs
        · cases hs
    · cases h1
  | iaload =>
    obtain ⟨rfl, rfl⟩ := mIf hn
    obtain ⟨i, a, r, t, x, j, v, rfl, hm, hix, hv, hok, rfl, rfl, rfl, rfl⟩ := mAld_ok hs
    obtain ⟨hin, hj, hlt⟩ := mIx_ok hix
    rw [Bool.and_eq_true, beq_iff_eq] at hok
    obtain ⟨rfl, hvi⟩ := hok
    cases v with
    | int y =>
      by_cases ha0 : a = 0
      · subst ha0
        obtain ⟨rr, rfl⟩ := hsh
        cases hm
        obtain ⟨cs, h1, h2, h3, h4, h5⟩ := hX
        rw [List.length_map] at hin hlt
        have hbl : g.2.1 < s.heap.size := (Array.getElem?_eq_some_iff.mp h1).1
        have hcell : H[g.2.1]? = some cs := by rw [hS.2.1 _ hbl (by show ¬ g.1 ≤ g.2.1; omega)]; exact h1
        have hy : scr.getD j 0 = y := by
          rw [List.getElem?_map] at hv
          obtain ⟨z, hz, hzy⟩ := Option.map_eq_some_iff.mp hv
          cases hzy
          rw [List.getD_eq_getElem?_getD, hz]
          rfl
        exact W.iald (v := .int y) hx hb hcell h2 h3 (by rw [h4]; exact hin) (by rw [hj, h5 j hlt]; exact congrArg (fun z => some (Value.int z)) hy) rfl rfl hd (kk ls H locs cells slots hI hl)
      · have ha := mSh_ge hsh hm (by omega) ha0
        have hg := mWs_get (g := g) (aC := aC) hm ha
        rw [mEl_i (Or.inl rfl)] at hg
        refine va_iald (D := D) hx hb hK hP (a - 2) 0 hg rfl hin hd ?_
        have hy : mI32 x i.toNatClampNeg = y := by rw [hj]; unfold mI32; rw [hv]
        rw [hy]
        exact kk ls H locs cells slots hI hl
    | _ => cases hvi
  | baload =>
    obtain ⟨rfl, rfl⟩ := mIf hn
    obtain ⟨i, a, r, t, x, j, v, rfl, hm, hix, hv, hok, rfl, rfl, rfl, rfl⟩ := mAld_ok hs
    obtain ⟨hin, hj, hlt⟩ := mIx_ok hix
    rw [Bool.and_eq_true, Bool.or_eq_true, beq_iff_eq, beq_iff_eq] at hok
    obtain ⟨ht, hvi⟩ := hok
    cases v with
    | int y =>
      have ha := mSh_ge' hsh hm (by omega) (by omega)
      have hg := mWs_get (g := g) (aC := aC) hm ha
      rw [mEl_i (Or.inr ht)] at hg
      have hy : mI32 x i.toNatClampNeg = y := by rw [hj]; unfold mI32; rw [hv]
      rcases ht with rfl | rfl
      · refine va_bald (D := D) hx hb hK hP (a - 2) 2 hg rfl hin hd ?_
        rw [hy]
        exact kk ls H locs cells slots hI hl
      · refine va_zald (D := D) hx hb hK hP (a - 2) 3 hg rfl hin hd ?_
        rw [hy]
        exact kk ls H locs cells slots hI hl
    | _ => cases hvi
  | laload =>
    obtain ⟨rfl, rfl⟩ := mIf hn
    obtain ⟨i, a, r, t, x, j, v, rfl, hm, hix, hv, hok, rfl, rfl, rfl, rfl⟩ := mAld_ok hs
    obtain ⟨hin, hj, hlt⟩ := mIx_ok hix
    rw [Bool.and_eq_true, beq_iff_eq] at hok
    obtain ⟨rfl, hvi⟩ := hok
    cases v with
    | long y =>
      have ha := mSh_ge' hsh hm (by omega) (by omega)
      have hg := mWs_get (g := g) (aC := aC) hm ha
      rw [mEl_l] at hg
      have hy : mI64 x i.toNatClampNeg = y := by rw [hj]; unfold mI64; rw [hv]
      refine va_lald (D := D) hx hb hK hP (a - 2) 1 hg rfl hin hd ?_
      rw [hy]
      exact kk ls H locs cells slots hI hl
    | _ => cases hvi
  | aaload =>
    obtain ⟨rfl, rfl⟩ := mIf hn
    obtain ⟨i, a, r, t, x, j, v, rfl, hm, hix, hv, hok, rfl, rfl, rfl, rfl⟩ := mAld_ok hs
    obtain ⟨hin, hj, hlt⟩ := mIx_ok hix
    rw [Bool.and_eq_true, Bool.or_eq_true, Bool.or_eq_true, beq_iff_eq, beq_iff_eq, beq_iff_eq] at hok
    obtain ⟨ht, hvi⟩ := hok
    cases v with
    | ref y =>
      have ha := mSh_ge' hsh hm (by omega) (by omega)
      have hg := mWs_get (g := g) (aC := aC) hm ha
      rw [mEl_r (by omega)] at hg
      have hy : mRf g x i.toNatClampNeg = some (mAd g y) := by rw [hj]; unfold mRf; rw [hv]
      rcases ht with (rfl | rfl) | rfl
      · refine va_aldq (D := D) hx hb hK hP (a - 2) 4 hg rfl hin hd ?_
        rw [hy]
        exact kk ls H locs cells slots hI hl
      · refine va_aldq (D := D) hx hb hK hP (a - 2) 5 hg rfl hin hd ?_
        rw [hy]
        exact kk ls H locs cells slots hI hl
      · have hlt2 : i.toNatClampNeg < x.length := by rw [hj]; exact hlt
        refine W.aald (v := va_rf (mRf g x i.toNatClampNeg)) (ty := .array .int) hx hb (hP (a - 2) _ hg) ((hK.2 6 _ rfl).1 x.length (fun j => va_rf (mRf g x j))) rfl (fun q => by cases q) (by show ¬ (i < 0 ∨ (arrV _ _ _).slots.size ≤ _); rw [arrV_size]; exact hin) (by show (arrV _ _ _).slots[_]? = _; rw [arrV_read _ _ hlt2]) rfl rfl hd ?_
        rw [hy]
        exact kk ls H locs cells slots hI hl
    | _ => cases hvi
  | iastore =>
    obtain ⟨rfl, rfl⟩ := mIf hn
    obtain ⟨v, i, a, r, t, x, j, w, rfl, hm, hix, hf, ha0, rfl, rfl, rfl, rfl⟩ := mAst_ok hs
    obtain ⟨hin, hj, hlt⟩ := mIx_ok hix
    obtain ⟨⟨rfl, hvi⟩, rfl⟩ := mIf hf
    cases v with
    | int y =>
      have ha := mSh_ge hsh hm (by omega) ha0
      have hg := mWs_get (g := g) (aC := aC) hm ha
      rw [mEl_i (Or.inl rfl)] at hg
      refine va_iast (D := D) hx hb hK hP hDD hS (a - 2) 0 hg rfl hin hd fun H1 locs1 hP1 _ hS1 => ?_
      refine kk ls H1 locs1 cells slots (mIn_set hI ha hm (List.length_set ..) ?_ hS1) hl
      rw [mEl_i (Or.inl rfl), mI32_set hlt, List.length_set, ← hj]
      exact hP1
    | _ => cases hvi
  | lastore =>
    obtain ⟨rfl, rfl⟩ := mIf hn
    obtain ⟨v, i, a, r, t, x, j, w, rfl, hm, hix, hf, ha0, rfl, rfl, rfl, rfl⟩ := mAst_ok hs
    obtain ⟨hin, hj, hlt⟩ := mIx_ok hix
    obtain ⟨⟨rfl, hvi⟩, rfl⟩ := mIf hf
    cases v with
    | long y =>
      have ha := mSh_ge hsh hm (by omega) ha0
      have hg := mWs_get (g := g) (aC := aC) hm ha
      rw [mEl_l] at hg
      refine va_last (D := D) hx hb hK hP hDD hS (a - 2) 1 hg rfl hin hd fun H1 locs1 hP1 _ hS1 => ?_
      refine kk ls H1 locs1 cells slots (mIn_set hI ha hm (List.length_set ..) ?_ hS1) hl
      rw [mEl_l, mI64_set hlt, List.length_set, ← hj]
      exact hP1
    | _ => cases hvi
  | bastore =>
    obtain ⟨rfl, rfl⟩ := mIf hn
    obtain ⟨v, i, a, r, t, x, j, w, rfl, hm, hix, hf, ha0, rfl, rfl, rfl, rfl⟩ := mAst_ok hs
    obtain ⟨hin, hj, hlt⟩ := mIx_ok hix
    cases v with
    | int y =>
      dsimp only at hf
      split at hf
      · rename_i ht
        subst ht
        cases hf
        have ha := mSh_ge hsh hm (by omega) ha0
        have hg := mWs_get (g := g) (aC := aC) hm ha
        rw [mEl_i (by omega)] at hg
        refine va_bast (D := D) hx hb hK hP hDD hS (a - 2) 2 hg rfl hin hd fun H1 locs1 hP1 _ hS1 => ?_
        refine kk ls H1 locs1 cells slots (mIn_set hI ha hm (List.length_set ..) ?_ hS1) hl
        rw [mEl_i (by omega), mI32_set hlt, List.length_set, ← hj]
        exact hP1
      · obtain ⟨rfl, rfl⟩ := mIf hf
        have ha := mSh_ge hsh hm (by omega) ha0
        have hg := mWs_get (g := g) (aC := aC) hm ha
        rw [mEl_i (by omega)] at hg
        refine va_zast (D := D) hx hb hK hP hDD hS (a - 2) 3 hg rfl hin hd fun H1 locs1 hP1 _ hS1 => ?_
        refine kk ls H1 locs1 cells slots (mIn_set hI ha hm (List.length_set ..) ?_ hS1) hl
        rw [mEl_i (by omega), mI32_set hlt, List.length_set, ← hj]
        exact hP1
    | _ => cases hf
  | aastore =>
    obtain ⟨rfl, rfl⟩ := mIf hn
    obtain ⟨v, i, a, r, t, x, j, w, rfl, hm, hix, hf, ha0, rfl, rfl, rfl, rfl⟩ := mAst_ok hs
    obtain ⟨hin, hj, hlt⟩ := mIx_ok hix
    obtain ⟨ht, rfl⟩ := mIf hf
    cases v with
    | ref k =>
      have ha := mSh_ge hsh hm (by omega) ha0
      have hg := mWs_get (g := g) (aC := aC) hm ha
      rw [mEl_r (by omega)] at hg
      have htag : ∀ n, mTagOf M (.ref k) = n → n < 12 → ∃ fs, M[k]? = some (n, fs) := by
        intro n hn hn2
        unfold mTagOf at hn
        dsimp only at hn
        split at hn
        · rename_i t' fs' h'
          subst hn
          exact ⟨fs', h'⟩
        · omega
      rcases ht with ⟨rfl, htg⟩ | ⟨rfl, htg⟩
      · obtain ⟨fs, hmk⟩ := htag 1 htg (by omega)
        have hk := mSh_ge' hsh hmk (by omega) (by omega)
        have hgk := mWs_get (g := g) (aC := aC) hmk hk
        rw [mEl_obj (by omega)] at hgk
        refine va_astq (D := D) (r := (RX1, TX1, 10)) hx hb hK hP hDD hS (a - 2) 4 (k - 2) 1 hg rfl hgk rfl hin hd fun H1 locs1 hP1 _ hS1 => ?_
        refine kk ls H1 locs1 cells slots (mIn_set hI ha hm (List.length_set ..) ?_ hS1) hl
        rw [mEl_r (by omega), mRf_set hlt, List.length_set, ← hj]
        exact hP1
      · obtain ⟨fs, hmk⟩ := htag 4 htg (by omega)
        have hk := mSh_ge' hsh hmk (by omega) (by omega)
        have hgk := mWs_get (g := g) (aC := aC) hmk hk
        rw [mEl_obj (by omega)] at hgk
        refine va_astq (D := D) (r := (RX4, TX4, 8)) hx hb hK hP hDD hS (a - 2) 5 (k - 2) 4 hg rfl hgk rfl hin hd fun H1 locs1 hP1 _ hS1 => ?_
        refine kk ls H1 locs1 cells slots (mIn_set hI ha hm (List.length_set ..) ?_ hS1) hl
        rw [mEl_r (by omega), mRf_set hlt, List.length_set, ← hj]
        exact hP1
    | _ => rcases ht with ⟨-, htg⟩ | ⟨-, htg⟩ <;> cases htg
  | arraylength =>
    obtain ⟨rfl, rfl⟩ := mIf hn
    unfold mStep at hs
    dsimp only at hs
    split at hs
    · rename_i a r
      split at hs
      · rename_i t x hm
        obtain ⟨⟨ht1, ht2⟩, h2⟩ := mIf hs
        cases h2
        by_cases ha0 : a = 0
        · subst ha0
          obtain ⟨rr, rfl⟩ := hsh
          cases hm
          obtain ⟨cs, h1, h2, h3, h4, h5⟩ := hX
          have hbl : g.2.1 < s.heap.size := (Array.getElem?_eq_some_iff.mp h1).1
          have hcell : H[g.2.1]? = some cs := by rw [hS.2.1 _ hbl (by show ¬ g.1 ≤ g.2.1; omega)]; exact h1
          exact W.alen (n := Int32.ofNat (scr.map Value.int).length) hx hb hcell h2 (by rw [h4, List.length_map]) rfl rfl hd (kk ls H locs cells slots hI hl)
        · have ha := mSh_ge hsh hm (by omega) ha0
          have hg := mWs_get (g := g) (aC := aC) hm ha
          have hel : mEl g aC (t, x) = .inl (aC t, mPay g t x) := by
            unfold mEl
            rw [if_neg (show ¬ t < 64 by omega)]
          rw [hel] at hg
          have htt : (mTys aC)[t - 64]? = some (aC t, mAk t) := by
            rcases (show t = 64 ∨ t = 65 ∨ t = 66 ∨ t = 67 ∨ t = 68 ∨ t = 69 ∨ t = 70 by omega) with rfl | rfl | rfl | rfl | rfl | rfl | rfl <;> rfl
          exact va_alen (D := D) hx hb hK hP (a - 2) (t - 64) hg htt rfl hd (kk ls H locs cells slots hI hl)
      · cases hs
    · cases hs
  | new i =>
    obtain ⟨rfl, h1⟩ := mIfO hn
    obtain ⟨j, hj, rfl⟩ := Option.map_eq_some_iff.mp h1
    obtain ⟨hlk, hci⟩ := mC_ok hj
    obtain ⟨-, h2⟩ := mIf hs
    cases h2
    obtain ⟨cq, hcq, hok⟩ := mCl_ok hci
    have hKn := hK.1 j _ hcq
    unfold mCC at hlk
    rw [hcq] at hlk
    have hln : mSl [(j, mDef j)] = cq.2.2 := by
      show (mDef j).length + 0 = _
      rw [mDef_len, hok.2.2.2.1]
      rfl
    rw [List.length_append, mSl_app, hln] at hR
    have hR1 : M.length + 1 ≤ R.cells + n0 := hR.1
    refine W_sized fun hz => ?_
    have hsz := mIn_size hI hz0 hn0 hz
    refine W.newcK hx hb hown (hts _ hlk) (hts _ hok.2.2.2.2.2.2.1) (hts _ hok.2.2.2.2.2.1) rfl hd (by omega) (by omega) hKn.2.1 rfl fun H1 kC hkC e1 z1 o1 => ?_
    have hI2 := mIn_app (N := [(j, mDef j)]) hI hsz z1 o1 (fun i x hxx => by
      have h0 : i < 1 := (List.getElem?_eq_some_iff.mp hxx).1
      have h0 : i = 0 := by omega
      subst h0
      cases hxx
      rw [mEl_obj hci]
      exact ⟨_, hcq, (u_born (mTy j) hts hok.1 hKn hkC e1 hok.2.1).to (fun k hk => mDef_at g (by rw [← hok.2.2.2.1]; exact hk))⟩)
    rw [hln] at hI2
    have had : mAd g M.length = H.size := by
      have := mSh_len hsh
      rw [mAd_ge this]
      omega
    have hfin := kk ls H1 locs (cells + 1) (slots + cq.2.2) hI2 hl
    rw [List.map_cons, show mCv g (.ref M.length) = .ref (mAd g M.length) from rfl, had] at hfin
    exact hfin
  | newarray k =>
    obtain ⟨rfl, rfl⟩ := mIf hn
    unfold mStep at hs
    dsimp only at hs
    split at hs
    · rename_i n r kk2 v hk
      obtain ⟨⟨hn1, hn2⟩, h2⟩ := mIf hs
      cases h2
      have hln : mSl [(kk2, List.replicate n.toInt.toNat v)] = n.toInt.toNat := by
        show (List.replicate n.toInt.toNat v).length + 0 = _
        rw [List.length_replicate]
        rfl
      rw [List.length_append, mSl_app, hln] at hR
      have hR1 : M.length + 1 ≤ R.cells + n0 := hR.1
      have hnn : ¬ n < 0 := fun h => by
        have := Int32.lt_iff_toInt_lt.mp h
        have h00 : (0 : Int32).toInt = 0 := rfl
        omega
      have had : ∀ hz : H.size + 2 = g.1 + M.length, mAd g M.length = H.size := fun hz => by
        have := mSh_len hsh
        rw [mAd_ge this]
        omega
      have go : ∀ (ty : FieldType), newarray.typeOf k = ty → Cond.arrayClass ty ∈ mTB → (s.vm.findClass ("[" ++ ty.toString) = some (aC kk2)) → n.toInt.toNat * componentBytes ty ≤ 536870912 → (∀ (h : Nat) (H1 : Heap), H1[h]? = some (arrV (aC kk2) n.toInt.toNat (fun _ => defaultValue ty)) → va_at D vwCl (h, mEl g aC (kk2, List.replicate n.toInt.toNat v)) H1) → W p l e R s m args below meth c H locs cells slots Q (F0 m pc ls (.int n :: List.map (mCv g) r)) := by
        intro ty hty hac hfc hby hat
        subst hty
        refine W_sized fun hz => ?_
        have hsz := mIn_size hI hz0 hn0 hz
        refine va_newaK hx hb (hts _ hac) rfl hd rfl hnn rfl hby (by omega) (by show slots + n.toInt.toNat ≤ _; omega) rfl fun H1 cA e1 z1 o1 _ hNm => ?_
        have hcA : cA = aC kk2 := Option.some.inj (hNm.symm.trans hfc)
        subst hcA
        have hI2 := mIn_app (N := [(kk2, List.replicate n.toInt.toNat v)]) hI hsz z1 o1 (fun i x hxx => by
          have h0 : i < 1 := (List.getElem?_eq_some_iff.mp hxx).1
          have h0 : i = 0 := by omega
          subst h0
          cases hxx
          exact hat _ _ e1)
        rw [hln] at hI2
        have hfin := kk ls H1 locs (cells + 1) (slots + n.toInt.toNat) hI2 hl
        rw [List.map_cons, show mCv g (.ref M.length) = .ref (mAd g M.length) from rfl, had hsz] at hfin
        exact hfin
      cases k with
      | int =>
        cases hk
        refine go .int rfl (mAw (by simp)) (hK.2 0 _ rfl).2 (by show _ * 4 ≤ _; omega) (fun h H1 e => ?_)
        rw [mEl_i (Or.inl rfl), mI32_rep, List.length_replicate]
        exact e
      | long =>
        cases hk
        refine go .long rfl (mAw (by simp)) (hK.2 1 _ rfl).2 (by show _ * 8 ≤ _; omega) (fun h H1 e => ?_)
        rw [mEl_l, mI64_rep, List.length_replicate]
        exact e
      | byte =>
        cases hk
        refine go .byte rfl (mAw (by simp)) (hK.2 2 _ rfl).2 (by show _ * 1 ≤ _; omega) (fun h H1 e => ?_)
        rw [mEl_i (by omega), mI32_rep, List.length_replicate]
        exact e
      | boolean =>
        cases hk
        refine go .boolean rfl (mAw (by simp)) (hK.2 3 _ rfl).2 (by show _ * 1 ≤ _; omega) (fun h H1 e => ?_)
        rw [mEl_i (by omega), mI32_rep, List.length_replicate]
        exact e
      | _ => cases hk
    · cases hs
  | anewarray i =>
    obtain ⟨rfl, h1⟩ := mIfO hn
    obtain ⟨j, hj, rfl⟩ := Option.map_eq_some_iff.mp h1
    obtain ⟨hlk, -⟩ := mA_ok hj
    unfold mStep at hs
    dsimp only at hs
    split at hs
    · rename_i n r
      obtain ⟨⟨hn1, hn2, hk⟩, h2⟩ := mIf hs
      cases h2
      have hln : mSl [(j, List.replicate n.toInt.toNat Value.null)] = n.toInt.toNat := by
        show (List.replicate n.toInt.toNat Value.null).length + 0 = _
        rw [List.length_replicate]
        rfl
      rw [List.length_append, mSl_app, hln] at hR
      have hR1 : M.length + 1 ≤ R.cells + n0 := hR.1
      have hnn : ¬ n < 0 := fun h => by
        have := Int32.lt_iff_toInt_lt.mp h
        have h00 : (0 : Int32).toInt = 0 := rfl
        omega
      have go : ∀ C : String, Cond.classLink (mOw q.2.2.2.1) i C ∈ mTB → va_AO C s → s.vm.findClass ("[" ++ (FieldType.object C).toString) = some (aC j) → W p l e R s m args below meth c H locs cells slots Q (F0 m pc ls (.int n :: List.map (mCv g) r)) := by
        intro C hlk hao hfc
        refine W_sized fun hz => ?_
        have hsz := mIn_size hI hz0 hn0 hz
        refine W.anew hx hb hown (hts _ hlk) (va_AO.use hao) rfl hd rfl hnn (by show n.toInt.toNat * 4 ≤ _; omega) (by omega) (by show slots + n.toInt.toNat ≤ _; omega) fun cA kA comp f1 f2 f3 f4 => ?_
        have hcA : cA = aC j := Option.some.inj (f1.symm.trans hfc)
        subst hcA
        generalize hH1 : H.push ({ cls := aC j, slots := Array.replicate n.toNatClampNeg .null, vm := .none } : Cell) = H1
        have z1 : H1.size = H.size + 1 := by rw [← hH1, Array.size_push]
        have e1 : H1[H.size]? = some (arrV (aC j) n.toInt.toNat (fun _ => .null)) := by
          rw [← hH1, Array.getElem?_push_size, ← arrV_new]
          rfl
        have o1 : ∀ q, q < H.size → H1[q]? = H[q]? := fun q hq => by rw [← hH1, Array.getElem?_push, if_neg (Nat.ne_of_lt hq)]
        have hI2 := mIn_app (N := [(j, List.replicate n.toInt.toNat Value.null)]) hI hsz z1 o1 (fun i x hxx => by
          have h0 : i < 1 := (List.getElem?_eq_some_iff.mp hxx).1
          have h0 : i = 0 := by omega
          subst h0
          cases hxx
          rw [mEl_r (by omega), mRf_rep, List.length_replicate]
          exact e1)
        rw [hln] at hI2
        have had : mAd g M.length = H.size := by
          have := mSh_len hsh
          rw [mAd_ge this]
          omega
        have hfin := kk ls H1 locs (cells + 1) (slots + n.toInt.toNat) hI2 hl
        rw [List.map_cons, show mCv g (.ref M.length) = .ref (mAd g M.length) from rfl, had] at hfin
        exact hfin
      rcases hk with rfl | rfl
      · obtain ⟨_, _, _, _, _, h4⟩ := (hK.2 4 _ rfl).2
        exact go RX1 hlk hNw.2.1 h4
      · obtain ⟨_, _, _, _, _, h4⟩ := (hK.2 5 _ rfl).2
        exact go RX4 hlk hNw.2.2.1 h4
    · cases hs
  | multianewarray i dim =>
    obtain ⟨⟨rfl, rfl⟩, h1⟩ := mIfO hn
    obtain ⟨j, hj, rfl⟩ := Option.map_eq_some_iff.mp h1
    obtain ⟨hlk, -⟩ := mA_ok hj
    rw [mStep_multi] at hs
    split at hs
    · rename_i w n r
      obtain ⟨⟨hn1, hn2, hw1, hw2, rfl⟩, h2⟩ := mIf hs
      cases h2
      have hlN : ∀ (x : List Value), ((70, x) :: List.replicate n.toInt.toNat (64, List.replicate w.toInt.toNat (Value.int 0)) : Mem).length = 1 + n.toInt.toNat := fun x => by
        rw [List.length_cons, List.length_replicate]
        omega
      have hlS : mSl ((70, (List.range n.toInt.toNat).map (fun i => Value.ref (M.length + 1 + i))) :: List.replicate n.toInt.toNat (64, List.replicate w.toInt.toNat (Value.int 0))) = n.toInt.toNat + n.toInt.toNat * w.toInt.toNat := by
        unfold mSl
        rw [List.map_cons, List.map_replicate, List.sum_cons, List.length_map, List.length_range, List.length_replicate, List.sum_replicate_nat]
      rw [List.length_append, mSl_app, hlN, hlS] at hR
      have nn : ∀ z : Int32, 0 ≤ z.toInt → ¬ z < 0 := fun z hz h => by
        have := Int32.lt_iff_toInt_lt.mp h
        have h00 : (0 : Int32).toInt = 0 := rfl
        omega
      have hmul : n.toInt.toNat * w.toInt.toNat ≤ 1000 * 1000 := Nat.mul_le_mul (by omega) (by omega)
      refine W_sized fun hz => ?_
      have hsz := mIn_size hI hz0 hn0 hz
      intro T hT Xs
      obtain ⟨vm₁, cA, comp, -, fA, fC, hO, -, X', step⟩ := Xs.multianewarray2F (ty := .int) (n := n) (k := w) (rest := r.map (mCv g)) hx hown (hts _ hlk) hNw.2.2.2 (hts _ (mAw (by simp))) (g := F0 m pc ls (.int w :: .int n :: r.map (mCv g))) rfl (by rw [hb]; exact hd) rfl (nn n hn1) (nn w hw1) (by show n.toInt.toNat * 4 ≤ _; omega) (by show w.toInt.toNat * 4 ≤ _; omega) (by show w.toInt.toNat ≤ _; omega) rfl rfl (by show cells + (1 + n.toInt.toNat) ≤ _; omega) (by show slots + (n.toInt.toNat + n.toInt.toNat * w.toInt.toNat) ≤ _; omega)
      have ecA : cA = aC 70 := Option.some.inj (fA.symm.trans (hK.2 6 _ rfl).2)
      have ecC : comp = aC 64 := Option.some.inj (fC.symm.trans (hK.2 0 _ rfl).2)
      subst ecA
      subst ecC
      have hTh : (T.setVm vm₁).heap = H := hT
      generalize hFF : Jvm.Free.Multi.fill (T.setVm vm₁) (aC 70) (aC 64) n.toNatClampNeg w.toNatClampNeg (defaultValue .int) n.toNatClampNeg = F at X' step
      obtain ⟨f1, f2, -, -⟩ := Jvm.Free.Multi.fill_facts (T.setVm vm₁) (aC 70) (aC 64) n.toNatClampNeg w.toNatClampNeg (defaultValue .int) n.toNatClampNeg
      rw [hFF, hTh] at f1 f2
      have hold : ∀ x : Nat, x < H.size → F.heap[x]? = H[x]? := fun x hx => by
        have := Jvm.Free.Multi.fill_old (T.setVm vm₁) (aC 70) (aC 64) n.toNatClampNeg w.toNatClampNeg (defaultValue .int) (a := x) (by rw [hTh]; exact hx) n.toNatClampNeg
        rw [hFF, hTh] at this
        exact this
      have hrow : ∀ j : Nat, j < n.toNatClampNeg → F.heap[H.size + 1 + j]? = some (Jvm.Free.Multi.innerC (aC 64) w.toNatClampNeg (defaultValue .int)) := fun j hj => by
        have := Jvm.Free.Multi.fill_inner (T.setVm vm₁) (aC 70) (aC 64) n.toNatClampNeg w.toNatClampNeg (defaultValue .int) n.toNatClampNeg j hj
        rw [hFF, hTh] at this
        exact this
      have hm2 := mSh_len hsh
      have hI2 := mIn_app (H1 := F.heap) (N := (70, (List.range n.toInt.toNat).map (fun i => Value.ref (M.length + 1 + i))) :: List.replicate n.toInt.toNat (64, List.replicate w.toInt.toNat (Value.int 0))) hI hsz (by rw [hlN, f1]; show H.size + 1 + n.toInt.toNat = _; omega) hold (fun i x hxx => by
        match i, hxx with
        | 0, hxx =>
          cases hxx
          rw [mEl_r (by omega), mRf_rows g (h0 := H.size + 1) (fun i _ => by rw [mAd_ge (by omega)]; omega), List.length_map, List.length_range]
          show F.heap[H.size + 0]? = some (vp_cell _ _)
          rw [Nat.add_zero, f2, vp_cell_q, mOuter]
          rfl
        | i + 1, hxx =>
          rw [List.getElem?_cons_succ, List.getElem?_replicate] at hxx
          obtain ⟨hi, rfl⟩ := mIf hxx
          rw [mEl_i (Or.inl rfl), mI32_rep, List.length_replicate]
          show F.heap[H.size + (i + 1)]? = some (vp_cell _ _)
          rw [show H.size + (i + 1) = H.size + 1 + i by omega, hrow i hi, vp_cell_i]
          show some ({ cls := aC 64, slots := Array.replicate w.toNatClampNeg (defaultValue .int), vm := .none } : Cell) = _
          rw [arrV_new]
          rfl)
      rw [hlN, hlS] at hI2
      have had : mAd g M.length = H.size := by
        rw [mAd_ge hm2]
        omega
      have hfin := kk ls F.heap locs (cells + (1 + n.toInt.toNat)) (slots + (n.toInt.toNat + n.toInt.toNat * w.toInt.toNat)) hI2 hl
      rw [List.map_cons, show mCv g (.ref M.length) = .ref (mAd g M.length) from rfl, had] at hfin
      obtain ⟨t2, a1, b1⟩ := hfin F rfl (by
        have e1 : cells + (1 + n.toInt.toNat) = cells + 1 + n.toNatClampNeg := by show _ = cells + 1 + n.toInt.toNat; omega
        have e2 : slots + (n.toInt.toNat + n.toInt.toNat * w.toInt.toNat) = slots + n.toNatClampNeg + n.toNatClampNeg * w.toNatClampNeg := by show _ = slots + n.toInt.toNat + n.toInt.toNat * w.toInt.toNat; omega
        rw [e1, e2]
        exact X')
      refine ⟨t2, step t2 ?_, b1⟩
      have e : T.heap.size = H.size := by rw [hT]
      rw [e]
      exact a1
    · cases hs
  | invokestatic i =>
    obtain ⟨rfl, h1⟩ := mIfO hn
    split at h1
    · obtain ⟨-, rfl⟩ := mIf h1
      cases hs
    · cases h1
  | invokevirtual i =>
    obtain ⟨rfl, h1⟩ := mIfO hn
    split at h1
    · obtain ⟨-, rfl⟩ := mIf h1
      cases hs
    · cases h1
  | invokespecial i =>
    obtain ⟨rfl, h1⟩ := mIfO hn
    split at h1
    · obtain ⟨-, rfl⟩ := mIf h1
      cases hs
    · cases h1
  | ireturn =>
    obtain ⟨rfl, rfl⟩ := mIf hn
    cases hs
  | lreturn =>
    obtain ⟨rfl, rfl⟩ := mIf hn
    cases hs
  | areturn =>
    obtain ⟨rfl, rfl⟩ := mIf hn
    cases hs
  | return_ =>
    obtain ⟨rfl, rfl⟩ := mIf hn
    cases hs
  | _ => cases hn
end MSIM
