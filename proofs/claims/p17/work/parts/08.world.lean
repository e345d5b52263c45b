/-! the small machine's memory as the large one's cells. g: the first address of ours, the script's, the String's -/
abbrev MG : Type := Nat × Nat × Nat
def mAd (g : MG) (k : Nat) : Nat := if k = 0 then g.2.1 else if k = 1 then g.2.2 else g.1 + (k - 2)
theorem mAd_ge {g : MG} {k : Nat} (h : 2 ≤ k) : mAd g k = g.1 + (k - 2) := by
  unfold mAd
  rw [if_neg (by omega), if_neg (by omega)]
def mCv (g : MG) (v : Value) : Value := match v with
  | .ref k => .ref (mAd g k)
  | v => v
theorem mCv_cat (g : MG) (v : Value) : (mCv g v).category = v.category := by cases v <;> rfl
theorem mCv_sum (g : MG) (r : List Value) : ((r.map (mCv g)).map fun v => v.category).sum = (r.map fun v => v.category).sum := by
  rw [List.map_map]
  congr 1
  apply List.map_congr_left
  intro v _
  exact mCv_cat g v
def mI32 (c : List Value) (i : Nat) : Int32 := match c[i]? with
  | some (.int x) => x
  | _ => 0
def mI64 (c : List Value) (i : Nat) : Int64 := match c[i]? with
  | some (.long x) => x
  | _ => 0
def mRf (g : MG) (c : List Value) (i : Nat) : Option Nat := match c[i]? with
  | some (.ref k) => some (mAd g k)
  | _ => none
def mPay (g : MG) (t : Nat) (c : List Value) : vp_A := (c.length, if t = 65 then .inr (.inl (mI64 c)) else if 68 ≤ t then .inr (.inr (.inr (.inr (mRf g c)))) else .inl (mI32 c))
def mEl (g : MG) (aC : Nat → ClassId) (q : MCell) : va_E := if q.1 < 64 then .inr (q.1, q.2.map (mCv g)) else .inl (aC q.1, mPay g q.1 q.2)
def mWs (g : MG) (aC : Nat → ClassId) (M : Mem) : va_W := (M.drop 2).mapIdx (fun i q => (g.1 + i, mEl g aC q))
def mTys (aC : Nat → ClassId) : List (ClassId × FieldType) := [(aC 64, .int), (aC 65, .long), (aC 66, .byte), (aC 67, .boolean), (aC 68, .object RX1), (aC 69, .object RX4), (aC 70, .array .int)]
theorem mWs_at (g : MG) (aC : Nat → ClassId) (M : Mem) (k : Nat) : (mWs g aC M)[k]? = (M[k + 2]?).map (fun q => (g.1 + k, mEl g aC q)) := by
  unfold mWs
  rw [List.getElem?_mapIdx, List.getElem?_drop, Nat.add_comm 2 k]
theorem mWs_get {g : MG} {aC : Nat → ClassId} {M : Mem} {a : Nat} {q : MCell} (h : M[a]? = some q) (h2 : 2 ≤ a) : (mWs g aC M)[a - 2]? = some (mAd g a, mEl g aC q) := by
  rw [mWs_at, show a - 2 + 2 = a by omega, h, mAd_ge h2]
  rfl
theorem mWs_set {g : MG} {aC : Nat → ClassId} {M : Mem} {a : Nat} {q : MCell} (h2 : 2 ≤ a) : mWs g aC (M.set a q) = (mWs g aC M).set (a - 2) (mAd g a, mEl g aC q) := by
  apply List.ext_getElem?
  intro k
  rw [mWs_at, List.getElem?_set, List.getElem?_set, mWs_at]
  have hl : (mWs g aC M).length = M.length - 2 := by unfold mWs; rw [List.length_mapIdx, List.length_drop]
  rw [hl]
  by_cases hk : a = k + 2
  · subst hk
    have e : k + 2 - 2 = k := by omega
    rw [if_pos rfl, if_pos e, e]
    by_cases hlt : k + 2 < M.length
    · rw [if_pos hlt, if_pos (show k < M.length - 2 by omega), mAd_ge h2, e]
      rfl
    · rw [if_neg hlt, if_neg (show ¬ k < M.length - 2 by omega)]
      rfl
  · rw [if_neg hk, if_neg (show ¬ a - 2 = k by omega)]
theorem mWs_app {g : MG} {aC : Nat → ClassId} {M N : Mem} (h : 2 ≤ M.length) : mWs g aC (M ++ N) = mWs g aC M ++ N.mapIdx (fun i q => (g.1 + (M.length - 2 + i), mEl g aC q)) := by
  apply List.ext_getElem?
  intro k
  have hl : (mWs g aC M).length = M.length - 2 := by unfold mWs; rw [List.length_mapIdx, List.length_drop]
  rw [mWs_at]
  by_cases hk : k + 2 < M.length
  · rw [List.getElem?_append_left hk, List.getElem?_append_left (by omega), mWs_at]
  · rw [List.getElem?_append_right (by omega), List.getElem?_append_right (by omega), List.getElem?_mapIdx, hl, show k + 2 - M.length = k - (M.length - 2) by omega]
    cases N[k - (M.length - 2)]? with
    | none => rfl
    | some q =>
      show some (g.1 + k, _) = some (g.1 + (M.length - 2 + (k - (M.length - 2))), _)
      rw [show M.length - 2 + (k - (M.length - 2)) = k by omega]
abbrev mA0 (g : MG) : Nat → Prop := fun q => g.1 ≤ q
theorem mWs_D (g : MG) (aC : Nat → ClassId) (M : Mem) : va_D (mA0 g) (mWs g aC M) := by
  refine ⟨fun i j p q h1 h2 h3 => ?_, fun k q h => ?_⟩
  · rw [mWs_at] at h1 h2
    obtain ⟨a, -, rfl⟩ := Option.map_eq_some_iff.mp h1
    obtain ⟨b, -, rfl⟩ := Option.map_eq_some_iff.mp h2
    have h3 : g.1 + i = g.1 + j := h3
    omega
  · rw [mWs_at] at h
    obtain ⟨a, -, rfl⟩ := Option.map_eq_some_iff.mp h
    show g.1 ≤ g.1 + k
    omega
/-- int[][]: the tables' word -/
def mAA (U : State) : Prop := (Cond.arrayOver (.array .int)).before #[] U = true
theorem mAA.moved {u U : State} (hvm : u.vm.Alike U.vm) (h : mAA u) : mAA U := by
  have h0 := h
  unfold mAA Cond.before Cond.holds at h
  simp only [Cond.value, beq_iff_eq] at h
  cases hc : u.vm.findClass (FieldType.array .int).toString with
  | none => rw [hc] at h; cases h
  | some comp =>
    rw [hc] at h
    simp only [Option.bind_some, Option.bind_eq_some_iff, Option.map_eq_some_iff] at h
    obtain ⟨c, hi, k, hk, hb⟩ := h
    obtain ⟨k', hk', he⟩ := hvm.2.2 _ _ hk
    have key : ∀ vm : Vm, (vm.bare.classes.findIdx? fun (x : Class) => match x.kind with | .array component _ => component == comp | _ => false) = (vm.classes.findIdx? fun (x : Class) => match x.kind with | .array component _ => component == comp | _ => false) := fun vm => by
      simp only [Vm.bare, Array.findIdx?_map]
      rfl
    have hi2 : (U.vm.classes.findIdx? fun (x : Class) => match x.kind with | .array component _ => component == comp | _ => false) = some c := by
      rw [← key]
      first | rw [hvm.bare_eq] | rw [← hvm.bare_eq]
      rw [key]
      exact hi
    have hkind : k'.kind = k.kind := by rw [he]
    unfold mAA Cond.before Cond.holds
    simp only [Cond.value, beq_iff_eq]
    rw [hvm.findClass, hc, Option.bind_some]
    refine Option.bind_eq_some_iff.mpr ⟨c, hi2, Option.map_eq_some_iff.mpr ⟨k', hk', ?_⟩⟩
    rw [hkind, hvm.findClass]
    exact hb
def mNest : List Cond := (mMR.filter (fun q => q.2.2.2.1 == 1)).map (fun q => mMC q.1 q.2.1 q.2.2.1 1)
def mNw (s : State) : Prop := (∀ q ∈ mMR, q.2.2.2.1 = 1 → va_Nw (.methodLinkNest (mOw q.1) q.2.1 (mMN q.2.2.1) "WidowDeeds") s) ∧ va_AO RX1 s ∧ va_AO RX4 s ∧ mAA s
theorem mNw.warm {s U : State} (hW : s.WarmedH U.vm) (h : mNw s) : mNw U := ⟨fun q hq h1 => va_Nw.warmM hW (h.1 q hq h1), h.2.1.moved hW.alike, h.2.2.1.moved hW.alike, h.2.2.2.moved hW.alike⟩
theorem mNw.same {s U : State} (hv : U.vm = s.vm) (h : mNw s) : mNw U := by
  have ha : s.vm.Alike U.vm := by rw [hv]; exact Vm.Alike.refl s.vm
  exact ⟨fun q hq h1 => va_Nw.same rfl hv.symm (h.1 q hq h1), h.2.1.moved ha, h.2.2.1.moved ha, h.2.2.2.moved ha⟩
/-- the String constant and what its indexOf reads -/
def mStr (g : MG) (s : State) (H : Heap) : Prop := vk_R RX5 111 "nfcuvpgxkwiqht" g.2.2 s ∧ ∃ cv : Nat, vk_S 1 [14] [mLet] (fun _ => g.2.2) (fun _ => cv) (mA0 g) s H ∧ va_Z "java/lang/String" "COMPACT_STRINGS" "Z" (.int 1) (mA0 g) s H
theorem mStr.kept {g : MG} {s : State} {H H1 : Heap} (h : mStr g s H) (hq : ∀ a : Nat, a < H.size → ¬ mA0 g a → H1[a]? = H[a]?) : mStr g s H1 := by
  obtain ⟨h1, cv, h2, h3⟩ := h
  exact ⟨h1, cv, h2.kept hq, h3.kept hq⟩
theorem mStr.warm {g : MG} {s U : State} {H : Heap} (hW : s.WarmedH U.vm) (h : mStr g s H) : mStr g U H := by
  obtain ⟨h1, cv, h2, h3⟩ := h
  exact ⟨h1.warm hW, cv, h2.moved hW.alike, h3.moved hW.alike⟩
theorem mStr.same {g : MG} {s U : State} {H : Heap} (hv : U.vm = s.vm) (h : mStr g s H) : mStr g U H := by
  obtain ⟨h1, cv, h2, h3⟩ := h
  have ha : s.vm.Alike U.vm := by rw [hv]; exact Vm.Alike.refl s.vm
  exact ⟨h1.same hv, cv, h2.moved ha, h3.moved ha⟩
/-- what stays of a world: the tables, the script, the String -/
def mFx (g : MG) (D : va_G) (aC : Nat → ClassId) (scr : List Int32) (s : State) (H : Heap) : Prop := va_K D vwCl (mTys aC) s ∧ va_X g.2.1 scr.length (fun j => scr.getD j 0) s H ∧ g.2.1 < g.1 ∧ mNw s ∧ mStr g s H
theorem mFx.kept {g : MG} {D : va_G} {aC : Nat → ClassId} {scr : List Int32} {s : State} {H H1 : Heap} (h : mFx g D aC scr s H) (hz : g.1 ≤ H.size) (hq : ∀ a : Nat, a < H.size → ¬ mA0 g a → H1[a]? = H[a]?) : mFx g D aC scr s H1 := by
  obtain ⟨h1, h2, h3, h4, h5⟩ := h
  exact ⟨h1, h2.kept (hq _ (by omega) (by show ¬ g.1 ≤ g.2.1; omega)), h3, h4, h5.kept hq⟩
theorem mFx.warm {g : MG} {D : va_G} {aC : Nat → ClassId} {scr : List Int32} {s U : State} {H : Heap} (hW : s.WarmedH U.vm) (h : mFx g D aC scr s H) : mFx g D aC scr U H := by
  obtain ⟨h1, h2, h3, h4, h5⟩ := h
  exact ⟨h1.moved hW.alike, h2.moved hW.alike, h3, h4.warm hW, h5.warm hW⟩
theorem mFx.same {g : MG} {D : va_G} {aC : Nat → ClassId} {scr : List Int32} {s U : State} {H : Heap} (hv : U.vm = s.vm) (h : mFx g D aC scr s H) : mFx g D aC scr U H := by
  obtain ⟨h1, h2, h3, h4, h5⟩ := h
  have ha : s.vm.Alike U.vm := by rw [hv]; exact Vm.Alike.refl s.vm
  exact ⟨h1.moved ha, h2.moved ha, h3, h4.same hv, h5.same hv⟩
/-- the locals -/
def mCL (g : MG) (L : MLoc) : MLoc := L.map (fun q => (q.1, mCv g q.2))
theorem mLd_ok {g : MG} {L : MLoc} {ls : Array Slot} {n i : Nat} {v : Value} (hl : lv_has ls n (mCL g L)) (h : mLd L i = some v) : ls[i]? = some (.val (mCv g v)) := by
  unfold mLd at h
  obtain ⟨q, hq, rfl⟩ := Option.map_eq_some_iff.mp h
  have hm := List.mem_of_find?_eq_some hq
  have he := List.find?_some hq
  have he2 : q.1 = i := by simpa using he
  rw [← he2]
  exact hl.2.2 (q.1, mCv g q.2) (List.mem_map.mpr ⟨q, hm, rfl⟩)
theorem mSt1_cv (g : MG) (L : MLoc) (i : Nat) (v : Value) : (i, mCv g v) :: (mCL g L).filter (fun q => !(q.1 == i) && !(q.1 + 1 == i && q.2.category == 2)) = mCL g (mSt1 L i v) := by
  unfold mCL mSt1
  rw [List.map_cons, List.filter_map]
  congr 2
  apply List.filter_congr
  intro q _
  simp [mCv_cat]
theorem mSt2_cv (g : MG) (L : MLoc) (i : Nat) (v : Value) : (i, mCv g v) :: (mCL g L).filter (fun q => !(q.1 == i) && (!(q.1 == i + 1) && !(q.1 + 1 == i && q.2.category == 2))) = mCL g (mSt2 L i v) := by
  unfold mCL mSt2
  rw [List.map_cons, List.filter_map]
  congr 2
  apply List.filter_congr
  intro q _
  simp [mCv_cat]
theorem mArgs_cv (g : MG) : ∀ (vs : List Value) (k : Nat), lv_args k (vs.map (mCv g)) = mCL g (lv_args k vs) := by
  intro vs
  induction vs with
  | nil => intro k; rfl
  | cons v vs ih =>
    intro k
    simp only [List.map_cons, lv_args, mCL, mCv_cat]
    rw [ih]
    rfl
theorem mSl_cv (g : MG) (vs : List Value) : (lg_sl (vs.map (mCv g))).length = (lg_sl vs).length := by
  induction vs with
  | nil => rfl
  | cons v vs ih =>
    have e : ∀ (w : Value) (ws : List Value), (lg_sl (w :: ws)).length = (if w.category = 2 then 2 else 1) + (lg_sl ws).length := by
      intro w ws
      show ((if w.category = 2 then [Slot.val w, Slot.second] else [Slot.val w]) ++ lg_sl ws).length = _
      rw [List.length_append]
      split <;> rfl
    rw [List.map_cons, e, e, ih, mCv_cat]
def mSl (M : Mem) : Nat := (M.map (fun q => q.2.length)).sum
