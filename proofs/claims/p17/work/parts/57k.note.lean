/-! branches, stores, returns; the parser's codes and jumps -/
section
variable {d mi pc len : Nat} {L : MLoc} {st : List Value} {M : Mem} {Q : Option Value → Mem → Prop}
theorem kIfT {c : Jvm.ClassFile.Cond} {off : Int} {x : Int32} {t : Nat} (hat : mAt mi pc = some (len, .ifCond c off)) (hj : mJmp pc off = some t) (hc : mCond c x 0 = true) (k : Ok d mi t L st M Q) : Ok d mi pc L (.int x :: st) M Q := Ok.pl hat (by unfold mStep; dsimp only; rw [hj]; dsimp only; rw [if_pos hc]) k
theorem kIfF {c : Jvm.ClassFile.Cond} {off : Int} {x : Int32} {t : Nat} (hat : mAt mi pc = some (len, .ifCond c off)) (hj : mJmp pc off = some t) (hc : mCond c x 0 = false) (k : Ok d mi (pc + len) L st M Q) : Ok d mi pc L (.int x :: st) M Q := Ok.pl hat (by unfold mStep; dsimp only; rw [hj]; dsimp only; rw [if_neg (by rw [hc]; decide)]) k
theorem kIcT {c : Jvm.ClassFile.Cond} {off : Int} {x y : Int32} {t : Nat} (hat : mAt mi pc = some (len, .if_icmp c off)) (hj : mJmp pc off = some t) (hc : mCond c x y = true) (k : Ok d mi t L st M Q) : Ok d mi pc L (.int y :: .int x :: st) M Q := Ok.pl hat (by unfold mStep; dsimp only; rw [hj]; dsimp only; rw [if_pos hc]) k
theorem kIcF {c : Jvm.ClassFile.Cond} {off : Int} {x y : Int32} {t : Nat} (hat : mAt mi pc = some (len, .if_icmp c off)) (hj : mJmp pc off = some t) (hc : mCond c x y = false) (k : Ok d mi (pc + len) L st M Q) : Ok d mi pc L (.int y :: .int x :: st) M Q := Ok.pl hat (by unfold mStep; dsimp only; rw [hj]; dsimp only; rw [if_neg (by rw [hc]; decide)]) k
theorem kGoto {off : Int} {t : Nat} (hat : mAt mi pc = some (len, .goto off)) (hj : mJmp pc off = some t) (k : Ok d mi t L st M Q) : Ok d mi pc L st M Q := Ok.pl hat (by unfold mStep; dsimp only; rw [hj]) k
theorem kIstore {i : Nat} {x : Int32} (hat : mAt mi pc = some (len, .istore i)) (hi : i < (mIT mi).2.1) (k : Ok d mi (pc + len) (mSt1 L i (.int x)) st M Q) : Ok d mi pc L (.int x :: st) M Q := Ok.pl hat (by unfold mStep; dsimp only; rw [if_pos hi]) k
theorem kIinc {i : Nat} {n : Int} {x : Int32} (hat : mAt mi pc = some (len, .iinc i n)) (hl : mLd L i = some (.int x)) (hi : i < (mIT mi).2.1) (k : Ok d mi (pc + len) (mSt1 L i (.int (x + Int32.ofInt n))) st M Q) : Ok d mi pc L st M Q := Ok.pl hat (by unfold mStep; dsimp only; rw [hl]; dsimp only; rw [if_pos hi]) k
theorem kRetI {x : Int32} (hat : mAt mi pc = some (len, .ireturn)) (ht : (mIT mi).2.2.1 = 1 ∨ ((mIT mi).2.2.1 = 2 ∧ (x = 0 ∨ x = 1))) (k : Q (some (.int x)) M) : Ok d mi pc L [.int x] M Q := Ok.ret hat (o := (some (.int x), M)) (by unfold mRet; dsimp only; exact if_pos ht) k
theorem kRetV (hat : mAt mi pc = some (len, .return_)) (ht : (mIT mi).2.2.1 = 0) (k : Q none M) : Ok d mi pc L [] M Q := Ok.ret hat (o := (none, M)) (by unfold mRet; dsimp only; exact if_pos ht) k
end
theorem mLd_st1_int {L : MLoc} {i k : Nat} {v : Value} {x : Int32} (hk : k ≠ i) (h : mLd L k = some (.int x)) : mLd (mSt1 L i v) k = some (.int x) := mLd_st1 hk h (fun _ => rfl)
theorem mLd_st1_ref {L : MLoc} {i k a : Nat} {v : Value} (hk : k ≠ i) (h : mLd L k = some (.ref a)) : mLd (mSt1 L i v) k = some (.ref a) := mLd_st1 hk h (fun _ => rfl)
theorem c_lt {x y : Int32} (h : x.toInt < y.toInt) : mCond .lt x y = true := decide_eq_true (Int32.lt_iff_toInt_lt.mpr h)
theorem c_ge {x y : Int32} (h : y.toInt ≤ x.toInt) : mCond .ge x y = true := decide_eq_true (Int32.le_iff_toInt_le.mpr h)
theorem c_nge {x y : Int32} (h : x.toInt < y.toInt) : mCond .ge x y = false := decide_eq_false (fun c => by have := Int32.le_iff_toInt_le.mp c; omega)
theorem c_ne {x y : Int32} (h : x.toInt ≠ y.toInt) : mCond .ne x y = true := decide_eq_true (fun c => h (by rw [c]))
theorem c_nne {x y : Int32} (h : x.toInt = y.toInt) : mCond .ne x y = false := decide_eq_false (fun c => c (Int32.toInt_inj.mp h))
theorem cs_notes0 {s : List Int32} : cSound0 s cm_notes0 := by
  intro γ d σ L M _ h
  have hl0 := eR h (i := 0) (g := 181) (c := 0) rfl rfl
  obtain ⟨l1, hl1, el1⟩ := eI h (i := 1) (sy := 0) (c := 0) rfl
  obtain ⟨l2, hl2, el2⟩ := eI h (i := 2) (sy := 1) (c := 0) rfl
  have q1_6 : (γ 1001 6).toInt = σ 0 + 1 := eG h (g := 1001) (i := 6) (sy := 0) (c := 1) (by decide) (List.Mem.head _)
  have q1_0 : (γ 1001 0).toInt = σ 2 + 0 := eG h (g := 1001) (i := 0) (sy := 2) (c := 0) (by decide) (List.Mem.tail _ (List.Mem.head _))
  have q1_4 : (γ 1001 4).toInt = σ 3 + 0 := eG h (g := 1001) (i := 4) (sy := 3) (c := 0) (by decide) (List.Mem.tail _ (List.Mem.tail _ (List.Mem.head _)))
  have b1 := eB h (i := 1) (lo := 0) (hi := 1048575) rfl
  have b2 := eB h (i := 2) (lo := 0) (hi := 178) rfl
  have b3 := eB h (i := 3) (lo := 0) (hi := 400) rfl
  have s0 := h.1.2.1.1
  have h8 : x8 (s, γ) := h.2.2.2.1.2
  have hX : tXI γ M := h.2.2.2.2.2.2
  have hT := aTp_of h.2.2.2
  have hd := hT.hd (c := 181) (by decide) (by decide)
  obtain ⟨m, hm, m0, m1⟩ := hT.int (c := 181) (i := 30) (by decide) (by decide) (by decide) (lo := 0) (hi' := 180) (gs := []) rfl
  obtain ⟨w, hw, w0, w1⟩ := hT.int (c := 181) (i := 31) (by decide) (by decide) (by decide) (lo := 0) (hi' := 180) (gs := []) rfl
  have hB := getB hX (by omega) hw hm
  have hs := xB_sum hB
  have em := i32_mulU (x := l1) (by omega) (by omega)
  have ev : (1048576 * l1 + l2).toInt = 1048576 * l1.toInt + l2.toInt := by rw [i32_add (by omega) (by omega), em]
  have e1 : (m + 1).toInt = m.toInt + 1 := i32_inc (by omega) (by omega)
  have eW : (γ 1001 0 + 1).toInt = (γ 1001 0).toInt + 1 := i32_inc (by omega) (by omega)
  have eH : (γ 1001 4 + 1).toInt = (γ 1001 4).toInt + 1 := i32_inc (by omega) (by omega)
  refine kAload (mi := 197) (pc := 0) (len := 1) (i := 0) rfl hl0 ?_
  refine kGetf (len := 3) (j := 1134) rfl hd (by decide) (t181_ref hT (i := 34) (g := 203) (lo := 0) (hi := 0) (by decide) rfl rfl) ?_
  refine kAload (len := 1) (i := 0) rfl hl0 ?_
  refine kGetf (len := 3) (j := 1130) rfl hd (by decide) hm ?_
  refine kIconst (len := 3) (v := 1048576) rfl ?_
  refine kIload (len := 1) (i := 1) rfl hl1 ?_
  refine kMul (len := 1) rfl ?_
  refine kIload (len := 1) (i := 2) rfl hl2 ?_
  refine kAdd (len := 1) rfl ?_
  refine kIast (len := 1) (n := 180) rfl (hT.hd (c := 203) (by decide) (by decide)) (by decide) (by omega) (by show m.toInt < 180; omega) ?_
  refine kAload (len := 1) (i := 0) rfl hl0 ?_
  refine kAload (len := 1) (i := 0) rfl hl0 ?_
  refine kGetf (len := 3) (j := 1130) rfl (mHd_put.trans hd) (by decide) ((mSlot_put_ne (Or.inl (by decide))).trans hm) ?_
  refine kIconst (len := 1) (v := 1) rfl ?_
  refine kAdd (len := 1) rfl ?_
  refine kPutf (len := 3) (j := 1130) rfl (mHd_put.trans hd) (by decide) (by decide) rfl ?_
  refine kRetV (len := 1) rfl rfl ?_
  refine ⟨((aFr_put rfl).tr (aFr_put rfl)), (gUp (gUp (gUp γ 1001 0 (γ 1001 0 + 1)) 1001 4 (γ 1001 4 + 1)) 1001 8 0), (gFr_up rfl (gFr_up rfl (gFr_up rfl gFr.rf))), _, List.Mem.head _, σ, aExt.rf, ?_⟩
  exact mkHold (by decide) s0 ⟨b00 s0, b1, b2, b3, True.intro⟩ True.intro ⟨hF1_gh (by decide) (by decide) (by show ((γ 1001 0 + 1) : Int32).toInt = σ 2 + 1; omega), hF1_gh (by decide) (by decide) (by show ((γ 1001 4 + 1) : Int32).toInt = σ 3 + 1; omega), True.intro⟩ True.intro (note_ok (v := 1048576 * l1 + l2) h8 hX hT (by omega) hw hm (by omega) (by omega) e1 (gN_up (gN_up (gN_up gN_rf))) rfl rfl rfl rfl rfl (fun g h1 h2 => by
    have hv : g m.toInt.toNat = 1048576 * l1.toInt + l2.toInt := by rw [h2, ev]
    have hg := xB_hg hB h1
    have tg : g m.toInt.toNat / xU = l1.toInt := by rw [hv]; show (1048576 * _ + _) / 1048576 = _; omega
    have ef : xEff (g m.toInt.toNat) = 1 := eff1 (by omega)
    exact xB_A eW rfl rfl rfl (by rw [ef]; exact eH) rfl rfl (xB_note hB h1 ⟨by omega, Or.inl (by omega)⟩)))
theorem cs_notes1 {s : List Int32} : cSound0 s cm_notes1 := by
  intro γ d σ L M _ h
  have hl0 := eR h (i := 0) (g := 181) (c := 0) rfl rfl
  obtain ⟨l1, hl1, el1⟩ := eI h (i := 1) (sy := 0) (c := 1) rfl
  obtain ⟨l2, hl2, el2⟩ := eI h (i := 2) (sy := 1) (c := 0) rfl
  have q1_6 : (γ 1001 6).toInt = σ 0 + 1 := eG h (g := 1001) (i := 6) (sy := 0) (c := 1) (by decide) (List.Mem.head _)
  have q1_0 : (γ 1001 0).toInt = σ 2 + 0 := eG h (g := 1001) (i := 0) (sy := 2) (c := 0) (by decide) (List.Mem.tail _ (List.Mem.head _))
  have q1_4 : (γ 1001 4).toInt = σ 3 + 0 := eG h (g := 1001) (i := 4) (sy := 3) (c := 0) (by decide) (List.Mem.tail _ (List.Mem.tail _ (List.Mem.head _)))
  have b1 := eB h (i := 1) (lo := 0) (hi := 13) rfl
  have b2 := eB h (i := 2) (lo := 0) (hi := 178) rfl
  have b3 := eB h (i := 3) (lo := 0) (hi := 400) rfl
  have s0 := h.1.2.1.1
  have h8 : x8 (s, γ) := h.2.2.2.1.2
  have hX : tXI γ M := h.2.2.2.2.2.2
  have hT := aTp_of h.2.2.2
  have hd := hT.hd (c := 181) (by decide) (by decide)
  obtain ⟨m, hm, m0, m1⟩ := hT.int (c := 181) (i := 30) (by decide) (by decide) (by decide) (lo := 0) (hi' := 180) (gs := []) rfl
  obtain ⟨w, hw, w0, w1⟩ := hT.int (c := 181) (i := 31) (by decide) (by decide) (by decide) (lo := 0) (hi' := 180) (gs := []) rfl
  have hB := getB hX (by omega) hw hm
  have hs := xB_sum hB
  have em := i32_mulU (x := l1) (by omega) (by omega)
  have ev : (1048576 * l1 + l2).toInt = 1048576 * l1.toInt + l2.toInt := by rw [i32_add (by omega) (by omega), em]
  have e1 : (m + 1).toInt = m.toInt + 1 := i32_inc (by omega) (by omega)
  have eW : (γ 1001 0 + 1).toInt = (γ 1001 0).toInt + 1 := i32_inc (by omega) (by omega)
  have eH : (γ 1001 4 + 1).toInt = (γ 1001 4).toInt + 1 := i32_inc (by omega) (by omega)
  refine kAload (mi := 197) (pc := 0) (len := 1) (i := 0) rfl hl0 ?_
  refine kGetf (len := 3) (j := 1134) rfl hd (by decide) (t181_ref hT (i := 34) (g := 203) (lo := 0) (hi := 0) (by decide) rfl rfl) ?_
  refine kAload (len := 1) (i := 0) rfl hl0 ?_
  refine kGetf (len := 3) (j := 1130) rfl hd (by decide) hm ?_
  refine kIconst (len := 3) (v := 1048576) rfl ?_
  refine kIload (len := 1) (i := 1) rfl hl1 ?_
  refine kMul (len := 1) rfl ?_
  refine kIload (len := 1) (i := 2) rfl hl2 ?_
  refine kAdd (len := 1) rfl ?_
  refine kIast (len := 1) (n := 180) rfl (hT.hd (c := 203) (by decide) (by decide)) (by decide) (by omega) (by show m.toInt < 180; omega) ?_
  refine kAload (len := 1) (i := 0) rfl hl0 ?_
  refine kAload (len := 1) (i := 0) rfl hl0 ?_
  refine kGetf (len := 3) (j := 1130) rfl (mHd_put.trans hd) (by decide) ((mSlot_put_ne (Or.inl (by decide))).trans hm) ?_
  refine kIconst (len := 1) (v := 1) rfl ?_
  refine kAdd (len := 1) rfl ?_
  refine kPutf (len := 3) (j := 1130) rfl (mHd_put.trans hd) (by decide) (by decide) rfl ?_
  refine kRetV (len := 1) rfl rfl ?_
  refine ⟨((aFr_put rfl).tr (aFr_put rfl)), (gUp (gUp (gUp γ 1001 0 (γ 1001 0 + 1)) 1001 4 (γ 1001 4 + 1)) 1001 8 0), (gFr_up rfl (gFr_up rfl (gFr_up rfl gFr.rf))), _, List.Mem.head _, σ, aExt.rf, ?_⟩
  exact mkHold (by decide) s0 ⟨b00 s0, b1, b2, b3, True.intro⟩ True.intro ⟨hF1_gh (by decide) (by decide) (by show ((γ 1001 0 + 1) : Int32).toInt = σ 2 + 1; omega), hF1_gh (by decide) (by decide) (by show ((γ 1001 4 + 1) : Int32).toInt = σ 3 + 1; omega), True.intro⟩ True.intro (note_ok (v := 1048576 * l1 + l2) h8 hX hT (by omega) hw hm (by omega) (by omega) e1 (gN_up (gN_up (gN_up gN_rf))) rfl rfl rfl rfl rfl (fun g h1 h2 => by
    have hv : g m.toInt.toNat = 1048576 * l1.toInt + l2.toInt := by rw [h2, ev]
    have hg := xB_hg hB h1
    have tg : g m.toInt.toNat / xU = l1.toInt := by rw [hv]; show (1048576 * _ + _) / 1048576 = _; omega
    have ef : xEff (g m.toInt.toNat) = 1 := eff1 (by omega)
    exact xB_A eW rfl rfl rfl (by rw [ef]; exact eH) rfl rfl (xB_note hB h1 ⟨by omega, Or.inr (Or.inl ⟨by omega, by rw [hv]; show (1048576 * _ + _) % 1048576 ≤ 13; omega⟩)⟩)))
theorem cs_notes2 {s : List Int32} : cSound0 s cm_notes2 := by
  intro γ d σ L M _ h
  have hl0 := eR h (i := 0) (g := 181) (c := 0) rfl rfl
  obtain ⟨l1, hl1, el1⟩ := eI h (i := 1) (sy := 1) (c := 0) rfl
  obtain ⟨l2, hl2, el2⟩ := eI h (i := 2) (sy := 0) (c := 0) rfl
  have q1_6 : (γ 1001 6).toInt = σ 0 + 1 := eG h (g := 1001) (i := 6) (sy := 0) (c := 1) (by decide) (List.Mem.head _)
  have q1_0 : (γ 1001 0).toInt = σ 2 + 0 := eG h (g := 1001) (i := 0) (sy := 2) (c := 0) (by decide) (List.Mem.tail _ (List.Mem.head _))
  have q1_4 : (γ 1001 4).toInt = σ 3 + 0 := eG h (g := 1001) (i := 4) (sy := 3) (c := 0) (by decide) (List.Mem.tail _ (List.Mem.tail _ (List.Mem.head _)))
  have q1_1 : (γ 1001 1).toInt = σ 4 + 0 := eG h (g := 1001) (i := 1) (sy := 4) (c := 0) (by decide) (List.Mem.tail _ (List.Mem.tail _ (List.Mem.tail _ (List.Mem.head _))))
  have b1 := eB h (i := 1) (lo := 2) (hi := 6) rfl
  have b2 := eB h (i := 2) (lo := 0) (hi := 178) rfl
  have b3 := eB h (i := 3) (lo := 1) (hi := 400) rfl
  have b4 := eB h (i := 4) (lo := 0) (hi := 180) rfl
  have z0 := (h.1.2.1.2.2 0 4 (-1) (List.Mem.head _)).2.2
  have s0 := h.1.2.1.1
  have h8 : x8 (s, γ) := h.2.2.2.1.2
  have hX : tXI γ M := h.2.2.2.2.2.2
  have hT := aTp_of h.2.2.2
  have hd := hT.hd (c := 181) (by decide) (by decide)
  obtain ⟨m, hm, m0, m1⟩ := hT.int (c := 181) (i := 30) (by decide) (by decide) (by decide) (lo := 0) (hi' := 180) (gs := []) rfl
  obtain ⟨w, hw, w0, w1⟩ := hT.int (c := 181) (i := 31) (by decide) (by decide) (by decide) (lo := 0) (hi' := 180) (gs := []) rfl
  have hB := getB hX (by omega) hw hm
  have hs := xB_sum hB
  have em := i32_mulU (x := l1) (by omega) (by omega)
  have ev : (1048576 * l1 + l2).toInt = 1048576 * l1.toInt + l2.toInt := by rw [i32_add (by omega) (by omega), em]
  have e1 : (m + 1).toInt = m.toInt + 1 := i32_inc (by omega) (by omega)
  have eW : (γ 1001 0 + 1).toInt = (γ 1001 0).toInt + 1 := i32_inc (by omega) (by omega)
  have eH : (γ 1001 4 - 1).toInt = (γ 1001 4).toInt - 1 := i32_dec (by omega) (by omega)
  refine kAload (mi := 197) (pc := 0) (len := 1) (i := 0) rfl hl0 ?_
  refine kGetf (len := 3) (j := 1134) rfl hd (by decide) (t181_ref hT (i := 34) (g := 203) (lo := 0) (hi := 0) (by decide) rfl rfl) ?_
  refine kAload (len := 1) (i := 0) rfl hl0 ?_
  refine kGetf (len := 3) (j := 1130) rfl hd (by decide) hm ?_
  refine kIconst (len := 3) (v := 1048576) rfl ?_
  refine kIload (len := 1) (i := 1) rfl hl1 ?_
  refine kMul (len := 1) rfl ?_
  refine kIload (len := 1) (i := 2) rfl hl2 ?_
  refine kAdd (len := 1) rfl ?_
  refine kIast (len := 1) (n := 180) rfl (hT.hd (c := 203) (by decide) (by decide)) (by decide) (by omega) (by show m.toInt < 180; omega) ?_
  refine kAload (len := 1) (i := 0) rfl hl0 ?_
  refine kAload (len := 1) (i := 0) rfl hl0 ?_
  refine kGetf (len := 3) (j := 1130) rfl (mHd_put.trans hd) (by decide) ((mSlot_put_ne (Or.inl (by decide))).trans hm) ?_
  refine kIconst (len := 1) (v := 1) rfl ?_
  refine kAdd (len := 1) rfl ?_
  refine kPutf (len := 3) (j := 1130) rfl (mHd_put.trans hd) (by decide) (by decide) rfl ?_
  refine kRetV (len := 1) rfl rfl ?_
  refine ⟨((aFr_put rfl).tr (aFr_put rfl)), (gUp (gUp (gUp γ 1001 0 (γ 1001 0 + 1)) 1001 4 (γ 1001 4 - 1)) 1001 8 0), (gFr_up rfl (gFr_up rfl (gFr_up rfl gFr.rf))), _, List.Mem.head _, σ, aExt.rf, ?_⟩
  exact mkHold (by decide) s0 ⟨b00 s0, b1, b2, b3, b4, True.intro⟩ True.intro ⟨hF1_gh (by decide) (by decide) (by show ((γ 1001 0 + 1) : Int32).toInt = σ 2 + 1; omega), hF1_gh (by decide) (by decide) (by show ((γ 1001 4 - 1) : Int32).toInt = σ 3 + (-1); omega), True.intro⟩ True.intro (note_ok (v := 1048576 * l1 + l2) h8 hX hT (by omega) hw hm (by omega) (by omega) e1 (gN_up (gN_up (gN_up gN_rf))) rfl rfl rfl rfl rfl (fun g h1 h2 => by
    have hv : g m.toInt.toNat = 1048576 * l1.toInt + l2.toInt := by rw [h2, ev]
    have hg := xB_hg hB h1
    have tg : g m.toInt.toNat / xU = l1.toInt := by rw [hv]; show (1048576 * _ + _) / 1048576 = _; omega
    have ef : xEff (g m.toInt.toNat) = -1 := effm (by omega) (by omega)
    exact xB_A eW rfl rfl rfl (by rw [ef]; exact eH) rfl rfl (xB_note hB h1 ⟨by omega, Or.inr (Or.inr (Or.inl ⟨by omega, by omega, by omega⟩))⟩)))
theorem cs_notes4 {s : List Int32} : cSound0 s cm_notes4 := by
  intro γ d σ L M _ h
  have hl0 := eR h (i := 0) (g := 181) (c := 0) rfl rfl
  obtain ⟨l1, hl1, el1⟩ := eI h (i := 1) (sy := 1) (c := 0) rfl
  obtain ⟨l2, hl2, el2⟩ := eI h (i := 2) (sy := 0) (c := 0) rfl
  have q1_6 : (γ 1001 6).toInt = σ 0 + 1 := eG h (g := 1001) (i := 6) (sy := 0) (c := 1) (by decide) (List.Mem.head _)
  have q1_0 : (γ 1001 0).toInt = σ 2 + 0 := eG h (g := 1001) (i := 0) (sy := 2) (c := 0) (by decide) (List.Mem.tail _ (List.Mem.head _))
  have q1_4 : (γ 1001 4).toInt = σ 3 + 0 := eG h (g := 1001) (i := 4) (sy := 3) (c := 0) (by decide) (List.Mem.tail _ (List.Mem.tail _ (List.Mem.head _)))
  have b1 := eB h (i := 1) (lo := 7) (hi := 9) rfl
  have b2 := eB h (i := 2) (lo := 0) (hi := 178) rfl
  have b3 := eB h (i := 3) (lo := 2) (hi := 400) rfl
  have s0 := h.1.2.1.1
  have h8 : x8 (s, γ) := h.2.2.2.1.2
  have hX : tXI γ M := h.2.2.2.2.2.2
  have hT := aTp_of h.2.2.2
  have hd := hT.hd (c := 181) (by decide) (by decide)
  obtain ⟨m, hm, m0, m1⟩ := hT.int (c := 181) (i := 30) (by decide) (by decide) (by decide) (lo := 0) (hi' := 180) (gs := []) rfl
  obtain ⟨w, hw, w0, w1⟩ := hT.int (c := 181) (i := 31) (by decide) (by decide) (by decide) (lo := 0) (hi' := 180) (gs := []) rfl
  have hB := getB hX (by omega) hw hm
  have hs := xB_sum hB
  have em := i32_mulU (x := l1) (by omega) (by omega)
  have ev : (1048576 * l1 + l2).toInt = 1048576 * l1.toInt + l2.toInt := by rw [i32_add (by omega) (by omega), em]
  have e1 : (m + 1).toInt = m.toInt + 1 := i32_inc (by omega) (by omega)
  have eW : (γ 1001 0 + 1).toInt = (γ 1001 0).toInt + 1 := i32_inc (by omega) (by omega)
  have eH : (γ 1001 4 - 1).toInt = (γ 1001 4).toInt - 1 := i32_dec (by omega) (by omega)
  refine kAload (mi := 197) (pc := 0) (len := 1) (i := 0) rfl hl0 ?_
  refine kGetf (len := 3) (j := 1134) rfl hd (by decide) (t181_ref hT (i := 34) (g := 203) (lo := 0) (hi := 0) (by decide) rfl rfl) ?_
  refine kAload (len := 1) (i := 0) rfl hl0 ?_
  refine kGetf (len := 3) (j := 1130) rfl hd (by decide) hm ?_
  refine kIconst (len := 3) (v := 1048576) rfl ?_
  refine kIload (len := 1) (i := 1) rfl hl1 ?_
  refine kMul (len := 1) rfl ?_
  refine kIload (len := 1) (i := 2) rfl hl2 ?_
  refine kAdd (len := 1) rfl ?_
  refine kIast (len := 1) (n := 180) rfl (hT.hd (c := 203) (by decide) (by decide)) (by decide) (by omega) (by show m.toInt < 180; omega) ?_
  refine kAload (len := 1) (i := 0) rfl hl0 ?_
  refine kAload (len := 1) (i := 0) rfl hl0 ?_
  refine kGetf (len := 3) (j := 1130) rfl (mHd_put.trans hd) (by decide) ((mSlot_put_ne (Or.inl (by decide))).trans hm) ?_
  refine kIconst (len := 1) (v := 1) rfl ?_
  refine kAdd (len := 1) rfl ?_
  refine kPutf (len := 3) (j := 1130) rfl (mHd_put.trans hd) (by decide) (by decide) rfl ?_
  refine kRetV (len := 1) rfl rfl ?_
  refine ⟨((aFr_put rfl).tr (aFr_put rfl)), (gUp (gUp (gUp γ 1001 0 (γ 1001 0 + 1)) 1001 4 (γ 1001 4 - 1)) 1001 8 0), (gFr_up rfl (gFr_up rfl (gFr_up rfl gFr.rf))), _, List.Mem.head _, σ, aExt.rf, ?_⟩
  exact mkHold (by decide) s0 ⟨b00 s0, b1, b2, b3, True.intro⟩ True.intro ⟨hF1_gh (by decide) (by decide) (by show ((γ 1001 0 + 1) : Int32).toInt = σ 2 + 1; omega), hF1_gh (by decide) (by decide) (by show ((γ 1001 4 - 1) : Int32).toInt = σ 3 + (-1); omega), True.intro⟩ True.intro (note_ok (v := 1048576 * l1 + l2) h8 hX hT (by omega) hw hm (by omega) (by omega) e1 (gN_up (gN_up (gN_up gN_rf))) rfl rfl rfl rfl rfl (fun g h1 h2 => by
    have hv : g m.toInt.toNat = 1048576 * l1.toInt + l2.toInt := by rw [h2, ev]
    have hg := xB_hg hB h1
    have tg : g m.toInt.toNat / xU = l1.toInt := by rw [hv]; show (1048576 * _ + _) / 1048576 = _; omega
    have ef : xEff (g m.toInt.toNat) = -1 := effm (by omega) (by omega)
    exact xB_A eW rfl rfl rfl (by rw [ef]; exact eH) rfl rfl (xB_note hB h1 ⟨by omega, Or.inr (Or.inr (Or.inl ⟨by omega, by omega, by omega⟩))⟩)))
theorem cs_notes3 {s : List Int32} : cSound0 s cm_notes3 := by
  intro γ d σ L M _ h
  have hl0 := eR h (i := 0) (g := 181) (c := 0) rfl rfl
  obtain ⟨l1, hl1, el1⟩ := eI h (i := 1) (sy := 0) (c := 10) rfl
  obtain ⟨l2, hl2, el2⟩ := eI h (i := 2) (sy := 0) (c := 0) rfl
  have q1_6 : (γ 1001 6).toInt = σ 0 + 1 := eG h (g := 1001) (i := 6) (sy := 0) (c := 1) (by decide) (List.Mem.head _)
  have q1_0 : (γ 1001 0).toInt = σ 1 + 0 := eG h (g := 1001) (i := 0) (sy := 1) (c := 0) (by decide) (List.Mem.tail _ (List.Mem.head _))
  have q1_4 : (γ 1001 4).toInt = σ 2 + 0 := eG h (g := 1001) (i := 4) (sy := 2) (c := 0) (by decide) (List.Mem.tail _ (List.Mem.tail _ (List.Mem.head _)))
  have b1 := eB h (i := 1) (lo := 0) (hi := 178) rfl
  have b2 := eB h (i := 2) (lo := 1) (hi := 400) rfl
  have s0 := h.1.2.1.1
  have h8 : x8 (s, γ) := h.2.2.2.1.2
  have hX : tXI γ M := h.2.2.2.2.2.2
  have hT := aTp_of h.2.2.2
  have hd := hT.hd (c := 181) (by decide) (by decide)
  obtain ⟨m, hm, m0, m1⟩ := hT.int (c := 181) (i := 30) (by decide) (by decide) (by decide) (lo := 0) (hi' := 180) (gs := []) rfl
  obtain ⟨w, hw, w0, w1⟩ := hT.int (c := 181) (i := 31) (by decide) (by decide) (by decide) (lo := 0) (hi' := 180) (gs := []) rfl
  have hB := getB hX (by omega) hw hm
  have hs := xB_sum hB
  have em := i32_mulU (x := l1) (by omega) (by omega)
  have ev : (1048576 * l1 + l2).toInt = 1048576 * l1.toInt + l2.toInt := by rw [i32_add (by omega) (by omega), em]
  have e1 : (m + 1).toInt = m.toInt + 1 := i32_inc (by omega) (by omega)
  have eW : (γ 1001 0 + 1).toInt = (γ 1001 0).toInt + 1 := i32_inc (by omega) (by omega)
  refine kAload (mi := 197) (pc := 0) (len := 1) (i := 0) rfl hl0 ?_
  refine kGetf (len := 3) (j := 1134) rfl hd (by decide) (t181_ref hT (i := 34) (g := 203) (lo := 0) (hi := 0) (by decide) rfl rfl) ?_
  refine kAload (len := 1) (i := 0) rfl hl0 ?_
  refine kGetf (len := 3) (j := 1130) rfl hd (by decide) hm ?_
  refine kIconst (len := 3) (v := 1048576) rfl ?_
  refine kIload (len := 1) (i := 1) rfl hl1 ?_
  refine kMul (len := 1) rfl ?_
  refine kIload (len := 1) (i := 2) rfl hl2 ?_
  refine kAdd (len := 1) rfl ?_
  refine kIast (len := 1) (n := 180) rfl (hT.hd (c := 203) (by decide) (by decide)) (by decide) (by omega) (by show m.toInt < 180; omega) ?_
  refine kAload (len := 1) (i := 0) rfl hl0 ?_
  refine kAload (len := 1) (i := 0) rfl hl0 ?_
  refine kGetf (len := 3) (j := 1130) rfl (mHd_put.trans hd) (by decide) ((mSlot_put_ne (Or.inl (by decide))).trans hm) ?_
  refine kIconst (len := 1) (v := 1) rfl ?_
  refine kAdd (len := 1) rfl ?_
  refine kPutf (len := 3) (j := 1130) rfl (mHd_put.trans hd) (by decide) (by decide) rfl ?_
  refine kRetV (len := 1) rfl rfl ?_
  refine ⟨((aFr_put rfl).tr (aFr_put rfl)), (gUp (gUp γ 1001 0 (γ 1001 0 + 1)) 1001 8 0), (gFr_up rfl (gFr_up rfl gFr.rf)), _, List.Mem.head _, σ, aExt.rf, ?_⟩
  exact mkHold (by decide) s0 ⟨b00 s0, b1, b2, True.intro⟩ True.intro ⟨hF1_gh (by decide) (by decide) (by show ((γ 1001 0 + 1) : Int32).toInt = σ 1 + 1; omega), hF1_gh (by decide) (by decide) (by show ((γ 1001 4) : Int32).toInt = σ 2 + 0; omega), True.intro⟩ True.intro (note_ok (v := 1048576 * l1 + l2) h8 hX hT (by omega) hw hm (by omega) (by omega) e1 (gN_up (gN_up gN_rf)) rfl rfl rfl rfl rfl (fun g h1 h2 => by
    have hv : g m.toInt.toNat = 1048576 * l1.toInt + l2.toInt := by rw [h2, ev]
    have hg := xB_hg hB h1
    have tg : g m.toInt.toNat / xU = l1.toInt := by rw [hv]; show (1048576 * _ + _) / 1048576 = _; omega
    have ef : xEff (g m.toInt.toNat) = 0 := eff0 (by omega)
    exact xB_A eW rfl rfl rfl (by rw [ef]; exact (Int.add_zero _).symm) rfl rfl (xB_note hB h1 ⟨by omega, Or.inr (Or.inr (Or.inr (Or.inl ⟨by omega, by omega⟩)))⟩)))
theorem cs_top {s : List Int32} : cSound0 s cm_top := by
  intro γ d σ L M _ h
  have hl0 := eR h (i := 0) (g := 181) (c := 0) rfl rfl
  have q1_3 : (γ 1001 3).toInt = σ 1 + 0 := eG h (g := 1001) (i := 3) (sy := 1) (c := 0) (by decide) (List.Mem.head _)
  have q1_1 : (γ 1001 1).toInt = σ 2 + 0 := eG h (g := 1001) (i := 1) (sy := 2) (c := 0) (by decide) (List.Mem.tail _ (List.Mem.head _))
  have q1_2 : (γ 1001 2).toInt = σ 3 + 0 := eG h (g := 1001) (i := 2) (sy := 3) (c := 0) (by decide) (List.Mem.tail _ (List.Mem.tail _ (List.Mem.head _)))
  obtain ⟨f31, hf31, ef31⟩ := eF h (g := 181) (i := 31) (sy := 4) (c := 0) (by decide) (by decide) rfl (List.Mem.tail _ (List.Mem.tail _ (List.Mem.tail _ (List.Mem.head _))))
  have q1_5 : (γ 1001 5).toInt = σ 5 + 0 := eG h (g := 1001) (i := 5) (sy := 5) (c := 0) (by decide) (List.Mem.tail _ (List.Mem.tail _ (List.Mem.tail _ (List.Mem.tail _ (List.Mem.head _)))))
  have q1_6 : (γ 1001 6).toInt = σ 0 + 1 := eG h (g := 1001) (i := 6) (sy := 0) (c := 1) (by decide) (List.Mem.tail _ (List.Mem.tail _ (List.Mem.tail _ (List.Mem.tail _ (List.Mem.tail _ (List.Mem.head _))))))
  have b1 := eB h (i := 1) (lo := (-1)) (hi := 14) rfl
  have b2 := eB h (i := 2) (lo := 0) (hi := 180) rfl
  have b3 := eB h (i := 3) (lo := 0) (hi := 180) rfl
  have b4 := eB h (i := 4) (lo := 0) (hi := 180) rfl
  have b5 := eB h (i := 5) (lo := 0) (hi := 180) rfl
  have s0 := h.1.2.1.1
  have h8 : x8 (s, γ) := h.2.2.2.1.2
  have hX : tXI γ M := h.2.2.2.2.2.2
  have hT := aTp_of h.2.2.2
  have hd := hT.hd (c := 181) (by decide) (by decide)
  obtain ⟨m, hm, m0, m1⟩ := hT.int (c := 181) (i := 30) (by decide) (by decide) (by decide) (lo := 0) (hi' := 180) (gs := []) rfl
  have hB := getB hX (by omega) hf31 hm
  have hs := xB_sum hB
  have ht := xB_T hB
  have hP := hB.1.1
  by_cases e0 : f31.toInt = 0
  · refine kAload (mi := 199) (pc := 0) (len := 1) (i := 0) rfl hl0 ?_
    refine kGetf (len := 3) (j := 1131) rfl hd (by decide) hf31 ?_
    refine kIfF (len := 3) rfl (t := 11) rfl (c_nne e0) ?_
    refine kIconst (len := 1) (v := -1) rfl ?_
    refine kGoto (len := 3) (t := 26) rfl rfl ?_
    refine kRetI (len := 1) rfl (Or.inl rfl) ?_
    refine ⟨aFr.rf, γ, gFr.rf, _, List.Mem.head _, σ, aExt.rf, ?_⟩
    exact mkHold (by decide) s0 ⟨b00 s0, b1, b2, b3, b4, b5, True.intro⟩ ⟨⟨by decide, by decide, by show σ 0 - σ 1 ≤ 1; omega⟩, ⟨by decide, by decide, by show σ 1 - σ 0 ≤ (-1); omega⟩, ⟨by decide, by decide, by show σ 2 - σ 0 ≤ 0; omega⟩, ⟨by decide, by decide, by show σ 3 - σ 0 ≤ 0; omega⟩, ⟨by decide, by decide, by show σ 4 - σ 5 ≤ 0; omega⟩, ⟨by decide, by decide, by show σ 5 - σ 4 ≤ 0; omega⟩, ⟨by decide, by decide, by show σ 4 - σ 0 ≤ 0; omega⟩, True.intro⟩ ⟨hF1_gh (by decide) (by decide) (by show ((γ 1001 3) : Int32).toInt = σ 0 + (-1); omega), True.intro⟩ ⟨⟨by decide, _, rfl, by show (-1 : Int) = σ 0 + (-1); omega⟩, True.intro⟩ h.2.2.2
  · have ew : (f31 - 1).toInt = f31.toInt - 1 := i32_dec (by omega) (by omega)
    obtain ⟨y, y1, y2, y3⟩ := hT.int (c := 204) (i := (f31 - 1).toInt.toNat) (by decide) (by decide) (by show _ < 180; omega) (lo := -2147483648) (hi' := 2147483647) (gs := []) rfl
    have n1 : xI (xv M) 204 (f31 - 1).toInt.toNat = y.toInt := xI_at rfl y1
    have hy : 0 ≤ y.toInt := by rw [← n1]; exact hB.2.1.1 _ (by omega)
    have hq : (γ 1001 3).toInt = y.toInt / xU := by
      have := hB.2.2.1.1
      rw [if_neg (by omega), show f31.toInt.toNat - 1 = (f31 - 1).toInt.toNat by omega, n1] at this
      exact this
    have ed := i32_divU hy
    rw [← hq] at ed
    have hc : (10 ≤ (γ 1001 3).toInt ∧ (γ 1001 3).toInt ≤ 13 ∧ (γ 1001 5).toInt.toNat = f31.toInt.toNat) ∨ (2 ≤ (γ 1001 3).toInt ∧ (γ 1001 3).toInt ≤ 6 ∧ 1 ≤ (γ 1001 1).toInt) ∨ ((γ 1001 3).toInt = 14 ∧ 1 ≤ (γ 1001 2).toInt) := by
      have hw : f31.toInt.toNat = f31.toInt.toNat - 1 + 1 := by omega
      by_cases g : (γ 1001 5).toInt.toNat = f31.toInt.toNat
      · have := ht.2.2.2.2 g (by omega)
        omega
      · have := hB.2.1.2.2.1 (f31.toInt.toNat - 1) (by omega) (by omega)
        have e := hB.2.2.1.1
        rw [if_neg (by omega)] at e
        rw [← e] at this
        rw [hw] at hB
        rcases this with c | c
        · have := xB_sum (xB_pop_ar hB c).1
          omega
        · have := xB_sum (xB_pop_sm hB c).1
          omega
    refine kAload (mi := 199) (pc := 0) (len := 1) (i := 0) rfl hl0 ?_
    refine kGetf (len := 3) (j := 1131) rfl hd (by decide) hf31 ?_
    refine kIfT (len := 3) rfl (t := 11) rfl (c_ne e0) ?_
    refine kAload (len := 1) (i := 0) rfl hl0 ?_
    refine kGetf (len := 3) (j := 1135) rfl hd (by decide) (t181_ref hT (i := 35) (g := 204) (lo := 0) (hi := 0) (by decide) rfl rfl) ?_
    refine kAload (len := 1) (i := 0) rfl hl0 ?_
    refine kGetf (len := 3) (j := 1131) rfl hd (by decide) hf31 ?_
    refine kIconst (len := 1) (v := 1) rfl ?_
    refine kSub (len := 1) rfl ?_
    refine kIald (len := 1) (n := 180) rfl (hT.hd (c := 204) (by decide) (by decide)) (by show 0 ≤ (f31 - 1).toInt; omega) (by show (f31 - 1).toInt < 180; omega) y1 ?_
    refine kIconst (len := 3) (v := 1048576) rfl ?_
    refine kDiv (len := 1) rfl (by decide) ?_
    refine kRetI (len := 1) rfl (Or.inl rfl) ?_
    have tt : (γ 1001 3).toInt = 2 ∨ (γ 1001 3).toInt = 3 ∨ (γ 1001 3).toInt = 4 ∨ (γ 1001 3).toInt = 5 ∨ (γ 1001 3).toInt = 6 ∨ (γ 1001 3).toInt = 10 ∨ (γ 1001 3).toInt = 11 ∨ (γ 1001 3).toInt = 12 ∨ (γ 1001 3).toInt = 13 ∨ (γ 1001 3).toInt = 14 := by omega
    rcases tt with c | c | c | c | c | c | c | c | c | c
    · refine ⟨aFr.rf, γ, gFr.rf, _, List.Mem.tail _ (List.Mem.head _), σ, aExt.rf, ?_⟩
      exact mkHold (by decide) s0 ⟨b00 s0, b1, b2, b3, b4, b5, True.intro⟩ ⟨⟨by decide, by decide, by show σ 0 - σ 1 ≤ (-2); omega⟩, ⟨by decide, by decide, by show σ 1 - σ 0 ≤ 2; omega⟩, ⟨by decide, by decide, by show σ 0 - σ 2 ≤ (-1); omega⟩, True.intro⟩ ⟨hF1_gh (by decide) (by decide) (by show ((γ 1001 3) : Int32).toInt = σ 0 + 2; omega), True.intro⟩ ⟨⟨by decide, _, rfl, by show ((y / 1048576) : Int32).toInt = σ 0 + 2; omega⟩, True.intro⟩ h.2.2.2
    · refine ⟨aFr.rf, γ, gFr.rf, _, List.Mem.tail _ (List.Mem.tail _ (List.Mem.head _)), σ, aExt.rf, ?_⟩
      exact mkHold (by decide) s0 ⟨b00 s0, b1, b2, b3, b4, b5, True.intro⟩ ⟨⟨by decide, by decide, by show σ 0 - σ 1 ≤ (-3); omega⟩, ⟨by decide, by decide, by show σ 1 - σ 0 ≤ 3; omega⟩, ⟨by decide, by decide, by show σ 0 - σ 2 ≤ (-1); omega⟩, True.intro⟩ ⟨hF1_gh (by decide) (by decide) (by show ((γ 1001 3) : Int32).toInt = σ 0 + 3; omega), True.intro⟩ ⟨⟨by decide, _, rfl, by show ((y / 1048576) : Int32).toInt = σ 0 + 3; omega⟩, True.intro⟩ h.2.2.2
    · refine ⟨aFr.rf, γ, gFr.rf, _, List.Mem.tail _ (List.Mem.tail _ (List.Mem.tail _ (List.Mem.head _))), σ, aExt.rf, ?_⟩
      exact mkHold (by decide) s0 ⟨b00 s0, b1, b2, b3, b4, b5, True.intro⟩ ⟨⟨by decide, by decide, by show σ 0 - σ 1 ≤ (-4); omega⟩, ⟨by decide, by decide, by show σ 1 - σ 0 ≤ 4; omega⟩, ⟨by decide, by decide, by show σ 0 - σ 2 ≤ (-1); omega⟩, True.intro⟩ ⟨hF1_gh (by decide) (by decide) (by show ((γ 1001 3) : Int32).toInt = σ 0 + 4; omega), True.intro⟩ ⟨⟨by decide, _, rfl, by show ((y / 1048576) : Int32).toInt = σ 0 + 4; omega⟩, True.intro⟩ h.2.2.2
    · refine ⟨aFr.rf, γ, gFr.rf, _, List.Mem.tail _ (List.Mem.tail _ (List.Mem.tail _ (List.Mem.tail _ (List.Mem.head _)))), σ, aExt.rf, ?_⟩
      exact mkHold (by decide) s0 ⟨b00 s0, b1, b2, b3, b4, b5, True.intro⟩ ⟨⟨by decide, by decide, by show σ 0 - σ 1 ≤ (-5); omega⟩, ⟨by decide, by decide, by show σ 1 - σ 0 ≤ 5; omega⟩, ⟨by decide, by decide, by show σ 0 - σ 2 ≤ (-1); omega⟩, True.intro⟩ ⟨hF1_gh (by decide) (by decide) (by show ((γ 1001 3) : Int32).toInt = σ 0 + 5; omega), True.intro⟩ ⟨⟨by decide, _, rfl, by show ((y / 1048576) : Int32).toInt = σ 0 + 5; omega⟩, True.intro⟩ h.2.2.2
    · refine ⟨aFr.rf, γ, gFr.rf, _, List.Mem.tail _ (List.Mem.tail _ (List.Mem.tail _ (List.Mem.tail _ (List.Mem.tail _ (List.Mem.head _))))), σ, aExt.rf, ?_⟩
      exact mkHold (by decide) s0 ⟨b00 s0, b1, b2, b3, b4, b5, True.intro⟩ ⟨⟨by decide, by decide, by show σ 0 - σ 1 ≤ (-6); omega⟩, ⟨by decide, by decide, by show σ 1 - σ 0 ≤ 6; omega⟩, ⟨by decide, by decide, by show σ 0 - σ 2 ≤ (-1); omega⟩, True.intro⟩ ⟨hF1_gh (by decide) (by decide) (by show ((γ 1001 3) : Int32).toInt = σ 0 + 6; omega), True.intro⟩ ⟨⟨by decide, _, rfl, by show ((y / 1048576) : Int32).toInt = σ 0 + 6; omega⟩, True.intro⟩ h.2.2.2
    · refine ⟨aFr.rf, γ, gFr.rf, _, List.Mem.tail _ (List.Mem.tail _ (List.Mem.tail _ (List.Mem.tail _ (List.Mem.tail _ (List.Mem.tail _ (List.Mem.head _)))))), σ, aExt.rf, ?_⟩
      exact mkHold (by decide) s0 ⟨b00 s0, b1, b2, b3, b4, b5, True.intro⟩ ⟨⟨by decide, by decide, by show σ 0 - σ 1 ≤ (-10); omega⟩, ⟨by decide, by decide, by show σ 1 - σ 0 ≤ 10; omega⟩, ⟨by decide, by decide, by show σ 2 - σ 0 ≤ 0; omega⟩, ⟨by decide, by decide, by show σ 3 - σ 0 ≤ 0; omega⟩, ⟨by decide, by decide, by show σ 4 - σ 5 ≤ 0; omega⟩, ⟨by decide, by decide, by show σ 5 - σ 4 ≤ 0; omega⟩, ⟨by decide, by decide, by show σ 0 - σ 4 ≤ (-1); omega⟩, True.intro⟩ ⟨hF1_gh (by decide) (by decide) (by show ((γ 1001 3) : Int32).toInt = σ 0 + 10; omega), True.intro⟩ ⟨⟨by decide, _, rfl, by show ((y / 1048576) : Int32).toInt = σ 0 + 10; omega⟩, True.intro⟩ h.2.2.2
    · refine ⟨aFr.rf, γ, gFr.rf, _, List.Mem.tail _ (List.Mem.tail _ (List.Mem.tail _ (List.Mem.tail _ (List.Mem.tail _ (List.Mem.tail _ (List.Mem.tail _ (List.Mem.head _))))))), σ, aExt.rf, ?_⟩
      exact mkHold (by decide) s0 ⟨b00 s0, b1, b2, b3, b4, b5, True.intro⟩ ⟨⟨by decide, by decide, by show σ 0 - σ 1 ≤ (-11); omega⟩, ⟨by decide, by decide, by show σ 1 - σ 0 ≤ 11; omega⟩, ⟨by decide, by decide, by show σ 2 - σ 0 ≤ 0; omega⟩, ⟨by decide, by decide, by show σ 3 - σ 0 ≤ 0; omega⟩, ⟨by decide, by decide, by show σ 4 - σ 5 ≤ 0; omega⟩, ⟨by decide, by decide, by show σ 5 - σ 4 ≤ 0; omega⟩, ⟨by decide, by decide, by show σ 0 - σ 4 ≤ (-1); omega⟩, True.intro⟩ ⟨hF1_gh (by decide) (by decide) (by show ((γ 1001 3) : Int32).toInt = σ 0 + 11; omega), True.intro⟩ ⟨⟨by decide, _, rfl, by show ((y / 1048576) : Int32).toInt = σ 0 + 11; omega⟩, True.intro⟩ h.2.2.2
    · refine ⟨aFr.rf, γ, gFr.rf, _, List.Mem.tail _ (List.Mem.tail _ (List.Mem.tail _ (List.Mem.tail _ (List.Mem.tail _ (List.Mem.tail _ (List.Mem.tail _ (List.Mem.tail _ (List.Mem.head _)))))))), σ, aExt.rf, ?_⟩
      exact mkHold (by decide) s0 ⟨b00 s0, b1, b2, b3, b4, b5, True.intro⟩ ⟨⟨by decide, by decide, by show σ 0 - σ 1 ≤ (-12); omega⟩, ⟨by decide, by decide, by show σ 1 - σ 0 ≤ 12; omega⟩, ⟨by decide, by decide, by show σ 2 - σ 0 ≤ 0; omega⟩, ⟨by decide, by decide, by show σ 3 - σ 0 ≤ 0; omega⟩, ⟨by decide, by decide, by show σ 4 - σ 5 ≤ 0; omega⟩, ⟨by decide, by decide, by show σ 5 - σ 4 ≤ 0; omega⟩, ⟨by decide, by decide, by show σ 0 - σ 4 ≤ (-1); omega⟩, True.intro⟩ ⟨hF1_gh (by decide) (by decide) (by show ((γ 1001 3) : Int32).toInt = σ 0 + 12; omega), True.intro⟩ ⟨⟨by decide, _, rfl, by show ((y / 1048576) : Int32).toInt = σ 0 + 12; omega⟩, True.intro⟩ h.2.2.2
    · refine ⟨aFr.rf, γ, gFr.rf, _, List.Mem.tail _ (List.Mem.tail _ (List.Mem.tail _ (List.Mem.tail _ (List.Mem.tail _ (List.Mem.tail _ (List.Mem.tail _ (List.Mem.tail _ (List.Mem.tail _ (List.Mem.head _))))))))), σ, aExt.rf, ?_⟩
      exact mkHold (by decide) s0 ⟨b00 s0, b1, b2, b3, b4, b5, True.intro⟩ ⟨⟨by decide, by decide, by show σ 0 - σ 1 ≤ (-13); omega⟩, ⟨by decide, by decide, by show σ 1 - σ 0 ≤ 13; omega⟩, ⟨by decide, by decide, by show σ 2 - σ 0 ≤ 0; omega⟩, ⟨by decide, by decide, by show σ 3 - σ 0 ≤ 0; omega⟩, ⟨by decide, by decide, by show σ 4 - σ 5 ≤ 0; omega⟩, ⟨by decide, by decide, by show σ 5 - σ 4 ≤ 0; omega⟩, ⟨by decide, by decide, by show σ 0 - σ 4 ≤ (-1); omega⟩, True.intro⟩ ⟨hF1_gh (by decide) (by decide) (by show ((γ 1001 3) : Int32).toInt = σ 0 + 13; omega), True.intro⟩ ⟨⟨by decide, _, rfl, by show ((y / 1048576) : Int32).toInt = σ 0 + 13; omega⟩, True.intro⟩ h.2.2.2
    · refine ⟨aFr.rf, γ, gFr.rf, _, List.Mem.tail _ (List.Mem.tail _ (List.Mem.tail _ (List.Mem.tail _ (List.Mem.tail _ (List.Mem.tail _ (List.Mem.tail _ (List.Mem.tail _ (List.Mem.tail _ (List.Mem.tail _ (List.Mem.head _)))))))))), σ, aExt.rf, ?_⟩
      exact mkHold (by decide) s0 ⟨b00 s0, b1, b2, b3, b4, b5, True.intro⟩ ⟨⟨by decide, by decide, by show σ 0 - σ 1 ≤ (-14); omega⟩, ⟨by decide, by decide, by show σ 1 - σ 0 ≤ 14; omega⟩, ⟨by decide, by decide, by show σ 0 - σ 3 ≤ (-1); omega⟩, True.intro⟩ ⟨hF1_gh (by decide) (by decide) (by show ((γ 1001 3) : Int32).toInt = σ 0 + 14; omega), True.intro⟩ ⟨⟨by decide, _, rfl, by show ((y / 1048576) : Int32).toInt = σ 0 + 14; omega⟩, True.intro⟩ h.2.2.2
