/-! what waits: pushes and pops -/
theorem i32_mulU {x : Int32} (h0 : 0 ≤ x.toInt) (h1 : x.toInt ≤ 1000) : (1048576 * x).toInt = 1048576 * x.toInt := by
  have : ((1048576 : Int32) * x).toInt = (1048576 : Int32).toInt * x.toInt := i32_mul (by show -2147483648 ≤ 1048576 * _; omega) (by show 1048576 * _ ≤ 2147483647; omega)
  rw [this]
  rfl
theorem i32_ex {t : Int} (h0 : -1 ≤ t) (h1 : t ≤ 1000) : ∃ x : Int32, x.toInt = t := by
  by_cases h : t = -1
  · exact ⟨-1, h.symm ▸ rfl⟩
  · exact ⟨Int32.ofNat t.toNat, by rw [Int32.toInt_ofNat_of_lt (by omega)]; omega⟩
section
variable {W O N T H P S : Int} {f wa : Nat → Int} {w m p sg : Nat}
theorem xB_T (h : xB W O N T H P S f wa w m p sg) : -1 ≤ T ∧ T ≤ 14 ∧ (0 ≤ T → 1 ≤ w) ∧ (1 ≤ w → 0 ≤ T) ∧ (p = w → 1 ≤ w → 10 ≤ T ∧ T ≤ 13) := by
  obtain ⟨_, ⟨_, h2, h3, _⟩, ⟨e, _⟩, _⟩ := h
  by_cases z : w = 0
  · rw [if_pos z] at e
    omega
  · rw [if_neg z] at e
    by_cases q : w - 1 < p
    · have := h2 (w - 1) q
      omega
    · rcases h3 (w - 1) (by omega) (by omega) with c | c <;> omega
end
theorem gs_op14 {s : List Int32} : gSound0 s sg_op14 := by
  intro γ d σ L st0 st M Q _ h k
  have e0 := eNil h
  subst e0
  have hl0 := eR h (i := 0) (g := 181) (c := 0) rfl rfl
  obtain ⟨l1, hl1, el1⟩ := eI h (i := 1) (sy := 0) (c := 14) rfl
  have q1_6 : (γ 1001 6).toInt = σ 0 + 1 := eG h (g := 1001) (i := 6) (sy := 0) (c := 1) (by decide) (List.Mem.head _)
  obtain ⟨f31, hf31, ef31⟩ := eF h (g := 181) (i := 31) (sy := 1) (c := 0) (by decide) (by decide) rfl (List.Mem.tail _ (List.Mem.head _))
  have q1_2 : (γ 1001 2).toInt = σ 2 + 0 := eG h (g := 1001) (i := 2) (sy := 2) (c := 0) (by decide) (List.Mem.tail _ (List.Mem.tail _ (List.Mem.head _)))
  have b1 := eB h (i := 1) (lo := 0) (hi := 178) rfl
  have b2 := eB h (i := 2) (lo := 0) (hi := 180) rfl
  have s0 := h.1.2.1.1
  have h8 : x8 (s, γ) := h.2.2.2.1.2
  have hX : tXI γ M := h.2.2.2.2.2.2
  have hT := aTp_of h.2.2.2
  have hd := hT.hd (c := 181) (by decide) (by decide)
  obtain ⟨m, hm, m0, m1⟩ := hT.int (c := 181) (i := 30) (by decide) (by decide) (by decide) (lo := 0) (hi' := 180) (gs := []) rfl
  have hB := getB hX (by omega) hf31 hm
  have hs := xB_sum hB
  have hP := hB.1.1
  have ev := i32_mulU (x := l1) (by omega) (by omega)
  have ew : (f31 + 1).toInt = f31.toInt + 1 := i32_inc (by omega) (by omega)
  have eN : (γ 1001 2 + 1).toInt = (γ 1001 2).toInt + 1 := i32_inc (by omega) (by omega)
  refine kAload (mi := 198) (pc := 29) (len := 1) (i := 0) rfl hl0 ?_
  refine kGetf (len := 3) (j := 1135) rfl hd (by decide) (t181_ref hT (i := 35) (g := 204) (lo := 0) (hi := 0) (by decide) rfl rfl) ?_
  refine kAload (len := 1) (i := 0) rfl hl0 ?_
  refine kGetf (len := 3) (j := 1131) rfl hd (by decide) hf31 ?_
  refine kIconst (len := 3) (v := 1048576) rfl ?_
  refine kIload (len := 1) (i := 1) rfl hl1 ?_
  refine kMul (len := 1) rfl ?_
  refine kIast (len := 1) (n := 180) rfl (hT.hd (c := 204) (by decide) (by decide)) (by decide) (by omega) (by show f31.toInt < 180; omega) ?_
  refine kAload (len := 1) (i := 0) rfl hl0 ?_
  refine kAload (len := 1) (i := 0) rfl hl0 ?_
  refine kGetf (len := 3) (j := 1131) rfl (mHd_put.trans hd) (by decide) ((mSlot_put_ne (Or.inl (by decide))).trans hf31) ?_
  refine kIconst (len := 1) (v := 1) rfl ?_
  refine kAdd (len := 1) rfl ?_
  refine kPutf (len := 3) (j := 1131) rfl (mHd_put.trans hd) (by decide) (by decide) rfl ?_
  refine k (gUp (gUp γ 1001 2 (γ 1001 2 + 1)) 1001 3 14) σ _ L [] _ (List.Mem.head _) (fun _ _ => rfl) ((aFr_put rfl).tr (aFr_put rfl)) (gFr_up rfl (gFr_up rfl gFr.rf)) aExt.rf ?_
  exact mkHold (by decide) s0 ⟨b00 s0, b1, b2, True.intro⟩ True.intro ⟨hF1_re rfl (by decide) (by decide) (mSlot_put_eq (mHd_put.trans hd) (by decide)) (by show ((f31 + 1) : Int32).toInt = σ 1 + 1; omega), hF1_gh (by decide) (by decide) (by show ((γ 1001 2 + 1) : Int32).toInt = σ 2 + 1; omega), hF1_gh (by decide) (by decide) (by show (14 : Int) = σ 0 + 14; omega), True.intro⟩ True.intro (push_ok (v := 1048576 * l1) h8 hX hT hf31 hm (by omega) (by omega) ew (gN_up (gN_up gN_rf)) rfl rfl rfl rfl rfl (fun wb h1 h2 => xB_A rfl rfl eN rfl rfl rfl rfl (xB_push_sm hB h1 (by rw [h2, ev]; omega) (by rw [h2, ev]; show 1048576 * _ / 1048576 = _; omega))))
theorem gs_op13 {s : List Int32} : gSound0 s sg_op13 := by
  intro γ d σ L st0 st M Q _ h k
  have e0 := eNil h
  subst e0
  have hl0 := eR h (i := 0) (g := 181) (c := 0) rfl rfl
  obtain ⟨l1, hl1, el1⟩ := eI h (i := 1) (sy := 0) (c := 13) rfl
  have q1_6 : (γ 1001 6).toInt = σ 0 + 1 := eG h (g := 1001) (i := 6) (sy := 0) (c := 1) (by decide) (List.Mem.head _)
  obtain ⟨f31, hf31, ef31⟩ := eF h (g := 181) (i := 31) (sy := 1) (c := 0) (by decide) (by decide) rfl (List.Mem.tail _ (List.Mem.head _))
  have q1_5 : (γ 1001 5).toInt = σ 1 + 0 := eG h (g := 1001) (i := 5) (sy := 1) (c := 0) (by decide) (List.Mem.tail _ (List.Mem.tail _ (List.Mem.head _)))
  have b1 := eB h (i := 1) (lo := 0) (hi := 178) rfl
  have s0 := h.1.2.1.1
  have h8 : x8 (s, γ) := h.2.2.2.1.2
  have hX : tXI γ M := h.2.2.2.2.2.2
  have hT := aTp_of h.2.2.2
  have hd := hT.hd (c := 181) (by decide) (by decide)
  obtain ⟨m, hm, m0, m1⟩ := hT.int (c := 181) (i := 30) (by decide) (by decide) (by decide) (lo := 0) (hi' := 180) (gs := []) rfl
  have hB := getB hX (by omega) hf31 hm
  have hs := xB_sum hB
  have hP := hB.1.1
  have ev := i32_mulU (x := l1) (by omega) (by omega)
  have ew : (f31 + 1).toInt = f31.toInt + 1 := i32_inc (by omega) (by omega)
  have eP : (γ 1001 5 + 1).toInt = (γ 1001 5).toInt + 1 := i32_inc (by omega) (by omega)
  refine kAload (mi := 198) (pc := 29) (len := 1) (i := 0) rfl hl0 ?_
  refine kGetf (len := 3) (j := 1135) rfl hd (by decide) (t181_ref hT (i := 35) (g := 204) (lo := 0) (hi := 0) (by decide) rfl rfl) ?_
  refine kAload (len := 1) (i := 0) rfl hl0 ?_
  refine kGetf (len := 3) (j := 1131) rfl hd (by decide) hf31 ?_
  refine kIconst (len := 3) (v := 1048576) rfl ?_
  refine kIload (len := 1) (i := 1) rfl hl1 ?_
  refine kMul (len := 1) rfl ?_
  refine kIast (len := 1) (n := 180) rfl (hT.hd (c := 204) (by decide) (by decide)) (by decide) (by omega) (by show f31.toInt < 180; omega) ?_
  refine kAload (len := 1) (i := 0) rfl hl0 ?_
  refine kAload (len := 1) (i := 0) rfl hl0 ?_
  refine kGetf (len := 3) (j := 1131) rfl (mHd_put.trans hd) (by decide) ((mSlot_put_ne (Or.inl (by decide))).trans hf31) ?_
  refine kIconst (len := 1) (v := 1) rfl ?_
  refine kAdd (len := 1) rfl ?_
  refine kPutf (len := 3) (j := 1131) rfl (mHd_put.trans hd) (by decide) (by decide) rfl ?_
  refine k (gUp (gUp γ 1001 5 (γ 1001 5 + 1)) 1001 3 13) σ _ L [] _ (List.Mem.head _) (fun _ _ => rfl) ((aFr_put rfl).tr (aFr_put rfl)) (gFr_up rfl (gFr_up rfl gFr.rf)) aExt.rf ?_
  exact mkHold (by decide) s0 ⟨b00 s0, b1, True.intro⟩ True.intro ⟨hF1_re rfl (by decide) (by decide) (mSlot_put_eq (mHd_put.trans hd) (by decide)) (by show ((f31 + 1) : Int32).toInt = σ 1 + 1; omega), hF1_gh (by decide) (by decide) (by show ((γ 1001 5 + 1) : Int32).toInt = σ 1 + 1; omega), hF1_gh (by decide) (by decide) (by show (13 : Int) = σ 0 + 13; omega), True.intro⟩ True.intro (push_ok (v := 1048576 * l1) h8 hX hT hf31 hm (by omega) (by omega) ew (gN_up (gN_up gN_rf)) rfl rfl rfl rfl rfl (fun wb h1 h2 => by
    show xA _ _ _ _ _ (γ 1001 5 + 1).toInt.toNat _
    rw [show (γ 1001 5 + 1).toInt.toNat = (γ 1001 5).toInt.toNat + 1 by omega]
    exact xB_A (Int.add_zero _).symm rfl rfl (show wb f31.toInt.toNat / xU = 13 by rw [h2, ev]; show 1048576 * _ / 1048576 = 13; omega).symm rfl eP rfl (xB_push_lo hB (by omega) h1 (by rw [h2, ev]; omega) (n := 0) (Or.inl ⟨(by rw [h2, ev]; show 1048576 * _ / 1048576 = _; omega), rfl⟩))))
theorem gs_op10 {s : List Int32} : gSound0 s sg_op10 := by
  intro γ d σ L st0 st M Q _ h k
  have e0 := eNil h
  subst e0
  have hl0 := eR h (i := 0) (g := 181) (c := 0) rfl rfl
  obtain ⟨l1, hl1, el1⟩ := eI h (i := 1) (sy := 0) (c := 10) rfl
  have q1_6 : (γ 1001 6).toInt = σ 0 + 1 := eG h (g := 1001) (i := 6) (sy := 0) (c := 1) (by decide) (List.Mem.head _)
  obtain ⟨f31, hf31, ef31⟩ := eF h (g := 181) (i := 31) (sy := 1) (c := 0) (by decide) (by decide) rfl (List.Mem.tail _ (List.Mem.head _))
  have q1_5 : (γ 1001 5).toInt = σ 1 + 0 := eG h (g := 1001) (i := 5) (sy := 1) (c := 0) (by decide) (List.Mem.tail _ (List.Mem.tail _ (List.Mem.head _)))
  have q1_0 : (γ 1001 0).toInt = σ 2 + 0 := eG h (g := 1001) (i := 0) (sy := 2) (c := 0) (by decide) (List.Mem.tail _ (List.Mem.tail _ (List.Mem.tail _ (List.Mem.head _))))
  have b1 := eB h (i := 1) (lo := 1) (hi := 178) rfl
  have b2 := eB h (i := 2) (lo := 0) (hi := 400) rfl
  have s0 := h.1.2.1.1
  have h8 : x8 (s, γ) := h.2.2.2.1.2
  have hX : tXI γ M := h.2.2.2.2.2.2
  have hT := aTp_of h.2.2.2
  have hd := hT.hd (c := 181) (by decide) (by decide)
  obtain ⟨m, hm, m0, m1⟩ := hT.int (c := 181) (i := 30) (by decide) (by decide) (by decide) (lo := 0) (hi' := 180) (gs := []) rfl
  have hB := getB hX (by omega) hf31 hm
  have hs := xB_sum hB
  have hP := hB.1.1
  have ev := i32_mulU (x := l1) (by omega) (by omega)
  have ew : (f31 + 1).toInt = f31.toInt + 1 := i32_inc (by omega) (by omega)
  have eP : (γ 1001 5 + 1).toInt = (γ 1001 5).toInt + 1 := i32_inc (by omega) (by omega)
  have eW : (γ 1001 0 + 1).toInt = (γ 1001 0).toInt + 1 := i32_inc (by omega) (by omega)
  refine kAload (mi := 198) (pc := 29) (len := 1) (i := 0) rfl hl0 ?_
  refine kGetf (len := 3) (j := 1135) rfl hd (by decide) (t181_ref hT (i := 35) (g := 204) (lo := 0) (hi := 0) (by decide) rfl rfl) ?_
  refine kAload (len := 1) (i := 0) rfl hl0 ?_
  refine kGetf (len := 3) (j := 1131) rfl hd (by decide) hf31 ?_
  refine kIconst (len := 3) (v := 1048576) rfl ?_
  refine kIload (len := 1) (i := 1) rfl hl1 ?_
  refine kMul (len := 1) rfl ?_
  refine kIast (len := 1) (n := 180) rfl (hT.hd (c := 204) (by decide) (by decide)) (by decide) (by omega) (by show f31.toInt < 180; omega) ?_
  refine kAload (len := 1) (i := 0) rfl hl0 ?_
  refine kAload (len := 1) (i := 0) rfl hl0 ?_
  refine kGetf (len := 3) (j := 1131) rfl (mHd_put.trans hd) (by decide) ((mSlot_put_ne (Or.inl (by decide))).trans hf31) ?_
  refine kIconst (len := 1) (v := 1) rfl ?_
  refine kAdd (len := 1) rfl ?_
  refine kPutf (len := 3) (j := 1131) rfl (mHd_put.trans hd) (by decide) (by decide) rfl ?_
  refine k (gUp (gUp (gUp γ 1001 5 (γ 1001 5 + 1)) 1001 0 (γ 1001 0 + 1)) 1001 3 10) σ _ L [] _ (List.Mem.head _) (fun _ _ => rfl) ((aFr_put rfl).tr (aFr_put rfl)) (gFr_up rfl (gFr_up rfl (gFr_up rfl gFr.rf))) aExt.rf ?_
  exact mkHold (by decide) s0 ⟨b00 s0, b1, b2, True.intro⟩ True.intro ⟨hF1_re rfl (by decide) (by decide) (mSlot_put_eq (mHd_put.trans hd) (by decide)) (by show ((f31 + 1) : Int32).toInt = σ 1 + 1; omega), hF1_gh (by decide) (by decide) (by show ((γ 1001 5 + 1) : Int32).toInt = σ 1 + 1; omega), hF1_gh (by decide) (by decide) (by show ((γ 1001 0 + 1) : Int32).toInt = σ 2 + 1; omega), hF1_gh (by decide) (by decide) (by show (10 : Int) = σ 0 + 10; omega), True.intro⟩ True.intro (push_ok (v := 1048576 * l1) h8 hX hT hf31 hm (by omega) (by omega) ew (gN_up (gN_up (gN_up gN_rf))) rfl rfl rfl rfl rfl (fun wb h1 h2 => by
    show xA _ _ _ _ _ (γ 1001 5 + 1).toInt.toNat _
    rw [show (γ 1001 5 + 1).toInt.toNat = (γ 1001 5).toInt.toNat + 1 by omega]
    exact xB_A eW rfl rfl (show wb f31.toInt.toNat / xU = 10 by rw [h2, ev]; show 1048576 * _ / 1048576 = 10; omega).symm rfl eP rfl (xB_push_lo hB (by omega) h1 (by rw [h2, ev]; omega) (n := 1) (Or.inr ⟨(by rw [h2, ev]; show 1048576 * _ / 1048576 = _; omega), by omega, rfl⟩))))
theorem gs_rsp {s : List Int32} : gSound0 s sg_rsp := by
  intro γ d σ L st0 st M Q _ h k
  have e0 := eNil h
  subst e0
  have hl0 := eR h (i := 0) (g := 181) (c := 0) rfl rfl
  obtain ⟨l2, hl2, el2⟩ := eI h (i := 2) (sy := 1) (c := 0) rfl
  have q1_6 : (γ 1001 6).toInt = σ 0 + 1 := eG h (g := 1001) (i := 6) (sy := 0) (c := 1) (by decide) (List.Mem.head _)
  obtain ⟨f31, hf31, ef31⟩ := eF h (g := 181) (i := 31) (sy := 2) (c := 0) (by decide) (by decide) rfl (List.Mem.tail _ (List.Mem.head _))
  have q1_1 : (γ 1001 1).toInt = σ 3 + 0 := eG h (g := 1001) (i := 1) (sy := 3) (c := 0) (by decide) (List.Mem.tail _ (List.Mem.tail _ (List.Mem.head _)))
  have q1_0 : (γ 1001 0).toInt = σ 4 + 0 := eG h (g := 1001) (i := 0) (sy := 4) (c := 0) (by decide) (List.Mem.tail _ (List.Mem.tail _ (List.Mem.tail _ (List.Mem.head _))))
  have q1_4 : (γ 1001 4).toInt = σ 5 + 0 := eG h (g := 1001) (i := 4) (sy := 5) (c := 0) (by decide) (List.Mem.tail _ (List.Mem.tail _ (List.Mem.tail _ (List.Mem.tail _ (List.Mem.head _)))))
  have q1_2 : (γ 1001 2).toInt = σ 6 + 0 := eG h (g := 1001) (i := 2) (sy := 6) (c := 0) (by decide) (List.Mem.tail _ (List.Mem.tail _ (List.Mem.tail _ (List.Mem.tail _ (List.Mem.tail _ (List.Mem.head _))))))
  have q1_5 : (γ 1001 5).toInt = σ 7 + 0 := eG h (g := 1001) (i := 5) (sy := 7) (c := 0) (by decide) (List.Mem.tail _ (List.Mem.tail _ (List.Mem.tail _ (List.Mem.tail _ (List.Mem.tail _ (List.Mem.tail _ (List.Mem.head _)))))))
  have b1 := eB h (i := 1) (lo := 2) (hi := 6) rfl
  have b2 := eB h (i := 2) (lo := 0) (hi := 178) rfl
  have b3 := eB h (i := 3) (lo := 0) (hi := 180) rfl
  have b4 := eB h (i := 4) (lo := 0) (hi := 400) rfl
  have b5 := eB h (i := 5) (lo := 1) (hi := 400) rfl
  have b6 := eB h (i := 6) (lo := 0) (hi := 180) rfl
  have b7 := eB h (i := 7) (lo := 0) (hi := 180) rfl
  have s0 := h.1.2.1.1
  have h8 : x8 (s, γ) := h.2.2.2.1.2
  have hX : tXI γ M := h.2.2.2.2.2.2
  have hT := aTp_of h.2.2.2
  have hd := hT.hd (c := 181) (by decide) (by decide)
  obtain ⟨m, hm, m0, m1⟩ := hT.int (c := 181) (i := 30) (by decide) (by decide) (by decide) (lo := 0) (hi' := 180) (gs := []) rfl
  have hB := getB hX (by omega) hf31 hm
  have hs := xB_sum hB
  have hP := hB.1.1
  have ev := i32_mulU (x := l2) (by omega) (by omega)
  have ew : (f31 + 1).toInt = f31.toInt + 1 := i32_inc (by omega) (by omega)
  have eO : (γ 1001 1 + 1).toInt = (γ 1001 1).toInt + 1 := i32_inc (by omega) (by omega)
  have eW : (γ 1001 0 + 1).toInt = (γ 1001 0).toInt + 1 := i32_inc (by omega) (by omega)
  have eH : (γ 1001 4 - 1).toInt = (γ 1001 4).toInt - 1 := i32_dec (by omega) (by omega)
  refine kAload (mi := 205) (pc := 41) (len := 1) (i := 0) rfl hl0 ?_
  refine kGetf (len := 3) (j := 1135) rfl hd (by decide) (t181_ref hT (i := 35) (g := 204) (lo := 0) (hi := 0) (by decide) rfl rfl) ?_
  refine kAload (len := 1) (i := 0) rfl hl0 ?_
  refine kGetf (len := 3) (j := 1131) rfl hd (by decide) hf31 ?_
  refine kIconst (len := 3) (v := 1048576) rfl ?_
  refine kIload (len := 1) (i := 2) rfl hl2 ?_
  refine kMul (len := 1) rfl ?_
  refine kIast (len := 1) (n := 180) rfl (hT.hd (c := 204) (by decide) (by decide)) (by decide) (by omega) (by show f31.toInt < 180; omega) ?_
  refine kAload (len := 1) (i := 0) rfl hl0 ?_
  refine kAload (len := 1) (i := 0) rfl hl0 ?_
  refine kGetf (len := 3) (j := 1131) rfl (mHd_put.trans hd) (by decide) ((mSlot_put_ne (Or.inl (by decide))).trans hf31) ?_
  refine kIconst (len := 1) (v := 1) rfl ?_
  refine kAdd (len := 1) rfl ?_
  refine kPutf (len := 3) (j := 1131) rfl (mHd_put.trans hd) (by decide) (by decide) rfl ?_
  refine k (gUp (gUp (gUp (gUp γ 1001 1 (γ 1001 1 + 1)) 1001 0 (γ 1001 0 + 1)) 1001 3 l2) 1001 4 (γ 1001 4 - 1)) σ _ L [] _ (List.Mem.head _) (fun _ _ => rfl) ((aFr_put rfl).tr (aFr_put rfl)) (gFr_up rfl (gFr_up rfl (gFr_up rfl (gFr_up rfl gFr.rf)))) aExt.rf ?_
  exact mkHold (by decide) s0 ⟨b00 s0, b1, b2, b3, b4, b5, b6, b7, True.intro⟩ ⟨⟨by decide, by decide, by show σ 3 - σ 2 ≤ 0; omega⟩, ⟨by decide, by decide, by show σ 6 - σ 2 ≤ 0; omega⟩, ⟨by decide, by decide, by show σ 7 - σ 2 ≤ 0; omega⟩, True.intro⟩ ⟨hF1_re rfl (by decide) (by decide) (mSlot_put_eq (mHd_put.trans hd) (by decide)) (by show ((f31 + 1) : Int32).toInt = σ 2 + 1; omega), hF1_gh (by decide) (by decide) (by show ((γ 1001 1 + 1) : Int32).toInt = σ 3 + 1; omega), hF1_gh (by decide) (by decide) (by show ((γ 1001 0 + 1) : Int32).toInt = σ 4 + 1; omega), hF1_gh (by decide) (by decide) (by show (l2 : Int32).toInt = σ 1 + 0; omega), hF1_gh (by decide) (by decide) (by show ((γ 1001 4 - 1) : Int32).toInt = σ 5 + (-1); omega), True.intro⟩ True.intro (push_ok (v := 1048576 * l2) h8 hX hT hf31 hm (by omega) (by omega) ew (gN_up (gN_up (gN_up (gN_up gN_rf)))) rfl rfl rfl rfl rfl (fun wb h1 h2 => by
    have tg : wb f31.toInt.toNat / xU = l2.toInt := by rw [h2, ev]; show 1048576 * _ / 1048576 = _; omega
    exact xB_A eW eO rfl tg.symm eH rfl rfl (xB_push_ar hB h1 (by rw [h2, ev]; omega) (by omega))))
theorem gs_csp {s : List Int32} : gSound0 s sg_csp := by
  intro γ d σ L st0 st M Q _ h k
  have e0 := eNil h
  subst e0
  have hl0 := eR h (i := 0) (g := 181) (c := 0) rfl rfl
  have q1_6 : (γ 1001 6).toInt = σ 0 + 1 := eG h (g := 1001) (i := 6) (sy := 0) (c := 1) (by decide) (List.Mem.head _)
  have q1_3 : (γ 1001 3).toInt = σ 1 + 0 := eG h (g := 1001) (i := 3) (sy := 1) (c := 0) (by decide) (List.Mem.tail _ (List.Mem.head _))
  obtain ⟨f31, hf31, ef31⟩ := eF h (g := 181) (i := 31) (sy := 2) (c := 0) (by decide) (by decide) rfl (List.Mem.tail _ (List.Mem.tail _ (List.Mem.head _)))
  have q1_1 : (γ 1001 1).toInt = σ 3 + 0 := eG h (g := 1001) (i := 1) (sy := 3) (c := 0) (by decide) (List.Mem.tail _ (List.Mem.tail _ (List.Mem.tail _ (List.Mem.head _))))
  have q1_0 : (γ 1001 0).toInt = σ 4 + 0 := eG h (g := 1001) (i := 0) (sy := 4) (c := 0) (by decide) (List.Mem.tail _ (List.Mem.tail _ (List.Mem.tail _ (List.Mem.tail _ (List.Mem.head _)))))
  have q1_2 : (γ 1001 2).toInt = σ 5 + 0 := eG h (g := 1001) (i := 2) (sy := 5) (c := 0) (by decide) (List.Mem.tail _ (List.Mem.tail _ (List.Mem.tail _ (List.Mem.tail _ (List.Mem.tail _ (List.Mem.head _))))))
  have q1_5 : (γ 1001 5).toInt = σ 6 + 0 := eG h (g := 1001) (i := 5) (sy := 6) (c := 0) (by decide) (List.Mem.tail _ (List.Mem.tail _ (List.Mem.tail _ (List.Mem.tail _ (List.Mem.tail _ (List.Mem.tail _ (List.Mem.head _)))))))
  have q1_4 : (γ 1001 4).toInt = σ 7 + 0 := eG h (g := 1001) (i := 4) (sy := 7) (c := 0) (by decide) (List.Mem.tail _ (List.Mem.tail _ (List.Mem.tail _ (List.Mem.tail _ (List.Mem.tail _ (List.Mem.tail _ (List.Mem.tail _ (List.Mem.head _))))))))
  have b1 := eB h (i := 1) (lo := 2) (hi := 6) rfl
  have b2 := eB h (i := 2) (lo := 0) (hi := 180) rfl
  have b3 := eB h (i := 3) (lo := 0) (hi := 180) rfl
  have b4 := eB h (i := 4) (lo := 0) (hi := 400) rfl
  have b5 := eB h (i := 5) (lo := 0) (hi := 180) rfl
  have b6 := eB h (i := 6) (lo := 0) (hi := 180) rfl
  have b7 := eB h (i := 7) (lo := 0) (hi := 400) rfl
  have s0 := h.1.2.1.1
  have h8 : x8 (s, γ) := h.2.2.2.1.2
  have hX : tXI γ M := h.2.2.2.2.2.2
  have hT := aTp_of h.2.2.2
  have hd := hT.hd (c := 181) (by decide) (by decide)
  obtain ⟨m, hm, m0, m1⟩ := hT.int (c := 181) (i := 30) (by decide) (by decide) (by decide) (lo := 0) (hi' := 180) (gs := []) rfl
  have hB := getB hX (by omega) hf31 hm
  have hs := xB_sum hB
  have hP := hB.1.1
  have ht := xB_T hB
  have ew : (f31 - 1).toInt = f31.toInt - 1 := i32_dec (by omega) (by omega)
  obtain ⟨n, hn⟩ : ∃ n, f31.toInt.toNat = n + 1 := ⟨f31.toInt.toNat - 1, by omega⟩
  rw [hn] at hB
  obtain ⟨hC, hc⟩ := xB_pop_ar hB (by omega)
  have hs2 := xB_sum hC
  have eO : (γ 1001 1 - 1).toInt = (γ 1001 1).toInt - 1 := i32_dec (by omega) (by omega)
  have eW : (γ 1001 0 - 1).toInt = (γ 1001 0).toInt - 1 := i32_dec (by omega) (by omega)
  have eH : (γ 1001 4 + 1).toInt = (γ 1001 4).toInt + 1 := i32_inc (by omega) (by omega)
  have ht2 := xB_T hC
  obtain ⟨tv, et⟩ := i32_ex ht2.1 (Int.le_trans ht2.2.1 (by decide))
  rw [← et] at hC ht2
  refine kAload (mi := 202) (pc := 46) (len := 1) (i := 0) rfl hl0 ?_
  refine kAload (len := 1) (i := 0) rfl hl0 ?_
  refine kGetf (len := 3) (j := 1131) rfl hd (by decide) hf31 ?_
  refine kIconst (len := 1) (v := 1) rfl ?_
  refine kSub (len := 1) rfl ?_
  refine kPutf (len := 3) (j := 1131) rfl hd (by decide) (by decide) rfl ?_
  refine k (gUp (gUp (gUp (gUp γ 1001 1 (γ 1001 1 - 1)) 1001 0 (γ 1001 0 - 1)) 1001 3 tv) 1001 4 (γ 1001 4 + 1)) (aUp σ 8 tv.toInt) _ L [] _ (List.Mem.head _) (fun _ _ => rfl) (aFr_put rfl) (gFr_up rfl (gFr_up rfl (gFr_up rfl (gFr_up rfl gFr.rf)))) aUp_ext ?_
  exact mkHold (by decide) s0 ⟨b00 s0, b1, b2, b3, b4, b5, b6, b7, ⟨by show (-1 : Int) ≤ tv.toInt; omega, by show tv.toInt ≤ 14; omega⟩, True.intro⟩ ⟨⟨by decide, by decide, by show σ 0 - σ 2 ≤ (-1); omega⟩, ⟨by decide, by decide, by show σ 0 - σ 3 ≤ (-1); omega⟩, ⟨by decide, by decide, by show σ 5 - σ 2 ≤ (-1); omega⟩, ⟨by decide, by decide, by show σ 6 - σ 2 ≤ (-1); omega⟩, ⟨by decide, by decide, by show σ 0 - σ 4 ≤ (-1); omega⟩, True.intro⟩ ⟨hF1_re rfl (by decide) (by decide) (mSlot_put_eq hd (by decide)) (by show ((f31 - 1) : Int32).toInt = σ 2 + (-1); omega), hF1_gh (by decide) (by decide) (by show ((γ 1001 1 - 1) : Int32).toInt = σ 3 + (-1); omega), hF1_gh (by decide) (by decide) (by show ((γ 1001 0 - 1) : Int32).toInt = σ 4 + (-1); omega), hF1_gh (by decide) (by decide) (by show (tv : Int32).toInt = tv.toInt + 0; omega), hF1_gh (by decide) (by decide) (by show ((γ 1001 4 + 1) : Int32).toInt = σ 7 + 1; omega), True.intro⟩ True.intro (pop_ok h8 hX hT hf31 hm (by omega) (by omega) ew (gN_up (gN_up (gN_up (gN_up gN_rf)))) rfl rfl rfl rfl rfl (by
    rw [show f31.toInt.toNat - 1 = n by omega]
    exact xB_A eW eO rfl rfl eH rfl rfl hC))
theorem gs_rso {s : List Int32} : gSound0 s sg_rso := by
  intro γ d σ L st0 st M Q _ h k
  have e0 := eNil h
  subst e0
  have hl0 := eR h (i := 0) (g := 181) (c := 0) rfl rfl
  have q1_6 : (γ 1001 6).toInt = σ 0 + 1 := eG h (g := 1001) (i := 6) (sy := 0) (c := 1) (by decide) (List.Mem.head _)
  have q1_3 : (γ 1001 3).toInt = σ 0 + 14 := eG h (g := 1001) (i := 3) (sy := 0) (c := 14) (by decide) (List.Mem.tail _ (List.Mem.head _))
  obtain ⟨f31, hf31, ef31⟩ := eF h (g := 181) (i := 31) (sy := 1) (c := 0) (by decide) (by decide) rfl (List.Mem.tail _ (List.Mem.tail _ (List.Mem.head _)))
  have q1_2 : (γ 1001 2).toInt = σ 2 + 0 := eG h (g := 1001) (i := 2) (sy := 2) (c := 0) (by decide) (List.Mem.tail _ (List.Mem.tail _ (List.Mem.tail _ (List.Mem.head _))))
  have q1_1 : (γ 1001 1).toInt = σ 3 + 0 := eG h (g := 1001) (i := 1) (sy := 3) (c := 0) (by decide) (List.Mem.tail _ (List.Mem.tail _ (List.Mem.tail _ (List.Mem.tail _ (List.Mem.head _)))))
  have q1_5 : (γ 1001 5).toInt = σ 4 + 0 := eG h (g := 1001) (i := 5) (sy := 4) (c := 0) (by decide) (List.Mem.tail _ (List.Mem.tail _ (List.Mem.tail _ (List.Mem.tail _ (List.Mem.tail _ (List.Mem.head _))))))
  have b1 := eB h (i := 1) (lo := 0) (hi := 180) rfl
  have b2 := eB h (i := 2) (lo := 0) (hi := 180) rfl
  have b3 := eB h (i := 3) (lo := 0) (hi := 180) rfl
  have b4 := eB h (i := 4) (lo := 0) (hi := 180) rfl
  have s0 := h.1.2.1.1
  have h8 : x8 (s, γ) := h.2.2.2.1.2
  have hX : tXI γ M := h.2.2.2.2.2.2
  have hT := aTp_of h.2.2.2
  have hd := hT.hd (c := 181) (by decide) (by decide)
  obtain ⟨m, hm, m0, m1⟩ := hT.int (c := 181) (i := 30) (by decide) (by decide) (by decide) (lo := 0) (hi' := 180) (gs := []) rfl
  have hB := getB hX (by omega) hf31 hm
  have hs := xB_sum hB
  have hP := hB.1.1
  have ht := xB_T hB
  have ew : (f31 - 1).toInt = f31.toInt - 1 := i32_dec (by omega) (by omega)
  obtain ⟨n, hn⟩ : ∃ n, f31.toInt.toNat = n + 1 := ⟨f31.toInt.toNat - 1, by omega⟩
  rw [hn] at hB
  obtain ⟨hC, hc⟩ := xB_pop_sm hB (by omega)
  have hs2 := xB_sum hC
  have eN : (γ 1001 2 - 1).toInt = (γ 1001 2).toInt - 1 := i32_dec (by omega) (by omega)
  have ht2 := xB_T hC
  obtain ⟨tv, et⟩ := i32_ex ht2.1 (Int.le_trans ht2.2.1 (by decide))
  rw [← et] at hC ht2
  refine kAload (mi := 205) (pc := 106) (len := 1) (i := 0) rfl hl0 ?_
  refine kAload (len := 1) (i := 0) rfl hl0 ?_
  refine kGetf (len := 3) (j := 1131) rfl hd (by decide) hf31 ?_
  refine kIconst (len := 1) (v := 1) rfl ?_
  refine kSub (len := 1) rfl ?_
  refine kPutf (len := 3) (j := 1131) rfl hd (by decide) (by decide) rfl ?_
  refine k (gUp (gUp γ 1001 2 (γ 1001 2 - 1)) 1001 3 tv) (aUp σ 5 tv.toInt) _ L [] _ (List.Mem.head _) (fun _ _ => rfl) (aFr_put rfl) (gFr_up rfl (gFr_up rfl gFr.rf)) aUp_ext ?_
  exact mkHold (by decide) s0 ⟨b00 s0, b1, b2, b3, b4, ⟨by show (-1 : Int) ≤ tv.toInt; omega, by show tv.toInt ≤ 14; omega⟩, True.intro⟩ ⟨⟨by decide, by decide, by show σ 0 - σ 1 ≤ (-1); omega⟩, ⟨by decide, by decide, by show σ 0 - σ 2 ≤ (-1); omega⟩, ⟨by decide, by decide, by show σ 3 - σ 1 ≤ (-1); omega⟩, ⟨by decide, by decide, by show σ 4 - σ 1 ≤ (-1); omega⟩, True.intro⟩ ⟨hF1_re rfl (by decide) (by decide) (mSlot_put_eq hd (by decide)) (by show ((f31 - 1) : Int32).toInt = σ 1 + (-1); omega), hF1_gh (by decide) (by decide) (by show ((γ 1001 2 - 1) : Int32).toInt = σ 2 + (-1); omega), hF1_gh (by decide) (by decide) (by show (tv : Int32).toInt = tv.toInt + 0; omega), True.intro⟩ True.intro (pop_ok h8 hX hT hf31 hm (by omega) (by omega) ew (gN_up (gN_up gN_rf)) rfl rfl rfl rfl rfl (by
    rw [show f31.toInt.toNat - 1 = n by omega]
    exact xB_A rfl rfl eN rfl rfl rfl rfl hC))
theorem gs_ep {s : List Int32} : gSound0 s sg_ep := by
  intro γ d σ L st0 st M Q _ h k
  have e0 := eNil h
  subst e0
  have hl0 := eR h (i := 0) (g := 181) (c := 0) rfl rfl
  have q1_6 : (γ 1001 6).toInt = σ 0 + 1 := eG h (g := 1001) (i := 6) (sy := 0) (c := 1) (by decide) (List.Mem.head _)
  have q1_3 : (γ 1001 3).toInt = σ 0 + 10 := eG h (g := 1001) (i := 3) (sy := 0) (c := 10) (by decide) (List.Mem.tail _ (List.Mem.head _))
  obtain ⟨f31, hf31, ef31⟩ := eF h (g := 181) (i := 31) (sy := 1) (c := 0) (by decide) (by decide) rfl (List.Mem.tail _ (List.Mem.tail _ (List.Mem.head _)))
  have q1_5 : (γ 1001 5).toInt = σ 1 + 0 := eG h (g := 1001) (i := 5) (sy := 1) (c := 0) (by decide) (List.Mem.tail _ (List.Mem.tail _ (List.Mem.tail _ (List.Mem.head _))))
  have q1_0 : (γ 1001 0).toInt = σ 2 + 0 := eG h (g := 1001) (i := 0) (sy := 2) (c := 0) (by decide) (List.Mem.tail _ (List.Mem.tail _ (List.Mem.tail _ (List.Mem.tail _ (List.Mem.head _)))))
  have b1 := eB h (i := 1) (lo := 0) (hi := 180) rfl
  have b2 := eB h (i := 2) (lo := 0) (hi := 400) rfl
  have s0 := h.1.2.1.1
  have h8 : x8 (s, γ) := h.2.2.2.1.2
  have hX : tXI γ M := h.2.2.2.2.2.2
  have hT := aTp_of h.2.2.2
  have hd := hT.hd (c := 181) (by decide) (by decide)
  obtain ⟨m, hm, m0, m1⟩ := hT.int (c := 181) (i := 30) (by decide) (by decide) (by decide) (lo := 0) (hi' := 180) (gs := []) rfl
  have hB := getB hX (by omega) hf31 hm
  have hs := xB_sum hB
  have hP := hB.1.1
  have ht := xB_T hB
  have ew : (f31 - 1).toInt = f31.toInt - 1 := i32_dec (by omega) (by omega)
  obtain ⟨n, hn⟩ : ∃ n, f31.toInt.toNat = n + 1 := ⟨f31.toInt.toNat - 1, by omega⟩
  rw [hn, show (γ 1001 5).toInt.toNat = n + 1 by omega] at hB
  obtain ⟨hC, hc⟩ := xB_pop_lo hB rfl (by omega) (by omega) (n := 1) (Or.inr ⟨by omega, rfl⟩)
  have hs2 := xB_sum hC
  have eP : (γ 1001 5 - 1).toInt = (γ 1001 5).toInt - 1 := i32_dec (by omega) (by omega)
  have eW : (γ 1001 0 - 1).toInt = (γ 1001 0).toInt - 1 := i32_dec (by omega) (by omega)
  have ht2 := xB_T hC
  obtain ⟨tv, et⟩ := i32_ex ht2.1 (Int.le_trans ht2.2.1 (by decide))
  rw [← et] at hC ht2
  refine kAload (mi := 206) (pc := 16) (len := 1) (i := 0) rfl hl0 ?_
  refine kAload (len := 1) (i := 0) rfl hl0 ?_
  refine kGetf (len := 3) (j := 1131) rfl hd (by decide) hf31 ?_
  refine kIconst (len := 1) (v := 1) rfl ?_
  refine kSub (len := 1) rfl ?_
  refine kPutf (len := 3) (j := 1131) rfl hd (by decide) (by decide) rfl ?_
  refine k (gUp (gUp (gUp γ 1001 5 (γ 1001 5 - 1)) 1001 0 (γ 1001 0 - 1)) 1001 3 tv) (aUp σ 3 tv.toInt) _ L [] _ (List.Mem.head _) (fun _ _ => rfl) (aFr_put rfl) (gFr_up rfl (gFr_up rfl (gFr_up rfl gFr.rf))) aUp_ext ?_
  exact mkHold (by decide) s0 ⟨b00 s0, b1, b2, ⟨by show (-1 : Int) ≤ tv.toInt; omega, by show tv.toInt ≤ 14; omega⟩, True.intro⟩ ⟨⟨by decide, by decide, by show σ 0 - σ 1 ≤ (-2); omega⟩, ⟨by decide, by decide, by show σ 0 - σ 2 ≤ (-1); omega⟩, True.intro⟩ ⟨hF1_re rfl (by decide) (by decide) (mSlot_put_eq hd (by decide)) (by show ((f31 - 1) : Int32).toInt = σ 1 + (-1); omega), hF1_gh (by decide) (by decide) (by show ((γ 1001 5 - 1) : Int32).toInt = σ 1 + (-1); omega), hF1_gh (by decide) (by decide) (by show ((γ 1001 0 - 1) : Int32).toInt = σ 2 + (-1); omega), hF1_gh (by decide) (by decide) (by show (tv : Int32).toInt = tv.toInt + 0; omega), True.intro⟩ True.intro (pop_ok h8 hX hT hf31 hm (by omega) (by omega) ew (gN_up (gN_up (gN_up gN_rf))) rfl rfl rfl rfl rfl (by
    show xA _ _ _ _ _ (γ 1001 5 - 1).toInt.toNat _
    rw [show f31.toInt.toNat - 1 = n by omega, show (γ 1001 5 - 1).toInt.toNat = n by omega]
    exact xB_A eW rfl rfl rfl rfl eP rfl hC))
theorem gs_rcp {s : List Int32} : gSound0 s sg_rcp := by
  intro γ d σ L st0 st M Q _ h k
  have e0 := eNil h
  subst e0
  have hl0 := eR h (i := 0) (g := 181) (c := 0) rfl rfl
  have q1_6 : (γ 1001 6).toInt = σ 0 + 1 := eG h (g := 1001) (i := 6) (sy := 0) (c := 1) (by decide) (List.Mem.head _)
  have q1_3 : (γ 1001 3).toInt = σ 1 + 0 := eG h (g := 1001) (i := 3) (sy := 1) (c := 0) (by decide) (List.Mem.tail _ (List.Mem.head _))
  obtain ⟨f31, hf31, ef31⟩ := eF h (g := 181) (i := 31) (sy := 2) (c := 0) (by decide) (by decide) rfl (List.Mem.tail _ (List.Mem.tail _ (List.Mem.head _)))
  have q1_5 : (γ 1001 5).toInt = σ 2 + 0 := eG h (g := 1001) (i := 5) (sy := 2) (c := 0) (by decide) (List.Mem.tail _ (List.Mem.tail _ (List.Mem.tail _ (List.Mem.head _))))
  have q1_0 : (γ 1001 0).toInt = σ 3 + 0 := eG h (g := 1001) (i := 0) (sy := 3) (c := 0) (by decide) (List.Mem.tail _ (List.Mem.tail _ (List.Mem.tail _ (List.Mem.tail _ (List.Mem.head _)))))
  have b1 := eB h (i := 1) (lo := 13) (hi := 14) rfl
  have b2 := eB h (i := 2) (lo := 1) (hi := 180) rfl
  have b3 := eB h (i := 3) (lo := 0) (hi := 400) rfl
  have s0 := h.1.2.1.1
  have h8 : x8 (s, γ) := h.2.2.2.1.2
  have hX : tXI γ M := h.2.2.2.2.2.2
  have hT := aTp_of h.2.2.2
  have hd := hT.hd (c := 181) (by decide) (by decide)
  obtain ⟨m, hm, m0, m1⟩ := hT.int (c := 181) (i := 30) (by decide) (by decide) (by decide) (lo := 0) (hi' := 180) (gs := []) rfl
  have hB := getB hX (by omega) hf31 hm
  have hs := xB_sum hB
  have hP := hB.1.1
  have ht := xB_T hB
  have ew : (f31 - 1).toInt = f31.toInt - 1 := i32_dec (by omega) (by omega)
  obtain ⟨n, hn⟩ : ∃ n, f31.toInt.toNat = n + 1 := ⟨f31.toInt.toNat - 1, by omega⟩
  rw [hn, show (γ 1001 5).toInt.toNat = n + 1 by omega] at hB
  obtain ⟨hC, hc⟩ := xB_pop_lo hB rfl (by omega) (by omega) (n := 0) (Or.inl ⟨by omega, rfl⟩)
  have hs2 := xB_sum hC
  have eP : (γ 1001 5 - 1).toInt = (γ 1001 5).toInt - 1 := i32_dec (by omega) (by omega)
  have ht2 := xB_T hC
  obtain ⟨tv, et⟩ := i32_ex ht2.1 (Int.le_trans ht2.2.1 (by decide))
  rw [← et] at hC ht2
  refine kAload (mi := 210) (pc := 106) (len := 1) (i := 0) rfl hl0 ?_
  refine kAload (len := 1) (i := 0) rfl hl0 ?_
  refine kGetf (len := 3) (j := 1131) rfl hd (by decide) hf31 ?_
  refine kIconst (len := 1) (v := 1) rfl ?_
  refine kSub (len := 1) rfl ?_
  refine kPutf (len := 3) (j := 1131) rfl hd (by decide) (by decide) rfl ?_
  refine k (gUp (gUp γ 1001 5 (γ 1001 5 - 1)) 1001 3 tv) (aUp σ 4 tv.toInt) _ L [] _ (List.Mem.head _) (fun _ _ => rfl) (aFr_put rfl) (gFr_up rfl (gFr_up rfl gFr.rf)) aUp_ext ?_
  exact mkHold (by decide) s0 ⟨b00 s0, b1, b2, b3, ⟨by show (-1 : Int) ≤ tv.toInt; omega, by show tv.toInt ≤ 14; omega⟩, True.intro⟩ True.intro ⟨hF1_re rfl (by decide) (by decide) (mSlot_put_eq hd (by decide)) (by show ((f31 - 1) : Int32).toInt = σ 2 + (-1); omega), hF1_gh (by decide) (by decide) (by show ((γ 1001 5 - 1) : Int32).toInt = σ 2 + (-1); omega), hF1_gh (by decide) (by decide) (by show (tv : Int32).toInt = tv.toInt + 0; omega), True.intro⟩ True.intro (pop_ok h8 hX hT hf31 hm (by omega) (by omega) ew (gN_up (gN_up gN_rf)) rfl rfl rfl rfl rfl (by
    show xA _ _ _ _ _ (γ 1001 5 - 1).toInt.toNat _
    rw [show f31.toInt.toNat - 1 = n by omega, show (γ 1001 5 - 1).toInt.toNat = n by omega]
    exact xB_A (Int.sub_zero _).symm rfl rfl rfl rfl eP rfl hC))
theorem gs_rcp2 {s : List Int32} : gSound0 s sg_rcp2 := by
  intro γ d σ L st0 st M Q _ h k
  have e0 := eNil h
  subst e0
  have hl0 := eR h (i := 0) (g := 181) (c := 0) rfl rfl
  have q1_6 : (γ 1001 6).toInt = σ 0 + 1 := eG h (g := 1001) (i := 6) (sy := 0) (c := 1) (by decide) (List.Mem.head _)
  have q1_3 : (γ 1001 3).toInt = σ 1 + 0 := eG h (g := 1001) (i := 3) (sy := 1) (c := 0) (by decide) (List.Mem.tail _ (List.Mem.head _))
  obtain ⟨f31, hf31, ef31⟩ := eF h (g := 181) (i := 31) (sy := 2) (c := 0) (by decide) (by decide) rfl (List.Mem.tail _ (List.Mem.tail _ (List.Mem.head _)))
  have q1_5 : (γ 1001 5).toInt = σ 2 + 0 := eG h (g := 1001) (i := 5) (sy := 2) (c := 0) (by decide) (List.Mem.tail _ (List.Mem.tail _ (List.Mem.tail _ (List.Mem.head _))))
  have q1_0 : (γ 1001 0).toInt = σ 3 + 0 := eG h (g := 1001) (i := 0) (sy := 3) (c := 0) (by decide) (List.Mem.tail _ (List.Mem.tail _ (List.Mem.tail _ (List.Mem.tail _ (List.Mem.head _)))))
  have b1 := eB h (i := 1) (lo := 10) (hi := 10) rfl
  have b2 := eB h (i := 2) (lo := 1) (hi := 180) rfl
  have b3 := eB h (i := 3) (lo := 0) (hi := 400) rfl
  have s0 := h.1.2.1.1
  have h8 : x8 (s, γ) := h.2.2.2.1.2
  have hX : tXI γ M := h.2.2.2.2.2.2
  have hT := aTp_of h.2.2.2
  have hd := hT.hd (c := 181) (by decide) (by decide)
  obtain ⟨m, hm, m0, m1⟩ := hT.int (c := 181) (i := 30) (by decide) (by decide) (by decide) (lo := 0) (hi' := 180) (gs := []) rfl
  have hB := getB hX (by omega) hf31 hm
  have hs := xB_sum hB
  have hP := hB.1.1
  have ht := xB_T hB
  have ew : (f31 - 1).toInt = f31.toInt - 1 := i32_dec (by omega) (by omega)
  obtain ⟨n, hn⟩ : ∃ n, f31.toInt.toNat = n + 1 := ⟨f31.toInt.toNat - 1, by omega⟩
  rw [hn, show (γ 1001 5).toInt.toNat = n + 1 by omega] at hB
  obtain ⟨hC, hc⟩ := xB_pop_lo hB rfl (by omega) (by omega) (n := 1) (Or.inr ⟨by omega, rfl⟩)
  have hs2 := xB_sum hC
  have eP : (γ 1001 5 - 1).toInt = (γ 1001 5).toInt - 1 := i32_dec (by omega) (by omega)
  have eW : (γ 1001 0 - 1).toInt = (γ 1001 0).toInt - 1 := i32_dec (by omega) (by omega)
  have ht2 := xB_T hC
  obtain ⟨tv, et⟩ := i32_ex ht2.1 (Int.le_trans ht2.2.1 (by decide))
  rw [← et] at hC ht2
  refine kAload (mi := 210) (pc := 106) (len := 1) (i := 0) rfl hl0 ?_
  refine kAload (len := 1) (i := 0) rfl hl0 ?_
  refine kGetf (len := 3) (j := 1131) rfl hd (by decide) hf31 ?_
  refine kIconst (len := 1) (v := 1) rfl ?_
  refine kSub (len := 1) rfl ?_
  refine kPutf (len := 3) (j := 1131) rfl hd (by decide) (by decide) rfl ?_
  refine k (gUp (gUp (gUp γ 1001 5 (γ 1001 5 - 1)) 1001 3 tv) 1001 0 (γ 1001 0 - 1)) (aUp σ 4 tv.toInt) _ L [] _ (List.Mem.head _) (fun _ _ => rfl) (aFr_put rfl) (gFr_up rfl (gFr_up rfl (gFr_up rfl gFr.rf))) aUp_ext ?_
  exact mkHold (by decide) s0 ⟨b00 s0, b1, b2, b3, ⟨by show (-1 : Int) ≤ tv.toInt; omega, by show tv.toInt ≤ 14; omega⟩, True.intro⟩ ⟨⟨by decide, by decide, by show σ 0 - σ 3 ≤ (-1); omega⟩, True.intro⟩ ⟨hF1_re rfl (by decide) (by decide) (mSlot_put_eq hd (by decide)) (by show ((f31 - 1) : Int32).toInt = σ 2 + (-1); omega), hF1_gh (by decide) (by decide) (by show ((γ 1001 5 - 1) : Int32).toInt = σ 2 + (-1); omega), hF1_gh (by decide) (by decide) (by show (tv : Int32).toInt = tv.toInt + 0; omega), hF1_gh (by decide) (by decide) (by show ((γ 1001 0 - 1) : Int32).toInt = σ 3 + (-1); omega), True.intro⟩ True.intro (pop_ok h8 hX hT hf31 hm (by omega) (by omega) ew (gN_up (gN_up (gN_up gN_rf))) rfl rfl rfl rfl rfl (by
    show xA _ _ _ _ _ (γ 1001 5 - 1).toInt.toNat _
    rw [show f31.toInt.toNat - 1 = n by omega, show (γ 1001 5 - 1).toInt.toNat = n by omega]
    exact xB_A eW rfl rfl rfl rfl eP rfl hC))
