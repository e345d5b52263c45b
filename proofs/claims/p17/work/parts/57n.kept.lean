/-! kept laws: a clause and its pieces -/
theorem i32_mul12 {x : Int32} (h0 : 0 ≤ x.toInt) (h1 : x.toInt ≤ 1000) : (12 * x).toInt = 12 * x.toInt := by
  have : ((12 : Int32) * x).toInt = (12 : Int32).toInt * x.toInt := i32_mul (by show -2147483648 ≤ 12 * _; omega) (by show 12 * _ ≤ 2147483647; omega)
  rw [this]
  rfl
/-- a program is taken up -/
theorem x56_new {γ : Gh} {M : Mem} {y z b : Int32} (hX : tXI γ M) (y0 : 0 ≤ y.toInt) (z0 : 0 ≤ z.toInt) (hp : xVp (xv M) y.toInt.toNat z.toInt.toNat) (hb : b.toInt = 180 * (y.toInt / 180)) : tXI (gUp (gUp (gUp (gUp (gUp (gUp (gUp γ 1005 0 y) 1005 1 z) 1006 0 y) 1006 1 0) 1006 2 (-1)) 1006 5 (-1)) 1006 8 b) M := by
  obtain ⟨h2, h3, h4, ⟨q1, q2, q3, q4⟩, ⟨p1, p2, p3, p4, p5⟩, h7⟩ := hX
  have hle := hp.2.2.1
  refine ⟨h2, h3, h4, ⟨q1, ⟨y0, z0, hp⟩, q3, q4⟩, ⟨hb, ⟨Int.le_refl _, by show y.toInt ≤ z.toInt; omega, ?_⟩, Or.inl rfl, Or.inl rfl, p5⟩, h7⟩
  show (0 : Int) = xHg _ _ (y.toInt.toNat - y.toInt.toNat)
  rw [Nat.sub_self]
  rfl
theorem gs_aq0 {s : List Int32} : gSound0 s sg_aq0 := by
  intro γ d σ L st0 st M Q _ h k
  have e0 := eNil h
  subst e0
  obtain ⟨l1, hl1, el1⟩ := eI h (i := 1) (sy := 1) (c := 0) rfl
  have b1 := eB h (i := 1) (lo := 0) (hi := 2) rfl
  have s0 := h.1.2.1.1
  have h8 : x8 (s, γ) := h.2.2.2.1.2
  have hX : tXI γ M := h.2.2.2.2.2.2
  have hT := aTp_of h.2.2.2
  have hd := hT.hd (c := 181) (by decide) (by decide)
  have em := i32_mul12 (x := l1) (by omega) (by omega)
  refine kIconst (mi := 215) (pc := 0) (len := 2) (v := 12) rfl ?_
  refine kIload (len := 1) (i := 1) rfl hl1 ?_
  refine kMul (len := 1) rfl ?_
  refine k (gUp (gUp γ 1005 3 (12 * l1)) 1005 4 l1) (aUp σ 2 (12 * l1).toInt) _ L [.int (12 * l1)] M (List.Mem.head _) (fun _ _ => rfl) aFr.rf (gFr_up rfl (gFr_up rfl gFr.rf)) aUp_ext ?_
  exact mkHold (by decide) s0 ⟨b00 s0, b1, ⟨by show (0 : Int) ≤ (12 * l1).toInt; omega, by show (12 * l1).toInt ≤ 24; omega⟩, True.intro⟩ True.intro ⟨hF1_gh (by decide) (by decide) (by show ((12 * l1) : Int32).toInt = (12 * l1).toInt + 0; omega), hF1_gh (by decide) (by decide) (by show (l1 : Int32).toInt = σ 1 + 0; omega), True.intro⟩ ⟨⟨by decide, _, rfl, by show ((12 * l1) : Int32).toInt = (12 * l1).toInt + 0; omega⟩, True.intro⟩ (aMem_mk h8 hT ⟨hX.1, hX.2.1, hX.2.2.1, ⟨em, hX.2.2.2.1.2⟩, hX.2.2.2.2⟩)
theorem gs_aq1 {s : List Int32} : gSound0 s sg_aq1 := by
  intro γ d σ L st0 st M Q _ h k
  have e0 := eNil h
  subst e0
  have hl0 := eR h (i := 0) (g := 181) (c := 0) rfl rfl
  obtain ⟨l1, hl1, el1⟩ := eI h (i := 1) (sy := 1) (c := 0) rfl
  obtain ⟨l3, hl3, el3⟩ := eI h (i := 3) (sy := 2) (c := 0) rfl
  have q5_3 : (γ 1005 3).toInt = σ 3 + 0 := eG h (g := 1005) (i := 3) (sy := 3) (c := 0) (by decide) (List.Mem.head _)
  have q5_4 : (γ 1005 4).toInt = σ 1 + 0 := eG h (g := 1005) (i := 4) (sy := 1) (c := 0) (by decide) (List.Mem.tail _ (List.Mem.head _))
  have b1 := eB h (i := 1) (lo := 0) (hi := 2) rfl
  have b2 := eB h (i := 2) (lo := 0) (hi := 36) rfl
  have b3 := eB h (i := 3) (lo := 0) (hi := 24) rfl
  have z0 := (h.1.2.1.2.2 3 2 0 (List.Mem.head _)).2.2
  have s0 := h.1.2.1.1
  have h8 : x8 (s, γ) := h.2.2.2.1.2
  have hX : tXI γ M := h.2.2.2.2.2.2
  have hT := aTp_of h.2.2.2
  have hd := hT.hd (c := 181) (by decide) (by decide)
  have em := i32_mul12 (x := l1) (by omega) (by omega)
  obtain ⟨y, y1, y2, y3⟩ := hT.int (c := 210) (i := l1.toInt.toNat) (by decide) (by decide) (by show _ < 3; omega) (lo := 0) (hi' := 12) (gs := []) rfl
  have n1 : xI (xv M) 210 l1.toInt.toNat = y.toInt := xI_at rfl y1
  have ea : (12 * l1 + y).toInt = 12 * l1.toInt + y.toInt := by rw [i32_add (by omega) (by omega), em]
  have hq := hX.2.2.2.1
  refine kIload (mi := 215) (pc := 5) (len := 1) (i := 3) rfl hl3 ?_
  refine kIconst (len := 2) (v := 12) rfl ?_
  refine kIload (len := 1) (i := 1) rfl hl1 ?_
  refine kMul (len := 1) rfl ?_
  refine kAload (len := 1) (i := 0) rfl hl0 ?_
  refine kGetf (len := 3) (j := 1141) rfl hd (by decide) (t181_ref hT (i := 41) (g := 210) (lo := 0) (hi := 0) (by decide) rfl rfl) ?_
  refine kIload (len := 1) (i := 1) rfl hl1 ?_
  refine kIald (len := 1) (n := 3) rfl (hT.hd (c := 210) (by decide) (by decide)) (by omega) (by show l1.toInt < 3; omega) y1 ?_
  refine kAdd (len := 1) rfl ?_
  by_cases e : l3.toInt < (12 * l1 + y).toInt
  · have hc := hq.1
    refine k (gUp (gUp γ 1005 2 l3) 1005 5 0) (aUp σ 4 (12 * l1 + y).toInt) _ L [.int (12 * l1 + y), .int l3] M (List.Mem.head _) (fun _ _ => rfl) aFr.rf (gFr_up rfl (gFr_up rfl gFr.rf)) aUp_ext ?_
    exact mkHold (by decide) s0 ⟨b00 s0, b1, b2, b3, ⟨by show (0 : Int) ≤ (12 * l1 + y).toInt; omega, by show (12 * l1 + y).toInt ≤ 36; omega⟩, True.intro⟩ ⟨⟨by decide, by decide, by show σ 2 - (12 * l1 + y).toInt ≤ (-1); omega⟩, True.intro⟩ ⟨hF1_gh (by decide) (by decide) (by show (l3 : Int32).toInt = σ 2 + 0; omega), True.intro⟩ ⟨⟨by decide, _, rfl, by show ((12 * l1 + y) : Int32).toInt = (12 * l1 + y).toInt + 0; omega⟩, ⟨by decide, _, rfl, by show (l3 : Int32).toInt = σ 2 + 0; omega⟩, True.intro⟩ (aMem_mk h8 hT ⟨hX.1, hX.2.1, hX.2.2.1, ⟨hq.1, hq.2.1, fun _ => ⟨by show l3.toInt ≤ 35; omega, by
      have := (hq.2.2.2 l1.toInt.toNat (l3.toInt - 12 * l1.toInt).toNat (by omega) (by rw [n1]; omega)).1
      rw [show 12 * l1.toInt.toNat + (l3.toInt - 12 * l1.toInt).toNat = l3.toInt.toNat by omega] at this
      exact this, fun c => absurd (show (0 : Int32).toInt = 121 from c) (by decide)⟩, hq.2.2.2⟩, hX.2.2.2.2⟩)
  · refine k γ (aUp σ 4 (12 * l1 + y).toInt) _ L [.int (12 * l1 + y), .int l3] M (List.Mem.tail _ (List.Mem.head _)) (fun _ _ => rfl) aFr.rf gFr.rf aUp_ext ?_
    exact mkHold (by decide) s0 ⟨b00 s0, b1, b2, b3, ⟨by show (0 : Int) ≤ (12 * l1 + y).toInt; omega, by show (12 * l1 + y).toInt ≤ 36; omega⟩, True.intro⟩ ⟨⟨by decide, by decide, by show (12 * l1 + y).toInt - σ 2 ≤ 0; omega⟩, True.intro⟩ True.intro ⟨⟨by decide, _, rfl, by show ((12 * l1 + y) : Int32).toInt = (12 * l1 + y).toInt + 0; omega⟩, ⟨by decide, _, rfl, by show (l3 : Int32).toInt = σ 2 + 0; omega⟩, True.intro⟩ h.2.2.2
theorem gs_aq2 {s : List Int32} : gSound0 s sg_aq2 := by
  intro γ d σ L st0 st M Q _ h k
  have e0 := eNil h
  subst e0
  have hl0 := eR h (i := 0) (g := 181) (c := 0) rfl rfl
  obtain ⟨l3, hl3, el3⟩ := eI h (i := 3) (sy := 1) (c := 0) rfl
  have q5_2 : (γ 1005 2).toInt = σ 1 + 0 := eG h (g := 1005) (i := 2) (sy := 1) (c := 0) (by decide) (List.Mem.head _)
  have b1 := eB h (i := 1) (lo := 0) (hi := 35) rfl
  have s0 := h.1.2.1.1
  have h8 : x8 (s, γ) := h.2.2.2.1.2
  have hX : tXI γ M := h.2.2.2.2.2.2
  have hT := aTp_of h.2.2.2
  have hd := hT.hd (c := 181) (by decide) (by decide)
  obtain ⟨y, y1, y2, y3⟩ := hT.int (c := 213) (i := l3.toInt.toNat) (by decide) (by decide) (by show _ < 36; omega) (lo := 0) (hi' := 540) (gs := []) rfl
  obtain ⟨z, z1, z2, z3⟩ := hT.int (c := 214) (i := l3.toInt.toNat) (by decide) (by decide) (by show _ < 36; omega) (lo := 0) (hi' := 540) (gs := []) rfl
  have n1 : xI (xv M) 213 l3.toInt.toNat = y.toInt := xI_at rfl y1
  have n2 : xI (xv M) 214 l3.toInt.toNat = z.toInt := xI_at rfl z1
  have hq := hX.2.2.2.1.2.2.1 (by omega)
  rw [show (γ 1005 2).toInt.toNat = l3.toInt.toNat by omega] at hq
  have hv : xVp (xv M) y.toInt.toNat z.toInt.toNat := by
    have := hq.2.1.1
    rw [n1, n2] at this
    exact this
  obtain ⟨b, hb⟩ := i32_ex (t := 180 * (y.toInt / 180)) (by omega) (by omega)
  refine kAload (mi := 215) (pc := 31) (len := 1) (i := 0) rfl hl0 ?_
  refine kGetf (len := 3) (j := 1144) rfl hd (by decide) (t181_ref hT (i := 44) (g := 213) (lo := 0) (hi := 0) (by decide) rfl rfl) ?_
  refine kIload (len := 1) (i := 3) rfl hl3 ?_
  refine kIald (len := 1) (n := 36) rfl (hT.hd (c := 213) (by decide) (by decide)) (by omega) (by show l3.toInt < 36; omega) y1 ?_
  refine kAload (len := 1) (i := 0) rfl hl0 ?_
  refine kGetf (len := 3) (j := 1145) rfl hd (by decide) (t181_ref hT (i := 45) (g := 214) (lo := 0) (hi := 0) (by decide) rfl rfl) ?_
  refine kIload (len := 1) (i := 3) rfl hl3 ?_
  refine kIald (len := 1) (n := 36) rfl (hT.hd (c := 214) (by decide) (by decide)) (by omega) (by show l3.toInt < 36; omega) z1 ?_
  refine k (gUp (gUp (gUp (gUp (gUp (gUp (gUp γ 1005 0 y) 1005 1 z) 1006 0 y) 1006 1 0) 1006 2 (-1)) 1006 5 (-1)) 1006 8 b) (aUp (aUp σ 2 y.toInt) 3 z.toInt) _ L [.int z, .int y] M (List.Mem.head _) (fun _ _ => rfl) aFr.rf (gFr_up rfl (gFr_up rfl (gFr_up rfl (gFr_up rfl (gFr_up rfl (gFr_up rfl (gFr_up rfl gFr.rf))))))) (aExt.tr aUp_ext aUp_ext (by decide)) ?_
  exact mkHold (by decide) s0 ⟨b00 s0, b1, ⟨by show (0 : Int) ≤ y.toInt; omega, by show y.toInt ≤ 540; omega⟩, ⟨by show (0 : Int) ≤ z.toInt; omega, by show z.toInt ≤ 540; omega⟩, True.intro⟩ True.intro ⟨hF1_gh (by decide) (by decide) (by show (y : Int32).toInt = y.toInt + 0; omega), hF1_gh (by decide) (by decide) (by show (z : Int32).toInt = z.toInt + 0; omega), True.intro⟩ ⟨⟨by decide, _, rfl, by show (z : Int32).toInt = z.toInt + 0; omega⟩, ⟨by decide, _, rfl, by show (y : Int32).toInt = y.toInt + 0; omega⟩, True.intro⟩ (aMem_mk h8 hT (x56_new hX y2 z2 hv hb))
theorem gs_lq0 {s : List Int32} : gSound0 s sg_lq0 := by
  intro γ d σ L st0 st M Q _ h k
  have e0 := eNil h
  subst e0
  obtain ⟨l4, hl4, el4⟩ := eI h (i := 4) (sy := 1) (c := 0) rfl
  have b1 := eB h (i := 1) (lo := 0) (hi := 2) rfl
  have s0 := h.1.2.1.1
  have h8 : x8 (s, γ) := h.2.2.2.1.2
  have hX : tXI γ M := h.2.2.2.2.2.2
  have hT := aTp_of h.2.2.2
  have hd := hT.hd (c := 181) (by decide) (by decide)
  have em := i32_mul12 (x := l4) (by omega) (by omega)
  refine kIconst (mi := 221) (pc := 15) (len := 2) (v := 12) rfl ?_
  refine kIload (len := 2) (i := 4) rfl hl4 ?_
  refine kMul (len := 1) rfl ?_
  refine k (gUp (gUp γ 1005 3 (12 * l4)) 1005 4 l4) (aUp σ 2 (12 * l4).toInt) _ L [.int (12 * l4)] M (List.Mem.head _) (fun _ _ => rfl) aFr.rf (gFr_up rfl (gFr_up rfl gFr.rf)) aUp_ext ?_
  exact mkHold (by decide) s0 ⟨b00 s0, b1, ⟨by show (0 : Int) ≤ (12 * l4).toInt; omega, by show (12 * l4).toInt ≤ 24; omega⟩, True.intro⟩ True.intro ⟨hF1_gh (by decide) (by decide) (by show ((12 * l4) : Int32).toInt = (12 * l4).toInt + 0; omega), hF1_gh (by decide) (by decide) (by show (l4 : Int32).toInt = σ 1 + 0; omega), True.intro⟩ ⟨⟨by decide, _, rfl, by show ((12 * l4) : Int32).toInt = (12 * l4).toInt + 0; omega⟩, True.intro⟩ (aMem_mk h8 hT ⟨hX.1, hX.2.1, hX.2.2.1, ⟨em, hX.2.2.2.1.2⟩, hX.2.2.2.2⟩)
theorem gs_lq1 {s : List Int32} : gSound0 s sg_lq1 := by
  intro γ d σ L st0 st M Q _ h k
  have e0 := eNil h
  subst e0
  have hl0 := eR h (i := 0) (g := 181) (c := 0) rfl rfl
  obtain ⟨l4, hl4, el4⟩ := eI h (i := 4) (sy := 1) (c := 0) rfl
  obtain ⟨l5, hl5, el5⟩ := eI h (i := 5) (sy := 2) (c := 0) rfl
  have q5_3 : (γ 1005 3).toInt = σ 3 + 0 := eG h (g := 1005) (i := 3) (sy := 3) (c := 0) (by decide) (List.Mem.head _)
  have q5_4 : (γ 1005 4).toInt = σ 1 + 0 := eG h (g := 1005) (i := 4) (sy := 1) (c := 0) (by decide) (List.Mem.tail _ (List.Mem.head _))
  have b1 := eB h (i := 1) (lo := 0) (hi := 2) rfl
  have b2 := eB h (i := 2) (lo := 0) (hi := 36) rfl
  have b3 := eB h (i := 3) (lo := 0) (hi := 24) rfl
  have z0 := (h.1.2.1.2.2 3 2 0 (List.Mem.head _)).2.2
  have s0 := h.1.2.1.1
  have h8 : x8 (s, γ) := h.2.2.2.1.2
  have hX : tXI γ M := h.2.2.2.2.2.2
  have hT := aTp_of h.2.2.2
  have hd := hT.hd (c := 181) (by decide) (by decide)
  have em := i32_mul12 (x := l4) (by omega) (by omega)
  obtain ⟨y, y1, y2, y3⟩ := hT.int (c := 210) (i := l4.toInt.toNat) (by decide) (by decide) (by show _ < 3; omega) (lo := 0) (hi' := 12) (gs := []) rfl
  have n1 : xI (xv M) 210 l4.toInt.toNat = y.toInt := xI_at rfl y1
  have ea : (12 * l4 + y).toInt = 12 * l4.toInt + y.toInt := by rw [i32_add (by omega) (by omega), em]
  have hq := hX.2.2.2.1
  refine kIload (mi := 221) (pc := 22) (len := 2) (i := 5) rfl hl5 ?_
  refine kIconst (len := 2) (v := 12) rfl ?_
  refine kIload (len := 2) (i := 4) rfl hl4 ?_
  refine kMul (len := 1) rfl ?_
  refine kAload (len := 1) (i := 0) rfl hl0 ?_
  refine kGetf (len := 3) (j := 1141) rfl hd (by decide) (t181_ref hT (i := 41) (g := 210) (lo := 0) (hi := 0) (by decide) rfl rfl) ?_
  refine kIload (len := 2) (i := 4) rfl hl4 ?_
  refine kIald (len := 1) (n := 3) rfl (hT.hd (c := 210) (by decide) (by decide)) (by omega) (by show l4.toInt < 3; omega) y1 ?_
  refine kAdd (len := 1) rfl ?_
  by_cases e : l5.toInt < (12 * l4 + y).toInt
  · have hc := hq.1
    refine k (gUp (gUp γ 1005 2 l5) 1005 5 0) (aUp σ 4 (12 * l4 + y).toInt) _ L [.int (12 * l4 + y), .int l5] M (List.Mem.head _) (fun _ _ => rfl) aFr.rf (gFr_up rfl (gFr_up rfl gFr.rf)) aUp_ext ?_
    exact mkHold (by decide) s0 ⟨b00 s0, b1, b2, b3, ⟨by show (0 : Int) ≤ (12 * l4 + y).toInt; omega, by show (12 * l4 + y).toInt ≤ 36; omega⟩, True.intro⟩ ⟨⟨by decide, by decide, by show σ 2 - (12 * l4 + y).toInt ≤ (-1); omega⟩, True.intro⟩ ⟨hF1_gh (by decide) (by decide) (by show (l5 : Int32).toInt = σ 2 + 0; omega), True.intro⟩ ⟨⟨by decide, _, rfl, by show ((12 * l4 + y) : Int32).toInt = (12 * l4 + y).toInt + 0; omega⟩, ⟨by decide, _, rfl, by show (l5 : Int32).toInt = σ 2 + 0; omega⟩, True.intro⟩ (aMem_mk h8 hT ⟨hX.1, hX.2.1, hX.2.2.1, ⟨hq.1, hq.2.1, fun _ => ⟨by show l5.toInt ≤ 35; omega, by
      have := (hq.2.2.2 l4.toInt.toNat (l5.toInt - 12 * l4.toInt).toNat (by omega) (by rw [n1]; omega)).1
      rw [show 12 * l4.toInt.toNat + (l5.toInt - 12 * l4.toInt).toNat = l5.toInt.toNat by omega] at this
      exact this, fun c => absurd (show (0 : Int32).toInt = 121 from c) (by decide)⟩, hq.2.2.2⟩, hX.2.2.2.2⟩)
  · refine k γ (aUp σ 4 (12 * l4 + y).toInt) _ L [.int (12 * l4 + y), .int l5] M (List.Mem.tail _ (List.Mem.head _)) (fun _ _ => rfl) aFr.rf gFr.rf aUp_ext ?_
    exact mkHold (by decide) s0 ⟨b00 s0, b1, b2, b3, ⟨by show (0 : Int) ≤ (12 * l4 + y).toInt; omega, by show (12 * l4 + y).toInt ≤ 36; omega⟩, True.intro⟩ ⟨⟨by decide, by decide, by show (12 * l4 + y).toInt - σ 2 ≤ 0; omega⟩, True.intro⟩ True.intro ⟨⟨by decide, _, rfl, by show ((12 * l4 + y) : Int32).toInt = (12 * l4 + y).toInt + 0; omega⟩, ⟨by decide, _, rfl, by show (l5 : Int32).toInt = σ 2 + 0; omega⟩, True.intro⟩ h.2.2.2
theorem gs_lq2 {s : List Int32} : gSound0 s sg_lq2 := by
  intro γ d σ L st0 st M Q _ h k
  have e0 := eNil h
  subst e0
  have hl0 := eR h (i := 0) (g := 181) (c := 0) rfl rfl
  obtain ⟨l5, hl5, el5⟩ := eI h (i := 5) (sy := 1) (c := 0) rfl
  have q5_2 : (γ 1005 2).toInt = σ 1 + 0 := eG h (g := 1005) (i := 2) (sy := 1) (c := 0) (by decide) (List.Mem.head _)
  have b1 := eB h (i := 1) (lo := 0) (hi := 35) rfl
  have s0 := h.1.2.1.1
  have h8 : x8 (s, γ) := h.2.2.2.1.2
  have hX : tXI γ M := h.2.2.2.2.2.2
  have hT := aTp_of h.2.2.2
  have hd := hT.hd (c := 181) (by decide) (by decide)
  obtain ⟨y, y1, y2, y3⟩ := hT.int (c := 213) (i := l5.toInt.toNat) (by decide) (by decide) (by show _ < 36; omega) (lo := 0) (hi' := 540) (gs := []) rfl
  obtain ⟨z, z1, z2, z3⟩ := hT.int (c := 214) (i := l5.toInt.toNat) (by decide) (by decide) (by show _ < 36; omega) (lo := 0) (hi' := 540) (gs := []) rfl
  have n1 : xI (xv M) 213 l5.toInt.toNat = y.toInt := xI_at rfl y1
  have n2 : xI (xv M) 214 l5.toInt.toNat = z.toInt := xI_at rfl z1
  have hq := hX.2.2.2.1.2.2.1 (by omega)
  rw [show (γ 1005 2).toInt.toNat = l5.toInt.toNat by omega] at hq
  have hv : xVp (xv M) y.toInt.toNat z.toInt.toNat := by
    have := hq.2.1.1
    rw [n1, n2] at this
    exact this
  obtain ⟨b, hb⟩ := i32_ex (t := 180 * (y.toInt / 180)) (by omega) (by omega)
  refine kAload (mi := 221) (pc := 53) (len := 1) (i := 0) rfl hl0 ?_
  refine kGetf (len := 3) (j := 1144) rfl hd (by decide) (t181_ref hT (i := 44) (g := 213) (lo := 0) (hi := 0) (by decide) rfl rfl) ?_
  refine kIload (len := 2) (i := 5) rfl hl5 ?_
  refine kIald (len := 1) (n := 36) rfl (hT.hd (c := 213) (by decide) (by decide)) (by omega) (by show l5.toInt < 36; omega) y1 ?_
  refine kAload (len := 1) (i := 0) rfl hl0 ?_
  refine kGetf (len := 3) (j := 1145) rfl hd (by decide) (t181_ref hT (i := 45) (g := 214) (lo := 0) (hi := 0) (by decide) rfl rfl) ?_
  refine kIload (len := 2) (i := 5) rfl hl5 ?_
  refine kIald (len := 1) (n := 36) rfl (hT.hd (c := 214) (by decide) (by decide)) (by omega) (by show l5.toInt < 36; omega) z1 ?_
  refine k (gUp (gUp (gUp (gUp (gUp (gUp (gUp γ 1005 0 y) 1005 1 z) 1006 0 y) 1006 1 0) 1006 2 (-1)) 1006 5 (-1)) 1006 8 b) (aUp (aUp σ 2 y.toInt) 3 z.toInt) _ L [.int z, .int y] M (List.Mem.head _) (fun _ _ => rfl) aFr.rf (gFr_up rfl (gFr_up rfl (gFr_up rfl (gFr_up rfl (gFr_up rfl (gFr_up rfl (gFr_up rfl gFr.rf))))))) (aExt.tr aUp_ext aUp_ext (by decide)) ?_
  exact mkHold (by decide) s0 ⟨b00 s0, b1, ⟨by show (0 : Int) ≤ y.toInt; omega, by show y.toInt ≤ 540; omega⟩, ⟨by show (0 : Int) ≤ z.toInt; omega, by show z.toInt ≤ 540; omega⟩, True.intro⟩ True.intro ⟨hF1_gh (by decide) (by decide) (by show (y : Int32).toInt = y.toInt + 0; omega), hF1_gh (by decide) (by decide) (by show (z : Int32).toInt = z.toInt + 0; omega), True.intro⟩ ⟨⟨by decide, _, rfl, by show (z : Int32).toInt = z.toInt + 0; omega⟩, ⟨by decide, _, rfl, by show (y : Int32).toInt = y.toInt + 0; omega⟩, True.intro⟩ (aMem_mk h8 hT (x56_new hX y2 z2 hv hb))
theorem gs_lq3 {s : List Int32} : gSound0 s sg_lq3 := by
  intro γ d σ L st0 st M Q _ h k
  have e0 := eNil h
  subst e0
  have hl0 := eR h (i := 0) (g := 181) (c := 0) rfl rfl
  obtain ⟨l5, hl5, el5⟩ := eI h (i := 5) (sy := 1) (c := 0) rfl
  have q5_2 : (γ 1005 2).toInt = σ 1 + 0 := eG h (g := 1005) (i := 2) (sy := 1) (c := 0) (by decide) (List.Mem.head _)
  have q5_5 : (γ 1005 5).toInt = σ 0 + 121 := eG h (g := 1005) (i := 5) (sy := 0) (c := 121) (by decide) (List.Mem.tail _ (List.Mem.head _))
  have b1 := eB h (i := 1) (lo := 0) (hi := 35) rfl
  have s0 := h.1.2.1.1
  have h8 : x8 (s, γ) := h.2.2.2.1.2
  have hX : tXI γ M := h.2.2.2.2.2.2
  have hT := aTp_of h.2.2.2
  have hd := hT.hd (c := 181) (by decide) (by decide)
  obtain ⟨y, y1, y2, y3⟩ := hT.int (c := 212) (i := l5.toInt.toNat) (by decide) (by decide) (by show _ < 36; omega) (lo := 0) (hi' := 540) (gs := []) rfl
  obtain ⟨z, z1, z2, z3⟩ := hT.int (c := 213) (i := l5.toInt.toNat) (by decide) (by decide) (by show _ < 36; omega) (lo := 0) (hi' := 540) (gs := []) rfl
  have n1 : xI (xv M) 212 l5.toInt.toNat = y.toInt := xI_at rfl y1
  have n2 : xI (xv M) 213 l5.toInt.toNat = z.toInt := xI_at rfl z1
  have hq := hX.2.2.2.1.2.2.1 (by omega)
  rw [show (γ 1005 2).toInt.toNat = l5.toInt.toNat by omega] at hq
  have hv : xVp (xv M) y.toInt.toNat z.toInt.toNat := by
    have := hq.2.1.2 (hq.2.2 (by omega))
    rw [n1, n2] at this
    exact this
  obtain ⟨b, hb⟩ := i32_ex (t := 180 * (y.toInt / 180)) (by omega) (by omega)
  refine kAload (mi := 221) (pc := 78) (len := 1) (i := 0) rfl hl0 ?_
  refine kGetf (len := 3) (j := 1143) rfl hd (by decide) (t181_ref hT (i := 43) (g := 212) (lo := 0) (hi := 0) (by decide) rfl rfl) ?_
  refine kIload (len := 2) (i := 5) rfl hl5 ?_
  refine kIald (len := 1) (n := 36) rfl (hT.hd (c := 212) (by decide) (by decide)) (by omega) (by show l5.toInt < 36; omega) y1 ?_
  refine kAload (len := 1) (i := 0) rfl hl0 ?_
  refine kGetf (len := 3) (j := 1144) rfl hd (by decide) (t181_ref hT (i := 44) (g := 213) (lo := 0) (hi := 0) (by decide) rfl rfl) ?_
  refine kIload (len := 2) (i := 5) rfl hl5 ?_
  refine kIald (len := 1) (n := 36) rfl (hT.hd (c := 213) (by decide) (by decide)) (by omega) (by show l5.toInt < 36; omega) z1 ?_
  refine k (gUp (gUp (gUp (gUp (gUp (gUp (gUp γ 1005 0 y) 1005 1 z) 1006 0 y) 1006 1 0) 1006 2 (-1)) 1006 5 (-1)) 1006 8 b) (aUp (aUp σ 2 y.toInt) 3 z.toInt) _ L [.int z, .int y] M (List.Mem.head _) (fun _ _ => rfl) aFr.rf (gFr_up rfl (gFr_up rfl (gFr_up rfl (gFr_up rfl (gFr_up rfl (gFr_up rfl (gFr_up rfl gFr.rf))))))) (aExt.tr aUp_ext aUp_ext (by decide)) ?_
  exact mkHold (by decide) s0 ⟨b00 s0, b1, ⟨by show (0 : Int) ≤ y.toInt; omega, by show y.toInt ≤ 540; omega⟩, ⟨by show (0 : Int) ≤ z.toInt; omega, by show z.toInt ≤ 540; omega⟩, True.intro⟩ True.intro ⟨hF1_gh (by decide) (by decide) (by show (y : Int32).toInt = y.toInt + 0; omega), hF1_gh (by decide) (by decide) (by show (z : Int32).toInt = z.toInt + 0; omega), True.intro⟩ ⟨⟨by decide, _, rfl, by show (z : Int32).toInt = z.toInt + 0; omega⟩, ⟨by decide, _, rfl, by show (y : Int32).toInt = y.toInt + 0; omega⟩, True.intro⟩ (aMem_mk h8 hT (x56_new hX y2 z2 hv hb))
theorem gs_lql {s : List Int32} : gSound0 s sg_lql := by
  intro γ d σ L st0 st M Q _ h k
  have e0 := eNil h
  subst e0
  have hl0 := eR h (i := 0) (g := 181) (c := 0) rfl rfl
  obtain ⟨l5, hl5, el5⟩ := eI h (i := 5) (sy := 1) (c := 0) rfl
  have q5_2 : (γ 1005 2).toInt = σ 1 + 0 := eG h (g := 1005) (i := 2) (sy := 1) (c := 0) (by decide) (List.Mem.head _)
  have b1 := eB h (i := 1) (lo := 0) (hi := 35) rfl
  have s0 := h.1.2.1.1
  have h8 : x8 (s, γ) := h.2.2.2.1.2
  have hX : tXI γ M := h.2.2.2.2.2.2
  have hT := aTp_of h.2.2.2
  have hd := hT.hd (c := 181) (by decide) (by decide)
  obtain ⟨y, y1, y2, y3⟩ := hT.int (c := 211) (i := l5.toInt.toNat) (by decide) (by decide) (by show _ < 36; omega) (lo := -2147483648) (hi' := 2147483647) (gs := []) rfl
  have n1 : xI (xv M) 211 l5.toInt.toNat = y.toInt := xI_at rfl y1
  have hq := hX.2.2.2.1
  refine kAload (mi := 221) (pc := 40) (len := 1) (i := 0) rfl hl0 ?_
  refine kGetf (len := 3) (j := 1142) rfl hd (by decide) (t181_ref hT (i := 42) (g := 211) (lo := 0) (hi := 0) (by decide) rfl rfl) ?_
  refine kIload (len := 2) (i := 5) rfl hl5 ?_
  refine kIald (len := 1) (n := 36) rfl (hT.hd (c := 211) (by decide) (by decide)) (by omega) (by show l5.toInt < 36; omega) y1 ?_
  refine k (gUp γ 1005 5 y) (aUp σ 2 y.toInt) _ L [.int y] M (List.Mem.head _) (fun _ _ => rfl) aFr.rf (gFr_up rfl gFr.rf) aUp_ext ?_
  exact mkHold (by decide) s0 ⟨b00 s0, b1, ⟨by show (-2147483648 : Int) ≤ y.toInt; omega, by show y.toInt ≤ 2147483647; omega⟩, True.intro⟩ True.intro ⟨hF1_gh (by decide) (by decide) (by show (y : Int32).toInt = y.toInt + 0; omega), True.intro⟩ ⟨⟨by decide, _, rfl, by show (y : Int32).toInt = y.toInt + 0; omega⟩, True.intro⟩ (aMem_mk h8 hT ⟨hX.1, hX.2.1, hX.2.2.1, ⟨hq.1, hq.2.1, fun c => ⟨(hq.2.2.1 c).1, (hq.2.2.1 c).2.1, fun e => by
    rw [show (gUp γ 1005 5 y 1005 2).toInt.toNat = l5.toInt.toNat by show (γ 1005 2).toInt.toNat = _; omega, n1]
    exact e⟩, hq.2.2.2⟩, hX.2.2.2.2⟩)
