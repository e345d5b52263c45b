/-! a program's run: its pieces -/
theorem xHg_le {f : Nat → Int} {a : Nat} : ∀ m, xHg f a m ≤ (m : Int)
  | 0 => Int.le_refl _
  | m + 1 => by
    have := xHg_le (f := f) (a := a) m
    unfold xHg
    have : xEff (f (a + m)) ≤ 1 := by
      unfold xEff
      by_cases h : f (a + m) / xU ≤ 1
      · rw [if_pos h]; decide
      · rw [if_neg h]
        by_cases h2 : f (a + m) / xU = 10
        · rw [if_pos h2]; decide
        · rw [if_neg h2]; decide
    omega
theorem eff1 {c : Int} (h : c / xU ≤ 1) : xEff c = 1 := if_pos h
theorem eff0 {c : Int} (h : c / xU = 10) : xEff c = 0 := by
  unfold xEff
  rw [if_neg (by rw [h]; decide), if_pos h]
theorem effm {c : Int} (h : 2 ≤ c / xU) (h2 : c / xU ≠ 10) : xEff c = -1 := by
  unfold xEff
  rw [if_neg (by omega), if_neg h2]
theorem gs_ct0 {s : List Int32} : gSound0 s sg_ct0 := by
  intro γ d σ L st0 st M Q _ h k
  have e0 := eNil h
  subst e0
  obtain ⟨x, hx, ex⟩ := eI h (i := 1) (sy := 1) (c := 0) rfl
  have g1 := eG h (g := 1005) (i := 0) (sy := 1) (c := 0) (by decide) (List.Mem.head _)
  have g1 : (γ 1005 0).toInt = σ 1 + 0 := g1
  have b1 := eB h (i := 1) (lo := 0) (hi := 540) rfl
  have s0 := h.1.2.1.1
  have h8 : x8 (s, γ) := h.2.2.2.1.2
  have hX : tXI γ M := h.2.2.2.2.2.2
  have p1 : (γ 1006 8).toInt = 180 * ((γ 1005 0).toInt / 180) := hX.2.2.2.2.1.1
  have e1 : (x / 180).toInt = x.toInt / 180 := i32_div (by omega) (by decide)
  have e2 : (180 * (x / 180)).toInt = 180 * (x.toInt / 180) := by
    have : ((180 : Int32) * (x / 180)).toInt = (180 : Int32).toInt * (x / 180).toInt := i32_mul (by rw [e1]; show -2147483648 ≤ 180 * _; omega) (by rw [e1]; show 180 * _ ≤ 2147483647; omega)
    rw [this, e1]
    rfl
  refine kIconst (mi := 214) (pc := 2) (len := 3) (v := 180) rfl ?_
  refine kIload (len := 1) (i := 1) rfl hx ?_
  refine kIconst (len := 3) (v := 180) rfl ?_
  refine kDiv (len := 1) rfl (by decide) ?_
  refine kMul (len := 1) rfl ?_
  refine k γ (aUp σ 2 (γ 1006 8).toInt) _ L [.int (180 * (x / 180))] M (List.Mem.head _) (fun _ _ => rfl) aFr.rf gFr.rf aUp_ext ?_
  refine mkHold (by decide) s0 ⟨b00 s0, b1, ⟨by show (0 : Int) ≤ (γ 1006 8).toInt; omega, by show (γ 1006 8).toInt ≤ 540; omega⟩, True.intro⟩ True.intro ⟨hF1_gh (by decide) (by decide) ?_, True.intro⟩ ⟨⟨by decide, _, rfl, ?_⟩, True.intro⟩ h.2.2.2
  · show (γ 1006 8).toInt = (γ 1006 8).toInt + 0
    omega
  · show (180 * (x / 180)).toInt = (γ 1006 8).toInt + 0
    rw [e2, p1, show x.toInt = (γ 1005 0).toInt by omega]
    omega
theorem gs_ct1 {s : List Int32} : gSound0 s sg_ct1 := by
  intro γ d σ L st0 st M Q _ h k
  have e0 := eNil h
  subst e0
  obtain ⟨x, hx, ex⟩ := eI h (i := 1) (sy := 1) (c := 0) rfl
  have g1 := eG h (g := 1005) (i := 0) (sy := 1) (c := 0) (by decide) (List.Mem.head _)
  have g1 : (γ 1005 0).toInt = σ 1 + 0 := g1
  have b1 := eB h (i := 1) (lo := 0) (hi := 540) rfl
  have s0 := h.1.2.1.1
  have h8 : x8 (s, γ) := h.2.2.2.1.2
  have hX : tXI γ M := h.2.2.2.2.2.2
  refine kIload (mi := 214) (pc := 13) (len := 1) (i := 1) rfl hx ?_
  refine k (gUp (gUp (gUp (gUp γ 1006 0 x) 1006 1 0) 1006 2 (-1)) 1006 5 (-1)) σ _ L [.int x] M (List.Mem.head _) (fun _ _ => rfl) aFr.rf (gFr_up rfl (gFr_up rfl (gFr_up rfl (gFr_up rfl gFr.rf)))) aExt.rf ?_
  refine mkHold (by decide) s0 ⟨b00 s0, b1, True.intro⟩ True.intro ⟨hF1_gh (by decide) (by decide) ex, hF1_gh (by decide) (by decide) ?_, True.intro⟩ ⟨⟨by decide, x, rfl, ex⟩, True.intro⟩ (aMem_mk h8 (aTp_of h.2.2.2) ⟨hX.1, hX.2.1, hX.2.2.1, hX.2.2.2.1, ?_, hX.2.2.2.2.2⟩)
  · show (0 : Int) = σ 0 + 0
    omega
  · obtain ⟨p1, p2, p3, p4, p5⟩ := hX.2.2.2.2.1
    obtain ⟨_, ⟨q1, q2, _, _, q3, _⟩, _⟩ := hX.2.2.2.1
    refine ⟨p1, ⟨by show (γ 1005 0).toInt ≤ x.toInt; omega, by show x.toInt ≤ (γ 1005 1).toInt; omega, ?_⟩, Or.inl rfl, Or.inl rfl, p5⟩
    show (0 : Int) = xHg _ _ (x.toInt.toNat - (γ 1005 0).toInt.toNat)
    rw [show x.toInt.toNat - (γ 1005 0).toInt.toNat = 0 by omega]
    rfl
/-- what stands at the place where the run is -/
theorem x_here {γ : Gh} {M : Mem} (hX : tXI γ M) (hk : (γ 1006 0).toInt < (γ 1005 1).toInt) : xOk (xI (xv M) 209) (180 * ((γ 1005 0).toInt.toNat / 180)) (γ 1005 0).toInt.toNat (γ 1005 1).toInt.toNat (γ 1006 0).toInt.toNat (fun _ _ => False) ∧ (γ 1006 1).toInt ≤ 179 := by
  obtain ⟨p1, ⟨p2, p3, p4⟩, _⟩ := hX.2.2.2.2.1
  obtain ⟨_, ⟨q1, q2, q3, q4, q5, q6⟩, _⟩ := hX.2.2.2.1
  refine ⟨q6 _ (by omega) (by omega), ?_⟩
  rw [p4]
  have := xHg_le (f := xI (xv M) 209) (a := (γ 1005 0).toInt.toNat) ((γ 1006 0).toInt.toNat - (γ 1005 0).toInt.toNat)
  omega
theorem i32_divU {y : Int32} (h : 0 ≤ y.toInt) : (y / 1048576).toInt = y.toInt / xU := i32_div h (by decide)
theorem gs_ct2 {s : List Int32} : gSound0 s sg_ct2 := by
  intro γ d σ L st0 st M Q _ h k
  have e0 := eNil h
  subst e0
  have hr := eR h (i := 0) (g := 181) (c := 0) rfl rfl
  obtain ⟨z, hz, ez⟩ := eI h (i := 3) (sy := 2) (c := 0) rfl
  obtain ⟨x, hx, ex⟩ := eI h (i := 5) (sy := 3) (c := 0) rfl
  have g1 := eG h (g := 1005) (i := 1) (sy := 1) (c := 0) (by decide) (List.Mem.head _)
  have g1 : (γ 1005 1).toInt = σ 1 + 0 := g1
  have g2 := eG h (g := 1006) (i := 0) (sy := 3) (c := 0) (by decide) (List.Mem.tail _ (List.Mem.head _))
  have g2 : (γ 1006 0).toInt = σ 3 + 0 := g2
  have g3 := eG h (g := 1006) (i := 1) (sy := 2) (c := 0) (by decide) (List.Mem.tail _ (List.Mem.tail _ (List.Mem.head _)))
  have g3 : (γ 1006 1).toInt = σ 2 + 0 := g3
  have b1 := eB h (i := 1) (lo := 0) (hi := 540) rfl
  have b2 := eB h (i := 2) (lo := 0) (hi := 180) rfl
  have b3 := eB h (i := 3) (lo := 0) (hi := 539) rfl
  have z1 := (h.1.2.1.2.2 3 1 (-1) (List.Mem.head _)).2.2
  have s0 := h.1.2.1.1
  have h8 : x8 (s, γ) := h.2.2.2.1.2
  have hX : tXI γ M := h.2.2.2.2.2.2
  have hT := aTp_of h.2.2.2
  have hd := hT.hd (c := 181) (by decide) (by decide)
  have hda := hT.hd (c := 209) (by decide) (by decide)
  have hf := t181_ref hT (i := 40) (g := 209) (lo := 0) (hi := 0) (by decide) rfl rfl
  obtain ⟨y, y1, y2, y3⟩ := hT.int (c := 209) (i := x.toInt.toNat) (by decide) (by decide) (by show _ < 540; omega) (lo := -2147483648) (hi' := 2147483647) (gs := []) rfl
  have n1 : xI (xv M) 209 x.toInt.toNat = y.toInt := xI_at rfl y1
  obtain ⟨o1, o2⟩ := x_here hX (by omega)
  have ek : (γ 1006 0).toInt.toNat = x.toInt.toNat := by omega
  have hn : (γ 1006 1).toInt = xHg (xI (xv M) 209) (γ 1005 0).toInt.toNat (x.toInt.toNat - (γ 1005 0).toInt.toNat) := by
    rw [← ek]
    exact hX.2.2.2.2.1.2.1.2.2
  rw [ek] at o1
  obtain ⟨o0, o1⟩ := o1
  rw [n1] at o0 o1
  rw [← hn] at o1
  have ed := i32_divU o0
  refine kAload (mi := 214) (pc := 22) (len := 1) (i := 0) rfl hr ?_
  refine kGetf (len := 3) (j := 1140) rfl hd (by decide) hf ?_
  refine kIload (len := 2) (i := 5) rfl hx ?_
  refine kIald (len := 1) (n := 540) rfl hda (by omega) (by show x.toInt < 540; omega) y1 ?_
  refine kIconst (len := 3) (v := 1048576) rfl ?_
  refine kDiv (len := 1) rfl (by decide) ?_
  have hx6 : x6 (gUp γ 1006 2 (y / 1048576)) (xv M) := by
    obtain ⟨p1, p2, p3, p4, p5⟩ := hX.2.2.2.2.1
    refine ⟨p1, p2, Or.inr ⟨by show (γ 1006 0).toInt < (γ 1005 1).toInt; omega, ?_⟩, p4, p5⟩
    show xI (xv M) 209 (γ 1006 0).toInt.toNat / xU = (y / 1048576).toInt
    rw [ek, n1, ed]
  have hm : aMem0 (s, gUp γ 1006 2 (y / 1048576)) M := aMem_mk h8 hT ⟨hX.1, hX.2.1, hX.2.2.1, hX.2.2.2.1, hx6, hX.2.2.2.2.2⟩
  rcases o1 with c | ⟨c, _⟩ | ⟨c, c2, c3⟩ | ⟨c, c2⟩ | ⟨c, c2, c3, _⟩
  · have ec : y / 1048576 = 0 := Int32.toInt_inj.mp (ed.trans c)
    refine k (gUp γ 1006 2 (y / 1048576)) σ _ L [.int (y / 1048576)] M (List.Mem.head _) (fun _ _ => rfl) aFr.rf (gFr_up rfl gFr.rf) aExt.rf ?_
    refine mkHold (by decide) s0 ⟨b00 s0, b1, b2, b3, True.intro⟩ ⟨⟨by decide, by decide, ?_⟩, True.intro⟩ ⟨hF1_gh (by decide) (by decide) ?_, True.intro⟩ ⟨⟨by decide, _, rfl, ?_⟩, True.intro⟩ hm
    · show σ 2 - σ 0 ≤ 179
      omega
    · show (y / 1048576).toInt = σ 0 + 0
      omega
    · show (y / 1048576).toInt = σ 0 + 0
      omega
  · refine k (gUp γ 1006 2 (y / 1048576)) σ _ L [.int (y / 1048576)] M (List.Mem.tail _ (List.Mem.head _)) (fun _ _ => rfl) aFr.rf (gFr_up rfl gFr.rf) aExt.rf ?_
    refine mkHold (by decide) s0 ⟨b00 s0, b1, b2, b3, True.intro⟩ ⟨⟨by decide, by decide, ?_⟩, True.intro⟩ ⟨hF1_gh (by decide) (by decide) ?_, True.intro⟩ ⟨⟨by decide, _, rfl, ?_⟩, True.intro⟩ hm
    · show σ 2 - σ 0 ≤ 179
      omega
    · show (y / 1048576).toInt = σ 0 + 1
      omega
    · show (y / 1048576).toInt = σ 0 + 1
      omega
  · refine k (gUp γ 1006 2 (y / 1048576)) (aUp σ 4 (y / 1048576).toInt) _ L [.int (y / 1048576)] M (List.Mem.tail _ (List.Mem.tail _ (List.Mem.head _))) (fun _ _ => rfl) aFr.rf (gFr_up rfl gFr.rf) aUp_ext ?_
    refine mkHold (by decide) s0 ⟨b00 s0, b1, b2, b3, ⟨by show (2 : Int) ≤ (y / 1048576).toInt; omega, by show (y / 1048576).toInt ≤ 9; omega⟩, True.intro⟩ ⟨⟨by decide, by decide, ?_⟩, True.intro⟩ ⟨hF1_gh (by decide) (by decide) ?_, True.intro⟩ ⟨⟨by decide, _, rfl, ?_⟩, True.intro⟩ hm
    · show σ 0 - σ 2 ≤ -2
      omega
    · show (y / 1048576).toInt = (y / 1048576).toInt + 0
      omega
    · show (y / 1048576).toInt = (y / 1048576).toInt + 0
      omega
  · refine k (gUp γ 1006 2 (y / 1048576)) σ _ L [.int (y / 1048576)] M (List.Mem.tail _ (List.Mem.tail _ (List.Mem.tail _ (List.Mem.head _)))) (fun _ _ => rfl) aFr.rf (gFr_up rfl gFr.rf) aExt.rf ?_
    refine mkHold (by decide) s0 ⟨b00 s0, b1, b2, b3, True.intro⟩ ⟨⟨by decide, by decide, ?_⟩, True.intro⟩ ⟨hF1_gh (by decide) (by decide) ?_, True.intro⟩ ⟨⟨by decide, _, rfl, ?_⟩, True.intro⟩ hm
    · show σ 0 - σ 2 ≤ -1
      omega
    · show (y / 1048576).toInt = σ 0 + 10
      omega
    · show (y / 1048576).toInt = σ 0 + 10
      omega
  · refine k (gUp γ 1006 2 (y / 1048576)) (aUp σ 4 (y / 1048576).toInt) _ L [.int (y / 1048576)] M (List.Mem.tail _ (List.Mem.tail _ (List.Mem.tail _ (List.Mem.tail _ (List.Mem.head _))))) (fun _ _ => rfl) aFr.rf (gFr_up rfl gFr.rf) aUp_ext ?_
    refine mkHold (by decide) s0 ⟨b00 s0, b1, b2, b3, ⟨by show (11 : Int) ≤ (y / 1048576).toInt; omega, by show (y / 1048576).toInt ≤ 12; omega⟩, True.intro⟩ ⟨⟨by decide, by decide, ?_⟩, True.intro⟩ ⟨hF1_gh (by decide) (by decide) ?_, True.intro⟩ ⟨⟨by decide, _, rfl, ?_⟩, True.intro⟩ hm
    · show σ 0 - σ 2 ≤ -1
      omega
    · show (y / 1048576).toInt = (y / 1048576).toInt + 0
      omega
    · show (y / 1048576).toInt = (y / 1048576).toInt + 0
      omega
