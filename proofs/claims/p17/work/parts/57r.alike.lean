/-! deeds, opened and closed (printed by gen9.py) -/
theorem gt_ca {s : List Int32} {mi pc : Nat} (hat : mAt mi pc = some (1, .aaload)) : gSound9 s (mi, pc, pc + 1, 0, (([(.ofNat 0, .ofNat 0), (.ofNat 0, .ofNat 39)], [], [], [(1030, 1, (1, 1, .ofNat 0)), (1030, 2, (1, 0, .ofNat 1))]), [], [(1, 1, .ofNat 0), (2, 8, .ofNat 0)]), [(([(.ofNat 0, .ofNat 0), (.ofNat 0, .ofNat 39), (.ofNat 0, .ofNat 39)], [(2, 1, .ofNat 0), (1, 2, .ofNat 0)], [], []), [], [(2, 10, .ofNat 2)])], [], []) := by
  intro γ d σ L st0 st M Q _ hA k
  have h := aHold_0 hA
  obtain ⟨w0, w1, rfl, g0, g1⟩ := eS2 h
  obtain ⟨x0, rfl, ex0⟩ := gI g0
  have ex0 : x0.toInt = σ 1 + 0 := ex0
  have e1 := gR g1 rfl
  subst e1
  have q30_1 : (γ 1030 1).toInt = σ 1 + 0 := eG h (g := 1030) (i := 1) (sy := 1) (c := 0) (by decide) (List.Mem.head _)
  have q30_2 : (γ 1030 2).toInt = σ 0 + 1 := eG h (g := 1030) (i := 2) (sy := 0) (c := 1) (by decide) (List.Mem.tail _ (List.Mem.head _))
  have b1 := eB h (i := 1) (lo := 0) (hi := 39) rfl
  have s0 := h.1.2.1.1
  have hx : x9 γ M := hA.2.2.2.1.2.2
  have hT := aTp_of h.2.2.2
  refine kAaldT (n := 40) hat (hT.hd (c := 8) (by decide) (by decide)) rfl (by omega) (by omega) (hx.1 x0.toInt.toNat (by omega)).1 ?_
  refine k γ (aUp σ 2 (σ 1)) _ L [.ref (10 + x0.toInt.toNat)] M (List.Mem.head _) (fun _ _ => rfl) aFr.rf gFr.rf aUp_ext ?_
  exact mkHold9 (by decide) s0 ⟨b00 s0, b1, ⟨by show (0 : Int) ≤ σ 1; omega, by show σ 1 ≤ 39; omega⟩, True.intro⟩ ⟨⟨by decide, by decide, by show σ 1 - σ 1 ≤ 0; omega⟩, ⟨by decide, by decide, by show σ 1 - σ 1 ≤ 0; omega⟩, True.intro⟩ True.intro ⟨⟨10 + x0.toInt.toNat, rfl, by show 2 ≤ 10 + x0.toInt.toNat; omega, by show 10 + x0.toInt.toNat < 242; omega, grp10 _ (by omega), fun _ => ⟨by decide, by show ((10 + x0.toInt.toNat : Nat) : Int) = 10 + σ 1; omega⟩⟩, True.intro⟩ (hA.2.2.2)
theorem gt_cg6 {s : List Int32} {mi pc : Nat} (hat : mAt mi pc = some (3, .getfield 106)) : gSound9 s (mi, pc, pc + 3, 0, (([(.ofNat 0, .ofNat 0), (.ofNat 0, .ofNat 39), (.ofNat 0, .ofNat 1)], [], [], [(1030, 1, (1, 1, .ofNat 0)), (1030, 2, (1, 0, .ofNat 1)), (1031, 6, (1, 2, .ofNat 0))]), [], [(2, 10, .ofNat 1)]), [(([(.ofNat 0, .ofNat 0), (.ofNat 0, .ofNat 39), (.ofNat 0, .ofNat 1)], [], [], []), [], [(1, 2, .ofNat 0)])], [], []) := by
  intro γ d σ L st0 st M Q _ hA k
  have h := aHold_0 hA
  obtain ⟨w0, rfl, g0⟩ := eS1 h
  obtain ⟨a0, rfl, ea0⟩ := gD g0 (by decide)
  have q30_1 : (γ 1030 1).toInt = σ 1 + 0 := eG h (g := 1030) (i := 1) (sy := 1) (c := 0) (by decide) (List.Mem.head _)
  have q30_2 : (γ 1030 2).toInt = σ 0 + 1 := eG h (g := 1030) (i := 2) (sy := 0) (c := 1) (by decide) (List.Mem.tail _ (List.Mem.head _))
  have q31_6 : (γ 1031 6).toInt = σ 2 + 0 := eG h (g := 1031) (i := 6) (sy := 2) (c := 0) (by decide) (List.Mem.tail _ (List.Mem.tail _ (List.Mem.head _)))
  have b1 := eB h (i := 1) (lo := 0) (hi := 39) rfl
  have b2 := eB h (i := 2) (lo := 0) (hi := 1) rfl
  have s0 := h.1.2.1.1
  have hx : x9 γ M := hA.2.2.2.1.2.2
  have hT := aTp_of h.2.2.2
  have hd : (γ 1030 1).toInt.toNat < 40 := by omega
  have ea : a0 = 10 + (γ 1030 1).toInt.toNat := by omega
  subst ea
  obtain ⟨x, x1, x2, _⟩ := tD hT hd (f := 6) (by decide)
  have e := (y9_g hx.2 (show (γ 1030 2).toInt = 1 by omega) (f := 6) (by decide)).1
  refine kGetf (j := 106) hat (hdD hT hd) (by decide) x1 ?_
  refine k γ σ _ L [.int x] M (List.Mem.head _) (fun _ _ => rfl) aFr.rf gFr.rf aExt.rf ?_
  exact mkHold9 (by decide) s0 ⟨b00 s0, b1, b2, True.intro⟩ True.intro True.intro ⟨⟨by decide, _, rfl, by show (x : Int32).toInt = σ 2 + 0; omega⟩, True.intro⟩ (hA.2.2.2)
theorem gt_cg8 {s : List Int32} {mi pc : Nat} (hat : mAt mi pc = some (3, .getfield 108)) : gSound9 s (mi, pc, pc + 3, 0, (([(.ofNat 0, .ofNat 0), (.ofNat 0, .ofNat 39), (.negSucc 0, .ofNat 9)], [], [], [(1030, 1, (1, 1, .ofNat 0)), (1030, 2, (1, 0, .ofNat 1)), (1031, 8, (1, 2, .ofNat 0))]), [], [(2, 10, .ofNat 1)]), [(([(.ofNat 0, .ofNat 0), (.ofNat 0, .ofNat 39), (.negSucc 0, .ofNat 9)], [], [], []), [], [(1, 2, .ofNat 0)])], [], []) := by
  intro γ d σ L st0 st M Q _ hA k
  have h := aHold_0 hA
  obtain ⟨w0, rfl, g0⟩ := eS1 h
  obtain ⟨a0, rfl, ea0⟩ := gD g0 (by decide)
  have q30_1 : (γ 1030 1).toInt = σ 1 + 0 := eG h (g := 1030) (i := 1) (sy := 1) (c := 0) (by decide) (List.Mem.head _)
  have q30_2 : (γ 1030 2).toInt = σ 0 + 1 := eG h (g := 1030) (i := 2) (sy := 0) (c := 1) (by decide) (List.Mem.tail _ (List.Mem.head _))
  have q31_8 : (γ 1031 8).toInt = σ 2 + 0 := eG h (g := 1031) (i := 8) (sy := 2) (c := 0) (by decide) (List.Mem.tail _ (List.Mem.tail _ (List.Mem.head _)))
  have b1 := eB h (i := 1) (lo := 0) (hi := 39) rfl
  have b2 := eB h (i := 2) (lo := (-1)) (hi := 9) rfl
  have s0 := h.1.2.1.1
  have hx : x9 γ M := hA.2.2.2.1.2.2
  have hT := aTp_of h.2.2.2
  have hd : (γ 1030 1).toInt.toNat < 40 := by omega
  have ea : a0 = 10 + (γ 1030 1).toInt.toNat := by omega
  subst ea
  obtain ⟨x, x1, x2, _⟩ := tD hT hd (f := 8) (by decide)
  have e := (y9_g hx.2 (show (γ 1030 2).toInt = 1 by omega) (f := 8) (by decide)).1
  refine kGetf (j := 108) hat (hdD hT hd) (by decide) x1 ?_
  refine k γ σ _ L [.int x] M (List.Mem.head _) (fun _ _ => rfl) aFr.rf gFr.rf aExt.rf ?_
  exact mkHold9 (by decide) s0 ⟨b00 s0, b1, b2, True.intro⟩ True.intro True.intro ⟨⟨by decide, _, rfl, by show (x : Int32).toInt = σ 2 + 0; omega⟩, True.intro⟩ (hA.2.2.2)
theorem gt_cg3 {s : List Int32} {mi pc : Nat} (hat : mAt mi pc = some (3, .getfield 103)) : gSound9 s (mi, pc, pc + 3, 0, (([(.ofNat 0, .ofNat 0), (.ofNat 0, .ofNat 39), (.ofNat 0, .ofNat 999)], [], [], [(1030, 1, (1, 1, .ofNat 0)), (1030, 2, (1, 0, .ofNat 1)), (1031, 3, (1, 2, .ofNat 0))]), [], [(2, 10, .ofNat 1)]), [(([(.ofNat 0, .ofNat 0), (.ofNat 0, .ofNat 39), (.ofNat 0, .ofNat 999)], [], [], []), [], [(1, 2, .ofNat 0)])], [], []) := by
  intro γ d σ L st0 st M Q _ hA k
  have h := aHold_0 hA
  obtain ⟨w0, rfl, g0⟩ := eS1 h
  obtain ⟨a0, rfl, ea0⟩ := gD g0 (by decide)
  have q30_1 : (γ 1030 1).toInt = σ 1 + 0 := eG h (g := 1030) (i := 1) (sy := 1) (c := 0) (by decide) (List.Mem.head _)
  have q30_2 : (γ 1030 2).toInt = σ 0 + 1 := eG h (g := 1030) (i := 2) (sy := 0) (c := 1) (by decide) (List.Mem.tail _ (List.Mem.head _))
  have q31_3 : (γ 1031 3).toInt = σ 2 + 0 := eG h (g := 1031) (i := 3) (sy := 2) (c := 0) (by decide) (List.Mem.tail _ (List.Mem.tail _ (List.Mem.head _)))
  have b1 := eB h (i := 1) (lo := 0) (hi := 39) rfl
  have b2 := eB h (i := 2) (lo := 0) (hi := 999) rfl
  have s0 := h.1.2.1.1
  have hx : x9 γ M := hA.2.2.2.1.2.2
  have hT := aTp_of h.2.2.2
  have hd : (γ 1030 1).toInt.toNat < 40 := by omega
  have ea : a0 = 10 + (γ 1030 1).toInt.toNat := by omega
  subst ea
  obtain ⟨x, x1, x2, _⟩ := tD hT hd (f := 3) (by decide)
  have e := (y9_g hx.2 (show (γ 1030 2).toInt = 1 by omega) (f := 3) (by decide)).1
  refine kGetf (j := 103) hat (hdD hT hd) (by decide) x1 ?_
  refine k γ σ _ L [.int x] M (List.Mem.head _) (fun _ _ => rfl) aFr.rf gFr.rf aExt.rf ?_
  exact mkHold9 (by decide) s0 ⟨b00 s0, b1, b2, True.intro⟩ True.intro True.intro ⟨⟨by decide, _, rfl, by show (x : Int32).toInt = σ 2 + 0; omega⟩, True.intro⟩ (hA.2.2.2)
theorem gt_cg2 {s : List Int32} {mi pc : Nat} (hat : mAt mi pc = some (3, .getfield 102)) : gSound9 s (mi, pc, pc + 3, 0, (([(.ofNat 0, .ofNat 0), (.ofNat 0, .ofNat 39), (.negSucc 2147483647, .ofNat 2147483647)], [], [], [(1030, 1, (1, 1, .ofNat 0)), (1030, 2, (1, 0, .ofNat 1)), (1031, 2, (1, 2, .ofNat 0))]), [], [(2, 10, .ofNat 1)]), [(([(.ofNat 0, .ofNat 0), (.ofNat 0, .ofNat 39), (.negSucc 2147483647, .ofNat 2147483647)], [], [], []), [], [(1, 2, .ofNat 0)])], [], []) := by
  intro γ d σ L st0 st M Q _ hA k
  have h := aHold_0 hA
  obtain ⟨w0, rfl, g0⟩ := eS1 h
  obtain ⟨a0, rfl, ea0⟩ := gD g0 (by decide)
  have q30_1 : (γ 1030 1).toInt = σ 1 + 0 := eG h (g := 1030) (i := 1) (sy := 1) (c := 0) (by decide) (List.Mem.head _)
  have q30_2 : (γ 1030 2).toInt = σ 0 + 1 := eG h (g := 1030) (i := 2) (sy := 0) (c := 1) (by decide) (List.Mem.tail _ (List.Mem.head _))
  have q31_2 : (γ 1031 2).toInt = σ 2 + 0 := eG h (g := 1031) (i := 2) (sy := 2) (c := 0) (by decide) (List.Mem.tail _ (List.Mem.tail _ (List.Mem.head _)))
  have b1 := eB h (i := 1) (lo := 0) (hi := 39) rfl
  have b2 := eB h (i := 2) (lo := (-2147483648)) (hi := 2147483647) rfl
  have s0 := h.1.2.1.1
  have hx : x9 γ M := hA.2.2.2.1.2.2
  have hT := aTp_of h.2.2.2
  have hd : (γ 1030 1).toInt.toNat < 40 := by omega
  have ea : a0 = 10 + (γ 1030 1).toInt.toNat := by omega
  subst ea
  obtain ⟨x, x1, x2, _⟩ := tD hT hd (f := 2) (by decide)
  have e := (y9_g hx.2 (show (γ 1030 2).toInt = 1 by omega) (f := 2) (by decide)).1
  refine kGetf (j := 102) hat (hdD hT hd) (by decide) x1 ?_
  refine k γ σ _ L [.int x] M (List.Mem.head _) (fun _ _ => rfl) aFr.rf gFr.rf aExt.rf ?_
  exact mkHold9 (by decide) s0 ⟨b00 s0, b1, b2, True.intro⟩ True.intro True.intro ⟨⟨by decide, _, rfl, by show (x : Int32).toInt = σ 2 + 0; omega⟩, True.intro⟩ (hA.2.2.2)
theorem gt_cg7 {s : List Int32} {mi pc : Nat} (hat : mAt mi pc = some (3, .getfield 107)) : gSound9 s (mi, pc, pc + 3, 0, (([(.ofNat 0, .ofNat 0), (.ofNat 0, .ofNat 39), (.ofNat 0, .ofNat 1000000)], [], [], [(1030, 1, (1, 1, .ofNat 0)), (1030, 2, (1, 0, .ofNat 1)), (1031, 7, (1, 2, .ofNat 0))]), [], [(2, 10, .ofNat 1)]), [(([(.ofNat 0, .ofNat 0), (.ofNat 0, .ofNat 39), (.ofNat 0, .ofNat 1000000)], [], [], []), [], [(1, 2, .ofNat 0)])], [], []) := by
  intro γ d σ L st0 st M Q _ hA k
  have h := aHold_0 hA
  obtain ⟨w0, rfl, g0⟩ := eS1 h
  obtain ⟨a0, rfl, ea0⟩ := gD g0 (by decide)
  have q30_1 : (γ 1030 1).toInt = σ 1 + 0 := eG h (g := 1030) (i := 1) (sy := 1) (c := 0) (by decide) (List.Mem.head _)
  have q30_2 : (γ 1030 2).toInt = σ 0 + 1 := eG h (g := 1030) (i := 2) (sy := 0) (c := 1) (by decide) (List.Mem.tail _ (List.Mem.head _))
  have q31_7 : (γ 1031 7).toInt = σ 2 + 0 := eG h (g := 1031) (i := 7) (sy := 2) (c := 0) (by decide) (List.Mem.tail _ (List.Mem.tail _ (List.Mem.head _)))
  have b1 := eB h (i := 1) (lo := 0) (hi := 39) rfl
  have b2 := eB h (i := 2) (lo := 0) (hi := 1000000) rfl
  have s0 := h.1.2.1.1
  have hx : x9 γ M := hA.2.2.2.1.2.2
  have hT := aTp_of h.2.2.2
  have hd : (γ 1030 1).toInt.toNat < 40 := by omega
  have ea : a0 = 10 + (γ 1030 1).toInt.toNat := by omega
  subst ea
  obtain ⟨x, x1, x2, _⟩ := tD hT hd (f := 7) (by decide)
  have e := (y9_g hx.2 (show (γ 1030 2).toInt = 1 by omega) (f := 7) (by decide)).1
  refine kGetf (j := 107) hat (hdD hT hd) (by decide) x1 ?_
  refine k γ σ _ L [.int x] M (List.Mem.head _) (fun _ _ => rfl) aFr.rf gFr.rf aExt.rf ?_
  exact mkHold9 (by decide) s0 ⟨b00 s0, b1, b2, True.intro⟩ True.intro True.intro ⟨⟨by decide, _, rfl, by show (x : Int32).toInt = σ 2 + 0; omega⟩, True.intro⟩ (hA.2.2.2)
theorem gt_cg0 {s : List Int32} {mi pc : Nat} (hat : mAt mi pc = some (3, .getfield 100)) : gSound9 s (mi, pc, pc + 3, 0, (([(.ofNat 0, .ofNat 0), (.ofNat 0, .ofNat 39), (.ofNat 0, .ofNat 9)], [], [], [(1030, 1, (1, 1, .ofNat 0)), (1030, 2, (1, 0, .ofNat 1)), (1031, 0, (1, 2, .ofNat 0))]), [], [(2, 10, .ofNat 1)]), [(([(.ofNat 0, .ofNat 0), (.ofNat 0, .ofNat 39), (.ofNat 0, .ofNat 9)], [], [], []), [], [(1, 2, .ofNat 0)])], [], []) := by
  intro γ d σ L st0 st M Q _ hA k
  have h := aHold_0 hA
  obtain ⟨w0, rfl, g0⟩ := eS1 h
  obtain ⟨a0, rfl, ea0⟩ := gD g0 (by decide)
  have q30_1 : (γ 1030 1).toInt = σ 1 + 0 := eG h (g := 1030) (i := 1) (sy := 1) (c := 0) (by decide) (List.Mem.head _)
  have q30_2 : (γ 1030 2).toInt = σ 0 + 1 := eG h (g := 1030) (i := 2) (sy := 0) (c := 1) (by decide) (List.Mem.tail _ (List.Mem.head _))
  have q31_0 : (γ 1031 0).toInt = σ 2 + 0 := eG h (g := 1031) (i := 0) (sy := 2) (c := 0) (by decide) (List.Mem.tail _ (List.Mem.tail _ (List.Mem.head _)))
  have b1 := eB h (i := 1) (lo := 0) (hi := 39) rfl
  have b2 := eB h (i := 2) (lo := 0) (hi := 9) rfl
  have s0 := h.1.2.1.1
  have hx : x9 γ M := hA.2.2.2.1.2.2
  have hT := aTp_of h.2.2.2
  have hd : (γ 1030 1).toInt.toNat < 40 := by omega
  have ea : a0 = 10 + (γ 1030 1).toInt.toNat := by omega
  subst ea
  obtain ⟨x, x1, x2, _⟩ := tD hT hd (f := 0) (by decide)
  have e := (y9_g hx.2 (show (γ 1030 2).toInt = 1 by omega) (f := 0) (by decide)).1
  refine kGetf (j := 100) hat (hdD hT hd) (by decide) x1 ?_
  refine k γ σ _ L [.int x] M (List.Mem.head _) (fun _ _ => rfl) aFr.rf gFr.rf aExt.rf ?_
  exact mkHold9 (by decide) s0 ⟨b00 s0, b1, b2, True.intro⟩ True.intro True.intro ⟨⟨by decide, _, rfl, by show (x : Int32).toInt = σ 2 + 0; omega⟩, True.intro⟩ (hA.2.2.2)
theorem gt_cg4 {s : List Int32} {mi pc : Nat} (hat : mAt mi pc = some (3, .getfield 104)) : gSound9 s (mi, pc, pc + 3, 0, (([(.ofNat 0, .ofNat 0), (.ofNat 0, .ofNat 39), (.ofNat 0, .ofNat 2)], [], [], [(1030, 1, (1, 1, .ofNat 0)), (1030, 2, (1, 0, .ofNat 1)), (1031, 4, (1, 2, .ofNat 0))]), [], [(2, 10, .ofNat 1)]), [(([(.ofNat 0, .ofNat 0), (.ofNat 0, .ofNat 39), (.ofNat 0, .ofNat 2)], [], [], []), [], [(1, 2, .ofNat 0)])], [], []) := by
  intro γ d σ L st0 st M Q _ hA k
  have h := aHold_0 hA
  obtain ⟨w0, rfl, g0⟩ := eS1 h
  obtain ⟨a0, rfl, ea0⟩ := gD g0 (by decide)
  have q30_1 : (γ 1030 1).toInt = σ 1 + 0 := eG h (g := 1030) (i := 1) (sy := 1) (c := 0) (by decide) (List.Mem.head _)
  have q30_2 : (γ 1030 2).toInt = σ 0 + 1 := eG h (g := 1030) (i := 2) (sy := 0) (c := 1) (by decide) (List.Mem.tail _ (List.Mem.head _))
  have q31_4 : (γ 1031 4).toInt = σ 2 + 0 := eG h (g := 1031) (i := 4) (sy := 2) (c := 0) (by decide) (List.Mem.tail _ (List.Mem.tail _ (List.Mem.head _)))
  have b1 := eB h (i := 1) (lo := 0) (hi := 39) rfl
  have b2 := eB h (i := 2) (lo := 0) (hi := 2) rfl
  have s0 := h.1.2.1.1
  have hx : x9 γ M := hA.2.2.2.1.2.2
  have hT := aTp_of h.2.2.2
  have hd : (γ 1030 1).toInt.toNat < 40 := by omega
  have ea : a0 = 10 + (γ 1030 1).toInt.toNat := by omega
  subst ea
  obtain ⟨x, x1, x2, _⟩ := tD hT hd (f := 4) (by decide)
  have e := (y9_g hx.2 (show (γ 1030 2).toInt = 1 by omega) (f := 4) (by decide)).1
  refine kGetf (j := 104) hat (hdD hT hd) (by decide) x1 ?_
  refine k γ σ _ L [.int x] M (List.Mem.head _) (fun _ _ => rfl) aFr.rf gFr.rf aExt.rf ?_
  exact mkHold9 (by decide) s0 ⟨b00 s0, b1, b2, True.intro⟩ True.intro True.intro ⟨⟨by decide, _, rfl, by show (x : Int32).toInt = σ 2 + 0; omega⟩, True.intro⟩ (hA.2.2.2)
theorem gt_cg9 {s : List Int32} {mi pc : Nat} (hat : mAt mi pc = some (3, .getfield 109)) : gSound9 s (mi, pc, pc + 3, 0, (([(.ofNat 0, .ofNat 0), (.ofNat 0, .ofNat 39), (.ofNat 0, .ofNat 16383)], [], [], [(1030, 1, (1, 1, .ofNat 0)), (1030, 2, (1, 0, .ofNat 1)), (1031, 9, (1, 2, .ofNat 0))]), [], [(2, 10, .ofNat 1)]), [(([(.ofNat 0, .ofNat 0), (.ofNat 0, .ofNat 39), (.ofNat 0, .ofNat 16383)], [], [], []), [], [(1, 2, .ofNat 0)])], [], []) := by
  intro γ d σ L st0 st M Q _ hA k
  have h := aHold_0 hA
  obtain ⟨w0, rfl, g0⟩ := eS1 h
  obtain ⟨a0, rfl, ea0⟩ := gD g0 (by decide)
  have q30_1 : (γ 1030 1).toInt = σ 1 + 0 := eG h (g := 1030) (i := 1) (sy := 1) (c := 0) (by decide) (List.Mem.head _)
  have q30_2 : (γ 1030 2).toInt = σ 0 + 1 := eG h (g := 1030) (i := 2) (sy := 0) (c := 1) (by decide) (List.Mem.tail _ (List.Mem.head _))
  have q31_9 : (γ 1031 9).toInt = σ 2 + 0 := eG h (g := 1031) (i := 9) (sy := 2) (c := 0) (by decide) (List.Mem.tail _ (List.Mem.tail _ (List.Mem.head _)))
  have b1 := eB h (i := 1) (lo := 0) (hi := 39) rfl
  have b2 := eB h (i := 2) (lo := 0) (hi := 16383) rfl
  have s0 := h.1.2.1.1
  have hx : x9 γ M := hA.2.2.2.1.2.2
  have hT := aTp_of h.2.2.2
  have hd : (γ 1030 1).toInt.toNat < 40 := by omega
  have ea : a0 = 10 + (γ 1030 1).toInt.toNat := by omega
  subst ea
  obtain ⟨x, x1, x2, _⟩ := tD hT hd (f := 9) (by decide)
  have e := (y9_g hx.2 (show (γ 1030 2).toInt = 1 by omega) (f := 9) (by decide)).1
  refine kGetf (j := 109) hat (hdD hT hd) (by decide) x1 ?_
  refine k γ σ _ L [.int x] M (List.Mem.head _) (fun _ _ => rfl) aFr.rf gFr.rf aExt.rf ?_
  exact mkHold9 (by decide) s0 ⟨b00 s0, b1, b2, True.intro⟩ True.intro True.intro ⟨⟨by decide, _, rfl, by show (x : Int32).toInt = σ 2 + 0; omega⟩, True.intro⟩ (hA.2.2.2)
theorem gt_co {s : List Int32} {mi pc : Nat} (hat : mAt mi pc = some (1, .aaload)) : gSound9 s (mi, pc, pc + 1, 0, (([(.ofNat 0, .ofNat 0), (.ofNat 0, .ofNat 39), (.ofNat 0, .ofNat 40)], [(1, 2, .negSucc 0)], [], [(1030, 0, (1, 2, .ofNat 0)), (1030, 2, (1, 0, .ofNat 0))]), [], [(1, 1, .ofNat 0), (2, 8, .ofNat 0)]), [(([(.ofNat 0, .ofNat 0), (.ofNat 0, .ofNat 39), (.ofNat 0, .ofNat 40), (.ofNat 0, .ofNat 39), (.ofNat 0, .ofNat 9), (.ofNat 0, .ofNat 9), (.negSucc 2147483647, .ofNat 2147483647), (.ofNat 0, .ofNat 999), (.ofNat 0, .ofNat 2), (.ofNat 0, .ofNat 9999), (.ofNat 0, .ofNat 1)], [(3, 1, .ofNat 0), (1, 3, .ofNat 0)], [], [(1030, 1, (1, 1, .ofNat 0)), (1030, 2, (1, 0, .ofNat 1)), (1031, 0, (1, 4, .ofNat 0)), (1032, 0, (1, 4, .ofNat 0)), (1031, 1, (1, 5, .ofNat 0)), (1032, 1, (1, 5, .ofNat 0)), (1031, 2, (1, 6, .ofNat 0)), (1032, 2, (1, 6, .ofNat 0)), (1031, 3, (1, 7, .ofNat 0)), (1032, 3, (1, 7, .ofNat 0)), (1031, 4, (1, 8, .ofNat 0)), (1032, 4, (1, 8, .ofNat 0)), (1031, 5, (1, 9, .ofNat 0)), (1032, 5, (1, 9, .ofNat 0)), (1031, 6, (1, 10, .ofNat 0)), (1032, 6, (1, 10, .ofNat 0)), (1031, 7, (1, 0, .ofNat 1000000)), (1032, 7, (1, 0, .negSucc 0)), (1031, 8, (1, 0, .negSucc 0)), (1032, 8, (1, 0, .negSucc 0)), (1031, 9, (1, 0, .ofNat 0)), (1032, 9, (1, 0, .ofNat 0))]), [], [(2, 10, .ofNat 3)]), (([(.ofNat 0, .ofNat 0), (.ofNat 0, .ofNat 39), (.ofNat 0, .ofNat 40), (.ofNat 0, .ofNat 39), (.ofNat 0, .ofNat 9), (.ofNat 0, .ofNat 9), (.negSucc 2147483647, .ofNat 2147483647), (.ofNat 0, .ofNat 999), (.ofNat 0, .ofNat 2), (.ofNat 0, .ofNat 9999), (.ofNat 0, .ofNat 1), (.ofNat 0, .ofNat 1006), (.ofNat 0, .ofNat 9), (.ofNat 0, .ofNat 16383)], [(3, 1, .ofNat 0), (1, 3, .ofNat 0)], [], [(1030, 1, (1, 1, .ofNat 0)), (1030, 2, (1, 0, .ofNat 1)), (1031, 0, (1, 4, .ofNat 0)), (1032, 0, (1, 4, .ofNat 0)), (1031, 1, (1, 5, .ofNat 0)), (1032, 1, (1, 5, .ofNat 0)), (1031, 2, (1, 6, .ofNat 0)), (1032, 2, (1, 6, .ofNat 0)), (1031, 3, (1, 7, .ofNat 0)), (1032, 3, (1, 7, .ofNat 0)), (1031, 4, (1, 8, .ofNat 0)), (1032, 4, (1, 8, .ofNat 0)), (1031, 5, (1, 9, .ofNat 0)), (1032, 5, (1, 9, .ofNat 0)), (1031, 6, (1, 10, .ofNat 0)), (1032, 6, (1, 10, .ofNat 0)), (1031, 7, (1, 11, .ofNat 0)), (1032, 7, (1, 11, .ofNat 0)), (1031, 8, (1, 12, .ofNat 0)), (1032, 8, (1, 12, .ofNat 0)), (1031, 9, (1, 13, .ofNat 0)), (1032, 9, (1, 13, .ofNat 0))]), [], [(2, 10, .ofNat 3)])], [(1030, 1), (1030, 2), (1031, 0), (1031, 1), (1031, 2), (1031, 3), (1031, 4), (1031, 5), (1031, 6), (1031, 7), (1031, 8), (1031, 9), (1032, 0), (1032, 1), (1032, 2), (1032, 3), (1032, 4), (1032, 5), (1032, 6), (1032, 7), (1032, 8), (1032, 9)], []) := by
  intro γ d σ L st0 st M Q _ hA k
  have h := aHold_0 hA
  obtain ⟨w0, w1, rfl, g0, g1⟩ := eS2 h
  obtain ⟨x0, rfl, ex0⟩ := gI g0
  have ex0 : x0.toInt = σ 1 + 0 := ex0
  have e1 := gR g1 rfl
  subst e1
  have q30_0 : (γ 1030 0).toInt = σ 2 + 0 := eG h (g := 1030) (i := 0) (sy := 2) (c := 0) (by decide) (List.Mem.head _)
  have q30_2 : (γ 1030 2).toInt = σ 0 + 0 := eG h (g := 1030) (i := 2) (sy := 0) (c := 0) (by decide) (List.Mem.tail _ (List.Mem.head _))
  have b1 := eB h (i := 1) (lo := 0) (hi := 39) rfl
  have b2 := eB h (i := 2) (lo := 0) (hi := 40) rfl
  have z0 := (h.1.2.1.2.2 1 2 (-1) (List.Mem.head _)).2.2
  have s0 := h.1.2.1.1
  have hx : x9 γ M := hA.2.2.2.1.2.2
  have hT := aTp_of h.2.2.2
  refine kAaldT (n := 40) hat (hT.hd (c := 8) (by decide) (by decide)) rfl (by omega) (by omega) (hx.1 x0.toInt.toNat (by omega)).1 ?_
  have hd : x0.toInt.toNat < 40 := by omega
  have hlk := (show yAll (Gi (gS γ) 0 0) (yV M) from y9_o (k := 0) hx.2 (show (γ 1030 2).toInt = 0 by omega)) x0.toInt.toNat (show ((x0.toInt.toNat : Nat) : Int) < (γ 1030 0).toInt by omega)
  have r0 : 0 ≤ yV M 0 0 x0.toInt.toNat ∧ yV M 0 0 x0.toInt.toNat ≤ 9 := tDb hT hd (f := 0) (by decide)
  have m0 : yV M 0 0 x0.toInt.toNat = yV M 1 0 x0.toInt.toNat := hlk.1 0 (by decide)
  have r1 : 0 ≤ yV M 0 1 x0.toInt.toNat ∧ yV M 0 1 x0.toInt.toNat ≤ 9 := tDb hT hd (f := 1) (by decide)
  have m1 : yV M 0 1 x0.toInt.toNat = yV M 1 1 x0.toInt.toNat := hlk.1 1 (by decide)
  have r2 : (-2147483648) ≤ yV M 0 2 x0.toInt.toNat ∧ yV M 0 2 x0.toInt.toNat ≤ 2147483647 := tDb hT hd (f := 2) (by decide)
  have m2 : yV M 0 2 x0.toInt.toNat = yV M 1 2 x0.toInt.toNat := hlk.1 2 (by decide)
  have r3 : 0 ≤ yV M 0 3 x0.toInt.toNat ∧ yV M 0 3 x0.toInt.toNat ≤ 999 := tDb hT hd (f := 3) (by decide)
  have m3 : yV M 0 3 x0.toInt.toNat = yV M 1 3 x0.toInt.toNat := hlk.1 3 (by decide)
  have r4 : 0 ≤ yV M 0 4 x0.toInt.toNat ∧ yV M 0 4 x0.toInt.toNat ≤ 2 := tDb hT hd (f := 4) (by decide)
  have m4 : yV M 0 4 x0.toInt.toNat = yV M 1 4 x0.toInt.toNat := hlk.1 4 (by decide)
  have r5 : 0 ≤ yV M 0 5 x0.toInt.toNat ∧ yV M 0 5 x0.toInt.toNat ≤ 9999 := tDb hT hd (f := 5) (by decide)
  have m5 : yV M 0 5 x0.toInt.toNat = yV M 1 5 x0.toInt.toNat := hlk.1 5 (by decide)
  have r6 : 0 ≤ yV M 0 6 x0.toInt.toNat ∧ yV M 0 6 x0.toInt.toNat ≤ 1 := tDb hT hd (f := 6) (by decide)
  have m6 : yV M 0 6 x0.toInt.toNat = yV M 1 6 x0.toInt.toNat := hlk.1 6 (by decide)
  have r7 : 0 ≤ yV M 0 7 x0.toInt.toNat ∧ yV M 0 7 x0.toInt.toNat ≤ 1000000 := tDb hT hd (f := 7) (by decide)
  have r8 : (-1) ≤ yV M 0 8 x0.toInt.toNat ∧ yV M 0 8 x0.toInt.toNat ≤ 9 := tDb hT hd (f := 8) (by decide)
  have m8 : yV M 0 8 x0.toInt.toNat = yV M 1 8 x0.toInt.toNat := hlk.1 8 (by decide)
  have r9 : 0 ≤ yV M 0 9 x0.toInt.toNat ∧ yV M 0 9 x0.toInt.toNat ≤ 16383 := tDb hT hd (f := 9) (by decide)
  have m9 : yV M 0 9 x0.toInt.toNat = yV M 1 9 x0.toInt.toNat := hlk.1 9 (by decide)
  have m7 : (yV M 0 7 x0.toInt.toNat = 1000000 ∧ yV M 1 7 x0.toInt.toNat = -1) ∨ (yV M 0 7 x0.toInt.toNat = yV M 1 7 x0.toInt.toNat ∧ 0 ≤ yV M 0 7 x0.toInt.toNat ∧ yV M 0 7 x0.toInt.toNat ≤ 1006) := hlk.1 7 (by decide)
  have m8b : yV M 0 7 x0.toInt.toNat = 1000000 → yV M 0 8 x0.toInt.toNat = -1 ∧ yV M 0 9 x0.toInt.toNat = 0 := hlk.2.1
  have m8n : yV M 0 7 x0.toInt.toNat ≠ 1000000 → 0 ≤ yV M 0 8 x0.toInt.toNat := hlk.2.2
  rcases m7 with m7 | m7
  · obtain ⟨m8c, m9c⟩ := m8b m7.1
    refine k (gUs γ (opL x0 (yV M) x0.toInt.toNat)) (aUp (aUp (aUp (aUp (aUp (aUp (aUp (aUp σ 3 (σ 1)) 4 (yV M 0 0 x0.toInt.toNat)) 5 (yV M 0 1 x0.toInt.toNat)) 6 (yV M 0 2 x0.toInt.toNat)) 7 (yV M 0 3 x0.toInt.toNat)) 8 (yV M 0 4 x0.toInt.toNat)) 9 (yV M 0 5 x0.toInt.toNat)) 10 (yV M 0 6 x0.toInt.toNat)) _ L [.ref (10 + x0.toInt.toNat)] M (List.Mem.head _) (fun _ _ => rfl) aFr.rf (gUs_fr (opL x0 (yV M) x0.toInt.toNat) rfl gFr.rf) (aExt.tr (aExt.tr (aExt.tr (aExt.tr (aExt.tr (aExt.tr (aExt.tr aUp_ext aUp_ext (by show 3 ≤ 4; decide)) aUp_ext (by show 3 ≤ 5; decide)) aUp_ext (by show 3 ≤ 6; decide)) aUp_ext (by show 3 ≤ 7; decide)) aUp_ext (by show 3 ≤ 8; decide)) aUp_ext (by show 3 ≤ 9; decide)) aUp_ext (by show 3 ≤ 10; decide)) ?_
    exact mkHold9 (by decide) s0 ⟨b00 s0, b1, b2, ⟨by show (0 : Int) ≤ σ 1; omega, by show σ 1 ≤ 39; omega⟩, ⟨by show (0 : Int) ≤ yV M 0 0 x0.toInt.toNat; omega, by show yV M 0 0 x0.toInt.toNat ≤ 9; omega⟩, ⟨by show (0 : Int) ≤ yV M 0 1 x0.toInt.toNat; omega, by show yV M 0 1 x0.toInt.toNat ≤ 9; omega⟩, ⟨by show (-2147483648 : Int) ≤ yV M 0 2 x0.toInt.toNat; omega, by show yV M 0 2 x0.toInt.toNat ≤ 2147483647; omega⟩, ⟨by show (0 : Int) ≤ yV M 0 3 x0.toInt.toNat; omega, by show yV M 0 3 x0.toInt.toNat ≤ 999; omega⟩, ⟨by show (0 : Int) ≤ yV M 0 4 x0.toInt.toNat; omega, by show yV M 0 4 x0.toInt.toNat ≤ 2; omega⟩, ⟨by show (0 : Int) ≤ yV M 0 5 x0.toInt.toNat; omega, by show yV M 0 5 x0.toInt.toNat ≤ 9999; omega⟩, ⟨by show (0 : Int) ≤ yV M 0 6 x0.toInt.toNat; omega, by show yV M 0 6 x0.toInt.toNat ≤ 1; omega⟩, True.intro⟩ ⟨⟨by decide, by decide, by show σ 1 - σ 1 ≤ 0; omega⟩, ⟨by decide, by decide, by show σ 1 - σ 1 ≤ 0; omega⟩, True.intro⟩ ⟨hF1_gh (by decide) (by decide) (by show (x0 : Int32).toInt = σ 1 + 0; omega), hF1_gh (by decide) (by decide) (by show (1 : Int) = σ 0 + 1; omega), hF1_gh (by decide) (by decide) (by show ((Int32.ofInt (yV M 0 0 x0.toInt.toNat)) : Int32).toInt = yV M 0 0 x0.toInt.toNat + 0; rw [yV_i32]; omega), hF1_gh (by decide) (by decide) (by show ((Int32.ofInt (yV M 1 0 x0.toInt.toNat)) : Int32).toInt = yV M 0 0 x0.toInt.toNat + 0; rw [yV_i32]; omega), hF1_gh (by decide) (by decide) (by show ((Int32.ofInt (yV M 0 1 x0.toInt.toNat)) : Int32).toInt = yV M 0 1 x0.toInt.toNat + 0; rw [yV_i32]; omega), hF1_gh (by decide) (by decide) (by show ((Int32.ofInt (yV M 1 1 x0.toInt.toNat)) : Int32).toInt = yV M 0 1 x0.toInt.toNat + 0; rw [yV_i32]; omega), hF1_gh (by decide) (by decide) (by show ((Int32.ofInt (yV M 0 2 x0.toInt.toNat)) : Int32).toInt = yV M 0 2 x0.toInt.toNat + 0; rw [yV_i32]; omega), hF1_gh (by decide) (by decide) (by show ((Int32.ofInt (yV M 1 2 x0.toInt.toNat)) : Int32).toInt = yV M 0 2 x0.toInt.toNat + 0; rw [yV_i32]; omega), hF1_gh (by decide) (by decide) (by show ((Int32.ofInt (yV M 0 3 x0.toInt.toNat)) : Int32).toInt = yV M 0 3 x0.toInt.toNat + 0; rw [yV_i32]; omega), hF1_gh (by decide) (by decide) (by show ((Int32.ofInt (yV M 1 3 x0.toInt.toNat)) : Int32).toInt = yV M 0 3 x0.toInt.toNat + 0; rw [yV_i32]; omega), hF1_gh (by decide) (by decide) (by show ((Int32.ofInt (yV M 0 4 x0.toInt.toNat)) : Int32).toInt = yV M 0 4 x0.toInt.toNat + 0; rw [yV_i32]; omega), hF1_gh (by decide) (by decide) (by show ((Int32.ofInt (yV M 1 4 x0.toInt.toNat)) : Int32).toInt = yV M 0 4 x0.toInt.toNat + 0; rw [yV_i32]; omega), hF1_gh (by decide) (by decide) (by show ((Int32.ofInt (yV M 0 5 x0.toInt.toNat)) : Int32).toInt = yV M 0 5 x0.toInt.toNat + 0; rw [yV_i32]; omega), hF1_gh (by decide) (by decide) (by show ((Int32.ofInt (yV M 1 5 x0.toInt.toNat)) : Int32).toInt = yV M 0 5 x0.toInt.toNat + 0; rw [yV_i32]; omega), hF1_gh (by decide) (by decide) (by show ((Int32.ofInt (yV M 0 6 x0.toInt.toNat)) : Int32).toInt = yV M 0 6 x0.toInt.toNat + 0; rw [yV_i32]; omega), hF1_gh (by decide) (by decide) (by show ((Int32.ofInt (yV M 1 6 x0.toInt.toNat)) : Int32).toInt = yV M 0 6 x0.toInt.toNat + 0; rw [yV_i32]; omega), hF1_gh (by decide) (by decide) (by show ((Int32.ofInt (yV M 0 7 x0.toInt.toNat)) : Int32).toInt = σ 0 + 1000000; rw [yV_i32]; omega), hF1_gh (by decide) (by decide) (by show ((Int32.ofInt (yV M 1 7 x0.toInt.toNat)) : Int32).toInt = σ 0 + (-1); rw [yV_i32]; omega), hF1_gh (by decide) (by decide) (by show ((Int32.ofInt (yV M 0 8 x0.toInt.toNat)) : Int32).toInt = σ 0 + (-1); rw [yV_i32]; omega), hF1_gh (by decide) (by decide) (by show ((Int32.ofInt (yV M 1 8 x0.toInt.toNat)) : Int32).toInt = σ 0 + (-1); rw [yV_i32]; omega), hF1_gh (by decide) (by decide) (by show ((Int32.ofInt (yV M 0 9 x0.toInt.toNat)) : Int32).toInt = σ 0 + 0; rw [yV_i32]; omega), hF1_gh (by decide) (by decide) (by show ((Int32.ofInt (yV M 1 9 x0.toInt.toNat)) : Int32).toInt = σ 0 + 0; rw [yV_i32]; omega), True.intro⟩ ⟨⟨10 + x0.toInt.toNat, rfl, by show 2 ≤ 10 + x0.toInt.toNat; omega, by show 10 + x0.toInt.toNat < 242; omega, grp10 _ (by omega), fun _ => ⟨by decide, by show ((10 + x0.toInt.toNat : Nat) : Int) = 10 + σ 1; omega⟩⟩, True.intro⟩ (fin9 hA.2.2.2 hT (gUs_lt (opL x0 (yV M) x0.toInt.toNat) rfl (fun _ _ _ => rfl)) rfl ⟨hx.1, y9_op hx.2 (by omega) (by omega) (by omega)⟩)
  · have m8p := m8n (by omega)
    refine k (gUs γ (opL x0 (yV M) x0.toInt.toNat)) (aUp (aUp (aUp (aUp (aUp (aUp (aUp (aUp (aUp (aUp (aUp σ 3 (σ 1)) 4 (yV M 0 0 x0.toInt.toNat)) 5 (yV M 0 1 x0.toInt.toNat)) 6 (yV M 0 2 x0.toInt.toNat)) 7 (yV M 0 3 x0.toInt.toNat)) 8 (yV M 0 4 x0.toInt.toNat)) 9 (yV M 0 5 x0.toInt.toNat)) 10 (yV M 0 6 x0.toInt.toNat)) 11 (yV M 0 7 x0.toInt.toNat)) 12 (yV M 0 8 x0.toInt.toNat)) 13 (yV M 0 9 x0.toInt.toNat)) _ L [.ref (10 + x0.toInt.toNat)] M (List.Mem.tail _ (List.Mem.head _)) (fun _ _ => rfl) aFr.rf (gUs_fr (opL x0 (yV M) x0.toInt.toNat) rfl gFr.rf) (aExt.tr (aExt.tr (aExt.tr (aExt.tr (aExt.tr (aExt.tr (aExt.tr (aExt.tr (aExt.tr (aExt.tr aUp_ext aUp_ext (by show 3 ≤ 4; decide)) aUp_ext (by show 3 ≤ 5; decide)) aUp_ext (by show 3 ≤ 6; decide)) aUp_ext (by show 3 ≤ 7; decide)) aUp_ext (by show 3 ≤ 8; decide)) aUp_ext (by show 3 ≤ 9; decide)) aUp_ext (by show 3 ≤ 10; decide)) aUp_ext (by show 3 ≤ 11; decide)) aUp_ext (by show 3 ≤ 12; decide)) aUp_ext (by show 3 ≤ 13; decide)) ?_
    exact mkHold9 (by decide) s0 ⟨b00 s0, b1, b2, ⟨by show (0 : Int) ≤ σ 1; omega, by show σ 1 ≤ 39; omega⟩, ⟨by show (0 : Int) ≤ yV M 0 0 x0.toInt.toNat; omega, by show yV M 0 0 x0.toInt.toNat ≤ 9; omega⟩, ⟨by show (0 : Int) ≤ yV M 0 1 x0.toInt.toNat; omega, by show yV M 0 1 x0.toInt.toNat ≤ 9; omega⟩, ⟨by show (-2147483648 : Int) ≤ yV M 0 2 x0.toInt.toNat; omega, by show yV M 0 2 x0.toInt.toNat ≤ 2147483647; omega⟩, ⟨by show (0 : Int) ≤ yV M 0 3 x0.toInt.toNat; omega, by show yV M 0 3 x0.toInt.toNat ≤ 999; omega⟩, ⟨by show (0 : Int) ≤ yV M 0 4 x0.toInt.toNat; omega, by show yV M 0 4 x0.toInt.toNat ≤ 2; omega⟩, ⟨by show (0 : Int) ≤ yV M 0 5 x0.toInt.toNat; omega, by show yV M 0 5 x0.toInt.toNat ≤ 9999; omega⟩, ⟨by show (0 : Int) ≤ yV M 0 6 x0.toInt.toNat; omega, by show yV M 0 6 x0.toInt.toNat ≤ 1; omega⟩, ⟨by show (0 : Int) ≤ yV M 0 7 x0.toInt.toNat; omega, by show yV M 0 7 x0.toInt.toNat ≤ 1006; omega⟩, ⟨by show (0 : Int) ≤ yV M 0 8 x0.toInt.toNat; omega, by show yV M 0 8 x0.toInt.toNat ≤ 9; omega⟩, ⟨by show (0 : Int) ≤ yV M 0 9 x0.toInt.toNat; omega, by show yV M 0 9 x0.toInt.toNat ≤ 16383; omega⟩, True.intro⟩ ⟨⟨by decide, by decide, by show σ 1 - σ 1 ≤ 0; omega⟩, ⟨by decide, by decide, by show σ 1 - σ 1 ≤ 0; omega⟩, True.intro⟩ ⟨hF1_gh (by decide) (by decide) (by show (x0 : Int32).toInt = σ 1 + 0; omega), hF1_gh (by decide) (by decide) (by show (1 : Int) = σ 0 + 1; omega), hF1_gh (by decide) (by decide) (by show ((Int32.ofInt (yV M 0 0 x0.toInt.toNat)) : Int32).toInt = yV M 0 0 x0.toInt.toNat + 0; rw [yV_i32]; omega), hF1_gh (by decide) (by decide) (by show ((Int32.ofInt (yV M 1 0 x0.toInt.toNat)) : Int32).toInt = yV M 0 0 x0.toInt.toNat + 0; rw [yV_i32]; omega), hF1_gh (by decide) (by decide) (by show ((Int32.ofInt (yV M 0 1 x0.toInt.toNat)) : Int32).toInt = yV M 0 1 x0.toInt.toNat + 0; rw [yV_i32]; omega), hF1_gh (by decide) (by decide) (by show ((Int32.ofInt (yV M 1 1 x0.toInt.toNat)) : Int32).toInt = yV M 0 1 x0.toInt.toNat + 0; rw [yV_i32]; omega), hF1_gh (by decide) (by decide) (by show ((Int32.ofInt (yV M 0 2 x0.toInt.toNat)) : Int32).toInt = yV M 0 2 x0.toInt.toNat + 0; rw [yV_i32]; omega), hF1_gh (by decide) (by decide) (by show ((Int32.ofInt (yV M 1 2 x0.toInt.toNat)) : Int32).toInt = yV M 0 2 x0.toInt.toNat + 0; rw [yV_i32]; omega), hF1_gh (by decide) (by decide) (by show ((Int32.ofInt (yV M 0 3 x0.toInt.toNat)) : Int32).toInt = yV M 0 3 x0.toInt.toNat + 0; rw [yV_i32]; omega), hF1_gh (by decide) (by decide) (by show ((Int32.ofInt (yV M 1 3 x0.toInt.toNat)) : Int32).toInt = yV M 0 3 x0.toInt.toNat + 0; rw [yV_i32]; omega), hF1_gh (by decide) (by decide) (by show ((Int32.ofInt (yV M 0 4 x0.toInt.toNat)) : Int32).toInt = yV M 0 4 x0.toInt.toNat + 0; rw [yV_i32]; omega), hF1_gh (by decide) (by decide) (by show ((Int32.ofInt (yV M 1 4 x0.toInt.toNat)) : Int32).toInt = yV M 0 4 x0.toInt.toNat + 0; rw [yV_i32]; omega), hF1_gh (by decide) (by decide) (by show ((Int32.ofInt (yV M 0 5 x0.toInt.toNat)) : Int32).toInt = yV M 0 5 x0.toInt.toNat + 0; rw [yV_i32]; omega), hF1_gh (by decide) (by decide) (by show ((Int32.ofInt (yV M 1 5 x0.toInt.toNat)) : Int32).toInt = yV M 0 5 x0.toInt.toNat + 0; rw [yV_i32]; omega), hF1_gh (by decide) (by decide) (by show ((Int32.ofInt (yV M 0 6 x0.toInt.toNat)) : Int32).toInt = yV M 0 6 x0.toInt.toNat + 0; rw [yV_i32]; omega), hF1_gh (by decide) (by decide) (by show ((Int32.ofInt (yV M 1 6 x0.toInt.toNat)) : Int32).toInt = yV M 0 6 x0.toInt.toNat + 0; rw [yV_i32]; omega), hF1_gh (by decide) (by decide) (by show ((Int32.ofInt (yV M 0 7 x0.toInt.toNat)) : Int32).toInt = yV M 0 7 x0.toInt.toNat + 0; rw [yV_i32]; omega), hF1_gh (by decide) (by decide) (by show ((Int32.ofInt (yV M 1 7 x0.toInt.toNat)) : Int32).toInt = yV M 0 7 x0.toInt.toNat + 0; rw [yV_i32]; omega), hF1_gh (by decide) (by decide) (by show ((Int32.ofInt (yV M 0 8 x0.toInt.toNat)) : Int32).toInt = yV M 0 8 x0.toInt.toNat + 0; rw [yV_i32]; omega), hF1_gh (by decide) (by decide) (by show ((Int32.ofInt (yV M 1 8 x0.toInt.toNat)) : Int32).toInt = yV M 0 8 x0.toInt.toNat + 0; rw [yV_i32]; omega), hF1_gh (by decide) (by decide) (by show ((Int32.ofInt (yV M 0 9 x0.toInt.toNat)) : Int32).toInt = yV M 0 9 x0.toInt.toNat + 0; rw [yV_i32]; omega), hF1_gh (by decide) (by decide) (by show ((Int32.ofInt (yV M 1 9 x0.toInt.toNat)) : Int32).toInt = yV M 0 9 x0.toInt.toNat + 0; rw [yV_i32]; omega), True.intro⟩ ⟨⟨10 + x0.toInt.toNat, rfl, by show 2 ≤ 10 + x0.toInt.toNat; omega, by show 10 + x0.toInt.toNat < 242; omega, grp10 _ (by omega), fun _ => ⟨by decide, by show ((10 + x0.toInt.toNat : Nat) : Int) = 10 + σ 1; omega⟩⟩, True.intro⟩ (fin9 hA.2.2.2 hT (gUs_lt (opL x0 (yV M) x0.toInt.toNat) rfl (fun _ _ _ => rfl)) rfl ⟨hx.1, y9_op hx.2 (by omega) (by omega) (by omega)⟩)
theorem gt_cp6 {s : List Int32} {mi pc : Nat} (hat : mAt mi pc = some (3, .putfield 106)) : gSound9 s (mi, pc, pc + 3, 0, (([(.ofNat 0, .ofNat 0), (.ofNat 0, .ofNat 1), (.ofNat 0, .ofNat 39)], [], [], [(1030, 1, (1, 2, .ofNat 0)), (1030, 2, (1, 0, .ofNat 1))]), [], [(1, 1, .ofNat 0), (2, 10, .ofNat 2)]), [(([(.ofNat 0, .ofNat 0), (.ofNat 0, .ofNat 1), (.ofNat 0, .ofNat 39)], [], [], [(1031, 6, (1, 1, .ofNat 0))]), [], [])], [(10, 6), (1031, 6)], []) := by
  intro γ d σ L st0 st M Q _ hA k
  have h := aHold_0 hA
  obtain ⟨w0, w1, rfl, g0, g1⟩ := eS2 h
  obtain ⟨x0, rfl, ex0⟩ := gI g0
  have ex0 : x0.toInt = σ 1 + 0 := ex0
  obtain ⟨a1, rfl, ea1⟩ := gD g1 (by decide)
  have q30_1 : (γ 1030 1).toInt = σ 2 + 0 := eG h (g := 1030) (i := 1) (sy := 2) (c := 0) (by decide) (List.Mem.head _)
  have q30_2 : (γ 1030 2).toInt = σ 0 + 1 := eG h (g := 1030) (i := 2) (sy := 0) (c := 1) (by decide) (List.Mem.tail _ (List.Mem.head _))
  have b1 := eB h (i := 1) (lo := 0) (hi := 1) rfl
  have b2 := eB h (i := 2) (lo := 0) (hi := 39) rfl
  have s0 := h.1.2.1.1
  have hx : x9 γ M := hA.2.2.2.1.2.2
  have hT := aTp_of h.2.2.2
  have hd : (γ 1030 1).toInt.toNat < 40 := by omega
  have ea : a1 = 10 + (γ 1030 1).toInt.toNat := by omega
  subst ea
  refine kPutf (j := 106) hat (hdD hT hd) (by decide) (by decide) (by rcases i32_zo (x := x0) (by omega) (by omega) with e | e <;> (rw [e]; rfl)) ?_
  refine k (gUs γ [(1031, 6, x0)]) σ _ L [] (mPut M (10 + (γ 1030 1).toInt.toNat) 6 (.int x0)) (List.Mem.head _) (fun _ _ => rfl) (frD hd rfl) (gUs_fr [(1031, 6, x0)] rfl gFr.rf) aExt.rf ?_
  exact mkHold9 (by decide) s0 ⟨b00 s0, b1, b2, True.intro⟩ True.intro ⟨hF1_gh (by decide) (by decide) (by show (x0 : Int32).toInt = σ 1 + 0; omega), True.intro⟩ True.intro (putD hA.2.2.2 hd (f := 6) (by decide) (by show (0 : Int) ≤ x0.toInt; omega) (by show x0.toInt ≤ 1; omega) (gUs_lt [(1031, 6, x0)] rfl (fun _ _ _ => rfl)) (y9_p0 hx.2 (by omega)))
theorem gt_cp8 {s : List Int32} {mi pc : Nat} (hat : mAt mi pc = some (3, .putfield 108)) : gSound9 s (mi, pc, pc + 3, 0, (([(.ofNat 0, .ofNat 0), (.negSucc 0, .ofNat 9), (.ofNat 0, .ofNat 39)], [], [], [(1030, 1, (1, 2, .ofNat 0)), (1030, 2, (1, 0, .ofNat 1))]), [], [(1, 1, .ofNat 0), (2, 10, .ofNat 2)]), [(([(.ofNat 0, .ofNat 0), (.negSucc 0, .ofNat 9), (.ofNat 0, .ofNat 39)], [], [], [(1031, 8, (1, 1, .ofNat 0))]), [], [])], [(10, 8), (1031, 8)], []) := by
  intro γ d σ L st0 st M Q _ hA k
  have h := aHold_0 hA
  obtain ⟨w0, w1, rfl, g0, g1⟩ := eS2 h
  obtain ⟨x0, rfl, ex0⟩ := gI g0
  have ex0 : x0.toInt = σ 1 + 0 := ex0
  obtain ⟨a1, rfl, ea1⟩ := gD g1 (by decide)
  have q30_1 : (γ 1030 1).toInt = σ 2 + 0 := eG h (g := 1030) (i := 1) (sy := 2) (c := 0) (by decide) (List.Mem.head _)
  have q30_2 : (γ 1030 2).toInt = σ 0 + 1 := eG h (g := 1030) (i := 2) (sy := 0) (c := 1) (by decide) (List.Mem.tail _ (List.Mem.head _))
  have b1 := eB h (i := 1) (lo := (-1)) (hi := 9) rfl
  have b2 := eB h (i := 2) (lo := 0) (hi := 39) rfl
  have s0 := h.1.2.1.1
  have hx : x9 γ M := hA.2.2.2.1.2.2
  have hT := aTp_of h.2.2.2
  have hd : (γ 1030 1).toInt.toNat < 40 := by omega
  have ea : a1 = 10 + (γ 1030 1).toInt.toNat := by omega
  subst ea
  refine kPutf (j := 108) hat (hdD hT hd) (by decide) (by decide) rfl ?_
  refine k (gUs γ [(1031, 8, x0)]) σ _ L [] (mPut M (10 + (γ 1030 1).toInt.toNat) 8 (.int x0)) (List.Mem.head _) (fun _ _ => rfl) (frD hd rfl) (gUs_fr [(1031, 8, x0)] rfl gFr.rf) aExt.rf ?_
  exact mkHold9 (by decide) s0 ⟨b00 s0, b1, b2, True.intro⟩ True.intro ⟨hF1_gh (by decide) (by decide) (by show (x0 : Int32).toInt = σ 1 + 0; omega), True.intro⟩ True.intro (putD hA.2.2.2 hd (f := 8) (by decide) (by show (-1 : Int) ≤ x0.toInt; omega) (by show x0.toInt ≤ 9; omega) (gUs_lt [(1031, 8, x0)] rfl (fun _ _ _ => rfl)) (y9_p0 hx.2 (by omega)))
theorem gt_cp2 {s : List Int32} {mi pc : Nat} (hat : mAt mi pc = some (3, .putfield 102)) : gSound9 s (mi, pc, pc + 3, 0, (([(.ofNat 0, .ofNat 0), (.negSucc 2147483647, .ofNat 2147483647), (.ofNat 0, .ofNat 39)], [], [], [(1030, 1, (1, 2, .ofNat 0)), (1030, 2, (1, 0, .ofNat 1))]), [], [(1, 1, .ofNat 0), (2, 10, .ofNat 2)]), [(([(.ofNat 0, .ofNat 0), (.negSucc 2147483647, .ofNat 2147483647), (.ofNat 0, .ofNat 39)], [], [], [(1031, 2, (1, 1, .ofNat 0))]), [], [])], [(10, 2), (1031, 2)], []) := by
  intro γ d σ L st0 st M Q _ hA k
  have h := aHold_0 hA
  obtain ⟨w0, w1, rfl, g0, g1⟩ := eS2 h
  obtain ⟨x0, rfl, ex0⟩ := gI g0
  have ex0 : x0.toInt = σ 1 + 0 := ex0
  obtain ⟨a1, rfl, ea1⟩ := gD g1 (by decide)
  have q30_1 : (γ 1030 1).toInt = σ 2 + 0 := eG h (g := 1030) (i := 1) (sy := 2) (c := 0) (by decide) (List.Mem.head _)
  have q30_2 : (γ 1030 2).toInt = σ 0 + 1 := eG h (g := 1030) (i := 2) (sy := 0) (c := 1) (by decide) (List.Mem.tail _ (List.Mem.head _))
  have b1 := eB h (i := 1) (lo := (-2147483648)) (hi := 2147483647) rfl
  have b2 := eB h (i := 2) (lo := 0) (hi := 39) rfl
  have s0 := h.1.2.1.1
  have hx : x9 γ M := hA.2.2.2.1.2.2
  have hT := aTp_of h.2.2.2
  have hd : (γ 1030 1).toInt.toNat < 40 := by omega
  have ea : a1 = 10 + (γ 1030 1).toInt.toNat := by omega
  subst ea
  refine kPutf (j := 102) hat (hdD hT hd) (by decide) (by decide) rfl ?_
  refine k (gUs γ [(1031, 2, x0)]) σ _ L [] (mPut M (10 + (γ 1030 1).toInt.toNat) 2 (.int x0)) (List.Mem.head _) (fun _ _ => rfl) (frD hd rfl) (gUs_fr [(1031, 2, x0)] rfl gFr.rf) aExt.rf ?_
  exact mkHold9 (by decide) s0 ⟨b00 s0, b1, b2, True.intro⟩ True.intro ⟨hF1_gh (by decide) (by decide) (by show (x0 : Int32).toInt = σ 1 + 0; omega), True.intro⟩ True.intro (putD hA.2.2.2 hd (f := 2) (by decide) (by show (-2147483648 : Int) ≤ x0.toInt; omega) (by show x0.toInt ≤ 2147483647; omega) (gUs_lt [(1031, 2, x0)] rfl (fun _ _ _ => rfl)) (y9_p0 hx.2 (by omega)))
theorem gt_cp4 {s : List Int32} {mi pc : Nat} (hat : mAt mi pc = some (3, .putfield 104)) : gSound9 s (mi, pc, pc + 3, 0, (([(.ofNat 0, .ofNat 0), (.ofNat 0, .ofNat 2), (.ofNat 0, .ofNat 39)], [], [], [(1030, 1, (1, 2, .ofNat 0)), (1030, 2, (1, 0, .ofNat 1))]), [], [(1, 1, .ofNat 0), (2, 10, .ofNat 2)]), [(([(.ofNat 0, .ofNat 0), (.ofNat 0, .ofNat 2), (.ofNat 0, .ofNat 39)], [], [], [(1031, 4, (1, 1, .ofNat 0))]), [], [])], [(10, 4), (1031, 4)], []) := by
  intro γ d σ L st0 st M Q _ hA k
  have h := aHold_0 hA
  obtain ⟨w0, w1, rfl, g0, g1⟩ := eS2 h
  obtain ⟨x0, rfl, ex0⟩ := gI g0
  have ex0 : x0.toInt = σ 1 + 0 := ex0
  obtain ⟨a1, rfl, ea1⟩ := gD g1 (by decide)
  have q30_1 : (γ 1030 1).toInt = σ 2 + 0 := eG h (g := 1030) (i := 1) (sy := 2) (c := 0) (by decide) (List.Mem.head _)
  have q30_2 : (γ 1030 2).toInt = σ 0 + 1 := eG h (g := 1030) (i := 2) (sy := 0) (c := 1) (by decide) (List.Mem.tail _ (List.Mem.head _))
  have b1 := eB h (i := 1) (lo := 0) (hi := 2) rfl
  have b2 := eB h (i := 2) (lo := 0) (hi := 39) rfl
  have s0 := h.1.2.1.1
  have hx : x9 γ M := hA.2.2.2.1.2.2
  have hT := aTp_of h.2.2.2
  have hd : (γ 1030 1).toInt.toNat < 40 := by omega
  have ea : a1 = 10 + (γ 1030 1).toInt.toNat := by omega
  subst ea
  refine kPutf (j := 104) hat (hdD hT hd) (by decide) (by decide) rfl ?_
  refine k (gUs γ [(1031, 4, x0)]) σ _ L [] (mPut M (10 + (γ 1030 1).toInt.toNat) 4 (.int x0)) (List.Mem.head _) (fun _ _ => rfl) (frD hd rfl) (gUs_fr [(1031, 4, x0)] rfl gFr.rf) aExt.rf ?_
  exact mkHold9 (by decide) s0 ⟨b00 s0, b1, b2, True.intro⟩ True.intro ⟨hF1_gh (by decide) (by decide) (by show (x0 : Int32).toInt = σ 1 + 0; omega), True.intro⟩ True.intro (putD hA.2.2.2 hd (f := 4) (by decide) (by show (0 : Int) ≤ x0.toInt; omega) (by show x0.toInt ≤ 2; omega) (gUs_lt [(1031, 4, x0)] rfl (fun _ _ _ => rfl)) (y9_p0 hx.2 (by omega)))
theorem gt_cp5 {s : List Int32} {mi pc : Nat} (hat : mAt mi pc = some (3, .putfield 105)) : gSound9 s (mi, pc, pc + 3, 0, (([(.ofNat 0, .ofNat 0), (.ofNat 0, .ofNat 9999), (.ofNat 0, .ofNat 39)], [], [], [(1030, 1, (1, 2, .ofNat 0)), (1030, 2, (1, 0, .ofNat 1))]), [], [(1, 1, .ofNat 0), (2, 10, .ofNat 2)]), [(([(.ofNat 0, .ofNat 0), (.ofNat 0, .ofNat 9999), (.ofNat 0, .ofNat 39)], [], [], [(1031, 5, (1, 1, .ofNat 0))]), [], [])], [(10, 5), (1031, 5)], []) := by
  intro γ d σ L st0 st M Q _ hA k
  have h := aHold_0 hA
  obtain ⟨w0, w1, rfl, g0, g1⟩ := eS2 h
  obtain ⟨x0, rfl, ex0⟩ := gI g0
  have ex0 : x0.toInt = σ 1 + 0 := ex0
  obtain ⟨a1, rfl, ea1⟩ := gD g1 (by decide)
  have q30_1 : (γ 1030 1).toInt = σ 2 + 0 := eG h (g := 1030) (i := 1) (sy := 2) (c := 0) (by decide) (List.Mem.head _)
  have q30_2 : (γ 1030 2).toInt = σ 0 + 1 := eG h (g := 1030) (i := 2) (sy := 0) (c := 1) (by decide) (List.Mem.tail _ (List.Mem.head _))
  have b1 := eB h (i := 1) (lo := 0) (hi := 9999) rfl
  have b2 := eB h (i := 2) (lo := 0) (hi := 39) rfl
  have s0 := h.1.2.1.1
  have hx : x9 γ M := hA.2.2.2.1.2.2
  have hT := aTp_of h.2.2.2
  have hd : (γ 1030 1).toInt.toNat < 40 := by omega
  have ea : a1 = 10 + (γ 1030 1).toInt.toNat := by omega
  subst ea
  refine kPutf (j := 105) hat (hdD hT hd) (by decide) (by decide) rfl ?_
  refine k (gUs γ [(1031, 5, x0)]) σ _ L [] (mPut M (10 + (γ 1030 1).toInt.toNat) 5 (.int x0)) (List.Mem.head _) (fun _ _ => rfl) (frD hd rfl) (gUs_fr [(1031, 5, x0)] rfl gFr.rf) aExt.rf ?_
  exact mkHold9 (by decide) s0 ⟨b00 s0, b1, b2, True.intro⟩ True.intro ⟨hF1_gh (by decide) (by decide) (by show (x0 : Int32).toInt = σ 1 + 0; omega), True.intro⟩ True.intro (putD hA.2.2.2 hd (f := 5) (by decide) (by show (0 : Int) ≤ x0.toInt; omega) (by show x0.toInt ≤ 9999; omega) (gUs_lt [(1031, 5, x0)] rfl (fun _ _ _ => rfl)) (y9_p0 hx.2 (by omega)))
theorem gt_cp9 {s : List Int32} {mi pc : Nat} (hat : mAt mi pc = some (3, .putfield 109)) : gSound9 s (mi, pc, pc + 3, 0, (([(.ofNat 0, .ofNat 0), (.ofNat 0, .ofNat 16383), (.ofNat 0, .ofNat 39)], [], [], [(1030, 1, (1, 2, .ofNat 0)), (1030, 2, (1, 0, .ofNat 1))]), [], [(1, 1, .ofNat 0), (2, 10, .ofNat 2)]), [(([(.ofNat 0, .ofNat 0), (.ofNat 0, .ofNat 16383), (.ofNat 0, .ofNat 39)], [], [], [(1031, 9, (1, 1, .ofNat 0))]), [], [])], [(10, 9), (1031, 9)], []) := by
  intro γ d σ L st0 st M Q _ hA k
  have h := aHold_0 hA
  obtain ⟨w0, w1, rfl, g0, g1⟩ := eS2 h
  obtain ⟨x0, rfl, ex0⟩ := gI g0
  have ex0 : x0.toInt = σ 1 + 0 := ex0
  obtain ⟨a1, rfl, ea1⟩ := gD g1 (by decide)
  have q30_1 : (γ 1030 1).toInt = σ 2 + 0 := eG h (g := 1030) (i := 1) (sy := 2) (c := 0) (by decide) (List.Mem.head _)
  have q30_2 : (γ 1030 2).toInt = σ 0 + 1 := eG h (g := 1030) (i := 2) (sy := 0) (c := 1) (by decide) (List.Mem.tail _ (List.Mem.head _))
  have b1 := eB h (i := 1) (lo := 0) (hi := 16383) rfl
  have b2 := eB h (i := 2) (lo := 0) (hi := 39) rfl
  have s0 := h.1.2.1.1
  have hx : x9 γ M := hA.2.2.2.1.2.2
  have hT := aTp_of h.2.2.2
  have hd : (γ 1030 1).toInt.toNat < 40 := by omega
  have ea : a1 = 10 + (γ 1030 1).toInt.toNat := by omega
  subst ea
  refine kPutf (j := 109) hat (hdD hT hd) (by decide) (by decide) rfl ?_
  refine k (gUs γ [(1031, 9, x0)]) σ _ L [] (mPut M (10 + (γ 1030 1).toInt.toNat) 9 (.int x0)) (List.Mem.head _) (fun _ _ => rfl) (frD hd rfl) (gUs_fr [(1031, 9, x0)] rfl gFr.rf) aExt.rf ?_
  exact mkHold9 (by decide) s0 ⟨b00 s0, b1, b2, True.intro⟩ True.intro ⟨hF1_gh (by decide) (by decide) (by show (x0 : Int32).toInt = σ 1 + 0; omega), True.intro⟩ True.intro (putD hA.2.2.2 hd (f := 9) (by decide) (by show (0 : Int) ≤ x0.toInt; omega) (by show x0.toInt ≤ 16383; omega) (gUs_lt [(1031, 9, x0)] rfl (fun _ _ _ => rfl)) (y9_p0 hx.2 (by omega)))
theorem gt_cp7 {s : List Int32} {mi pc : Nat} (hat : mAt mi pc = some (3, .putfield 107)) : gSound9 s (mi, pc, pc + 3, 0, (([(.ofNat 0, .ofNat 0), (.ofNat 0, .ofNat 1000000), (.ofNat 0, .ofNat 39)], [], [], [(1030, 1, (1, 2, .ofNat 0)), (1030, 2, (1, 0, .ofNat 1))]), [], [(1, 1, .ofNat 0), (2, 10, .ofNat 2)]), [(([(.ofNat 0, .ofNat 0), (.ofNat 0, .ofNat 1000000), (.ofNat 0, .ofNat 39)], [], [], [(1031, 7, (1, 1, .ofNat 0))]), [], [])], [(10, 7), (1031, 7)], []) := by
  intro γ d σ L st0 st M Q _ hA k
  have h := aHold_0 hA
  obtain ⟨w0, w1, rfl, g0, g1⟩ := eS2 h
  obtain ⟨x0, rfl, ex0⟩ := gI g0
  have ex0 : x0.toInt = σ 1 + 0 := ex0
  obtain ⟨a1, rfl, ea1⟩ := gD g1 (by decide)
  have q30_1 : (γ 1030 1).toInt = σ 2 + 0 := eG h (g := 1030) (i := 1) (sy := 2) (c := 0) (by decide) (List.Mem.head _)
  have q30_2 : (γ 1030 2).toInt = σ 0 + 1 := eG h (g := 1030) (i := 2) (sy := 0) (c := 1) (by decide) (List.Mem.tail _ (List.Mem.head _))
  have b1 := eB h (i := 1) (lo := 0) (hi := 1000000) rfl
  have b2 := eB h (i := 2) (lo := 0) (hi := 39) rfl
  have s0 := h.1.2.1.1
  have hx : x9 γ M := hA.2.2.2.1.2.2
  have hT := aTp_of h.2.2.2
  have hd : (γ 1030 1).toInt.toNat < 40 := by omega
  have ea : a1 = 10 + (γ 1030 1).toInt.toNat := by omega
  subst ea
  refine kPutf (j := 107) hat (hdD hT hd) (by decide) (by decide) rfl ?_
  refine k (gUs γ [(1031, 7, x0)]) σ _ L [] (mPut M (10 + (γ 1030 1).toInt.toNat) 7 (.int x0)) (List.Mem.head _) (fun _ _ => rfl) (frD hd rfl) (gUs_fr [(1031, 7, x0)] rfl gFr.rf) aExt.rf ?_
  exact mkHold9 (by decide) s0 ⟨b00 s0, b1, b2, True.intro⟩ True.intro ⟨hF1_gh (by decide) (by decide) (by show (x0 : Int32).toInt = σ 1 + 0; omega), True.intro⟩ True.intro (putD hA.2.2.2 hd (f := 7) (by decide) (by show (0 : Int) ≤ x0.toInt; omega) (by show x0.toInt ≤ 1000000; omega) (gUs_lt [(1031, 7, x0)] rfl (fun _ _ _ => rfl)) (y9_p0 hx.2 (by omega)))
theorem gt_ka_goto {s : List Int32} {mi pc : Nat} {to len : Nat} {off : Int} (hat : mAt mi pc = some (len, .goto off)) (hj : mJmp pc off = some to) : gSound9 s (mi, pc, to, 0, (([(.ofNat 0, .ofNat 0), (.ofNat 0, .ofNat 40), (.ofNat 0, .ofNat 39), (.ofNat 0, .ofNat 9), (.ofNat 0, .ofNat 9), (.negSucc 2147483647, .ofNat 2147483647), (.ofNat 0, .ofNat 999), (.ofNat 0, .ofNat 2), (.ofNat 0, .ofNat 9999), (.ofNat 0, .ofNat 1)], [(2, 1, .negSucc 0)], [], [(1030, 0, (1, 1, .ofNat 0)), (1030, 1, (1, 2, .ofNat 0)), (1030, 2, (1, 0, .ofNat 1)), (1031, 0, (1, 3, .ofNat 0)), (1032, 0, (1, 3, .ofNat 0)), (1031, 1, (1, 4, .ofNat 0)), (1032, 1, (1, 4, .ofNat 0)), (1031, 2, (1, 5, .ofNat 0)), (1032, 2, (1, 5, .ofNat 0)), (1031, 3, (1, 6, .ofNat 0)), (1032, 3, (1, 6, .ofNat 0)), (1031, 4, (1, 7, .ofNat 0)), (1032, 4, (1, 7, .ofNat 0)), (1031, 5, (1, 8, .ofNat 0)), (1032, 5, (1, 8, .ofNat 0)), (1031, 6, (1, 9, .ofNat 0)), (1032, 6, (1, 9, .ofNat 0)), (1031, 7, (1, 0, .ofNat 1000000)), (1032, 7, (1, 0, .negSucc 0)), (1031, 8, (1, 0, .negSucc 0)), (1032, 8, (1, 0, .negSucc 0)), (1031, 9, (1, 0, .ofNat 0)), (1032, 9, (1, 0, .ofNat 0))]), [], []), [(([(.ofNat 0, .ofNat 0), (.ofNat 0, .ofNat 40), (.ofNat 0, .ofNat 39), (.ofNat 0, .ofNat 9), (.ofNat 0, .ofNat 9), (.negSucc 2147483647, .ofNat 2147483647), (.ofNat 0, .ofNat 999), (.ofNat 0, .ofNat 2), (.ofNat 0, .ofNat 9999), (.ofNat 0, .ofNat 1)], [], [], [(1030, 2, (1, 0, .ofNat 0))]), [], [])], [(1030, 2)], []) := by
  intro γ d σ L st0 st M Q _ hA k
  have h := aHold_0 hA
  have e0 := eNil h
  subst e0
  have q30_0 : (γ 1030 0).toInt = σ 1 + 0 := eG h (g := 1030) (i := 0) (sy := 1) (c := 0) (by decide) (List.Mem.head _)
  have q30_1 : (γ 1030 1).toInt = σ 2 + 0 := eG h (g := 1030) (i := 1) (sy := 2) (c := 0) (by decide) (List.Mem.tail _ (List.Mem.head _))
  have q30_2 : (γ 1030 2).toInt = σ 0 + 1 := eG h (g := 1030) (i := 2) (sy := 0) (c := 1) (by decide) (List.Mem.tail _ (List.Mem.tail _ (List.Mem.head _)))
  have q31_0 : (γ 1031 0).toInt = σ 3 + 0 := eG h (g := 1031) (i := 0) (sy := 3) (c := 0) (by decide) (List.Mem.tail _ (List.Mem.tail _ (List.Mem.tail _ (List.Mem.head _))))
  have q32_0 : (γ 1032 0).toInt = σ 3 + 0 := eG h (g := 1032) (i := 0) (sy := 3) (c := 0) (by decide) (List.Mem.tail _ (List.Mem.tail _ (List.Mem.tail _ (List.Mem.tail _ (List.Mem.head _)))))
  have q31_1 : (γ 1031 1).toInt = σ 4 + 0 := eG h (g := 1031) (i := 1) (sy := 4) (c := 0) (by decide) (List.Mem.tail _ (List.Mem.tail _ (List.Mem.tail _ (List.Mem.tail _ (List.Mem.tail _ (List.Mem.head _))))))
  have q32_1 : (γ 1032 1).toInt = σ 4 + 0 := eG h (g := 1032) (i := 1) (sy := 4) (c := 0) (by decide) (List.Mem.tail _ (List.Mem.tail _ (List.Mem.tail _ (List.Mem.tail _ (List.Mem.tail _ (List.Mem.tail _ (List.Mem.head _)))))))
  have q31_2 : (γ 1031 2).toInt = σ 5 + 0 := eG h (g := 1031) (i := 2) (sy := 5) (c := 0) (by decide) (List.Mem.tail _ (List.Mem.tail _ (List.Mem.tail _ (List.Mem.tail _ (List.Mem.tail _ (List.Mem.tail _ (List.Mem.tail _ (List.Mem.head _))))))))
  have q32_2 : (γ 1032 2).toInt = σ 5 + 0 := eG h (g := 1032) (i := 2) (sy := 5) (c := 0) (by decide) (List.Mem.tail _ (List.Mem.tail _ (List.Mem.tail _ (List.Mem.tail _ (List.Mem.tail _ (List.Mem.tail _ (List.Mem.tail _ (List.Mem.tail _ (List.Mem.head _)))))))))
  have q31_3 : (γ 1031 3).toInt = σ 6 + 0 := eG h (g := 1031) (i := 3) (sy := 6) (c := 0) (by decide) (List.Mem.tail _ (List.Mem.tail _ (List.Mem.tail _ (List.Mem.tail _ (List.Mem.tail _ (List.Mem.tail _ (List.Mem.tail _ (List.Mem.tail _ (List.Mem.tail _ (List.Mem.head _))))))))))
  have q32_3 : (γ 1032 3).toInt = σ 6 + 0 := eG h (g := 1032) (i := 3) (sy := 6) (c := 0) (by decide) (List.Mem.tail _ (List.Mem.tail _ (List.Mem.tail _ (List.Mem.tail _ (List.Mem.tail _ (List.Mem.tail _ (List.Mem.tail _ (List.Mem.tail _ (List.Mem.tail _ (List.Mem.tail _ (List.Mem.head _)))))))))))
  have q31_4 : (γ 1031 4).toInt = σ 7 + 0 := eG h (g := 1031) (i := 4) (sy := 7) (c := 0) (by decide) (List.Mem.tail _ (List.Mem.tail _ (List.Mem.tail _ (List.Mem.tail _ (List.Mem.tail _ (List.Mem.tail _ (List.Mem.tail _ (List.Mem.tail _ (List.Mem.tail _ (List.Mem.tail _ (List.Mem.tail _ (List.Mem.head _))))))))))))
  have q32_4 : (γ 1032 4).toInt = σ 7 + 0 := eG h (g := 1032) (i := 4) (sy := 7) (c := 0) (by decide) (List.Mem.tail _ (List.Mem.tail _ (List.Mem.tail _ (List.Mem.tail _ (List.Mem.tail _ (List.Mem.tail _ (List.Mem.tail _ (List.Mem.tail _ (List.Mem.tail _ (List.Mem.tail _ (List.Mem.tail _ (List.Mem.tail _ (List.Mem.head _)))))))))))))
  have q31_5 : (γ 1031 5).toInt = σ 8 + 0 := eG h (g := 1031) (i := 5) (sy := 8) (c := 0) (by decide) (List.Mem.tail _ (List.Mem.tail _ (List.Mem.tail _ (List.Mem.tail _ (List.Mem.tail _ (List.Mem.tail _ (List.Mem.tail _ (List.Mem.tail _ (List.Mem.tail _ (List.Mem.tail _ (List.Mem.tail _ (List.Mem.tail _ (List.Mem.tail _ (List.Mem.head _))))))))))))))
  have q32_5 : (γ 1032 5).toInt = σ 8 + 0 := eG h (g := 1032) (i := 5) (sy := 8) (c := 0) (by decide) (List.Mem.tail _ (List.Mem.tail _ (List.Mem.tail _ (List.Mem.tail _ (List.Mem.tail _ (List.Mem.tail _ (List.Mem.tail _ (List.Mem.tail _ (List.Mem.tail _ (List.Mem.tail _ (List.Mem.tail _ (List.Mem.tail _ (List.Mem.tail _ (List.Mem.tail _ (List.Mem.head _)))))))))))))))
  have q31_6 : (γ 1031 6).toInt = σ 9 + 0 := eG h (g := 1031) (i := 6) (sy := 9) (c := 0) (by decide) (List.Mem.tail _ (List.Mem.tail _ (List.Mem.tail _ (List.Mem.tail _ (List.Mem.tail _ (List.Mem.tail _ (List.Mem.tail _ (List.Mem.tail _ (List.Mem.tail _ (List.Mem.tail _ (List.Mem.tail _ (List.Mem.tail _ (List.Mem.tail _ (List.Mem.tail _ (List.Mem.tail _ (List.Mem.head _))))))))))))))))
  have q32_6 : (γ 1032 6).toInt = σ 9 + 0 := eG h (g := 1032) (i := 6) (sy := 9) (c := 0) (by decide) (List.Mem.tail _ (List.Mem.tail _ (List.Mem.tail _ (List.Mem.tail _ (List.Mem.tail _ (List.Mem.tail _ (List.Mem.tail _ (List.Mem.tail _ (List.Mem.tail _ (List.Mem.tail _ (List.Mem.tail _ (List.Mem.tail _ (List.Mem.tail _ (List.Mem.tail _ (List.Mem.tail _ (List.Mem.tail _ (List.Mem.head _)))))))))))))))))
  have q31_7 : (γ 1031 7).toInt = σ 0 + 1000000 := eG h (g := 1031) (i := 7) (sy := 0) (c := 1000000) (by decide) (List.Mem.tail _ (List.Mem.tail _ (List.Mem.tail _ (List.Mem.tail _ (List.Mem.tail _ (List.Mem.tail _ (List.Mem.tail _ (List.Mem.tail _ (List.Mem.tail _ (List.Mem.tail _ (List.Mem.tail _ (List.Mem.tail _ (List.Mem.tail _ (List.Mem.tail _ (List.Mem.tail _ (List.Mem.tail _ (List.Mem.tail _ (List.Mem.head _))))))))))))))))))
  have q32_7 : (γ 1032 7).toInt = σ 0 + (-1) := eG h (g := 1032) (i := 7) (sy := 0) (c := (-1)) (by decide) (List.Mem.tail _ (List.Mem.tail _ (List.Mem.tail _ (List.Mem.tail _ (List.Mem.tail _ (List.Mem.tail _ (List.Mem.tail _ (List.Mem.tail _ (List.Mem.tail _ (List.Mem.tail _ (List.Mem.tail _ (List.Mem.tail _ (List.Mem.tail _ (List.Mem.tail _ (List.Mem.tail _ (List.Mem.tail _ (List.Mem.tail _ (List.Mem.tail _ (List.Mem.head _)))))))))))))))))))
  have q31_8 : (γ 1031 8).toInt = σ 0 + (-1) := eG h (g := 1031) (i := 8) (sy := 0) (c := (-1)) (by decide) (List.Mem.tail _ (List.Mem.tail _ (List.Mem.tail _ (List.Mem.tail _ (List.Mem.tail _ (List.Mem.tail _ (List.Mem.tail _ (List.Mem.tail _ (List.Mem.tail _ (List.Mem.tail _ (List.Mem.tail _ (List.Mem.tail _ (List.Mem.tail _ (List.Mem.tail _ (List.Mem.tail _ (List.Mem.tail _ (List.Mem.tail _ (List.Mem.tail _ (List.Mem.tail _ (List.Mem.head _))))))))))))))))))))
  have q32_8 : (γ 1032 8).toInt = σ 0 + (-1) := eG h (g := 1032) (i := 8) (sy := 0) (c := (-1)) (by decide) (List.Mem.tail _ (List.Mem.tail _ (List.Mem.tail _ (List.Mem.tail _ (List.Mem.tail _ (List.Mem.tail _ (List.Mem.tail _ (List.Mem.tail _ (List.Mem.tail _ (List.Mem.tail _ (List.Mem.tail _ (List.Mem.tail _ (List.Mem.tail _ (List.Mem.tail _ (List.Mem.tail _ (List.Mem.tail _ (List.Mem.tail _ (List.Mem.tail _ (List.Mem.tail _ (List.Mem.tail _ (List.Mem.head _)))))))))))))))))))))
  have q31_9 : (γ 1031 9).toInt = σ 0 + 0 := eG h (g := 1031) (i := 9) (sy := 0) (c := 0) (by decide) (List.Mem.tail _ (List.Mem.tail _ (List.Mem.tail _ (List.Mem.tail _ (List.Mem.tail _ (List.Mem.tail _ (List.Mem.tail _ (List.Mem.tail _ (List.Mem.tail _ (List.Mem.tail _ (List.Mem.tail _ (List.Mem.tail _ (List.Mem.tail _ (List.Mem.tail _ (List.Mem.tail _ (List.Mem.tail _ (List.Mem.tail _ (List.Mem.tail _ (List.Mem.tail _ (List.Mem.tail _ (List.Mem.tail _ (List.Mem.head _))))))))))))))))))))))
  have q32_9 : (γ 1032 9).toInt = σ 0 + 0 := eG h (g := 1032) (i := 9) (sy := 0) (c := 0) (by decide) (List.Mem.tail _ (List.Mem.tail _ (List.Mem.tail _ (List.Mem.tail _ (List.Mem.tail _ (List.Mem.tail _ (List.Mem.tail _ (List.Mem.tail _ (List.Mem.tail _ (List.Mem.tail _ (List.Mem.tail _ (List.Mem.tail _ (List.Mem.tail _ (List.Mem.tail _ (List.Mem.tail _ (List.Mem.tail _ (List.Mem.tail _ (List.Mem.tail _ (List.Mem.tail _ (List.Mem.tail _ (List.Mem.tail _ (List.Mem.tail _ (List.Mem.head _)))))))))))))))))))))))
  have b1 := eB h (i := 1) (lo := 0) (hi := 40) rfl
  have b2 := eB h (i := 2) (lo := 0) (hi := 39) rfl
  have b3 := eB h (i := 3) (lo := 0) (hi := 9) rfl
  have b4 := eB h (i := 4) (lo := 0) (hi := 9) rfl
  have b5 := eB h (i := 5) (lo := (-2147483648)) (hi := 2147483647) rfl
  have b6 := eB h (i := 6) (lo := 0) (hi := 999) rfl
  have b7 := eB h (i := 7) (lo := 0) (hi := 2) rfl
  have b8 := eB h (i := 8) (lo := 0) (hi := 9999) rfl
  have b9 := eB h (i := 9) (lo := 0) (hi := 1) rfl
  have z0 := (h.1.2.1.2.2 2 1 (-1) (List.Mem.head _)).2.2
  have s0 := h.1.2.1.1
  have hx : x9 γ M := hA.2.2.2.1.2.2
  have hT := aTp_of h.2.2.2
  refine kGoto hat hj ?_
  refine k (gUs γ [(1030, 2, 0)]) σ _ L [] M (List.Mem.head _) (fun _ _ => rfl) aFr.rf (gUs_fr [(1030, 2, 0)] rfl gFr.rf) aExt.rf ?_
  exact mkHold9 (by decide) s0 ⟨b00 s0, b1, b2, b3, b4, b5, b6, b7, b8, b9, True.intro⟩ True.intro ⟨hF1_gh (by decide) (by decide) (by show (0 : Int) = σ 0 + 0; omega), True.intro⟩ True.intro (fin9 hA.2.2.2 hT (gUs_lt [(1030, 2, 0)] rfl (fun _ _ _ => rfl)) rfl ⟨hx.1, y9_cl hx.2 (by omega) (fun _ => yLk_a (show (γ 1031 0).toInt = (γ 1032 0).toInt by omega) (show (γ 1031 1).toInt = (γ 1032 1).toInt by omega) (show (γ 1031 2).toInt = (γ 1032 2).toInt by omega) (show (γ 1031 3).toInt = (γ 1032 3).toInt by omega) (show (γ 1031 4).toInt = (γ 1032 4).toInt by omega) (show (γ 1031 5).toInt = (γ 1032 5).toInt by omega) (show (γ 1031 6).toInt = (γ 1032 6).toInt by omega) (show (γ 1031 7).toInt = 1000000 by omega) (show (γ 1032 7).toInt = -1 by omega) (show (γ 1031 8).toInt = -1 by omega) (show (γ 1032 8).toInt = -1 by omega) (show (γ 1031 9).toInt = 0 by omega) (show (γ 1032 9).toInt = 0 by omega))⟩)
theorem gt_kb_goto {s : List Int32} {mi pc : Nat} {to len : Nat} {off : Int} (hat : mAt mi pc = some (len, .goto off)) (hj : mJmp pc off = some to) : gSound9 s (mi, pc, to, 0, (([(.ofNat 0, .ofNat 0), (.ofNat 0, .ofNat 40), (.ofNat 0, .ofNat 39), (.ofNat 0, .ofNat 9), (.ofNat 0, .ofNat 9), (.negSucc 2147483647, .ofNat 2147483647), (.ofNat 0, .ofNat 999), (.ofNat 0, .ofNat 2), (.ofNat 0, .ofNat 9999), (.ofNat 0, .ofNat 1), (.ofNat 0, .ofNat 1006), (.ofNat 0, .ofNat 9), (.ofNat 0, .ofNat 16383)], [(2, 1, .negSucc 0)], [], [(1030, 0, (1, 1, .ofNat 0)), (1030, 1, (1, 2, .ofNat 0)), (1030, 2, (1, 0, .ofNat 1)), (1031, 0, (1, 3, .ofNat 0)), (1032, 0, (1, 3, .ofNat 0)), (1031, 1, (1, 4, .ofNat 0)), (1032, 1, (1, 4, .ofNat 0)), (1031, 2, (1, 5, .ofNat 0)), (1032, 2, (1, 5, .ofNat 0)), (1031, 3, (1, 6, .ofNat 0)), (1032, 3, (1, 6, .ofNat 0)), (1031, 4, (1, 7, .ofNat 0)), (1032, 4, (1, 7, .ofNat 0)), (1031, 5, (1, 8, .ofNat 0)), (1032, 5, (1, 8, .ofNat 0)), (1031, 6, (1, 9, .ofNat 0)), (1032, 6, (1, 9, .ofNat 0)), (1031, 7, (1, 10, .ofNat 0)), (1032, 7, (1, 10, .ofNat 0)), (1031, 8, (1, 11, .ofNat 0)), (1032, 8, (1, 11, .ofNat 0)), (1031, 9, (1, 12, .ofNat 0)), (1032, 9, (1, 12, .ofNat 0))]), [], []), [(([(.ofNat 0, .ofNat 0), (.ofNat 0, .ofNat 40), (.ofNat 0, .ofNat 39), (.ofNat 0, .ofNat 9), (.ofNat 0, .ofNat 9), (.negSucc 2147483647, .ofNat 2147483647), (.ofNat 0, .ofNat 999), (.ofNat 0, .ofNat 2), (.ofNat 0, .ofNat 9999), (.ofNat 0, .ofNat 1), (.ofNat 0, .ofNat 1006), (.ofNat 0, .ofNat 9), (.ofNat 0, .ofNat 16383)], [], [], [(1030, 2, (1, 0, .ofNat 0))]), [], [])], [(1030, 2)], []) := by
  intro γ d σ L st0 st M Q _ hA k
  have h := aHold_0 hA
  have e0 := eNil h
  subst e0
  have q30_0 : (γ 1030 0).toInt = σ 1 + 0 := eG h (g := 1030) (i := 0) (sy := 1) (c := 0) (by decide) (List.Mem.head _)
  have q30_1 : (γ 1030 1).toInt = σ 2 + 0 := eG h (g := 1030) (i := 1) (sy := 2) (c := 0) (by decide) (List.Mem.tail _ (List.Mem.head _))
  have q30_2 : (γ 1030 2).toInt = σ 0 + 1 := eG h (g := 1030) (i := 2) (sy := 0) (c := 1) (by decide) (List.Mem.tail _ (List.Mem.tail _ (List.Mem.head _)))
  have q31_0 : (γ 1031 0).toInt = σ 3 + 0 := eG h (g := 1031) (i := 0) (sy := 3) (c := 0) (by decide) (List.Mem.tail _ (List.Mem.tail _ (List.Mem.tail _ (List.Mem.head _))))
  have q32_0 : (γ 1032 0).toInt = σ 3 + 0 := eG h (g := 1032) (i := 0) (sy := 3) (c := 0) (by decide) (List.Mem.tail _ (List.Mem.tail _ (List.Mem.tail _ (List.Mem.tail _ (List.Mem.head _)))))
  have q31_1 : (γ 1031 1).toInt = σ 4 + 0 := eG h (g := 1031) (i := 1) (sy := 4) (c := 0) (by decide) (List.Mem.tail _ (List.Mem.tail _ (List.Mem.tail _ (List.Mem.tail _ (List.Mem.tail _ (List.Mem.head _))))))
  have q32_1 : (γ 1032 1).toInt = σ 4 + 0 := eG h (g := 1032) (i := 1) (sy := 4) (c := 0) (by decide) (List.Mem.tail _ (List.Mem.tail _ (List.Mem.tail _ (List.Mem.tail _ (List.Mem.tail _ (List.Mem.tail _ (List.Mem.head _)))))))
  have q31_2 : (γ 1031 2).toInt = σ 5 + 0 := eG h (g := 1031) (i := 2) (sy := 5) (c := 0) (by decide) (List.Mem.tail _ (List.Mem.tail _ (List.Mem.tail _ (List.Mem.tail _ (List.Mem.tail _ (List.Mem.tail _ (List.Mem.tail _ (List.Mem.head _))))))))
  have q32_2 : (γ 1032 2).toInt = σ 5 + 0 := eG h (g := 1032) (i := 2) (sy := 5) (c := 0) (by decide) (List.Mem.tail _ (List.Mem.tail _ (List.Mem.tail _ (List.Mem.tail _ (List.Mem.tail _ (List.Mem.tail _ (List.Mem.tail _ (List.Mem.tail _ (List.Mem.head _)))))))))
  have q31_3 : (γ 1031 3).toInt = σ 6 + 0 := eG h (g := 1031) (i := 3) (sy := 6) (c := 0) (by decide) (List.Mem.tail _ (List.Mem.tail _ (List.Mem.tail _ (List.Mem.tail _ (List.Mem.tail _ (List.Mem.tail _ (List.Mem.tail _ (List.Mem.tail _ (List.Mem.tail _ (List.Mem.head _))))))))))
  have q32_3 : (γ 1032 3).toInt = σ 6 + 0 := eG h (g := 1032) (i := 3) (sy := 6) (c := 0) (by decide) (List.Mem.tail _ (List.Mem.tail _ (List.Mem.tail _ (List.Mem.tail _ (List.Mem.tail _ (List.Mem.tail _ (List.Mem.tail _ (List.Mem.tail _ (List.Mem.tail _ (List.Mem.tail _ (List.Mem.head _)))))))))))
  have q31_4 : (γ 1031 4).toInt = σ 7 + 0 := eG h (g := 1031) (i := 4) (sy := 7) (c := 0) (by decide) (List.Mem.tail _ (List.Mem.tail _ (List.Mem.tail _ (List.Mem.tail _ (List.Mem.tail _ (List.Mem.tail _ (List.Mem.tail _ (List.Mem.tail _ (List.Mem.tail _ (List.Mem.tail _ (List.Mem.tail _ (List.Mem.head _))))))))))))
  have q32_4 : (γ 1032 4).toInt = σ 7 + 0 := eG h (g := 1032) (i := 4) (sy := 7) (c := 0) (by decide) (List.Mem.tail _ (List.Mem.tail _ (List.Mem.tail _ (List.Mem.tail _ (List.Mem.tail _ (List.Mem.tail _ (List.Mem.tail _ (List.Mem.tail _ (List.Mem.tail _ (List.Mem.tail _ (List.Mem.tail _ (List.Mem.tail _ (List.Mem.head _)))))))))))))
  have q31_5 : (γ 1031 5).toInt = σ 8 + 0 := eG h (g := 1031) (i := 5) (sy := 8) (c := 0) (by decide) (List.Mem.tail _ (List.Mem.tail _ (List.Mem.tail _ (List.Mem.tail _ (List.Mem.tail _ (List.Mem.tail _ (List.Mem.tail _ (List.Mem.tail _ (List.Mem.tail _ (List.Mem.tail _ (List.Mem.tail _ (List.Mem.tail _ (List.Mem.tail _ (List.Mem.head _))))))))))))))
  have q32_5 : (γ 1032 5).toInt = σ 8 + 0 := eG h (g := 1032) (i := 5) (sy := 8) (c := 0) (by decide) (List.Mem.tail _ (List.Mem.tail _ (List.Mem.tail _ (List.Mem.tail _ (List.Mem.tail _ (List.Mem.tail _ (List.Mem.tail _ (List.Mem.tail _ (List.Mem.tail _ (List.Mem.tail _ (List.Mem.tail _ (List.Mem.tail _ (List.Mem.tail _ (List.Mem.tail _ (List.Mem.head _)))))))))))))))
  have q31_6 : (γ 1031 6).toInt = σ 9 + 0 := eG h (g := 1031) (i := 6) (sy := 9) (c := 0) (by decide) (List.Mem.tail _ (List.Mem.tail _ (List.Mem.tail _ (List.Mem.tail _ (List.Mem.tail _ (List.Mem.tail _ (List.Mem.tail _ (List.Mem.tail _ (List.Mem.tail _ (List.Mem.tail _ (List.Mem.tail _ (List.Mem.tail _ (List.Mem.tail _ (List.Mem.tail _ (List.Mem.tail _ (List.Mem.head _))))))))))))))))
  have q32_6 : (γ 1032 6).toInt = σ 9 + 0 := eG h (g := 1032) (i := 6) (sy := 9) (c := 0) (by decide) (List.Mem.tail _ (List.Mem.tail _ (List.Mem.tail _ (List.Mem.tail _ (List.Mem.tail _ (List.Mem.tail _ (List.Mem.tail _ (List.Mem.tail _ (List.Mem.tail _ (List.Mem.tail _ (List.Mem.tail _ (List.Mem.tail _ (List.Mem.tail _ (List.Mem.tail _ (List.Mem.tail _ (List.Mem.tail _ (List.Mem.head _)))))))))))))))))
  have q31_7 : (γ 1031 7).toInt = σ 10 + 0 := eG h (g := 1031) (i := 7) (sy := 10) (c := 0) (by decide) (List.Mem.tail _ (List.Mem.tail _ (List.Mem.tail _ (List.Mem.tail _ (List.Mem.tail _ (List.Mem.tail _ (List.Mem.tail _ (List.Mem.tail _ (List.Mem.tail _ (List.Mem.tail _ (List.Mem.tail _ (List.Mem.tail _ (List.Mem.tail _ (List.Mem.tail _ (List.Mem.tail _ (List.Mem.tail _ (List.Mem.tail _ (List.Mem.head _))))))))))))))))))
  have q32_7 : (γ 1032 7).toInt = σ 10 + 0 := eG h (g := 1032) (i := 7) (sy := 10) (c := 0) (by decide) (List.Mem.tail _ (List.Mem.tail _ (List.Mem.tail _ (List.Mem.tail _ (List.Mem.tail _ (List.Mem.tail _ (List.Mem.tail _ (List.Mem.tail _ (List.Mem.tail _ (List.Mem.tail _ (List.Mem.tail _ (List.Mem.tail _ (List.Mem.tail _ (List.Mem.tail _ (List.Mem.tail _ (List.Mem.tail _ (List.Mem.tail _ (List.Mem.tail _ (List.Mem.head _)))))))))))))))))))
  have q31_8 : (γ 1031 8).toInt = σ 11 + 0 := eG h (g := 1031) (i := 8) (sy := 11) (c := 0) (by decide) (List.Mem.tail _ (List.Mem.tail _ (List.Mem.tail _ (List.Mem.tail _ (List.Mem.tail _ (List.Mem.tail _ (List.Mem.tail _ (List.Mem.tail _ (List.Mem.tail _ (List.Mem.tail _ (List.Mem.tail _ (List.Mem.tail _ (List.Mem.tail _ (List.Mem.tail _ (List.Mem.tail _ (List.Mem.tail _ (List.Mem.tail _ (List.Mem.tail _ (List.Mem.tail _ (List.Mem.head _))))))))))))))))))))
  have q32_8 : (γ 1032 8).toInt = σ 11 + 0 := eG h (g := 1032) (i := 8) (sy := 11) (c := 0) (by decide) (List.Mem.tail _ (List.Mem.tail _ (List.Mem.tail _ (List.Mem.tail _ (List.Mem.tail _ (List.Mem.tail _ (List.Mem.tail _ (List.Mem.tail _ (List.Mem.tail _ (List.Mem.tail _ (List.Mem.tail _ (List.Mem.tail _ (List.Mem.tail _ (List.Mem.tail _ (List.Mem.tail _ (List.Mem.tail _ (List.Mem.tail _ (List.Mem.tail _ (List.Mem.tail _ (List.Mem.tail _ (List.Mem.head _)))))))))))))))))))))
  have q31_9 : (γ 1031 9).toInt = σ 12 + 0 := eG h (g := 1031) (i := 9) (sy := 12) (c := 0) (by decide) (List.Mem.tail _ (List.Mem.tail _ (List.Mem.tail _ (List.Mem.tail _ (List.Mem.tail _ (List.Mem.tail _ (List.Mem.tail _ (List.Mem.tail _ (List.Mem.tail _ (List.Mem.tail _ (List.Mem.tail _ (List.Mem.tail _ (List.Mem.tail _ (List.Mem.tail _ (List.Mem.tail _ (List.Mem.tail _ (List.Mem.tail _ (List.Mem.tail _ (List.Mem.tail _ (List.Mem.tail _ (List.Mem.tail _ (List.Mem.head _))))))))))))))))))))))
  have q32_9 : (γ 1032 9).toInt = σ 12 + 0 := eG h (g := 1032) (i := 9) (sy := 12) (c := 0) (by decide) (List.Mem.tail _ (List.Mem.tail _ (List.Mem.tail _ (List.Mem.tail _ (List.Mem.tail _ (List.Mem.tail _ (List.Mem.tail _ (List.Mem.tail _ (List.Mem.tail _ (List.Mem.tail _ (List.Mem.tail _ (List.Mem.tail _ (List.Mem.tail _ (List.Mem.tail _ (List.Mem.tail _ (List.Mem.tail _ (List.Mem.tail _ (List.Mem.tail _ (List.Mem.tail _ (List.Mem.tail _ (List.Mem.tail _ (List.Mem.tail _ (List.Mem.head _)))))))))))))))))))))))
  have b1 := eB h (i := 1) (lo := 0) (hi := 40) rfl
  have b2 := eB h (i := 2) (lo := 0) (hi := 39) rfl
  have b3 := eB h (i := 3) (lo := 0) (hi := 9) rfl
  have b4 := eB h (i := 4) (lo := 0) (hi := 9) rfl
  have b5 := eB h (i := 5) (lo := (-2147483648)) (hi := 2147483647) rfl
  have b6 := eB h (i := 6) (lo := 0) (hi := 999) rfl
  have b7 := eB h (i := 7) (lo := 0) (hi := 2) rfl
  have b8 := eB h (i := 8) (lo := 0) (hi := 9999) rfl
  have b9 := eB h (i := 9) (lo := 0) (hi := 1) rfl
  have b10 := eB h (i := 10) (lo := 0) (hi := 1006) rfl
  have b11 := eB h (i := 11) (lo := 0) (hi := 9) rfl
  have b12 := eB h (i := 12) (lo := 0) (hi := 16383) rfl
  have z0 := (h.1.2.1.2.2 2 1 (-1) (List.Mem.head _)).2.2
  have s0 := h.1.2.1.1
  have hx : x9 γ M := hA.2.2.2.1.2.2
  have hT := aTp_of h.2.2.2
  refine kGoto hat hj ?_
  refine k (gUs γ [(1030, 2, 0)]) σ _ L [] M (List.Mem.head _) (fun _ _ => rfl) aFr.rf (gUs_fr [(1030, 2, 0)] rfl gFr.rf) aExt.rf ?_
  exact mkHold9 (by decide) s0 ⟨b00 s0, b1, b2, b3, b4, b5, b6, b7, b8, b9, b10, b11, b12, True.intro⟩ True.intro ⟨hF1_gh (by decide) (by decide) (by show (0 : Int) = σ 0 + 0; omega), True.intro⟩ True.intro (fin9 hA.2.2.2 hT (gUs_lt [(1030, 2, 0)] rfl (fun _ _ _ => rfl)) rfl ⟨hx.1, y9_cl hx.2 (by omega) (fun _ => yLk_b (show (γ 1031 0).toInt = (γ 1032 0).toInt by omega) (show (γ 1031 1).toInt = (γ 1032 1).toInt by omega) (show (γ 1031 2).toInt = (γ 1032 2).toInt by omega) (show (γ 1031 3).toInt = (γ 1032 3).toInt by omega) (show (γ 1031 4).toInt = (γ 1032 4).toInt by omega) (show (γ 1031 5).toInt = (γ 1032 5).toInt by omega) (show (γ 1031 6).toInt = (γ 1032 6).toInt by omega) (show (γ 1031 7).toInt = (γ 1032 7).toInt by omega) (show 0 ≤ (γ 1031 7).toInt by omega) (show (γ 1031 7).toInt ≤ 1006 by omega) (show (γ 1031 8).toInt = (γ 1032 8).toInt by omega) (show (γ 1031 9).toInt = (γ 1032 9).toInt by omega) (show 0 ≤ (γ 1031 8).toInt by omega))⟩)
theorem gt_kc_11 {s : List Int32} {mi pc : Nat} {len : Nat} (hat : mAt mi pc = some (len, .iload 11)) : gSound9 s (mi, pc, pc + len, 0, (([(.ofNat 0, .ofNat 0), (.negSucc 2147483647, .ofNat 2147483647), (.ofNat 0, .ofNat 40), (.ofNat 0, .ofNat 39)], [(2, 3, .ofNat 0)], [], [(1030, 0, (1, 2, .ofNat 0)), (1030, 1, (1, 3, .ofNat 0)), (1030, 2, (1, 0, .ofNat 1))]), [(0, 0, .ofNat 0), (0, 0, .ofNat 0), (0, 0, .ofNat 0), (0, 0, .ofNat 0), (0, 0, .ofNat 0), (0, 0, .ofNat 0), (0, 0, .ofNat 0), (0, 0, .ofNat 0), (0, 0, .ofNat 0), (0, 0, .ofNat 0), (0, 0, .ofNat 0), (1, 1, .ofNat 0)], []), [(([(.ofNat 0, .ofNat 0), (.negSucc 2147483647, .ofNat 2147483647), (.ofNat 0, .ofNat 40), (.ofNat 0, .ofNat 39)], [], [], [(1030, 2, (1, 0, .ofNat 0))]), [], [(1, 1, .ofNat 0)])], [(1030, 2)], []) := by
  intro γ d σ L st0 st M Q _ hA k
  have h := aHold_0 hA
  have e0 := eNil h
  subst e0
  obtain ⟨l11, hl11, el11⟩ := eI h (i := 11) (sy := 1) (c := 0) rfl
  have q30_0 : (γ 1030 0).toInt = σ 2 + 0 := eG h (g := 1030) (i := 0) (sy := 2) (c := 0) (by decide) (List.Mem.head _)
  have q30_1 : (γ 1030 1).toInt = σ 3 + 0 := eG h (g := 1030) (i := 1) (sy := 3) (c := 0) (by decide) (List.Mem.tail _ (List.Mem.head _))
  have q30_2 : (γ 1030 2).toInt = σ 0 + 1 := eG h (g := 1030) (i := 2) (sy := 0) (c := 1) (by decide) (List.Mem.tail _ (List.Mem.tail _ (List.Mem.head _)))
  have b1 := eB h (i := 1) (lo := (-2147483648)) (hi := 2147483647) rfl
  have b2 := eB h (i := 2) (lo := 0) (hi := 40) rfl
  have b3 := eB h (i := 3) (lo := 0) (hi := 39) rfl
  have z0 := (h.1.2.1.2.2 2 3 0 (List.Mem.head _)).2.2
  have s0 := h.1.2.1.1
  have hx : x9 γ M := hA.2.2.2.1.2.2
  have hT := aTp_of h.2.2.2
  refine kIload hat hl11 ?_
  refine k (gUs γ [(1030, 2, 0)]) σ _ L [.int l11] M (List.Mem.head _) (fun _ _ => rfl) aFr.rf (gUs_fr [(1030, 2, 0)] rfl gFr.rf) aExt.rf ?_
  exact mkHold9 (by decide) s0 ⟨b00 s0, b1, b2, b3, True.intro⟩ True.intro ⟨hF1_gh (by decide) (by decide) (by show (0 : Int) = σ 0 + 0; omega), True.intro⟩ ⟨⟨by decide, _, rfl, by show (l11 : Int32).toInt = σ 1 + 0; omega⟩, True.intro⟩ (fin9 hA.2.2.2 hT (gUs_lt [(1030, 2, 0)] rfl (fun _ _ _ => rfl)) rfl ⟨hx.1, y9_cl hx.2 (by omega) (fun hh => absurd hh (by omega))⟩)
theorem gt_kc_8 {s : List Int32} {mi pc : Nat} {len : Nat} (hat : mAt mi pc = some (len, .iload 8)) : gSound9 s (mi, pc, pc + len, 0, (([(.ofNat 0, .ofNat 0), (.negSucc 2147483647, .ofNat 2147483647), (.ofNat 0, .ofNat 40), (.ofNat 0, .ofNat 39)], [(2, 3, .ofNat 0)], [], [(1030, 0, (1, 2, .ofNat 0)), (1030, 1, (1, 3, .ofNat 0)), (1030, 2, (1, 0, .ofNat 1))]), [(0, 0, .ofNat 0), (0, 0, .ofNat 0), (0, 0, .ofNat 0), (0, 0, .ofNat 0), (0, 0, .ofNat 0), (0, 0, .ofNat 0), (0, 0, .ofNat 0), (0, 0, .ofNat 0), (1, 1, .ofNat 0)], []), [(([(.ofNat 0, .ofNat 0), (.negSucc 2147483647, .ofNat 2147483647), (.ofNat 0, .ofNat 40), (.ofNat 0, .ofNat 39)], [], [], [(1030, 2, (1, 0, .ofNat 0))]), [], [(1, 1, .ofNat 0)])], [(1030, 2)], []) := by
  intro γ d σ L st0 st M Q _ hA k
  have h := aHold_0 hA
  have e0 := eNil h
  subst e0
  obtain ⟨l8, hl8, el8⟩ := eI h (i := 8) (sy := 1) (c := 0) rfl
  have q30_0 : (γ 1030 0).toInt = σ 2 + 0 := eG h (g := 1030) (i := 0) (sy := 2) (c := 0) (by decide) (List.Mem.head _)
  have q30_1 : (γ 1030 1).toInt = σ 3 + 0 := eG h (g := 1030) (i := 1) (sy := 3) (c := 0) (by decide) (List.Mem.tail _ (List.Mem.head _))
  have q30_2 : (γ 1030 2).toInt = σ 0 + 1 := eG h (g := 1030) (i := 2) (sy := 0) (c := 1) (by decide) (List.Mem.tail _ (List.Mem.tail _ (List.Mem.head _)))
  have b1 := eB h (i := 1) (lo := (-2147483648)) (hi := 2147483647) rfl
  have b2 := eB h (i := 2) (lo := 0) (hi := 40) rfl
  have b3 := eB h (i := 3) (lo := 0) (hi := 39) rfl
  have z0 := (h.1.2.1.2.2 2 3 0 (List.Mem.head _)).2.2
  have s0 := h.1.2.1.1
  have hx : x9 γ M := hA.2.2.2.1.2.2
  have hT := aTp_of h.2.2.2
  refine kIload hat hl8 ?_
  refine k (gUs γ [(1030, 2, 0)]) σ _ L [.int l8] M (List.Mem.head _) (fun _ _ => rfl) aFr.rf (gUs_fr [(1030, 2, 0)] rfl gFr.rf) aExt.rf ?_
  exact mkHold9 (by decide) s0 ⟨b00 s0, b1, b2, b3, True.intro⟩ True.intro ⟨hF1_gh (by decide) (by decide) (by show (0 : Int) = σ 0 + 0; omega), True.intro⟩ ⟨⟨by decide, _, rfl, by show (l8 : Int32).toInt = σ 1 + 0; omega⟩, True.intro⟩ (fin9 hA.2.2.2 hT (gUs_lt [(1030, 2, 0)] rfl (fun _ _ _ => rfl)) rfl ⟨hx.1, y9_cl hx.2 (by omega) (fun hh => absurd hh (by omega))⟩)
theorem gt_kc_9 {s : List Int32} {mi pc : Nat} {len : Nat} (hat : mAt mi pc = some (len, .iload 9)) : gSound9 s (mi, pc, pc + len, 0, (([(.ofNat 0, .ofNat 0), (.negSucc 2147483647, .ofNat 2147483647), (.ofNat 0, .ofNat 40), (.ofNat 0, .ofNat 39)], [(2, 3, .ofNat 0)], [], [(1030, 0, (1, 2, .ofNat 0)), (1030, 1, (1, 3, .ofNat 0)), (1030, 2, (1, 0, .ofNat 1))]), [(0, 0, .ofNat 0), (0, 0, .ofNat 0), (0, 0, .ofNat 0), (0, 0, .ofNat 0), (0, 0, .ofNat 0), (0, 0, .ofNat 0), (0, 0, .ofNat 0), (0, 0, .ofNat 0), (0, 0, .ofNat 0), (1, 1, .ofNat 0)], []), [(([(.ofNat 0, .ofNat 0), (.negSucc 2147483647, .ofNat 2147483647), (.ofNat 0, .ofNat 40), (.ofNat 0, .ofNat 39)], [], [], [(1030, 2, (1, 0, .ofNat 0))]), [], [(1, 1, .ofNat 0)])], [(1030, 2)], []) := by
  intro γ d σ L st0 st M Q _ hA k
  have h := aHold_0 hA
  have e0 := eNil h
  subst e0
  obtain ⟨l9, hl9, el9⟩ := eI h (i := 9) (sy := 1) (c := 0) rfl
  have q30_0 : (γ 1030 0).toInt = σ 2 + 0 := eG h (g := 1030) (i := 0) (sy := 2) (c := 0) (by decide) (List.Mem.head _)
  have q30_1 : (γ 1030 1).toInt = σ 3 + 0 := eG h (g := 1030) (i := 1) (sy := 3) (c := 0) (by decide) (List.Mem.tail _ (List.Mem.head _))
  have q30_2 : (γ 1030 2).toInt = σ 0 + 1 := eG h (g := 1030) (i := 2) (sy := 0) (c := 1) (by decide) (List.Mem.tail _ (List.Mem.tail _ (List.Mem.head _)))
  have b1 := eB h (i := 1) (lo := (-2147483648)) (hi := 2147483647) rfl
  have b2 := eB h (i := 2) (lo := 0) (hi := 40) rfl
  have b3 := eB h (i := 3) (lo := 0) (hi := 39) rfl
  have z0 := (h.1.2.1.2.2 2 3 0 (List.Mem.head _)).2.2
  have s0 := h.1.2.1.1
  have hx : x9 γ M := hA.2.2.2.1.2.2
  have hT := aTp_of h.2.2.2
  refine kIload hat hl9 ?_
  refine k (gUs γ [(1030, 2, 0)]) σ _ L [.int l9] M (List.Mem.head _) (fun _ _ => rfl) aFr.rf (gUs_fr [(1030, 2, 0)] rfl gFr.rf) aExt.rf ?_
  exact mkHold9 (by decide) s0 ⟨b00 s0, b1, b2, b3, True.intro⟩ True.intro ⟨hF1_gh (by decide) (by decide) (by show (0 : Int) = σ 0 + 0; omega), True.intro⟩ ⟨⟨by decide, _, rfl, by show (l9 : Int32).toInt = σ 1 + 0; omega⟩, True.intro⟩ (fin9 hA.2.2.2 hT (gUs_lt [(1030, 2, 0)] rfl (fun _ _ _ => rfl)) rfl ⟨hx.1, y9_cl hx.2 (by omega) (fun hh => absurd hh (by omega))⟩)
theorem gt_kg_goto {s : List Int32} {mi pc : Nat} {to len : Nat} {off : Int} (hat : mAt mi pc = some (len, .goto off)) (hj : mJmp pc off = some to) : gSound9 s (mi, pc, to, 0, (([(.ofNat 0, .ofNat 0), (.ofNat 0, .ofNat 39), (.ofNat 0, .ofNat 9), (.ofNat 0, .ofNat 9), (.negSucc 2147483647, .ofNat 2147483647), (.ofNat 0, .ofNat 999), (.ofNat 0, .ofNat 2), (.ofNat 0, .ofNat 9999), (.ofNat 0, .ofNat 1)], [], [], [(1030, 0, (1, 1, .ofNat 0)), (1030, 1, (1, 1, .ofNat 0)), (1030, 2, (1, 0, .ofNat 1)), (7, 2, (1, 1, .ofNat 1)), (1031, 0, (1, 2, .ofNat 0)), (1032, 0, (1, 2, .ofNat 0)), (1031, 1, (1, 3, .ofNat 0)), (1032, 1, (1, 3, .ofNat 0)), (1031, 2, (1, 4, .ofNat 0)), (1032, 2, (1, 4, .ofNat 0)), (1031, 3, (1, 5, .ofNat 0)), (1032, 3, (1, 5, .ofNat 0)), (1031, 4, (1, 6, .ofNat 0)), (1032, 4, (1, 6, .ofNat 0)), (1031, 5, (1, 7, .ofNat 0)), (1032, 5, (1, 7, .ofNat 0)), (1031, 6, (1, 8, .ofNat 0)), (1032, 6, (1, 8, .ofNat 0)), (1031, 7, (1, 0, .ofNat 1000000)), (1032, 7, (1, 0, .negSucc 0)), (1031, 8, (1, 0, .negSucc 0)), (1032, 8, (1, 0, .negSucc 0)), (1031, 9, (1, 0, .ofNat 0)), (1032, 9, (1, 0, .ofNat 0))]), [], []), [(([(.ofNat 0, .ofNat 0), (.ofNat 0, .ofNat 39), (.ofNat 0, .ofNat 9), (.ofNat 0, .ofNat 9), (.negSucc 2147483647, .ofNat 2147483647), (.ofNat 0, .ofNat 999), (.ofNat 0, .ofNat 2), (.ofNat 0, .ofNat 9999), (.ofNat 0, .ofNat 1)], [], [], [(1030, 2, (1, 0, .ofNat 0)), (1030, 0, (1, 1, .ofNat 1))]), [], [])], [(1030, 0), (1030, 2)], []) := by
  intro γ d σ L st0 st M Q _ hA k
  have h := aHold_0 hA
  have e0 := eNil h
  subst e0
  have q30_0 : (γ 1030 0).toInt = σ 1 + 0 := eG h (g := 1030) (i := 0) (sy := 1) (c := 0) (by decide) (List.Mem.head _)
  have q30_1 : (γ 1030 1).toInt = σ 1 + 0 := eG h (g := 1030) (i := 1) (sy := 1) (c := 0) (by decide) (List.Mem.tail _ (List.Mem.head _))
  have q30_2 : (γ 1030 2).toInt = σ 0 + 1 := eG h (g := 1030) (i := 2) (sy := 0) (c := 1) (by decide) (List.Mem.tail _ (List.Mem.tail _ (List.Mem.head _)))
  obtain ⟨f7_2, hf7_2, ef7_2⟩ := eF h (g := 7) (i := 2) (sy := 1) (c := 1) (by decide) (by decide) rfl (List.Mem.tail _ (List.Mem.tail _ (List.Mem.tail _ (List.Mem.head _))))
  have q31_0 : (γ 1031 0).toInt = σ 2 + 0 := eG h (g := 1031) (i := 0) (sy := 2) (c := 0) (by decide) (List.Mem.tail _ (List.Mem.tail _ (List.Mem.tail _ (List.Mem.tail _ (List.Mem.head _)))))
  have q32_0 : (γ 1032 0).toInt = σ 2 + 0 := eG h (g := 1032) (i := 0) (sy := 2) (c := 0) (by decide) (List.Mem.tail _ (List.Mem.tail _ (List.Mem.tail _ (List.Mem.tail _ (List.Mem.tail _ (List.Mem.head _))))))
  have q31_1 : (γ 1031 1).toInt = σ 3 + 0 := eG h (g := 1031) (i := 1) (sy := 3) (c := 0) (by decide) (List.Mem.tail _ (List.Mem.tail _ (List.Mem.tail _ (List.Mem.tail _ (List.Mem.tail _ (List.Mem.tail _ (List.Mem.head _)))))))
  have q32_1 : (γ 1032 1).toInt = σ 3 + 0 := eG h (g := 1032) (i := 1) (sy := 3) (c := 0) (by decide) (List.Mem.tail _ (List.Mem.tail _ (List.Mem.tail _ (List.Mem.tail _ (List.Mem.tail _ (List.Mem.tail _ (List.Mem.tail _ (List.Mem.head _))))))))
  have q31_2 : (γ 1031 2).toInt = σ 4 + 0 := eG h (g := 1031) (i := 2) (sy := 4) (c := 0) (by decide) (List.Mem.tail _ (List.Mem.tail _ (List.Mem.tail _ (List.Mem.tail _ (List.Mem.tail _ (List.Mem.tail _ (List.Mem.tail _ (List.Mem.tail _ (List.Mem.head _)))))))))
  have q32_2 : (γ 1032 2).toInt = σ 4 + 0 := eG h (g := 1032) (i := 2) (sy := 4) (c := 0) (by decide) (List.Mem.tail _ (List.Mem.tail _ (List.Mem.tail _ (List.Mem.tail _ (List.Mem.tail _ (List.Mem.tail _ (List.Mem.tail _ (List.Mem.tail _ (List.Mem.tail _ (List.Mem.head _))))))))))
  have q31_3 : (γ 1031 3).toInt = σ 5 + 0 := eG h (g := 1031) (i := 3) (sy := 5) (c := 0) (by decide) (List.Mem.tail _ (List.Mem.tail _ (List.Mem.tail _ (List.Mem.tail _ (List.Mem.tail _ (List.Mem.tail _ (List.Mem.tail _ (List.Mem.tail _ (List.Mem.tail _ (List.Mem.tail _ (List.Mem.head _)))))))))))
  have q32_3 : (γ 1032 3).toInt = σ 5 + 0 := eG h (g := 1032) (i := 3) (sy := 5) (c := 0) (by decide) (List.Mem.tail _ (List.Mem.tail _ (List.Mem.tail _ (List.Mem.tail _ (List.Mem.tail _ (List.Mem.tail _ (List.Mem.tail _ (List.Mem.tail _ (List.Mem.tail _ (List.Mem.tail _ (List.Mem.tail _ (List.Mem.head _))))))))))))
  have q31_4 : (γ 1031 4).toInt = σ 6 + 0 := eG h (g := 1031) (i := 4) (sy := 6) (c := 0) (by decide) (List.Mem.tail _ (List.Mem.tail _ (List.Mem.tail _ (List.Mem.tail _ (List.Mem.tail _ (List.Mem.tail _ (List.Mem.tail _ (List.Mem.tail _ (List.Mem.tail _ (List.Mem.tail _ (List.Mem.tail _ (List.Mem.tail _ (List.Mem.head _)))))))))))))
  have q32_4 : (γ 1032 4).toInt = σ 6 + 0 := eG h (g := 1032) (i := 4) (sy := 6) (c := 0) (by decide) (List.Mem.tail _ (List.Mem.tail _ (List.Mem.tail _ (List.Mem.tail _ (List.Mem.tail _ (List.Mem.tail _ (List.Mem.tail _ (List.Mem.tail _ (List.Mem.tail _ (List.Mem.tail _ (List.Mem.tail _ (List.Mem.tail _ (List.Mem.tail _ (List.Mem.head _))))))))))))))
  have q31_5 : (γ 1031 5).toInt = σ 7 + 0 := eG h (g := 1031) (i := 5) (sy := 7) (c := 0) (by decide) (List.Mem.tail _ (List.Mem.tail _ (List.Mem.tail _ (List.Mem.tail _ (List.Mem.tail _ (List.Mem.tail _ (List.Mem.tail _ (List.Mem.tail _ (List.Mem.tail _ (List.Mem.tail _ (List.Mem.tail _ (List.Mem.tail _ (List.Mem.tail _ (List.Mem.tail _ (List.Mem.head _)))))))))))))))
  have q32_5 : (γ 1032 5).toInt = σ 7 + 0 := eG h (g := 1032) (i := 5) (sy := 7) (c := 0) (by decide) (List.Mem.tail _ (List.Mem.tail _ (List.Mem.tail _ (List.Mem.tail _ (List.Mem.tail _ (List.Mem.tail _ (List.Mem.tail _ (List.Mem.tail _ (List.Mem.tail _ (List.Mem.tail _ (List.Mem.tail _ (List.Mem.tail _ (List.Mem.tail _ (List.Mem.tail _ (List.Mem.tail _ (List.Mem.head _))))))))))))))))
  have q31_6 : (γ 1031 6).toInt = σ 8 + 0 := eG h (g := 1031) (i := 6) (sy := 8) (c := 0) (by decide) (List.Mem.tail _ (List.Mem.tail _ (List.Mem.tail _ (List.Mem.tail _ (List.Mem.tail _ (List.Mem.tail _ (List.Mem.tail _ (List.Mem.tail _ (List.Mem.tail _ (List.Mem.tail _ (List.Mem.tail _ (List.Mem.tail _ (List.Mem.tail _ (List.Mem.tail _ (List.Mem.tail _ (List.Mem.tail _ (List.Mem.head _)))))))))))))))))
  have q32_6 : (γ 1032 6).toInt = σ 8 + 0 := eG h (g := 1032) (i := 6) (sy := 8) (c := 0) (by decide) (List.Mem.tail _ (List.Mem.tail _ (List.Mem.tail _ (List.Mem.tail _ (List.Mem.tail _ (List.Mem.tail _ (List.Mem.tail _ (List.Mem.tail _ (List.Mem.tail _ (List.Mem.tail _ (List.Mem.tail _ (List.Mem.tail _ (List.Mem.tail _ (List.Mem.tail _ (List.Mem.tail _ (List.Mem.tail _ (List.Mem.tail _ (List.Mem.head _))))))))))))))))))
  have q31_7 : (γ 1031 7).toInt = σ 0 + 1000000 := eG h (g := 1031) (i := 7) (sy := 0) (c := 1000000) (by decide) (List.Mem.tail _ (List.Mem.tail _ (List.Mem.tail _ (List.Mem.tail _ (List.Mem.tail _ (List.Mem.tail _ (List.Mem.tail _ (List.Mem.tail _ (List.Mem.tail _ (List.Mem.tail _ (List.Mem.tail _ (List.Mem.tail _ (List.Mem.tail _ (List.Mem.tail _ (List.Mem.tail _ (List.Mem.tail _ (List.Mem.tail _ (List.Mem.tail _ (List.Mem.head _)))))))))))))))))))
  have q32_7 : (γ 1032 7).toInt = σ 0 + (-1) := eG h (g := 1032) (i := 7) (sy := 0) (c := (-1)) (by decide) (List.Mem.tail _ (List.Mem.tail _ (List.Mem.tail _ (List.Mem.tail _ (List.Mem.tail _ (List.Mem.tail _ (List.Mem.tail _ (List.Mem.tail _ (List.Mem.tail _ (List.Mem.tail _ (List.Mem.tail _ (List.Mem.tail _ (List.Mem.tail _ (List.Mem.tail _ (List.Mem.tail _ (List.Mem.tail _ (List.Mem.tail _ (List.Mem.tail _ (List.Mem.tail _ (List.Mem.head _))))))))))))))))))))
  have q31_8 : (γ 1031 8).toInt = σ 0 + (-1) := eG h (g := 1031) (i := 8) (sy := 0) (c := (-1)) (by decide) (List.Mem.tail _ (List.Mem.tail _ (List.Mem.tail _ (List.Mem.tail _ (List.Mem.tail _ (List.Mem.tail _ (List.Mem.tail _ (List.Mem.tail _ (List.Mem.tail _ (List.Mem.tail _ (List.Mem.tail _ (List.Mem.tail _ (List.Mem.tail _ (List.Mem.tail _ (List.Mem.tail _ (List.Mem.tail _ (List.Mem.tail _ (List.Mem.tail _ (List.Mem.tail _ (List.Mem.tail _ (List.Mem.head _)))))))))))))))))))))
  have q32_8 : (γ 1032 8).toInt = σ 0 + (-1) := eG h (g := 1032) (i := 8) (sy := 0) (c := (-1)) (by decide) (List.Mem.tail _ (List.Mem.tail _ (List.Mem.tail _ (List.Mem.tail _ (List.Mem.tail _ (List.Mem.tail _ (List.Mem.tail _ (List.Mem.tail _ (List.Mem.tail _ (List.Mem.tail _ (List.Mem.tail _ (List.Mem.tail _ (List.Mem.tail _ (List.Mem.tail _ (List.Mem.tail _ (List.Mem.tail _ (List.Mem.tail _ (List.Mem.tail _ (List.Mem.tail _ (List.Mem.tail _ (List.Mem.tail _ (List.Mem.head _))))))))))))))))))))))
  have q31_9 : (γ 1031 9).toInt = σ 0 + 0 := eG h (g := 1031) (i := 9) (sy := 0) (c := 0) (by decide) (List.Mem.tail _ (List.Mem.tail _ (List.Mem.tail _ (List.Mem.tail _ (List.Mem.tail _ (List.Mem.tail _ (List.Mem.tail _ (List.Mem.tail _ (List.Mem.tail _ (List.Mem.tail _ (List.Mem.tail _ (List.Mem.tail _ (List.Mem.tail _ (List.Mem.tail _ (List.Mem.tail _ (List.Mem.tail _ (List.Mem.tail _ (List.Mem.tail _ (List.Mem.tail _ (List.Mem.tail _ (List.Mem.tail _ (List.Mem.tail _ (List.Mem.head _)))))))))))))))))))))))
  have q32_9 : (γ 1032 9).toInt = σ 0 + 0 := eG h (g := 1032) (i := 9) (sy := 0) (c := 0) (by decide) (List.Mem.tail _ (List.Mem.tail _ (List.Mem.tail _ (List.Mem.tail _ (List.Mem.tail _ (List.Mem.tail _ (List.Mem.tail _ (List.Mem.tail _ (List.Mem.tail _ (List.Mem.tail _ (List.Mem.tail _ (List.Mem.tail _ (List.Mem.tail _ (List.Mem.tail _ (List.Mem.tail _ (List.Mem.tail _ (List.Mem.tail _ (List.Mem.tail _ (List.Mem.tail _ (List.Mem.tail _ (List.Mem.tail _ (List.Mem.tail _ (List.Mem.tail _ (List.Mem.head _))))))))))))))))))))))))
  have b1 := eB h (i := 1) (lo := 0) (hi := 39) rfl
  have b2 := eB h (i := 2) (lo := 0) (hi := 9) rfl
  have b3 := eB h (i := 3) (lo := 0) (hi := 9) rfl
  have b4 := eB h (i := 4) (lo := (-2147483648)) (hi := 2147483647) rfl
  have b5 := eB h (i := 5) (lo := 0) (hi := 999) rfl
  have b6 := eB h (i := 6) (lo := 0) (hi := 2) rfl
  have b7 := eB h (i := 7) (lo := 0) (hi := 9999) rfl
  have b8 := eB h (i := 8) (lo := 0) (hi := 1) rfl
  have s0 := h.1.2.1.1
  have hx : x9 γ M := hA.2.2.2.1.2.2
  have hT := aTp_of h.2.2.2
  have ei : (γ 1030 0 + 1).toInt = (γ 1030 0).toInt + 1 := i32_inc (by omega) (by omega)
  refine kGoto hat hj ?_
  refine k (gUs γ [(1030, 2, 0), (1030, 0, γ 1030 0 + 1)]) σ _ L [] M (List.Mem.head _) (fun _ _ => rfl) aFr.rf (gUs_fr [(1030, 2, 0), (1030, 0, γ 1030 0 + 1)] rfl gFr.rf) aExt.rf ?_
  exact mkHold9 (by decide) s0 ⟨b00 s0, b1, b2, b3, b4, b5, b6, b7, b8, True.intro⟩ True.intro ⟨hF1_gh (by decide) (by decide) (by show (0 : Int) = σ 0 + 0; omega), hF1_gh (by decide) (by decide) (by show ((γ 1030 0 + 1) : Int32).toInt = σ 1 + 1; omega), True.intro⟩ True.intro (fin9 hA.2.2.2 hT (gUs_lt [(1030, 2, 0), (1030, 0, γ 1030 0 + 1)] rfl (fun _ _ _ => rfl)) rfl ⟨hx.1, y9_gr hx.2 (by omega) (by omega) (by omega) ei (yLk_a (show (γ 1031 0).toInt = (γ 1032 0).toInt by omega) (show (γ 1031 1).toInt = (γ 1032 1).toInt by omega) (show (γ 1031 2).toInt = (γ 1032 2).toInt by omega) (show (γ 1031 3).toInt = (γ 1032 3).toInt by omega) (show (γ 1031 4).toInt = (γ 1032 4).toInt by omega) (show (γ 1031 5).toInt = (γ 1032 5).toInt by omega) (show (γ 1031 6).toInt = (γ 1032 6).toInt by omega) (show (γ 1031 7).toInt = 1000000 by omega) (show (γ 1032 7).toInt = -1 by omega) (show (γ 1031 8).toInt = -1 by omega) (show (γ 1032 8).toInt = -1 by omega) (show (γ 1031 9).toInt = 0 by omega) (show (γ 1032 9).toInt = 0 by omega))⟩)
theorem gt_ra6 {s : List Int32} {mi pc : Nat} (hat : mAt mi pc = some (1, .baload)) : gSound9 s (mi, pc, pc + 1, 0, (([(.ofNat 0, .ofNat 0), (.ofNat 0, .ofNat 39), (.ofNat 0, .ofNat 1)], [], [], [(1030, 1, (1, 1, .ofNat 0)), (1030, 2, (1, 0, .ofNat 1)), (1032, 6, (1, 2, .ofNat 0))]), [], [(1, 1, .ofNat 0), (2, 194, .ofNat 0)]), [(([(.ofNat 0, .ofNat 0), (.ofNat 0, .ofNat 39), (.ofNat 0, .ofNat 1)], [], [], []), [], [(1, 2, .ofNat 0)])], [], []) := by
  intro γ d σ L st0 st M Q _ hA k
  have h := aHold_0 hA
  obtain ⟨w0, w1, rfl, g0, g1⟩ := eS2 h
  obtain ⟨x0, rfl, ex0⟩ := gI g0
  have ex0 : x0.toInt = σ 1 + 0 := ex0
  have e1 := gR g1 rfl
  subst e1
  have q30_1 : (γ 1030 1).toInt = σ 1 + 0 := eG h (g := 1030) (i := 1) (sy := 1) (c := 0) (by decide) (List.Mem.head _)
  have q30_2 : (γ 1030 2).toInt = σ 0 + 1 := eG h (g := 1030) (i := 2) (sy := 0) (c := 1) (by decide) (List.Mem.tail _ (List.Mem.head _))
  have q32_6 : (γ 1032 6).toInt = σ 2 + 0 := eG h (g := 1032) (i := 6) (sy := 2) (c := 0) (by decide) (List.Mem.tail _ (List.Mem.tail _ (List.Mem.head _)))
  have b1 := eB h (i := 1) (lo := 0) (hi := 39) rfl
  have b2 := eB h (i := 2) (lo := 0) (hi := 1) rfl
  have s0 := h.1.2.1.1
  have hx : x9 γ M := hA.2.2.2.1.2.2
  have hT := aTp_of h.2.2.2
  have hd : (γ 1030 1).toInt.toNat < 40 := by omega
  have ed : (γ 1030 1).toInt.toNat = x0.toInt.toNat := by omega
  have e := (y9_g hx.2 (show (γ 1030 2).toInt = 1 by omega) (f := 6) (by decide)).2
  rw [ed] at e hd
  obtain ⟨x, x1, x2, _⟩ := tR hT hd (f := 6) (by decide)
  refine kBald (n := 40) hat (hT.hd (c := 194) (by decide) (by decide)) rfl (by omega) (by show x0.toInt < 40; omega) x1 ?_
  refine k γ σ _ L [.int x] M (List.Mem.head _) (fun _ _ => rfl) aFr.rf gFr.rf aExt.rf ?_
  exact mkHold9 (by decide) s0 ⟨b00 s0, b1, b2, True.intro⟩ True.intro True.intro ⟨⟨by decide, _, rfl, by show (x : Int32).toInt = σ 2 + 0; omega⟩, True.intro⟩ (hA.2.2.2)
theorem gt_ra3 {s : List Int32} {mi pc : Nat} (hat : mAt mi pc = some (1, .iaload)) : gSound9 s (mi, pc, pc + 1, 0, (([(.ofNat 0, .ofNat 0), (.ofNat 0, .ofNat 39), (.ofNat 0, .ofNat 999)], [], [], [(1030, 1, (1, 1, .ofNat 0)), (1030, 2, (1, 0, .ofNat 1)), (1032, 3, (1, 2, .ofNat 0))]), [], [(1, 1, .ofNat 0), (2, 188, .ofNat 0)]), [(([(.ofNat 0, .ofNat 0), (.ofNat 0, .ofNat 39), (.ofNat 0, .ofNat 999)], [], [], []), [], [(1, 2, .ofNat 0)])], [], []) := by
  intro γ d σ L st0 st M Q _ hA k
  have h := aHold_0 hA
  obtain ⟨w0, w1, rfl, g0, g1⟩ := eS2 h
  obtain ⟨x0, rfl, ex0⟩ := gI g0
  have ex0 : x0.toInt = σ 1 + 0 := ex0
  have e1 := gR g1 rfl
  subst e1
  have q30_1 : (γ 1030 1).toInt = σ 1 + 0 := eG h (g := 1030) (i := 1) (sy := 1) (c := 0) (by decide) (List.Mem.head _)
  have q30_2 : (γ 1030 2).toInt = σ 0 + 1 := eG h (g := 1030) (i := 2) (sy := 0) (c := 1) (by decide) (List.Mem.tail _ (List.Mem.head _))
  have q32_3 : (γ 1032 3).toInt = σ 2 + 0 := eG h (g := 1032) (i := 3) (sy := 2) (c := 0) (by decide) (List.Mem.tail _ (List.Mem.tail _ (List.Mem.head _)))
  have b1 := eB h (i := 1) (lo := 0) (hi := 39) rfl
  have b2 := eB h (i := 2) (lo := 0) (hi := 999) rfl
  have s0 := h.1.2.1.1
  have hx : x9 γ M := hA.2.2.2.1.2.2
  have hT := aTp_of h.2.2.2
  have hd : (γ 1030 1).toInt.toNat < 40 := by omega
  have ed : (γ 1030 1).toInt.toNat = x0.toInt.toNat := by omega
  have e := (y9_g hx.2 (show (γ 1030 2).toInt = 1 by omega) (f := 3) (by decide)).2
  rw [ed] at e hd
  obtain ⟨x, x1, x2, _⟩ := tR hT hd (f := 3) (by decide)
  refine kIald (n := 40) hat (hT.hd (c := 188) (by decide) (by decide)) (by omega) (by show x0.toInt < 40; omega) x1 ?_
  refine k γ σ _ L [.int x] M (List.Mem.head _) (fun _ _ => rfl) aFr.rf gFr.rf aExt.rf ?_
  exact mkHold9 (by decide) s0 ⟨b00 s0, b1, b2, True.intro⟩ True.intro True.intro ⟨⟨by decide, _, rfl, by show (x : Int32).toInt = σ 2 + 0; omega⟩, True.intro⟩ (hA.2.2.2)
theorem gt_ra7 {s : List Int32} {mi pc : Nat} (hat : mAt mi pc = some (1, .iaload)) : gSound9 s (mi, pc, pc + 1, 0, (([(.ofNat 0, .ofNat 0), (.ofNat 0, .ofNat 39), (.negSucc 0, .ofNat 1006)], [], [], [(1030, 1, (1, 1, .ofNat 0)), (1030, 2, (1, 0, .ofNat 1)), (1032, 7, (1, 2, .ofNat 0))]), [], [(1, 1, .ofNat 0), (2, 191, .ofNat 0)]), [(([(.ofNat 0, .ofNat 0), (.ofNat 0, .ofNat 39), (.negSucc 0, .ofNat 1006)], [], [], []), [], [(1, 2, .ofNat 0)])], [], []) := by
  intro γ d σ L st0 st M Q _ hA k
  have h := aHold_0 hA
  obtain ⟨w0, w1, rfl, g0, g1⟩ := eS2 h
  obtain ⟨x0, rfl, ex0⟩ := gI g0
  have ex0 : x0.toInt = σ 1 + 0 := ex0
  have e1 := gR g1 rfl
  subst e1
  have q30_1 : (γ 1030 1).toInt = σ 1 + 0 := eG h (g := 1030) (i := 1) (sy := 1) (c := 0) (by decide) (List.Mem.head _)
  have q30_2 : (γ 1030 2).toInt = σ 0 + 1 := eG h (g := 1030) (i := 2) (sy := 0) (c := 1) (by decide) (List.Mem.tail _ (List.Mem.head _))
  have q32_7 : (γ 1032 7).toInt = σ 2 + 0 := eG h (g := 1032) (i := 7) (sy := 2) (c := 0) (by decide) (List.Mem.tail _ (List.Mem.tail _ (List.Mem.head _)))
  have b1 := eB h (i := 1) (lo := 0) (hi := 39) rfl
  have b2 := eB h (i := 2) (lo := (-1)) (hi := 1006) rfl
  have s0 := h.1.2.1.1
  have hx : x9 γ M := hA.2.2.2.1.2.2
  have hT := aTp_of h.2.2.2
  have hd : (γ 1030 1).toInt.toNat < 40 := by omega
  have ed : (γ 1030 1).toInt.toNat = x0.toInt.toNat := by omega
  have e := (y9_g hx.2 (show (γ 1030 2).toInt = 1 by omega) (f := 7) (by decide)).2
  rw [ed] at e hd
  obtain ⟨x, x1, x2, _⟩ := tR hT hd (f := 7) (by decide)
  refine kIald (n := 40) hat (hT.hd (c := 191) (by decide) (by decide)) (by omega) (by show x0.toInt < 40; omega) x1 ?_
  refine k γ σ _ L [.int x] M (List.Mem.head _) (fun _ _ => rfl) aFr.rf gFr.rf aExt.rf ?_
  exact mkHold9 (by decide) s0 ⟨b00 s0, b1, b2, True.intro⟩ True.intro True.intro ⟨⟨by decide, _, rfl, by show (x : Int32).toInt = σ 2 + 0; omega⟩, True.intro⟩ (hA.2.2.2)
theorem gt_ra0 {s : List Int32} {mi pc : Nat} (hat : mAt mi pc = some (1, .iaload)) : gSound9 s (mi, pc, pc + 1, 0, (([(.ofNat 0, .ofNat 0), (.ofNat 0, .ofNat 39), (.ofNat 0, .ofNat 9)], [], [], [(1030, 1, (1, 1, .ofNat 0)), (1030, 2, (1, 0, .ofNat 1)), (1032, 0, (1, 2, .ofNat 0))]), [], [(1, 1, .ofNat 0), (2, 185, .ofNat 0)]), [(([(.ofNat 0, .ofNat 0), (.ofNat 0, .ofNat 39), (.ofNat 0, .ofNat 9)], [], [], []), [], [(1, 2, .ofNat 0)])], [], []) := by
  intro γ d σ L st0 st M Q _ hA k
  have h := aHold_0 hA
  obtain ⟨w0, w1, rfl, g0, g1⟩ := eS2 h
  obtain ⟨x0, rfl, ex0⟩ := gI g0
  have ex0 : x0.toInt = σ 1 + 0 := ex0
  have e1 := gR g1 rfl
  subst e1
  have q30_1 : (γ 1030 1).toInt = σ 1 + 0 := eG h (g := 1030) (i := 1) (sy := 1) (c := 0) (by decide) (List.Mem.head _)
  have q30_2 : (γ 1030 2).toInt = σ 0 + 1 := eG h (g := 1030) (i := 2) (sy := 0) (c := 1) (by decide) (List.Mem.tail _ (List.Mem.head _))
  have q32_0 : (γ 1032 0).toInt = σ 2 + 0 := eG h (g := 1032) (i := 0) (sy := 2) (c := 0) (by decide) (List.Mem.tail _ (List.Mem.tail _ (List.Mem.head _)))
  have b1 := eB h (i := 1) (lo := 0) (hi := 39) rfl
  have b2 := eB h (i := 2) (lo := 0) (hi := 9) rfl
  have s0 := h.1.2.1.1
  have hx : x9 γ M := hA.2.2.2.1.2.2
  have hT := aTp_of h.2.2.2
  have hd : (γ 1030 1).toInt.toNat < 40 := by omega
  have ed : (γ 1030 1).toInt.toNat = x0.toInt.toNat := by omega
  have e := (y9_g hx.2 (show (γ 1030 2).toInt = 1 by omega) (f := 0) (by decide)).2
  rw [ed] at e hd
  obtain ⟨x, x1, x2, _⟩ := tR hT hd (f := 0) (by decide)
  refine kIald (n := 40) hat (hT.hd (c := 185) (by decide) (by decide)) (by omega) (by show x0.toInt < 40; omega) x1 ?_
  refine k γ σ _ L [.int x] M (List.Mem.head _) (fun _ _ => rfl) aFr.rf gFr.rf aExt.rf ?_
  exact mkHold9 (by decide) s0 ⟨b00 s0, b1, b2, True.intro⟩ True.intro True.intro ⟨⟨by decide, _, rfl, by show (x : Int32).toInt = σ 2 + 0; omega⟩, True.intro⟩ (hA.2.2.2)
theorem gt_ra8 {s : List Int32} {mi pc : Nat} (hat : mAt mi pc = some (1, .iaload)) : gSound9 s (mi, pc, pc + 1, 0, (([(.ofNat 0, .ofNat 0), (.ofNat 0, .ofNat 39), (.negSucc 0, .ofNat 9)], [], [], [(1030, 1, (1, 1, .ofNat 0)), (1030, 2, (1, 0, .ofNat 1)), (1032, 8, (1, 2, .ofNat 0))]), [], [(1, 1, .ofNat 0), (2, 192, .ofNat 0)]), [(([(.ofNat 0, .ofNat 0), (.ofNat 0, .ofNat 39), (.negSucc 0, .ofNat 9)], [], [], []), [], [(1, 2, .ofNat 0)])], [], []) := by
  intro γ d σ L st0 st M Q _ hA k
  have h := aHold_0 hA
  obtain ⟨w0, w1, rfl, g0, g1⟩ := eS2 h
  obtain ⟨x0, rfl, ex0⟩ := gI g0
  have ex0 : x0.toInt = σ 1 + 0 := ex0
  have e1 := gR g1 rfl
  subst e1
  have q30_1 : (γ 1030 1).toInt = σ 1 + 0 := eG h (g := 1030) (i := 1) (sy := 1) (c := 0) (by decide) (List.Mem.head _)
  have q30_2 : (γ 1030 2).toInt = σ 0 + 1 := eG h (g := 1030) (i := 2) (sy := 0) (c := 1) (by decide) (List.Mem.tail _ (List.Mem.head _))
  have q32_8 : (γ 1032 8).toInt = σ 2 + 0 := eG h (g := 1032) (i := 8) (sy := 2) (c := 0) (by decide) (List.Mem.tail _ (List.Mem.tail _ (List.Mem.head _)))
  have b1 := eB h (i := 1) (lo := 0) (hi := 39) rfl
  have b2 := eB h (i := 2) (lo := (-1)) (hi := 9) rfl
  have s0 := h.1.2.1.1
  have hx : x9 γ M := hA.2.2.2.1.2.2
  have hT := aTp_of h.2.2.2
  have hd : (γ 1030 1).toInt.toNat < 40 := by omega
  have ed : (γ 1030 1).toInt.toNat = x0.toInt.toNat := by omega
  have e := (y9_g hx.2 (show (γ 1030 2).toInt = 1 by omega) (f := 8) (by decide)).2
  rw [ed] at e hd
  obtain ⟨x, x1, x2, _⟩ := tR hT hd (f := 8) (by decide)
  refine kIald (n := 40) hat (hT.hd (c := 192) (by decide) (by decide)) (by omega) (by show x0.toInt < 40; omega) x1 ?_
  refine k γ σ _ L [.int x] M (List.Mem.head _) (fun _ _ => rfl) aFr.rf gFr.rf aExt.rf ?_
  exact mkHold9 (by decide) s0 ⟨b00 s0, b1, b2, True.intro⟩ True.intro True.intro ⟨⟨by decide, _, rfl, by show (x : Int32).toInt = σ 2 + 0; omega⟩, True.intro⟩ (hA.2.2.2)
theorem gt_rn0 {s : List Int32} {mi pc : Nat} (hat : mAt mi pc = some (1, .iastore)) : gSound9 s (mi, pc, pc + 1, 0, (([(.ofNat 0, .ofNat 0), (.ofNat 0, .ofNat 9), (.ofNat 0, .ofNat 39), (.ofNat 0, .ofNat 40)], [(3, 2, .ofNat 0)], [], [(1030, 0, (1, 3, .ofNat 0)), (1030, 2, (1, 0, .ofNat 0))]), [], [(1, 1, .ofNat 0), (1, 2, .ofNat 0), (2, 185, .ofNat 0)]), [(([(.ofNat 0, .ofNat 0), (.ofNat 0, .ofNat 9), (.ofNat 0, .ofNat 39), (.ofNat 0, .ofNat 40)], [], [], [(1030, 1, (1, 2, .ofNat 0)), (1030, 2, (1, 0, .ofNat 1)), (1032, 0, (1, 1, .ofNat 0))]), [], [])], [(185, 0), (1030, 1), (1030, 2), (1031, 0), (1031, 1), (1031, 2), (1031, 3), (1031, 4), (1031, 5), (1031, 6), (1031, 7), (1031, 8), (1031, 9), (1032, 0), (1032, 1), (1032, 2), (1032, 3), (1032, 4), (1032, 5), (1032, 6), (1032, 7), (1032, 8), (1032, 9)], []) := by
  intro γ d σ L st0 st M Q _ hA k
  have h := aHold_0 hA
  obtain ⟨w0, w1, w2, rfl, g0, g1, g2⟩ := eS3 h
  obtain ⟨x0, rfl, ex0⟩ := gI g0
  have ex0 : x0.toInt = σ 1 + 0 := ex0
  obtain ⟨x1, rfl, ex1⟩ := gI g1
  have ex1 : x1.toInt = σ 2 + 0 := ex1
  have e2 := gR g2 rfl
  subst e2
  have q30_0 : (γ 1030 0).toInt = σ 3 + 0 := eG h (g := 1030) (i := 0) (sy := 3) (c := 0) (by decide) (List.Mem.head _)
  have q30_2 : (γ 1030 2).toInt = σ 0 + 0 := eG h (g := 1030) (i := 2) (sy := 0) (c := 0) (by decide) (List.Mem.tail _ (List.Mem.head _))
  have b1 := eB h (i := 1) (lo := 0) (hi := 9) rfl
  have b2 := eB h (i := 2) (lo := 0) (hi := 39) rfl
  have b3 := eB h (i := 3) (lo := 0) (hi := 40) rfl
  have z0 := (h.1.2.1.2.2 3 2 0 (List.Mem.head _)).2.2
  have s0 := h.1.2.1.1
  have hx : x9 γ M := hA.2.2.2.1.2.2
  have hT := aTp_of h.2.2.2
  have hd : x1.toInt.toNat < 40 := by omega
  have ho := y9_op (x := x1) (d := x1.toInt.toNat) hx.2 (by omega) hd (by omega)
  have hy := y9_p1 (γ := gUs γ (opL x1 (yV M) x1.toInt.toNat)) (f := 0) (x := x0) ho rfl
  refine kIast (n := 40) hat (hT.hd (c := 185) (by decide) (by decide)) (by decide) (by omega) (by show x1.toInt < 40; omega) ?_
  refine k (gUs γ (opL x1 (yV M) x1.toInt.toNat ++ [(1032, 0, x0)])) σ _ L [] (mPut M 185 x1.toInt.toNat (.int x0)) (List.Mem.head _) (fun _ _ => rfl) (frR (f := 0) (by decide) rfl) (gUs_fr (opL x1 (yV M) x1.toInt.toNat ++ [(1032, 0, x0)]) rfl gFr.rf) aExt.rf ?_
  exact mkHold9 (by decide) s0 ⟨b00 s0, b1, b2, b3, True.intro⟩ True.intro ⟨hF1_gh (by decide) (by decide) (by show (x1 : Int32).toInt = σ 2 + 0; omega), hF1_gh (by decide) (by decide) (by show (1 : Int) = σ 0 + 1; omega), hF1_gh (by decide) (by decide) (by show (x0 : Int32).toInt = σ 1 + 0; omega), True.intro⟩ True.intro (putR hA.2.2.2 hd (f := 0) (by decide) (by show (0 : Int) ≤ x0.toInt; omega) (by show x0.toInt ≤ 9; omega) (gUs_lt (opL x1 (yV M) x1.toInt.toNat ++ [(1032, 0, x0)]) rfl (fun _ _ _ => rfl)) hy)
theorem gt_ro3 {s : List Int32} {mi pc : Nat} (hat : mAt mi pc = some (1, .iaload)) : gSound9 s (mi, pc, pc + 1, 0, (([(.ofNat 0, .ofNat 0), (.ofNat 0, .ofNat 39), (.ofNat 0, .ofNat 40)], [(1, 2, .negSucc 0)], [], [(1030, 0, (1, 2, .ofNat 0)), (1030, 2, (1, 0, .ofNat 0))]), [], [(1, 1, .ofNat 0), (2, 188, .ofNat 0)]), [(([(.ofNat 0, .ofNat 0), (.ofNat 0, .ofNat 39), (.ofNat 0, .ofNat 40), (.ofNat 0, .ofNat 9), (.ofNat 0, .ofNat 9), (.negSucc 2147483647, .ofNat 2147483647), (.ofNat 0, .ofNat 999), (.ofNat 0, .ofNat 2), (.ofNat 0, .ofNat 9999), (.ofNat 0, .ofNat 1)], [], [], [(1030, 1, (1, 1, .ofNat 0)), (1030, 2, (1, 0, .ofNat 1)), (1031, 0, (1, 3, .ofNat 0)), (1032, 0, (1, 3, .ofNat 0)), (1031, 1, (1, 4, .ofNat 0)), (1032, 1, (1, 4, .ofNat 0)), (1031, 2, (1, 5, .ofNat 0)), (1032, 2, (1, 5, .ofNat 0)), (1031, 3, (1, 6, .ofNat 0)), (1032, 3, (1, 6, .ofNat 0)), (1031, 4, (1, 7, .ofNat 0)), (1032, 4, (1, 7, .ofNat 0)), (1031, 5, (1, 8, .ofNat 0)), (1032, 5, (1, 8, .ofNat 0)), (1031, 6, (1, 9, .ofNat 0)), (1032, 6, (1, 9, .ofNat 0)), (1031, 7, (1, 0, .ofNat 1000000)), (1032, 7, (1, 0, .negSucc 0)), (1031, 8, (1, 0, .negSucc 0)), (1032, 8, (1, 0, .negSucc 0)), (1031, 9, (1, 0, .ofNat 0)), (1032, 9, (1, 0, .ofNat 0))]), [], [(1, 6, .ofNat 0)]), (([(.ofNat 0, .ofNat 0), (.ofNat 0, .ofNat 39), (.ofNat 0, .ofNat 40), (.ofNat 0, .ofNat 9), (.ofNat 0, .ofNat 9), (.negSucc 2147483647, .ofNat 2147483647), (.ofNat 0, .ofNat 999), (.ofNat 0, .ofNat 2), (.ofNat 0, .ofNat 9999), (.ofNat 0, .ofNat 1), (.ofNat 0, .ofNat 1006), (.ofNat 0, .ofNat 9), (.ofNat 0, .ofNat 16383)], [], [], [(1030, 1, (1, 1, .ofNat 0)), (1030, 2, (1, 0, .ofNat 1)), (1031, 0, (1, 3, .ofNat 0)), (1032, 0, (1, 3, .ofNat 0)), (1031, 1, (1, 4, .ofNat 0)), (1032, 1, (1, 4, .ofNat 0)), (1031, 2, (1, 5, .ofNat 0)), (1032, 2, (1, 5, .ofNat 0)), (1031, 3, (1, 6, .ofNat 0)), (1032, 3, (1, 6, .ofNat 0)), (1031, 4, (1, 7, .ofNat 0)), (1032, 4, (1, 7, .ofNat 0)), (1031, 5, (1, 8, .ofNat 0)), (1032, 5, (1, 8, .ofNat 0)), (1031, 6, (1, 9, .ofNat 0)), (1032, 6, (1, 9, .ofNat 0)), (1031, 7, (1, 10, .ofNat 0)), (1032, 7, (1, 10, .ofNat 0)), (1031, 8, (1, 11, .ofNat 0)), (1032, 8, (1, 11, .ofNat 0)), (1031, 9, (1, 12, .ofNat 0)), (1032, 9, (1, 12, .ofNat 0))]), [], [(1, 6, .ofNat 0)])], [(1030, 1), (1030, 2), (1031, 0), (1031, 1), (1031, 2), (1031, 3), (1031, 4), (1031, 5), (1031, 6), (1031, 7), (1031, 8), (1031, 9), (1032, 0), (1032, 1), (1032, 2), (1032, 3), (1032, 4), (1032, 5), (1032, 6), (1032, 7), (1032, 8), (1032, 9)], []) := by
  intro γ d σ L st0 st M Q _ hA k
  have h := aHold_0 hA
  obtain ⟨w0, w1, rfl, g0, g1⟩ := eS2 h
  obtain ⟨x0, rfl, ex0⟩ := gI g0
  have ex0 : x0.toInt = σ 1 + 0 := ex0
  have e1 := gR g1 rfl
  subst e1
  have q30_0 : (γ 1030 0).toInt = σ 2 + 0 := eG h (g := 1030) (i := 0) (sy := 2) (c := 0) (by decide) (List.Mem.head _)
  have q30_2 : (γ 1030 2).toInt = σ 0 + 0 := eG h (g := 1030) (i := 2) (sy := 0) (c := 0) (by decide) (List.Mem.tail _ (List.Mem.head _))
  have b1 := eB h (i := 1) (lo := 0) (hi := 39) rfl
  have b2 := eB h (i := 2) (lo := 0) (hi := 40) rfl
  have z0 := (h.1.2.1.2.2 1 2 (-1) (List.Mem.head _)).2.2
  have s0 := h.1.2.1.1
  have hx : x9 γ M := hA.2.2.2.1.2.2
  have hT := aTp_of h.2.2.2
  have hd : x0.toInt.toNat < 40 := by omega
  have hlk := (show yAll (Gi (gS γ) 0 0) (yV M) from y9_o (k := 0) hx.2 (show (γ 1030 2).toInt = 0 by omega)) x0.toInt.toNat (show ((x0.toInt.toNat : Nat) : Int) < (γ 1030 0).toInt by omega)
  have r0 : 0 ≤ yV M 0 0 x0.toInt.toNat ∧ yV M 0 0 x0.toInt.toNat ≤ 9 := tDb hT hd (f := 0) (by decide)
  have m0 : yV M 0 0 x0.toInt.toNat = yV M 1 0 x0.toInt.toNat := hlk.1 0 (by decide)
  have r1 : 0 ≤ yV M 0 1 x0.toInt.toNat ∧ yV M 0 1 x0.toInt.toNat ≤ 9 := tDb hT hd (f := 1) (by decide)
  have m1 : yV M 0 1 x0.toInt.toNat = yV M 1 1 x0.toInt.toNat := hlk.1 1 (by decide)
  have r2 : (-2147483648) ≤ yV M 0 2 x0.toInt.toNat ∧ yV M 0 2 x0.toInt.toNat ≤ 2147483647 := tDb hT hd (f := 2) (by decide)
  have m2 : yV M 0 2 x0.toInt.toNat = yV M 1 2 x0.toInt.toNat := hlk.1 2 (by decide)
  have r3 : 0 ≤ yV M 0 3 x0.toInt.toNat ∧ yV M 0 3 x0.toInt.toNat ≤ 999 := tDb hT hd (f := 3) (by decide)
  have m3 : yV M 0 3 x0.toInt.toNat = yV M 1 3 x0.toInt.toNat := hlk.1 3 (by decide)
  have r4 : 0 ≤ yV M 0 4 x0.toInt.toNat ∧ yV M 0 4 x0.toInt.toNat ≤ 2 := tDb hT hd (f := 4) (by decide)
  have m4 : yV M 0 4 x0.toInt.toNat = yV M 1 4 x0.toInt.toNat := hlk.1 4 (by decide)
  have r5 : 0 ≤ yV M 0 5 x0.toInt.toNat ∧ yV M 0 5 x0.toInt.toNat ≤ 9999 := tDb hT hd (f := 5) (by decide)
  have m5 : yV M 0 5 x0.toInt.toNat = yV M 1 5 x0.toInt.toNat := hlk.1 5 (by decide)
  have r6 : 0 ≤ yV M 0 6 x0.toInt.toNat ∧ yV M 0 6 x0.toInt.toNat ≤ 1 := tDb hT hd (f := 6) (by decide)
  have m6 : yV M 0 6 x0.toInt.toNat = yV M 1 6 x0.toInt.toNat := hlk.1 6 (by decide)
  have r7 : 0 ≤ yV M 0 7 x0.toInt.toNat ∧ yV M 0 7 x0.toInt.toNat ≤ 1000000 := tDb hT hd (f := 7) (by decide)
  have r8 : (-1) ≤ yV M 0 8 x0.toInt.toNat ∧ yV M 0 8 x0.toInt.toNat ≤ 9 := tDb hT hd (f := 8) (by decide)
  have m8 : yV M 0 8 x0.toInt.toNat = yV M 1 8 x0.toInt.toNat := hlk.1 8 (by decide)
  have r9 : 0 ≤ yV M 0 9 x0.toInt.toNat ∧ yV M 0 9 x0.toInt.toNat ≤ 16383 := tDb hT hd (f := 9) (by decide)
  have m9 : yV M 0 9 x0.toInt.toNat = yV M 1 9 x0.toInt.toNat := hlk.1 9 (by decide)
  have m7 : (yV M 0 7 x0.toInt.toNat = 1000000 ∧ yV M 1 7 x0.toInt.toNat = -1) ∨ (yV M 0 7 x0.toInt.toNat = yV M 1 7 x0.toInt.toNat ∧ 0 ≤ yV M 0 7 x0.toInt.toNat ∧ yV M 0 7 x0.toInt.toNat ≤ 1006) := hlk.1 7 (by decide)
  have m8b : yV M 0 7 x0.toInt.toNat = 1000000 → yV M 0 8 x0.toInt.toNat = -1 ∧ yV M 0 9 x0.toInt.toNat = 0 := hlk.2.1
  have m8n : yV M 0 7 x0.toInt.toNat ≠ 1000000 → 0 ≤ yV M 0 8 x0.toInt.toNat := hlk.2.2
  obtain ⟨x, x1, x2, _⟩ := tR hT hd (f := 3) (by decide)
  refine kIald (n := 40) hat (hT.hd (c := 188) (by decide) (by decide)) (by omega) (by show x0.toInt < 40; omega) x1 ?_
  rcases m7 with m7 | m7
  · obtain ⟨m8c, m9c⟩ := m8b m7.1
    refine k (gUs γ (opL x0 (yV M) x0.toInt.toNat)) (aUp (aUp (aUp (aUp (aUp (aUp (aUp σ 3 (yV M 0 0 x0.toInt.toNat)) 4 (yV M 0 1 x0.toInt.toNat)) 5 (yV M 0 2 x0.toInt.toNat)) 6 (yV M 0 3 x0.toInt.toNat)) 7 (yV M 0 4 x0.toInt.toNat)) 8 (yV M 0 5 x0.toInt.toNat)) 9 (yV M 0 6 x0.toInt.toNat)) _ L [.int x] M (List.Mem.head _) (fun _ _ => rfl) aFr.rf (gUs_fr (opL x0 (yV M) x0.toInt.toNat) rfl gFr.rf) (aExt.tr (aExt.tr (aExt.tr (aExt.tr (aExt.tr (aExt.tr aUp_ext aUp_ext (by show 3 ≤ 4; decide)) aUp_ext (by show 3 ≤ 5; decide)) aUp_ext (by show 3 ≤ 6; decide)) aUp_ext (by show 3 ≤ 7; decide)) aUp_ext (by show 3 ≤ 8; decide)) aUp_ext (by show 3 ≤ 9; decide)) ?_
    exact mkHold9 (by decide) s0 ⟨b00 s0, b1, b2, ⟨by show (0 : Int) ≤ yV M 0 0 x0.toInt.toNat; omega, by show yV M 0 0 x0.toInt.toNat ≤ 9; omega⟩, ⟨by show (0 : Int) ≤ yV M 0 1 x0.toInt.toNat; omega, by show yV M 0 1 x0.toInt.toNat ≤ 9; omega⟩, ⟨by show (-2147483648 : Int) ≤ yV M 0 2 x0.toInt.toNat; omega, by show yV M 0 2 x0.toInt.toNat ≤ 2147483647; omega⟩, ⟨by show (0 : Int) ≤ yV M 0 3 x0.toInt.toNat; omega, by show yV M 0 3 x0.toInt.toNat ≤ 999; omega⟩, ⟨by show (0 : Int) ≤ yV M 0 4 x0.toInt.toNat; omega, by show yV M 0 4 x0.toInt.toNat ≤ 2; omega⟩, ⟨by show (0 : Int) ≤ yV M 0 5 x0.toInt.toNat; omega, by show yV M 0 5 x0.toInt.toNat ≤ 9999; omega⟩, ⟨by show (0 : Int) ≤ yV M 0 6 x0.toInt.toNat; omega, by show yV M 0 6 x0.toInt.toNat ≤ 1; omega⟩, True.intro⟩ True.intro ⟨hF1_gh (by decide) (by decide) (by show (x0 : Int32).toInt = σ 1 + 0; omega), hF1_gh (by decide) (by decide) (by show (1 : Int) = σ 0 + 1; omega), hF1_gh (by decide) (by decide) (by show ((Int32.ofInt (yV M 0 0 x0.toInt.toNat)) : Int32).toInt = yV M 0 0 x0.toInt.toNat + 0; rw [yV_i32]; omega), hF1_gh (by decide) (by decide) (by show ((Int32.ofInt (yV M 1 0 x0.toInt.toNat)) : Int32).toInt = yV M 0 0 x0.toInt.toNat + 0; rw [yV_i32]; omega), hF1_gh (by decide) (by decide) (by show ((Int32.ofInt (yV M 0 1 x0.toInt.toNat)) : Int32).toInt = yV M 0 1 x0.toInt.toNat + 0; rw [yV_i32]; omega), hF1_gh (by decide) (by decide) (by show ((Int32.ofInt (yV M 1 1 x0.toInt.toNat)) : Int32).toInt = yV M 0 1 x0.toInt.toNat + 0; rw [yV_i32]; omega), hF1_gh (by decide) (by decide) (by show ((Int32.ofInt (yV M 0 2 x0.toInt.toNat)) : Int32).toInt = yV M 0 2 x0.toInt.toNat + 0; rw [yV_i32]; omega), hF1_gh (by decide) (by decide) (by show ((Int32.ofInt (yV M 1 2 x0.toInt.toNat)) : Int32).toInt = yV M 0 2 x0.toInt.toNat + 0; rw [yV_i32]; omega), hF1_gh (by decide) (by decide) (by show ((Int32.ofInt (yV M 0 3 x0.toInt.toNat)) : Int32).toInt = yV M 0 3 x0.toInt.toNat + 0; rw [yV_i32]; omega), hF1_gh (by decide) (by decide) (by show ((Int32.ofInt (yV M 1 3 x0.toInt.toNat)) : Int32).toInt = yV M 0 3 x0.toInt.toNat + 0; rw [yV_i32]; omega), hF1_gh (by decide) (by decide) (by show ((Int32.ofInt (yV M 0 4 x0.toInt.toNat)) : Int32).toInt = yV M 0 4 x0.toInt.toNat + 0; rw [yV_i32]; omega), hF1_gh (by decide) (by decide) (by show ((Int32.ofInt (yV M 1 4 x0.toInt.toNat)) : Int32).toInt = yV M 0 4 x0.toInt.toNat + 0; rw [yV_i32]; omega), hF1_gh (by decide) (by decide) (by show ((Int32.ofInt (yV M 0 5 x0.toInt.toNat)) : Int32).toInt = yV M 0 5 x0.toInt.toNat + 0; rw [yV_i32]; omega), hF1_gh (by decide) (by decide) (by show ((Int32.ofInt (yV M 1 5 x0.toInt.toNat)) : Int32).toInt = yV M 0 5 x0.toInt.toNat + 0; rw [yV_i32]; omega), hF1_gh (by decide) (by decide) (by show ((Int32.ofInt (yV M 0 6 x0.toInt.toNat)) : Int32).toInt = yV M 0 6 x0.toInt.toNat + 0; rw [yV_i32]; omega), hF1_gh (by decide) (by decide) (by show ((Int32.ofInt (yV M 1 6 x0.toInt.toNat)) : Int32).toInt = yV M 0 6 x0.toInt.toNat + 0; rw [yV_i32]; omega), hF1_gh (by decide) (by decide) (by show ((Int32.ofInt (yV M 0 7 x0.toInt.toNat)) : Int32).toInt = σ 0 + 1000000; rw [yV_i32]; omega), hF1_gh (by decide) (by decide) (by show ((Int32.ofInt (yV M 1 7 x0.toInt.toNat)) : Int32).toInt = σ 0 + (-1); rw [yV_i32]; omega), hF1_gh (by decide) (by decide) (by show ((Int32.ofInt (yV M 0 8 x0.toInt.toNat)) : Int32).toInt = σ 0 + (-1); rw [yV_i32]; omega), hF1_gh (by decide) (by decide) (by show ((Int32.ofInt (yV M 1 8 x0.toInt.toNat)) : Int32).toInt = σ 0 + (-1); rw [yV_i32]; omega), hF1_gh (by decide) (by decide) (by show ((Int32.ofInt (yV M 0 9 x0.toInt.toNat)) : Int32).toInt = σ 0 + 0; rw [yV_i32]; omega), hF1_gh (by decide) (by decide) (by show ((Int32.ofInt (yV M 1 9 x0.toInt.toNat)) : Int32).toInt = σ 0 + 0; rw [yV_i32]; omega), True.intro⟩ ⟨⟨by decide, _, rfl, by show (x : Int32).toInt = yV M 0 3 x0.toInt.toNat + 0; omega⟩, True.intro⟩ (fin9 hA.2.2.2 hT (gUs_lt (opL x0 (yV M) x0.toInt.toNat) rfl (fun _ _ _ => rfl)) rfl ⟨hx.1, y9_op hx.2 (by omega) (by omega) (by omega)⟩)
  · have m8p := m8n (by omega)
    refine k (gUs γ (opL x0 (yV M) x0.toInt.toNat)) (aUp (aUp (aUp (aUp (aUp (aUp (aUp (aUp (aUp (aUp σ 3 (yV M 0 0 x0.toInt.toNat)) 4 (yV M 0 1 x0.toInt.toNat)) 5 (yV M 0 2 x0.toInt.toNat)) 6 (yV M 0 3 x0.toInt.toNat)) 7 (yV M 0 4 x0.toInt.toNat)) 8 (yV M 0 5 x0.toInt.toNat)) 9 (yV M 0 6 x0.toInt.toNat)) 10 (yV M 0 7 x0.toInt.toNat)) 11 (yV M 0 8 x0.toInt.toNat)) 12 (yV M 0 9 x0.toInt.toNat)) _ L [.int x] M (List.Mem.tail _ (List.Mem.head _)) (fun _ _ => rfl) aFr.rf (gUs_fr (opL x0 (yV M) x0.toInt.toNat) rfl gFr.rf) (aExt.tr (aExt.tr (aExt.tr (aExt.tr (aExt.tr (aExt.tr (aExt.tr (aExt.tr (aExt.tr aUp_ext aUp_ext (by show 3 ≤ 4; decide)) aUp_ext (by show 3 ≤ 5; decide)) aUp_ext (by show 3 ≤ 6; decide)) aUp_ext (by show 3 ≤ 7; decide)) aUp_ext (by show 3 ≤ 8; decide)) aUp_ext (by show 3 ≤ 9; decide)) aUp_ext (by show 3 ≤ 10; decide)) aUp_ext (by show 3 ≤ 11; decide)) aUp_ext (by show 3 ≤ 12; decide)) ?_
    exact mkHold9 (by decide) s0 ⟨b00 s0, b1, b2, ⟨by show (0 : Int) ≤ yV M 0 0 x0.toInt.toNat; omega, by show yV M 0 0 x0.toInt.toNat ≤ 9; omega⟩, ⟨by show (0 : Int) ≤ yV M 0 1 x0.toInt.toNat; omega, by show yV M 0 1 x0.toInt.toNat ≤ 9; omega⟩, ⟨by show (-2147483648 : Int) ≤ yV M 0 2 x0.toInt.toNat; omega, by show yV M 0 2 x0.toInt.toNat ≤ 2147483647; omega⟩, ⟨by show (0 : Int) ≤ yV M 0 3 x0.toInt.toNat; omega, by show yV M 0 3 x0.toInt.toNat ≤ 999; omega⟩, ⟨by show (0 : Int) ≤ yV M 0 4 x0.toInt.toNat; omega, by show yV M 0 4 x0.toInt.toNat ≤ 2; omega⟩, ⟨by show (0 : Int) ≤ yV M 0 5 x0.toInt.toNat; omega, by show yV M 0 5 x0.toInt.toNat ≤ 9999; omega⟩, ⟨by show (0 : Int) ≤ yV M 0 6 x0.toInt.toNat; omega, by show yV M 0 6 x0.toInt.toNat ≤ 1; omega⟩, ⟨by show (0 : Int) ≤ yV M 0 7 x0.toInt.toNat; omega, by show yV M 0 7 x0.toInt.toNat ≤ 1006; omega⟩, ⟨by show (0 : Int) ≤ yV M 0 8 x0.toInt.toNat; omega, by show yV M 0 8 x0.toInt.toNat ≤ 9; omega⟩, ⟨by show (0 : Int) ≤ yV M 0 9 x0.toInt.toNat; omega, by show yV M 0 9 x0.toInt.toNat ≤ 16383; omega⟩, True.intro⟩ True.intro ⟨hF1_gh (by decide) (by decide) (by show (x0 : Int32).toInt = σ 1 + 0; omega), hF1_gh (by decide) (by decide) (by show (1 : Int) = σ 0 + 1; omega), hF1_gh (by decide) (by decide) (by show ((Int32.ofInt (yV M 0 0 x0.toInt.toNat)) : Int32).toInt = yV M 0 0 x0.toInt.toNat + 0; rw [yV_i32]; omega), hF1_gh (by decide) (by decide) (by show ((Int32.ofInt (yV M 1 0 x0.toInt.toNat)) : Int32).toInt = yV M 0 0 x0.toInt.toNat + 0; rw [yV_i32]; omega), hF1_gh (by decide) (by decide) (by show ((Int32.ofInt (yV M 0 1 x0.toInt.toNat)) : Int32).toInt = yV M 0 1 x0.toInt.toNat + 0; rw [yV_i32]; omega), hF1_gh (by decide) (by decide) (by show ((Int32.ofInt (yV M 1 1 x0.toInt.toNat)) : Int32).toInt = yV M 0 1 x0.toInt.toNat + 0; rw [yV_i32]; omega), hF1_gh (by decide) (by decide) (by show ((Int32.ofInt (yV M 0 2 x0.toInt.toNat)) : Int32).toInt = yV M 0 2 x0.toInt.toNat + 0; rw [yV_i32]; omega), hF1_gh (by decide) (by decide) (by show ((Int32.ofInt (yV M 1 2 x0.toInt.toNat)) : Int32).toInt = yV M 0 2 x0.toInt.toNat + 0; rw [yV_i32]; omega), hF1_gh (by decide) (by decide) (by show ((Int32.ofInt (yV M 0 3 x0.toInt.toNat)) : Int32).toInt = yV M 0 3 x0.toInt.toNat + 0; rw [yV_i32]; omega), hF1_gh (by decide) (by decide) (by show ((Int32.ofInt (yV M 1 3 x0.toInt.toNat)) : Int32).toInt = yV M 0 3 x0.toInt.toNat + 0; rw [yV_i32]; omega), hF1_gh (by decide) (by decide) (by show ((Int32.ofInt (yV M 0 4 x0.toInt.toNat)) : Int32).toInt = yV M 0 4 x0.toInt.toNat + 0; rw [yV_i32]; omega), hF1_gh (by decide) (by decide) (by show ((Int32.ofInt (yV M 1 4 x0.toInt.toNat)) : Int32).toInt = yV M 0 4 x0.toInt.toNat + 0; rw [yV_i32]; omega), hF1_gh (by decide) (by decide) (by show ((Int32.ofInt (yV M 0 5 x0.toInt.toNat)) : Int32).toInt = yV M 0 5 x0.toInt.toNat + 0; rw [yV_i32]; omega), hF1_gh (by decide) (by decide) (by show ((Int32.ofInt (yV M 1 5 x0.toInt.toNat)) : Int32).toInt = yV M 0 5 x0.toInt.toNat + 0; rw [yV_i32]; omega), hF1_gh (by decide) (by decide) (by show ((Int32.ofInt (yV M 0 6 x0.toInt.toNat)) : Int32).toInt = yV M 0 6 x0.toInt.toNat + 0; rw [yV_i32]; omega), hF1_gh (by decide) (by decide) (by show ((Int32.ofInt (yV M 1 6 x0.toInt.toNat)) : Int32).toInt = yV M 0 6 x0.toInt.toNat + 0; rw [yV_i32]; omega), hF1_gh (by decide) (by decide) (by show ((Int32.ofInt (yV M 0 7 x0.toInt.toNat)) : Int32).toInt = yV M 0 7 x0.toInt.toNat + 0; rw [yV_i32]; omega), hF1_gh (by decide) (by decide) (by show ((Int32.ofInt (yV M 1 7 x0.toInt.toNat)) : Int32).toInt = yV M 0 7 x0.toInt.toNat + 0; rw [yV_i32]; omega), hF1_gh (by decide) (by decide) (by show ((Int32.ofInt (yV M 0 8 x0.toInt.toNat)) : Int32).toInt = yV M 0 8 x0.toInt.toNat + 0; rw [yV_i32]; omega), hF1_gh (by decide) (by decide) (by show ((Int32.ofInt (yV M 1 8 x0.toInt.toNat)) : Int32).toInt = yV M 0 8 x0.toInt.toNat + 0; rw [yV_i32]; omega), hF1_gh (by decide) (by decide) (by show ((Int32.ofInt (yV M 0 9 x0.toInt.toNat)) : Int32).toInt = yV M 0 9 x0.toInt.toNat + 0; rw [yV_i32]; omega), hF1_gh (by decide) (by decide) (by show ((Int32.ofInt (yV M 1 9 x0.toInt.toNat)) : Int32).toInt = yV M 0 9 x0.toInt.toNat + 0; rw [yV_i32]; omega), True.intro⟩ ⟨⟨by decide, _, rfl, by show (x : Int32).toInt = yV M 0 3 x0.toInt.toNat + 0; omega⟩, True.intro⟩ (fin9 hA.2.2.2 hT (gUs_lt (opL x0 (yV M) x0.toInt.toNat) rfl (fun _ _ _ => rfl)) rfl ⟨hx.1, y9_op hx.2 (by omega) (by omega) (by omega)⟩)
theorem gt_ro6 {s : List Int32} {mi pc : Nat} (hat : mAt mi pc = some (1, .baload)) : gSound9 s (mi, pc, pc + 1, 0, (([(.ofNat 0, .ofNat 0), (.ofNat 0, .ofNat 39), (.ofNat 0, .ofNat 40)], [(1, 2, .negSucc 0)], [], [(1030, 0, (1, 2, .ofNat 0)), (1030, 2, (1, 0, .ofNat 0))]), [], [(1, 1, .ofNat 0), (2, 194, .ofNat 0)]), [(([(.ofNat 0, .ofNat 0), (.ofNat 0, .ofNat 39), (.ofNat 0, .ofNat 40), (.ofNat 0, .ofNat 9), (.ofNat 0, .ofNat 9), (.negSucc 2147483647, .ofNat 2147483647), (.ofNat 0, .ofNat 999), (.ofNat 0, .ofNat 2), (.ofNat 0, .ofNat 9999), (.ofNat 0, .ofNat 1)], [], [], [(1030, 1, (1, 1, .ofNat 0)), (1030, 2, (1, 0, .ofNat 1)), (1031, 0, (1, 3, .ofNat 0)), (1032, 0, (1, 3, .ofNat 0)), (1031, 1, (1, 4, .ofNat 0)), (1032, 1, (1, 4, .ofNat 0)), (1031, 2, (1, 5, .ofNat 0)), (1032, 2, (1, 5, .ofNat 0)), (1031, 3, (1, 6, .ofNat 0)), (1032, 3, (1, 6, .ofNat 0)), (1031, 4, (1, 7, .ofNat 0)), (1032, 4, (1, 7, .ofNat 0)), (1031, 5, (1, 8, .ofNat 0)), (1032, 5, (1, 8, .ofNat 0)), (1031, 6, (1, 9, .ofNat 0)), (1032, 6, (1, 9, .ofNat 0)), (1031, 7, (1, 0, .ofNat 1000000)), (1032, 7, (1, 0, .negSucc 0)), (1031, 8, (1, 0, .negSucc 0)), (1032, 8, (1, 0, .negSucc 0)), (1031, 9, (1, 0, .ofNat 0)), (1032, 9, (1, 0, .ofNat 0))]), [], [(1, 9, .ofNat 0)]), (([(.ofNat 0, .ofNat 0), (.ofNat 0, .ofNat 39), (.ofNat 0, .ofNat 40), (.ofNat 0, .ofNat 9), (.ofNat 0, .ofNat 9), (.negSucc 2147483647, .ofNat 2147483647), (.ofNat 0, .ofNat 999), (.ofNat 0, .ofNat 2), (.ofNat 0, .ofNat 9999), (.ofNat 0, .ofNat 1), (.ofNat 0, .ofNat 1006), (.ofNat 0, .ofNat 9), (.ofNat 0, .ofNat 16383)], [], [], [(1030, 1, (1, 1, .ofNat 0)), (1030, 2, (1, 0, .ofNat 1)), (1031, 0, (1, 3, .ofNat 0)), (1032, 0, (1, 3, .ofNat 0)), (1031, 1, (1, 4, .ofNat 0)), (1032, 1, (1, 4, .ofNat 0)), (1031, 2, (1, 5, .ofNat 0)), (1032, 2, (1, 5, .ofNat 0)), (1031, 3, (1, 6, .ofNat 0)), (1032, 3, (1, 6, .ofNat 0)), (1031, 4, (1, 7, .ofNat 0)), (1032, 4, (1, 7, .ofNat 0)), (1031, 5, (1, 8, .ofNat 0)), (1032, 5, (1, 8, .ofNat 0)), (1031, 6, (1, 9, .ofNat 0)), (1032, 6, (1, 9, .ofNat 0)), (1031, 7, (1, 10, .ofNat 0)), (1032, 7, (1, 10, .ofNat 0)), (1031, 8, (1, 11, .ofNat 0)), (1032, 8, (1, 11, .ofNat 0)), (1031, 9, (1, 12, .ofNat 0)), (1032, 9, (1, 12, .ofNat 0))]), [], [(1, 9, .ofNat 0)])], [(1030, 1), (1030, 2), (1031, 0), (1031, 1), (1031, 2), (1031, 3), (1031, 4), (1031, 5), (1031, 6), (1031, 7), (1031, 8), (1031, 9), (1032, 0), (1032, 1), (1032, 2), (1032, 3), (1032, 4), (1032, 5), (1032, 6), (1032, 7), (1032, 8), (1032, 9)], []) := by
  intro γ d σ L st0 st M Q _ hA k
  have h := aHold_0 hA
  obtain ⟨w0, w1, rfl, g0, g1⟩ := eS2 h
  obtain ⟨x0, rfl, ex0⟩ := gI g0
  have ex0 : x0.toInt = σ 1 + 0 := ex0
  have e1 := gR g1 rfl
  subst e1
  have q30_0 : (γ 1030 0).toInt = σ 2 + 0 := eG h (g := 1030) (i := 0) (sy := 2) (c := 0) (by decide) (List.Mem.head _)
  have q30_2 : (γ 1030 2).toInt = σ 0 + 0 := eG h (g := 1030) (i := 2) (sy := 0) (c := 0) (by decide) (List.Mem.tail _ (List.Mem.head _))
  have b1 := eB h (i := 1) (lo := 0) (hi := 39) rfl
  have b2 := eB h (i := 2) (lo := 0) (hi := 40) rfl
  have z0 := (h.1.2.1.2.2 1 2 (-1) (List.Mem.head _)).2.2
  have s0 := h.1.2.1.1
  have hx : x9 γ M := hA.2.2.2.1.2.2
  have hT := aTp_of h.2.2.2
  have hd : x0.toInt.toNat < 40 := by omega
  have hlk := (show yAll (Gi (gS γ) 0 0) (yV M) from y9_o (k := 0) hx.2 (show (γ 1030 2).toInt = 0 by omega)) x0.toInt.toNat (show ((x0.toInt.toNat : Nat) : Int) < (γ 1030 0).toInt by omega)
  have r0 : 0 ≤ yV M 0 0 x0.toInt.toNat ∧ yV M 0 0 x0.toInt.toNat ≤ 9 := tDb hT hd (f := 0) (by decide)
  have m0 : yV M 0 0 x0.toInt.toNat = yV M 1 0 x0.toInt.toNat := hlk.1 0 (by decide)
  have r1 : 0 ≤ yV M 0 1 x0.toInt.toNat ∧ yV M 0 1 x0.toInt.toNat ≤ 9 := tDb hT hd (f := 1) (by decide)
  have m1 : yV M 0 1 x0.toInt.toNat = yV M 1 1 x0.toInt.toNat := hlk.1 1 (by decide)
  have r2 : (-2147483648) ≤ yV M 0 2 x0.toInt.toNat ∧ yV M 0 2 x0.toInt.toNat ≤ 2147483647 := tDb hT hd (f := 2) (by decide)
  have m2 : yV M 0 2 x0.toInt.toNat = yV M 1 2 x0.toInt.toNat := hlk.1 2 (by decide)
  have r3 : 0 ≤ yV M 0 3 x0.toInt.toNat ∧ yV M 0 3 x0.toInt.toNat ≤ 999 := tDb hT hd (f := 3) (by decide)
  have m3 : yV M 0 3 x0.toInt.toNat = yV M 1 3 x0.toInt.toNat := hlk.1 3 (by decide)
  have r4 : 0 ≤ yV M 0 4 x0.toInt.toNat ∧ yV M 0 4 x0.toInt.toNat ≤ 2 := tDb hT hd (f := 4) (by decide)
  have m4 : yV M 0 4 x0.toInt.toNat = yV M 1 4 x0.toInt.toNat := hlk.1 4 (by decide)
  have r5 : 0 ≤ yV M 0 5 x0.toInt.toNat ∧ yV M 0 5 x0.toInt.toNat ≤ 9999 := tDb hT hd (f := 5) (by decide)
  have m5 : yV M 0 5 x0.toInt.toNat = yV M 1 5 x0.toInt.toNat := hlk.1 5 (by decide)
  have r6 : 0 ≤ yV M 0 6 x0.toInt.toNat ∧ yV M 0 6 x0.toInt.toNat ≤ 1 := tDb hT hd (f := 6) (by decide)
  have m6 : yV M 0 6 x0.toInt.toNat = yV M 1 6 x0.toInt.toNat := hlk.1 6 (by decide)
  have r7 : 0 ≤ yV M 0 7 x0.toInt.toNat ∧ yV M 0 7 x0.toInt.toNat ≤ 1000000 := tDb hT hd (f := 7) (by decide)
  have r8 : (-1) ≤ yV M 0 8 x0.toInt.toNat ∧ yV M 0 8 x0.toInt.toNat ≤ 9 := tDb hT hd (f := 8) (by decide)
  have m8 : yV M 0 8 x0.toInt.toNat = yV M 1 8 x0.toInt.toNat := hlk.1 8 (by decide)
  have r9 : 0 ≤ yV M 0 9 x0.toInt.toNat ∧ yV M 0 9 x0.toInt.toNat ≤ 16383 := tDb hT hd (f := 9) (by decide)
  have m9 : yV M 0 9 x0.toInt.toNat = yV M 1 9 x0.toInt.toNat := hlk.1 9 (by decide)
  have m7 : (yV M 0 7 x0.toInt.toNat = 1000000 ∧ yV M 1 7 x0.toInt.toNat = -1) ∨ (yV M 0 7 x0.toInt.toNat = yV M 1 7 x0.toInt.toNat ∧ 0 ≤ yV M 0 7 x0.toInt.toNat ∧ yV M 0 7 x0.toInt.toNat ≤ 1006) := hlk.1 7 (by decide)
  have m8b : yV M 0 7 x0.toInt.toNat = 1000000 → yV M 0 8 x0.toInt.toNat = -1 ∧ yV M 0 9 x0.toInt.toNat = 0 := hlk.2.1
  have m8n : yV M 0 7 x0.toInt.toNat ≠ 1000000 → 0 ≤ yV M 0 8 x0.toInt.toNat := hlk.2.2
  obtain ⟨x, x1, x2, _⟩ := tR hT hd (f := 6) (by decide)
  refine kBald (n := 40) hat (hT.hd (c := 194) (by decide) (by decide)) rfl (by omega) (by show x0.toInt < 40; omega) x1 ?_
  rcases m7 with m7 | m7
  · obtain ⟨m8c, m9c⟩ := m8b m7.1
    refine k (gUs γ (opL x0 (yV M) x0.toInt.toNat)) (aUp (aUp (aUp (aUp (aUp (aUp (aUp σ 3 (yV M 0 0 x0.toInt.toNat)) 4 (yV M 0 1 x0.toInt.toNat)) 5 (yV M 0 2 x0.toInt.toNat)) 6 (yV M 0 3 x0.toInt.toNat)) 7 (yV M 0 4 x0.toInt.toNat)) 8 (yV M 0 5 x0.toInt.toNat)) 9 (yV M 0 6 x0.toInt.toNat)) _ L [.int x] M (List.Mem.head _) (fun _ _ => rfl) aFr.rf (gUs_fr (opL x0 (yV M) x0.toInt.toNat) rfl gFr.rf) (aExt.tr (aExt.tr (aExt.tr (aExt.tr (aExt.tr (aExt.tr aUp_ext aUp_ext (by show 3 ≤ 4; decide)) aUp_ext (by show 3 ≤ 5; decide)) aUp_ext (by show 3 ≤ 6; decide)) aUp_ext (by show 3 ≤ 7; decide)) aUp_ext (by show 3 ≤ 8; decide)) aUp_ext (by show 3 ≤ 9; decide)) ?_
    exact mkHold9 (by decide) s0 ⟨b00 s0, b1, b2, ⟨by show (0 : Int) ≤ yV M 0 0 x0.toInt.toNat; omega, by show yV M 0 0 x0.toInt.toNat ≤ 9; omega⟩, ⟨by show (0 : Int) ≤ yV M 0 1 x0.toInt.toNat; omega, by show yV M 0 1 x0.toInt.toNat ≤ 9; omega⟩, ⟨by show (-2147483648 : Int) ≤ yV M 0 2 x0.toInt.toNat; omega, by show yV M 0 2 x0.toInt.toNat ≤ 2147483647; omega⟩, ⟨by show (0 : Int) ≤ yV M 0 3 x0.toInt.toNat; omega, by show yV M 0 3 x0.toInt.toNat ≤ 999; omega⟩, ⟨by show (0 : Int) ≤ yV M 0 4 x0.toInt.toNat; omega, by show yV M 0 4 x0.toInt.toNat ≤ 2; omega⟩, ⟨by show (0 : Int) ≤ yV M 0 5 x0.toInt.toNat; omega, by show yV M 0 5 x0.toInt.toNat ≤ 9999; omega⟩, ⟨by show (0 : Int) ≤ yV M 0 6 x0.toInt.toNat; omega, by show yV M 0 6 x0.toInt.toNat ≤ 1; omega⟩, True.intro⟩ True.intro ⟨hF1_gh (by decide) (by decide) (by show (x0 : Int32).toInt = σ 1 + 0; omega), hF1_gh (by decide) (by decide) (by show (1 : Int) = σ 0 + 1; omega), hF1_gh (by decide) (by decide) (by show ((Int32.ofInt (yV M 0 0 x0.toInt.toNat)) : Int32).toInt = yV M 0 0 x0.toInt.toNat + 0; rw [yV_i32]; omega), hF1_gh (by decide) (by decide) (by show ((Int32.ofInt (yV M 1 0 x0.toInt.toNat)) : Int32).toInt = yV M 0 0 x0.toInt.toNat + 0; rw [yV_i32]; omega), hF1_gh (by decide) (by decide) (by show ((Int32.ofInt (yV M 0 1 x0.toInt.toNat)) : Int32).toInt = yV M 0 1 x0.toInt.toNat + 0; rw [yV_i32]; omega), hF1_gh (by decide) (by decide) (by show ((Int32.ofInt (yV M 1 1 x0.toInt.toNat)) : Int32).toInt = yV M 0 1 x0.toInt.toNat + 0; rw [yV_i32]; omega), hF1_gh (by decide) (by decide) (by show ((Int32.ofInt (yV M 0 2 x0.toInt.toNat)) : Int32).toInt = yV M 0 2 x0.toInt.toNat + 0; rw [yV_i32]; omega), hF1_gh (by decide) (by decide) (by show ((Int32.ofInt (yV M 1 2 x0.toInt.toNat)) : Int32).toInt = yV M 0 2 x0.toInt.toNat + 0; rw [yV_i32]; omega), hF1_gh (by decide) (by decide) (by show ((Int32.ofInt (yV M 0 3 x0.toInt.toNat)) : Int32).toInt = yV M 0 3 x0.toInt.toNat + 0; rw [yV_i32]; omega), hF1_gh (by decide) (by decide) (by show ((Int32.ofInt (yV M 1 3 x0.toInt.toNat)) : Int32).toInt = yV M 0 3 x0.toInt.toNat + 0; rw [yV_i32]; omega), hF1_gh (by decide) (by decide) (by show ((Int32.ofInt (yV M 0 4 x0.toInt.toNat)) : Int32).toInt = yV M 0 4 x0.toInt.toNat + 0; rw [yV_i32]; omega), hF1_gh (by decide) (by decide) (by show ((Int32.ofInt (yV M 1 4 x0.toInt.toNat)) : Int32).toInt = yV M 0 4 x0.toInt.toNat + 0; rw [yV_i32]; omega), hF1_gh (by decide) (by decide) (by show ((Int32.ofInt (yV M 0 5 x0.toInt.toNat)) : Int32).toInt = yV M 0 5 x0.toInt.toNat + 0; rw [yV_i32]; omega), hF1_gh (by decide) (by decide) (by show ((Int32.ofInt (yV M 1 5 x0.toInt.toNat)) : Int32).toInt = yV M 0 5 x0.toInt.toNat + 0; rw [yV_i32]; omega), hF1_gh (by decide) (by decide) (by show ((Int32.ofInt (yV M 0 6 x0.toInt.toNat)) : Int32).toInt = yV M 0 6 x0.toInt.toNat + 0; rw [yV_i32]; omega), hF1_gh (by decide) (by decide) (by show ((Int32.ofInt (yV M 1 6 x0.toInt.toNat)) : Int32).toInt = yV M 0 6 x0.toInt.toNat + 0; rw [yV_i32]; omega), hF1_gh (by decide) (by decide) (by show ((Int32.ofInt (yV M 0 7 x0.toInt.toNat)) : Int32).toInt = σ 0 + 1000000; rw [yV_i32]; omega), hF1_gh (by decide) (by decide) (by show ((Int32.ofInt (yV M 1 7 x0.toInt.toNat)) : Int32).toInt = σ 0 + (-1); rw [yV_i32]; omega), hF1_gh (by decide) (by decide) (by show ((Int32.ofInt (yV M 0 8 x0.toInt.toNat)) : Int32).toInt = σ 0 + (-1); rw [yV_i32]; omega), hF1_gh (by decide) (by decide) (by show ((Int32.ofInt (yV M 1 8 x0.toInt.toNat)) : Int32).toInt = σ 0 + (-1); rw [yV_i32]; omega), hF1_gh (by decide) (by decide) (by show ((Int32.ofInt (yV M 0 9 x0.toInt.toNat)) : Int32).toInt = σ 0 + 0; rw [yV_i32]; omega), hF1_gh (by decide) (by decide) (by show ((Int32.ofInt (yV M 1 9 x0.toInt.toNat)) : Int32).toInt = σ 0 + 0; rw [yV_i32]; omega), True.intro⟩ ⟨⟨by decide, _, rfl, by show (x : Int32).toInt = yV M 0 6 x0.toInt.toNat + 0; omega⟩, True.intro⟩ (fin9 hA.2.2.2 hT (gUs_lt (opL x0 (yV M) x0.toInt.toNat) rfl (fun _ _ _ => rfl)) rfl ⟨hx.1, y9_op hx.2 (by omega) (by omega) (by omega)⟩)
  · have m8p := m8n (by omega)
    refine k (gUs γ (opL x0 (yV M) x0.toInt.toNat)) (aUp (aUp (aUp (aUp (aUp (aUp (aUp (aUp (aUp (aUp σ 3 (yV M 0 0 x0.toInt.toNat)) 4 (yV M 0 1 x0.toInt.toNat)) 5 (yV M 0 2 x0.toInt.toNat)) 6 (yV M 0 3 x0.toInt.toNat)) 7 (yV M 0 4 x0.toInt.toNat)) 8 (yV M 0 5 x0.toInt.toNat)) 9 (yV M 0 6 x0.toInt.toNat)) 10 (yV M 0 7 x0.toInt.toNat)) 11 (yV M 0 8 x0.toInt.toNat)) 12 (yV M 0 9 x0.toInt.toNat)) _ L [.int x] M (List.Mem.tail _ (List.Mem.head _)) (fun _ _ => rfl) aFr.rf (gUs_fr (opL x0 (yV M) x0.toInt.toNat) rfl gFr.rf) (aExt.tr (aExt.tr (aExt.tr (aExt.tr (aExt.tr (aExt.tr (aExt.tr (aExt.tr (aExt.tr aUp_ext aUp_ext (by show 3 ≤ 4; decide)) aUp_ext (by show 3 ≤ 5; decide)) aUp_ext (by show 3 ≤ 6; decide)) aUp_ext (by show 3 ≤ 7; decide)) aUp_ext (by show 3 ≤ 8; decide)) aUp_ext (by show 3 ≤ 9; decide)) aUp_ext (by show 3 ≤ 10; decide)) aUp_ext (by show 3 ≤ 11; decide)) aUp_ext (by show 3 ≤ 12; decide)) ?_
    exact mkHold9 (by decide) s0 ⟨b00 s0, b1, b2, ⟨by show (0 : Int) ≤ yV M 0 0 x0.toInt.toNat; omega, by show yV M 0 0 x0.toInt.toNat ≤ 9; omega⟩, ⟨by show (0 : Int) ≤ yV M 0 1 x0.toInt.toNat; omega, by show yV M 0 1 x0.toInt.toNat ≤ 9; omega⟩, ⟨by show (-2147483648 : Int) ≤ yV M 0 2 x0.toInt.toNat; omega, by show yV M 0 2 x0.toInt.toNat ≤ 2147483647; omega⟩, ⟨by show (0 : Int) ≤ yV M 0 3 x0.toInt.toNat; omega, by show yV M 0 3 x0.toInt.toNat ≤ 999; omega⟩, ⟨by show (0 : Int) ≤ yV M 0 4 x0.toInt.toNat; omega, by show yV M 0 4 x0.toInt.toNat ≤ 2; omega⟩, ⟨by show (0 : Int) ≤ yV M 0 5 x0.toInt.toNat; omega, by show yV M 0 5 x0.toInt.toNat ≤ 9999; omega⟩, ⟨by show (0 : Int) ≤ yV M 0 6 x0.toInt.toNat; omega, by show yV M 0 6 x0.toInt.toNat ≤ 1; omega⟩, ⟨by show (0 : Int) ≤ yV M 0 7 x0.toInt.toNat; omega, by show yV M 0 7 x0.toInt.toNat ≤ 1006; omega⟩, ⟨by show (0 : Int) ≤ yV M 0 8 x0.toInt.toNat; omega, by show yV M 0 8 x0.toInt.toNat ≤ 9; omega⟩, ⟨by show (0 : Int) ≤ yV M 0 9 x0.toInt.toNat; omega, by show yV M 0 9 x0.toInt.toNat ≤ 16383; omega⟩, True.intro⟩ True.intro ⟨hF1_gh (by decide) (by decide) (by show (x0 : Int32).toInt = σ 1 + 0; omega), hF1_gh (by decide) (by decide) (by show (1 : Int) = σ 0 + 1; omega), hF1_gh (by decide) (by decide) (by show ((Int32.ofInt (yV M 0 0 x0.toInt.toNat)) : Int32).toInt = yV M 0 0 x0.toInt.toNat + 0; rw [yV_i32]; omega), hF1_gh (by decide) (by decide) (by show ((Int32.ofInt (yV M 1 0 x0.toInt.toNat)) : Int32).toInt = yV M 0 0 x0.toInt.toNat + 0; rw [yV_i32]; omega), hF1_gh (by decide) (by decide) (by show ((Int32.ofInt (yV M 0 1 x0.toInt.toNat)) : Int32).toInt = yV M 0 1 x0.toInt.toNat + 0; rw [yV_i32]; omega), hF1_gh (by decide) (by decide) (by show ((Int32.ofInt (yV M 1 1 x0.toInt.toNat)) : Int32).toInt = yV M 0 1 x0.toInt.toNat + 0; rw [yV_i32]; omega), hF1_gh (by decide) (by decide) (by show ((Int32.ofInt (yV M 0 2 x0.toInt.toNat)) : Int32).toInt = yV M 0 2 x0.toInt.toNat + 0; rw [yV_i32]; omega), hF1_gh (by decide) (by decide) (by show ((Int32.ofInt (yV M 1 2 x0.toInt.toNat)) : Int32).toInt = yV M 0 2 x0.toInt.toNat + 0; rw [yV_i32]; omega), hF1_gh (by decide) (by decide) (by show ((Int32.ofInt (yV M 0 3 x0.toInt.toNat)) : Int32).toInt = yV M 0 3 x0.toInt.toNat + 0; rw [yV_i32]; omega), hF1_gh (by decide) (by decide) (by show ((Int32.ofInt (yV M 1 3 x0.toInt.toNat)) : Int32).toInt = yV M 0 3 x0.toInt.toNat + 0; rw [yV_i32]; omega), hF1_gh (by decide) (by decide) (by show ((Int32.ofInt (yV M 0 4 x0.toInt.toNat)) : Int32).toInt = yV M 0 4 x0.toInt.toNat + 0; rw [yV_i32]; omega), hF1_gh (by decide) (by decide) (by show ((Int32.ofInt (yV M 1 4 x0.toInt.toNat)) : Int32).toInt = yV M 0 4 x0.toInt.toNat + 0; rw [yV_i32]; omega), hF1_gh (by decide) (by decide) (by show ((Int32.ofInt (yV M 0 5 x0.toInt.toNat)) : Int32).toInt = yV M 0 5 x0.toInt.toNat + 0; rw [yV_i32]; omega), hF1_gh (by decide) (by decide) (by show ((Int32.ofInt (yV M 1 5 x0.toInt.toNat)) : Int32).toInt = yV M 0 5 x0.toInt.toNat + 0; rw [yV_i32]; omega), hF1_gh (by decide) (by decide) (by show ((Int32.ofInt (yV M 0 6 x0.toInt.toNat)) : Int32).toInt = yV M 0 6 x0.toInt.toNat + 0; rw [yV_i32]; omega), hF1_gh (by decide) (by decide) (by show ((Int32.ofInt (yV M 1 6 x0.toInt.toNat)) : Int32).toInt = yV M 0 6 x0.toInt.toNat + 0; rw [yV_i32]; omega), hF1_gh (by decide) (by decide) (by show ((Int32.ofInt (yV M 0 7 x0.toInt.toNat)) : Int32).toInt = yV M 0 7 x0.toInt.toNat + 0; rw [yV_i32]; omega), hF1_gh (by decide) (by decide) (by show ((Int32.ofInt (yV M 1 7 x0.toInt.toNat)) : Int32).toInt = yV M 0 7 x0.toInt.toNat + 0; rw [yV_i32]; omega), hF1_gh (by decide) (by decide) (by show ((Int32.ofInt (yV M 0 8 x0.toInt.toNat)) : Int32).toInt = yV M 0 8 x0.toInt.toNat + 0; rw [yV_i32]; omega), hF1_gh (by decide) (by decide) (by show ((Int32.ofInt (yV M 1 8 x0.toInt.toNat)) : Int32).toInt = yV M 0 8 x0.toInt.toNat + 0; rw [yV_i32]; omega), hF1_gh (by decide) (by decide) (by show ((Int32.ofInt (yV M 0 9 x0.toInt.toNat)) : Int32).toInt = yV M 0 9 x0.toInt.toNat + 0; rw [yV_i32]; omega), hF1_gh (by decide) (by decide) (by show ((Int32.ofInt (yV M 1 9 x0.toInt.toNat)) : Int32).toInt = yV M 0 9 x0.toInt.toNat + 0; rw [yV_i32]; omega), True.intro⟩ ⟨⟨by decide, _, rfl, by show (x : Int32).toInt = yV M 0 6 x0.toInt.toNat + 0; omega⟩, True.intro⟩ (fin9 hA.2.2.2 hT (gUs_lt (opL x0 (yV M) x0.toInt.toNat) rfl (fun _ _ _ => rfl)) rfl ⟨hx.1, y9_op hx.2 (by omega) (by omega) (by omega)⟩)
theorem gt_ro7 {s : List Int32} {mi pc : Nat} (hat : mAt mi pc = some (1, .iaload)) : gSound9 s (mi, pc, pc + 1, 0, (([(.ofNat 0, .ofNat 0), (.ofNat 0, .ofNat 39), (.ofNat 0, .ofNat 40)], [(1, 2, .negSucc 0)], [], [(1030, 0, (1, 2, .ofNat 0)), (1030, 2, (1, 0, .ofNat 0))]), [], [(1, 1, .ofNat 0), (2, 191, .ofNat 0)]), [(([(.ofNat 0, .ofNat 0), (.ofNat 0, .ofNat 39), (.ofNat 0, .ofNat 40), (.ofNat 0, .ofNat 9), (.ofNat 0, .ofNat 9), (.negSucc 2147483647, .ofNat 2147483647), (.ofNat 0, .ofNat 999), (.ofNat 0, .ofNat 2), (.ofNat 0, .ofNat 9999), (.ofNat 0, .ofNat 1)], [], [], [(1030, 1, (1, 1, .ofNat 0)), (1030, 2, (1, 0, .ofNat 1)), (1031, 0, (1, 3, .ofNat 0)), (1032, 0, (1, 3, .ofNat 0)), (1031, 1, (1, 4, .ofNat 0)), (1032, 1, (1, 4, .ofNat 0)), (1031, 2, (1, 5, .ofNat 0)), (1032, 2, (1, 5, .ofNat 0)), (1031, 3, (1, 6, .ofNat 0)), (1032, 3, (1, 6, .ofNat 0)), (1031, 4, (1, 7, .ofNat 0)), (1032, 4, (1, 7, .ofNat 0)), (1031, 5, (1, 8, .ofNat 0)), (1032, 5, (1, 8, .ofNat 0)), (1031, 6, (1, 9, .ofNat 0)), (1032, 6, (1, 9, .ofNat 0)), (1031, 7, (1, 0, .ofNat 1000000)), (1032, 7, (1, 0, .negSucc 0)), (1031, 8, (1, 0, .negSucc 0)), (1032, 8, (1, 0, .negSucc 0)), (1031, 9, (1, 0, .ofNat 0)), (1032, 9, (1, 0, .ofNat 0))]), [], [(1, 0, .negSucc 0)]), (([(.ofNat 0, .ofNat 0), (.ofNat 0, .ofNat 39), (.ofNat 0, .ofNat 40), (.ofNat 0, .ofNat 9), (.ofNat 0, .ofNat 9), (.negSucc 2147483647, .ofNat 2147483647), (.ofNat 0, .ofNat 999), (.ofNat 0, .ofNat 2), (.ofNat 0, .ofNat 9999), (.ofNat 0, .ofNat 1), (.ofNat 0, .ofNat 1006), (.ofNat 0, .ofNat 9), (.ofNat 0, .ofNat 16383)], [], [], [(1030, 1, (1, 1, .ofNat 0)), (1030, 2, (1, 0, .ofNat 1)), (1031, 0, (1, 3, .ofNat 0)), (1032, 0, (1, 3, .ofNat 0)), (1031, 1, (1, 4, .ofNat 0)), (1032, 1, (1, 4, .ofNat 0)), (1031, 2, (1, 5, .ofNat 0)), (1032, 2, (1, 5, .ofNat 0)), (1031, 3, (1, 6, .ofNat 0)), (1032, 3, (1, 6, .ofNat 0)), (1031, 4, (1, 7, .ofNat 0)), (1032, 4, (1, 7, .ofNat 0)), (1031, 5, (1, 8, .ofNat 0)), (1032, 5, (1, 8, .ofNat 0)), (1031, 6, (1, 9, .ofNat 0)), (1032, 6, (1, 9, .ofNat 0)), (1031, 7, (1, 10, .ofNat 0)), (1032, 7, (1, 10, .ofNat 0)), (1031, 8, (1, 11, .ofNat 0)), (1032, 8, (1, 11, .ofNat 0)), (1031, 9, (1, 12, .ofNat 0)), (1032, 9, (1, 12, .ofNat 0))]), [], [(1, 10, .ofNat 0)])], [(1030, 1), (1030, 2), (1031, 0), (1031, 1), (1031, 2), (1031, 3), (1031, 4), (1031, 5), (1031, 6), (1031, 7), (1031, 8), (1031, 9), (1032, 0), (1032, 1), (1032, 2), (1032, 3), (1032, 4), (1032, 5), (1032, 6), (1032, 7), (1032, 8), (1032, 9)], []) := by
  intro γ d σ L st0 st M Q _ hA k
  have h := aHold_0 hA
  obtain ⟨w0, w1, rfl, g0, g1⟩ := eS2 h
  obtain ⟨x0, rfl, ex0⟩ := gI g0
  have ex0 : x0.toInt = σ 1 + 0 := ex0
  have e1 := gR g1 rfl
  subst e1
  have q30_0 : (γ 1030 0).toInt = σ 2 + 0 := eG h (g := 1030) (i := 0) (sy := 2) (c := 0) (by decide) (List.Mem.head _)
  have q30_2 : (γ 1030 2).toInt = σ 0 + 0 := eG h (g := 1030) (i := 2) (sy := 0) (c := 0) (by decide) (List.Mem.tail _ (List.Mem.head _))
  have b1 := eB h (i := 1) (lo := 0) (hi := 39) rfl
  have b2 := eB h (i := 2) (lo := 0) (hi := 40) rfl
  have z0 := (h.1.2.1.2.2 1 2 (-1) (List.Mem.head _)).2.2
  have s0 := h.1.2.1.1
  have hx : x9 γ M := hA.2.2.2.1.2.2
  have hT := aTp_of h.2.2.2
  have hd : x0.toInt.toNat < 40 := by omega
  have hlk := (show yAll (Gi (gS γ) 0 0) (yV M) from y9_o (k := 0) hx.2 (show (γ 1030 2).toInt = 0 by omega)) x0.toInt.toNat (show ((x0.toInt.toNat : Nat) : Int) < (γ 1030 0).toInt by omega)
  have r0 : 0 ≤ yV M 0 0 x0.toInt.toNat ∧ yV M 0 0 x0.toInt.toNat ≤ 9 := tDb hT hd (f := 0) (by decide)
  have m0 : yV M 0 0 x0.toInt.toNat = yV M 1 0 x0.toInt.toNat := hlk.1 0 (by decide)
  have r1 : 0 ≤ yV M 0 1 x0.toInt.toNat ∧ yV M 0 1 x0.toInt.toNat ≤ 9 := tDb hT hd (f := 1) (by decide)
  have m1 : yV M 0 1 x0.toInt.toNat = yV M 1 1 x0.toInt.toNat := hlk.1 1 (by decide)
  have r2 : (-2147483648) ≤ yV M 0 2 x0.toInt.toNat ∧ yV M 0 2 x0.toInt.toNat ≤ 2147483647 := tDb hT hd (f := 2) (by decide)
  have m2 : yV M 0 2 x0.toInt.toNat = yV M 1 2 x0.toInt.toNat := hlk.1 2 (by decide)
  have r3 : 0 ≤ yV M 0 3 x0.toInt.toNat ∧ yV M 0 3 x0.toInt.toNat ≤ 999 := tDb hT hd (f := 3) (by decide)
  have m3 : yV M 0 3 x0.toInt.toNat = yV M 1 3 x0.toInt.toNat := hlk.1 3 (by decide)
  have r4 : 0 ≤ yV M 0 4 x0.toInt.toNat ∧ yV M 0 4 x0.toInt.toNat ≤ 2 := tDb hT hd (f := 4) (by decide)
  have m4 : yV M 0 4 x0.toInt.toNat = yV M 1 4 x0.toInt.toNat := hlk.1 4 (by decide)
  have r5 : 0 ≤ yV M 0 5 x0.toInt.toNat ∧ yV M 0 5 x0.toInt.toNat ≤ 9999 := tDb hT hd (f := 5) (by decide)
  have m5 : yV M 0 5 x0.toInt.toNat = yV M 1 5 x0.toInt.toNat := hlk.1 5 (by decide)
  have r6 : 0 ≤ yV M 0 6 x0.toInt.toNat ∧ yV M 0 6 x0.toInt.toNat ≤ 1 := tDb hT hd (f := 6) (by decide)
  have m6 : yV M 0 6 x0.toInt.toNat = yV M 1 6 x0.toInt.toNat := hlk.1 6 (by decide)
  have r7 : 0 ≤ yV M 0 7 x0.toInt.toNat ∧ yV M 0 7 x0.toInt.toNat ≤ 1000000 := tDb hT hd (f := 7) (by decide)
  have r8 : (-1) ≤ yV M 0 8 x0.toInt.toNat ∧ yV M 0 8 x0.toInt.toNat ≤ 9 := tDb hT hd (f := 8) (by decide)
  have m8 : yV M 0 8 x0.toInt.toNat = yV M 1 8 x0.toInt.toNat := hlk.1 8 (by decide)
  have r9 : 0 ≤ yV M 0 9 x0.toInt.toNat ∧ yV M 0 9 x0.toInt.toNat ≤ 16383 := tDb hT hd (f := 9) (by decide)
  have m9 : yV M 0 9 x0.toInt.toNat = yV M 1 9 x0.toInt.toNat := hlk.1 9 (by decide)
  have m7 : (yV M 0 7 x0.toInt.toNat = 1000000 ∧ yV M 1 7 x0.toInt.toNat = -1) ∨ (yV M 0 7 x0.toInt.toNat = yV M 1 7 x0.toInt.toNat ∧ 0 ≤ yV M 0 7 x0.toInt.toNat ∧ yV M 0 7 x0.toInt.toNat ≤ 1006) := hlk.1 7 (by decide)
  have m8b : yV M 0 7 x0.toInt.toNat = 1000000 → yV M 0 8 x0.toInt.toNat = -1 ∧ yV M 0 9 x0.toInt.toNat = 0 := hlk.2.1
  have m8n : yV M 0 7 x0.toInt.toNat ≠ 1000000 → 0 ≤ yV M 0 8 x0.toInt.toNat := hlk.2.2
  obtain ⟨x, x1, x2, _⟩ := tR hT hd (f := 7) (by decide)
  refine kIald (n := 40) hat (hT.hd (c := 191) (by decide) (by decide)) (by omega) (by show x0.toInt < 40; omega) x1 ?_
  rcases m7 with m7 | m7
  · obtain ⟨m8c, m9c⟩ := m8b m7.1
    refine k (gUs γ (opL x0 (yV M) x0.toInt.toNat)) (aUp (aUp (aUp (aUp (aUp (aUp (aUp σ 3 (yV M 0 0 x0.toInt.toNat)) 4 (yV M 0 1 x0.toInt.toNat)) 5 (yV M 0 2 x0.toInt.toNat)) 6 (yV M 0 3 x0.toInt.toNat)) 7 (yV M 0 4 x0.toInt.toNat)) 8 (yV M 0 5 x0.toInt.toNat)) 9 (yV M 0 6 x0.toInt.toNat)) _ L [.int x] M (List.Mem.head _) (fun _ _ => rfl) aFr.rf (gUs_fr (opL x0 (yV M) x0.toInt.toNat) rfl gFr.rf) (aExt.tr (aExt.tr (aExt.tr (aExt.tr (aExt.tr (aExt.tr aUp_ext aUp_ext (by show 3 ≤ 4; decide)) aUp_ext (by show 3 ≤ 5; decide)) aUp_ext (by show 3 ≤ 6; decide)) aUp_ext (by show 3 ≤ 7; decide)) aUp_ext (by show 3 ≤ 8; decide)) aUp_ext (by show 3 ≤ 9; decide)) ?_
    exact mkHold9 (by decide) s0 ⟨b00 s0, b1, b2, ⟨by show (0 : Int) ≤ yV M 0 0 x0.toInt.toNat; omega, by show yV M 0 0 x0.toInt.toNat ≤ 9; omega⟩, ⟨by show (0 : Int) ≤ yV M 0 1 x0.toInt.toNat; omega, by show yV M 0 1 x0.toInt.toNat ≤ 9; omega⟩, ⟨by show (-2147483648 : Int) ≤ yV M 0 2 x0.toInt.toNat; omega, by show yV M 0 2 x0.toInt.toNat ≤ 2147483647; omega⟩, ⟨by show (0 : Int) ≤ yV M 0 3 x0.toInt.toNat; omega, by show yV M 0 3 x0.toInt.toNat ≤ 999; omega⟩, ⟨by show (0 : Int) ≤ yV M 0 4 x0.toInt.toNat; omega, by show yV M 0 4 x0.toInt.toNat ≤ 2; omega⟩, ⟨by show (0 : Int) ≤ yV M 0 5 x0.toInt.toNat; omega, by show yV M 0 5 x0.toInt.toNat ≤ 9999; omega⟩, ⟨by show (0 : Int) ≤ yV M 0 6 x0.toInt.toNat; omega, by show yV M 0 6 x0.toInt.toNat ≤ 1; omega⟩, True.intro⟩ True.intro ⟨hF1_gh (by decide) (by decide) (by show (x0 : Int32).toInt = σ 1 + 0; omega), hF1_gh (by decide) (by decide) (by show (1 : Int) = σ 0 + 1; omega), hF1_gh (by decide) (by decide) (by show ((Int32.ofInt (yV M 0 0 x0.toInt.toNat)) : Int32).toInt = yV M 0 0 x0.toInt.toNat + 0; rw [yV_i32]; omega), hF1_gh (by decide) (by decide) (by show ((Int32.ofInt (yV M 1 0 x0.toInt.toNat)) : Int32).toInt = yV M 0 0 x0.toInt.toNat + 0; rw [yV_i32]; omega), hF1_gh (by decide) (by decide) (by show ((Int32.ofInt (yV M 0 1 x0.toInt.toNat)) : Int32).toInt = yV M 0 1 x0.toInt.toNat + 0; rw [yV_i32]; omega), hF1_gh (by decide) (by decide) (by show ((Int32.ofInt (yV M 1 1 x0.toInt.toNat)) : Int32).toInt = yV M 0 1 x0.toInt.toNat + 0; rw [yV_i32]; omega), hF1_gh (by decide) (by decide) (by show ((Int32.ofInt (yV M 0 2 x0.toInt.toNat)) : Int32).toInt = yV M 0 2 x0.toInt.toNat + 0; rw [yV_i32]; omega), hF1_gh (by decide) (by decide) (by show ((Int32.ofInt (yV M 1 2 x0.toInt.toNat)) : Int32).toInt = yV M 0 2 x0.toInt.toNat + 0; rw [yV_i32]; omega), hF1_gh (by decide) (by decide) (by show ((Int32.ofInt (yV M 0 3 x0.toInt.toNat)) : Int32).toInt = yV M 0 3 x0.toInt.toNat + 0; rw [yV_i32]; omega), hF1_gh (by decide) (by decide) (by show ((Int32.ofInt (yV M 1 3 x0.toInt.toNat)) : Int32).toInt = yV M 0 3 x0.toInt.toNat + 0; rw [yV_i32]; omega), hF1_gh (by decide) (by decide) (by show ((Int32.ofInt (yV M 0 4 x0.toInt.toNat)) : Int32).toInt = yV M 0 4 x0.toInt.toNat + 0; rw [yV_i32]; omega), hF1_gh (by decide) (by decide) (by show ((Int32.ofInt (yV M 1 4 x0.toInt.toNat)) : Int32).toInt = yV M 0 4 x0.toInt.toNat + 0; rw [yV_i32]; omega), hF1_gh (by decide) (by decide) (by show ((Int32.ofInt (yV M 0 5 x0.toInt.toNat)) : Int32).toInt = yV M 0 5 x0.toInt.toNat + 0; rw [yV_i32]; omega), hF1_gh (by decide) (by decide) (by show ((Int32.ofInt (yV M 1 5 x0.toInt.toNat)) : Int32).toInt = yV M 0 5 x0.toInt.toNat + 0; rw [yV_i32]; omega), hF1_gh (by decide) (by decide) (by show ((Int32.ofInt (yV M 0 6 x0.toInt.toNat)) : Int32).toInt = yV M 0 6 x0.toInt.toNat + 0; rw [yV_i32]; omega), hF1_gh (by decide) (by decide) (by show ((Int32.ofInt (yV M 1 6 x0.toInt.toNat)) : Int32).toInt = yV M 0 6 x0.toInt.toNat + 0; rw [yV_i32]; omega), hF1_gh (by decide) (by decide) (by show ((Int32.ofInt (yV M 0 7 x0.toInt.toNat)) : Int32).toInt = σ 0 + 1000000; rw [yV_i32]; omega), hF1_gh (by decide) (by decide) (by show ((Int32.ofInt (yV M 1 7 x0.toInt.toNat)) : Int32).toInt = σ 0 + (-1); rw [yV_i32]; omega), hF1_gh (by decide) (by decide) (by show ((Int32.ofInt (yV M 0 8 x0.toInt.toNat)) : Int32).toInt = σ 0 + (-1); rw [yV_i32]; omega), hF1_gh (by decide) (by decide) (by show ((Int32.ofInt (yV M 1 8 x0.toInt.toNat)) : Int32).toInt = σ 0 + (-1); rw [yV_i32]; omega), hF1_gh (by decide) (by decide) (by show ((Int32.ofInt (yV M 0 9 x0.toInt.toNat)) : Int32).toInt = σ 0 + 0; rw [yV_i32]; omega), hF1_gh (by decide) (by decide) (by show ((Int32.ofInt (yV M 1 9 x0.toInt.toNat)) : Int32).toInt = σ 0 + 0; rw [yV_i32]; omega), True.intro⟩ ⟨⟨by decide, _, rfl, by show (x : Int32).toInt = σ 0 + (-1); omega⟩, True.intro⟩ (fin9 hA.2.2.2 hT (gUs_lt (opL x0 (yV M) x0.toInt.toNat) rfl (fun _ _ _ => rfl)) rfl ⟨hx.1, y9_op hx.2 (by omega) (by omega) (by omega)⟩)
  · have m8p := m8n (by omega)
    refine k (gUs γ (opL x0 (yV M) x0.toInt.toNat)) (aUp (aUp (aUp (aUp (aUp (aUp (aUp (aUp (aUp (aUp σ 3 (yV M 0 0 x0.toInt.toNat)) 4 (yV M 0 1 x0.toInt.toNat)) 5 (yV M 0 2 x0.toInt.toNat)) 6 (yV M 0 3 x0.toInt.toNat)) 7 (yV M 0 4 x0.toInt.toNat)) 8 (yV M 0 5 x0.toInt.toNat)) 9 (yV M 0 6 x0.toInt.toNat)) 10 (yV M 0 7 x0.toInt.toNat)) 11 (yV M 0 8 x0.toInt.toNat)) 12 (yV M 0 9 x0.toInt.toNat)) _ L [.int x] M (List.Mem.tail _ (List.Mem.head _)) (fun _ _ => rfl) aFr.rf (gUs_fr (opL x0 (yV M) x0.toInt.toNat) rfl gFr.rf) (aExt.tr (aExt.tr (aExt.tr (aExt.tr (aExt.tr (aExt.tr (aExt.tr (aExt.tr (aExt.tr aUp_ext aUp_ext (by show 3 ≤ 4; decide)) aUp_ext (by show 3 ≤ 5; decide)) aUp_ext (by show 3 ≤ 6; decide)) aUp_ext (by show 3 ≤ 7; decide)) aUp_ext (by show 3 ≤ 8; decide)) aUp_ext (by show 3 ≤ 9; decide)) aUp_ext (by show 3 ≤ 10; decide)) aUp_ext (by show 3 ≤ 11; decide)) aUp_ext (by show 3 ≤ 12; decide)) ?_
    exact mkHold9 (by decide) s0 ⟨b00 s0, b1, b2, ⟨by show (0 : Int) ≤ yV M 0 0 x0.toInt.toNat; omega, by show yV M 0 0 x0.toInt.toNat ≤ 9; omega⟩, ⟨by show (0 : Int) ≤ yV M 0 1 x0.toInt.toNat; omega, by show yV M 0 1 x0.toInt.toNat ≤ 9; omega⟩, ⟨by show (-2147483648 : Int) ≤ yV M 0 2 x0.toInt.toNat; omega, by show yV M 0 2 x0.toInt.toNat ≤ 2147483647; omega⟩, ⟨by show (0 : Int) ≤ yV M 0 3 x0.toInt.toNat; omega, by show yV M 0 3 x0.toInt.toNat ≤ 999; omega⟩, ⟨by show (0 : Int) ≤ yV M 0 4 x0.toInt.toNat; omega, by show yV M 0 4 x0.toInt.toNat ≤ 2; omega⟩, ⟨by show (0 : Int) ≤ yV M 0 5 x0.toInt.toNat; omega, by show yV M 0 5 x0.toInt.toNat ≤ 9999; omega⟩, ⟨by show (0 : Int) ≤ yV M 0 6 x0.toInt.toNat; omega, by show yV M 0 6 x0.toInt.toNat ≤ 1; omega⟩, ⟨by show (0 : Int) ≤ yV M 0 7 x0.toInt.toNat; omega, by show yV M 0 7 x0.toInt.toNat ≤ 1006; omega⟩, ⟨by show (0 : Int) ≤ yV M 0 8 x0.toInt.toNat; omega, by show yV M 0 8 x0.toInt.toNat ≤ 9; omega⟩, ⟨by show (0 : Int) ≤ yV M 0 9 x0.toInt.toNat; omega, by show yV M 0 9 x0.toInt.toNat ≤ 16383; omega⟩, True.intro⟩ True.intro ⟨hF1_gh (by decide) (by decide) (by show (x0 : Int32).toInt = σ 1 + 0; omega), hF1_gh (by decide) (by decide) (by show (1 : Int) = σ 0 + 1; omega), hF1_gh (by decide) (by decide) (by show ((Int32.ofInt (yV M 0 0 x0.toInt.toNat)) : Int32).toInt = yV M 0 0 x0.toInt.toNat + 0; rw [yV_i32]; omega), hF1_gh (by decide) (by decide) (by show ((Int32.ofInt (yV M 1 0 x0.toInt.toNat)) : Int32).toInt = yV M 0 0 x0.toInt.toNat + 0; rw [yV_i32]; omega), hF1_gh (by decide) (by decide) (by show ((Int32.ofInt (yV M 0 1 x0.toInt.toNat)) : Int32).toInt = yV M 0 1 x0.toInt.toNat + 0; rw [yV_i32]; omega), hF1_gh (by decide) (by decide) (by show ((Int32.ofInt (yV M 1 1 x0.toInt.toNat)) : Int32).toInt = yV M 0 1 x0.toInt.toNat + 0; rw [yV_i32]; omega), hF1_gh (by decide) (by decide) (by show ((Int32.ofInt (yV M 0 2 x0.toInt.toNat)) : Int32).toInt = yV M 0 2 x0.toInt.toNat + 0; rw [yV_i32]; omega), hF1_gh (by decide) (by decide) (by show ((Int32.ofInt (yV M 1 2 x0.toInt.toNat)) : Int32).toInt = yV M 0 2 x0.toInt.toNat + 0; rw [yV_i32]; omega), hF1_gh (by decide) (by decide) (by show ((Int32.ofInt (yV M 0 3 x0.toInt.toNat)) : Int32).toInt = yV M 0 3 x0.toInt.toNat + 0; rw [yV_i32]; omega), hF1_gh (by decide) (by decide) (by show ((Int32.ofInt (yV M 1 3 x0.toInt.toNat)) : Int32).toInt = yV M 0 3 x0.toInt.toNat + 0; rw [yV_i32]; omega), hF1_gh (by decide) (by decide) (by show ((Int32.ofInt (yV M 0 4 x0.toInt.toNat)) : Int32).toInt = yV M 0 4 x0.toInt.toNat + 0; rw [yV_i32]; omega), hF1_gh (by decide) (by decide) (by show ((Int32.ofInt (yV M 1 4 x0.toInt.toNat)) : Int32).toInt = yV M 0 4 x0.toInt.toNat + 0; rw [yV_i32]; omega), hF1_gh (by decide) (by decide) (by show ((Int32.ofInt (yV M 0 5 x0.toInt.toNat)) : Int32).toInt = yV M 0 5 x0.toInt.toNat + 0; rw [yV_i32]; omega), hF1_gh (by decide) (by decide) (by show ((Int32.ofInt (yV M 1 5 x0.toInt.toNat)) : Int32).toInt = yV M 0 5 x0.toInt.toNat + 0; rw [yV_i32]; omega), hF1_gh (by decide) (by decide) (by show ((Int32.ofInt (yV M 0 6 x0.toInt.toNat)) : Int32).toInt = yV M 0 6 x0.toInt.toNat + 0; rw [yV_i32]; omega), hF1_gh (by decide) (by decide) (by show ((Int32.ofInt (yV M 1 6 x0.toInt.toNat)) : Int32).toInt = yV M 0 6 x0.toInt.toNat + 0; rw [yV_i32]; omega), hF1_gh (by decide) (by decide) (by show ((Int32.ofInt (yV M 0 7 x0.toInt.toNat)) : Int32).toInt = yV M 0 7 x0.toInt.toNat + 0; rw [yV_i32]; omega), hF1_gh (by decide) (by decide) (by show ((Int32.ofInt (yV M 1 7 x0.toInt.toNat)) : Int32).toInt = yV M 0 7 x0.toInt.toNat + 0; rw [yV_i32]; omega), hF1_gh (by decide) (by decide) (by show ((Int32.ofInt (yV M 0 8 x0.toInt.toNat)) : Int32).toInt = yV M 0 8 x0.toInt.toNat + 0; rw [yV_i32]; omega), hF1_gh (by decide) (by decide) (by show ((Int32.ofInt (yV M 1 8 x0.toInt.toNat)) : Int32).toInt = yV M 0 8 x0.toInt.toNat + 0; rw [yV_i32]; omega), hF1_gh (by decide) (by decide) (by show ((Int32.ofInt (yV M 0 9 x0.toInt.toNat)) : Int32).toInt = yV M 0 9 x0.toInt.toNat + 0; rw [yV_i32]; omega), hF1_gh (by decide) (by decide) (by show ((Int32.ofInt (yV M 1 9 x0.toInt.toNat)) : Int32).toInt = yV M 0 9 x0.toInt.toNat + 0; rw [yV_i32]; omega), True.intro⟩ ⟨⟨by decide, _, rfl, by show (x : Int32).toInt = yV M 0 7 x0.toInt.toNat + 0; omega⟩, True.intro⟩ (fin9 hA.2.2.2 hT (gUs_lt (opL x0 (yV M) x0.toInt.toNat) rfl (fun _ _ _ => rfl)) rfl ⟨hx.1, y9_op hx.2 (by omega) (by omega) (by omega)⟩)
theorem gt_rs2 {s : List Int32} {mi pc : Nat} (hat : mAt mi pc = some (1, .iastore)) : gSound9 s (mi, pc, pc + 1, 0, (([(.ofNat 0, .ofNat 0), (.negSucc 2147483647, .ofNat 2147483647), (.ofNat 0, .ofNat 39)], [], [], [(1030, 1, (1, 2, .ofNat 0)), (1030, 2, (1, 0, .ofNat 1))]), [], [(1, 1, .ofNat 0), (1, 2, .ofNat 0), (2, 187, .ofNat 0)]), [(([(.ofNat 0, .ofNat 0), (.negSucc 2147483647, .ofNat 2147483647), (.ofNat 0, .ofNat 39)], [], [], [(1032, 2, (1, 1, .ofNat 0))]), [], [])], [(187, 0), (1032, 2)], []) := by
  intro γ d σ L st0 st M Q _ hA k
  have h := aHold_0 hA
  obtain ⟨w0, w1, w2, rfl, g0, g1, g2⟩ := eS3 h
  obtain ⟨x0, rfl, ex0⟩ := gI g0
  have ex0 : x0.toInt = σ 1 + 0 := ex0
  obtain ⟨x1, rfl, ex1⟩ := gI g1
  have ex1 : x1.toInt = σ 2 + 0 := ex1
  have e2 := gR g2 rfl
  subst e2
  have q30_1 : (γ 1030 1).toInt = σ 2 + 0 := eG h (g := 1030) (i := 1) (sy := 2) (c := 0) (by decide) (List.Mem.head _)
  have q30_2 : (γ 1030 2).toInt = σ 0 + 1 := eG h (g := 1030) (i := 2) (sy := 0) (c := 1) (by decide) (List.Mem.tail _ (List.Mem.head _))
  have b1 := eB h (i := 1) (lo := (-2147483648)) (hi := 2147483647) rfl
  have b2 := eB h (i := 2) (lo := 0) (hi := 39) rfl
  have s0 := h.1.2.1.1
  have hx : x9 γ M := hA.2.2.2.1.2.2
  have hT := aTp_of h.2.2.2
  have hd : x1.toInt.toNat < 40 := by omega
  have ed : (γ 1030 1).toInt.toNat = x1.toInt.toNat := by omega
  have hy := y9_p1 (f := 2) (x := x0) hx.2 (show (γ 1030 2).toInt = 1 by omega)
  rw [ed] at hy
  refine kIast (n := 40) hat (hT.hd (c := 187) (by decide) (by decide)) (by decide) (by omega) (by show x1.toInt < 40; omega) ?_
  refine k (gUs γ [(1032, 2, x0)]) σ _ L [] (mPut M 187 x1.toInt.toNat (.int x0)) (List.Mem.head _) (fun _ _ => rfl) (frR (f := 2) (by decide) rfl) (gUs_fr [(1032, 2, x0)] rfl gFr.rf) aExt.rf ?_
  exact mkHold9 (by decide) s0 ⟨b00 s0, b1, b2, True.intro⟩ True.intro ⟨hF1_gh (by decide) (by decide) (by show (x0 : Int32).toInt = σ 1 + 0; omega), True.intro⟩ True.intro (putR hA.2.2.2 hd (f := 2) (by decide) (by show (-2147483648 : Int) ≤ x0.toInt; omega) (by show x0.toInt ≤ 2147483647; omega) (gUs_lt [(1032, 2, x0)] rfl (fun _ _ _ => rfl)) hy)
theorem gt_rs3 {s : List Int32} {mi pc : Nat} (hat : mAt mi pc = some (1, .iastore)) : gSound9 s (mi, pc, pc + 1, 0, (([(.ofNat 0, .ofNat 0), (.ofNat 0, .ofNat 999), (.ofNat 0, .ofNat 39)], [], [], [(1030, 1, (1, 2, .ofNat 0)), (1030, 2, (1, 0, .ofNat 1))]), [], [(1, 1, .ofNat 0), (1, 2, .ofNat 0), (2, 188, .ofNat 0)]), [(([(.ofNat 0, .ofNat 0), (.ofNat 0, .ofNat 999), (.ofNat 0, .ofNat 39)], [], [], [(1032, 3, (1, 1, .ofNat 0))]), [], [])], [(188, 0), (1032, 3)], []) := by
  intro γ d σ L st0 st M Q _ hA k
  have h := aHold_0 hA
  obtain ⟨w0, w1, w2, rfl, g0, g1, g2⟩ := eS3 h
  obtain ⟨x0, rfl, ex0⟩ := gI g0
  have ex0 : x0.toInt = σ 1 + 0 := ex0
  obtain ⟨x1, rfl, ex1⟩ := gI g1
  have ex1 : x1.toInt = σ 2 + 0 := ex1
  have e2 := gR g2 rfl
  subst e2
  have q30_1 : (γ 1030 1).toInt = σ 2 + 0 := eG h (g := 1030) (i := 1) (sy := 2) (c := 0) (by decide) (List.Mem.head _)
  have q30_2 : (γ 1030 2).toInt = σ 0 + 1 := eG h (g := 1030) (i := 2) (sy := 0) (c := 1) (by decide) (List.Mem.tail _ (List.Mem.head _))
  have b1 := eB h (i := 1) (lo := 0) (hi := 999) rfl
  have b2 := eB h (i := 2) (lo := 0) (hi := 39) rfl
  have s0 := h.1.2.1.1
  have hx : x9 γ M := hA.2.2.2.1.2.2
  have hT := aTp_of h.2.2.2
  have hd : x1.toInt.toNat < 40 := by omega
  have ed : (γ 1030 1).toInt.toNat = x1.toInt.toNat := by omega
  have hy := y9_p1 (f := 3) (x := x0) hx.2 (show (γ 1030 2).toInt = 1 by omega)
  rw [ed] at hy
  refine kIast (n := 40) hat (hT.hd (c := 188) (by decide) (by decide)) (by decide) (by omega) (by show x1.toInt < 40; omega) ?_
  refine k (gUs γ [(1032, 3, x0)]) σ _ L [] (mPut M 188 x1.toInt.toNat (.int x0)) (List.Mem.head _) (fun _ _ => rfl) (frR (f := 3) (by decide) rfl) (gUs_fr [(1032, 3, x0)] rfl gFr.rf) aExt.rf ?_
  exact mkHold9 (by decide) s0 ⟨b00 s0, b1, b2, True.intro⟩ True.intro ⟨hF1_gh (by decide) (by decide) (by show (x0 : Int32).toInt = σ 1 + 0; omega), True.intro⟩ True.intro (putR hA.2.2.2 hd (f := 3) (by decide) (by show (0 : Int) ≤ x0.toInt; omega) (by show x0.toInt ≤ 999; omega) (gUs_lt [(1032, 3, x0)] rfl (fun _ _ _ => rfl)) hy)
theorem gt_rs4 {s : List Int32} {mi pc : Nat} (hat : mAt mi pc = some (1, .iastore)) : gSound9 s (mi, pc, pc + 1, 0, (([(.ofNat 0, .ofNat 0), (.ofNat 0, .ofNat 2), (.ofNat 0, .ofNat 39)], [], [], [(1030, 1, (1, 2, .ofNat 0)), (1030, 2, (1, 0, .ofNat 1))]), [], [(1, 1, .ofNat 0), (1, 2, .ofNat 0), (2, 189, .ofNat 0)]), [(([(.ofNat 0, .ofNat 0), (.ofNat 0, .ofNat 2), (.ofNat 0, .ofNat 39)], [], [], [(1032, 4, (1, 1, .ofNat 0))]), [], [])], [(189, 0), (1032, 4)], []) := by
  intro γ d σ L st0 st M Q _ hA k
  have h := aHold_0 hA
  obtain ⟨w0, w1, w2, rfl, g0, g1, g2⟩ := eS3 h
  obtain ⟨x0, rfl, ex0⟩ := gI g0
  have ex0 : x0.toInt = σ 1 + 0 := ex0
  obtain ⟨x1, rfl, ex1⟩ := gI g1
  have ex1 : x1.toInt = σ 2 + 0 := ex1
  have e2 := gR g2 rfl
  subst e2
  have q30_1 : (γ 1030 1).toInt = σ 2 + 0 := eG h (g := 1030) (i := 1) (sy := 2) (c := 0) (by decide) (List.Mem.head _)
  have q30_2 : (γ 1030 2).toInt = σ 0 + 1 := eG h (g := 1030) (i := 2) (sy := 0) (c := 1) (by decide) (List.Mem.tail _ (List.Mem.head _))
  have b1 := eB h (i := 1) (lo := 0) (hi := 2) rfl
  have b2 := eB h (i := 2) (lo := 0) (hi := 39) rfl
  have s0 := h.1.2.1.1
  have hx : x9 γ M := hA.2.2.2.1.2.2
  have hT := aTp_of h.2.2.2
  have hd : x1.toInt.toNat < 40 := by omega
  have ed : (γ 1030 1).toInt.toNat = x1.toInt.toNat := by omega
  have hy := y9_p1 (f := 4) (x := x0) hx.2 (show (γ 1030 2).toInt = 1 by omega)
  rw [ed] at hy
  refine kIast (n := 40) hat (hT.hd (c := 189) (by decide) (by decide)) (by decide) (by omega) (by show x1.toInt < 40; omega) ?_
  refine k (gUs γ [(1032, 4, x0)]) σ _ L [] (mPut M 189 x1.toInt.toNat (.int x0)) (List.Mem.head _) (fun _ _ => rfl) (frR (f := 4) (by decide) rfl) (gUs_fr [(1032, 4, x0)] rfl gFr.rf) aExt.rf ?_
  exact mkHold9 (by decide) s0 ⟨b00 s0, b1, b2, True.intro⟩ True.intro ⟨hF1_gh (by decide) (by decide) (by show (x0 : Int32).toInt = σ 1 + 0; omega), True.intro⟩ True.intro (putR hA.2.2.2 hd (f := 4) (by decide) (by show (0 : Int) ≤ x0.toInt; omega) (by show x0.toInt ≤ 2; omega) (gUs_lt [(1032, 4, x0)] rfl (fun _ _ _ => rfl)) hy)
theorem gt_rs5 {s : List Int32} {mi pc : Nat} (hat : mAt mi pc = some (1, .iastore)) : gSound9 s (mi, pc, pc + 1, 0, (([(.ofNat 0, .ofNat 0), (.ofNat 0, .ofNat 9999), (.ofNat 0, .ofNat 39)], [], [], [(1030, 1, (1, 2, .ofNat 0)), (1030, 2, (1, 0, .ofNat 1))]), [], [(1, 1, .ofNat 0), (1, 2, .ofNat 0), (2, 190, .ofNat 0)]), [(([(.ofNat 0, .ofNat 0), (.ofNat 0, .ofNat 9999), (.ofNat 0, .ofNat 39)], [], [], [(1032, 5, (1, 1, .ofNat 0))]), [], [])], [(190, 0), (1032, 5)], []) := by
  intro γ d σ L st0 st M Q _ hA k
  have h := aHold_0 hA
  obtain ⟨w0, w1, w2, rfl, g0, g1, g2⟩ := eS3 h
  obtain ⟨x0, rfl, ex0⟩ := gI g0
  have ex0 : x0.toInt = σ 1 + 0 := ex0
  obtain ⟨x1, rfl, ex1⟩ := gI g1
  have ex1 : x1.toInt = σ 2 + 0 := ex1
  have e2 := gR g2 rfl
  subst e2
  have q30_1 : (γ 1030 1).toInt = σ 2 + 0 := eG h (g := 1030) (i := 1) (sy := 2) (c := 0) (by decide) (List.Mem.head _)
  have q30_2 : (γ 1030 2).toInt = σ 0 + 1 := eG h (g := 1030) (i := 2) (sy := 0) (c := 1) (by decide) (List.Mem.tail _ (List.Mem.head _))
  have b1 := eB h (i := 1) (lo := 0) (hi := 9999) rfl
  have b2 := eB h (i := 2) (lo := 0) (hi := 39) rfl
  have s0 := h.1.2.1.1
  have hx : x9 γ M := hA.2.2.2.1.2.2
  have hT := aTp_of h.2.2.2
  have hd : x1.toInt.toNat < 40 := by omega
  have ed : (γ 1030 1).toInt.toNat = x1.toInt.toNat := by omega
  have hy := y9_p1 (f := 5) (x := x0) hx.2 (show (γ 1030 2).toInt = 1 by omega)
  rw [ed] at hy
  refine kIast (n := 40) hat (hT.hd (c := 190) (by decide) (by decide)) (by decide) (by omega) (by show x1.toInt < 40; omega) ?_
  refine k (gUs γ [(1032, 5, x0)]) σ _ L [] (mPut M 190 x1.toInt.toNat (.int x0)) (List.Mem.head _) (fun _ _ => rfl) (frR (f := 5) (by decide) rfl) (gUs_fr [(1032, 5, x0)] rfl gFr.rf) aExt.rf ?_
  exact mkHold9 (by decide) s0 ⟨b00 s0, b1, b2, True.intro⟩ True.intro ⟨hF1_gh (by decide) (by decide) (by show (x0 : Int32).toInt = σ 1 + 0; omega), True.intro⟩ True.intro (putR hA.2.2.2 hd (f := 5) (by decide) (by show (0 : Int) ≤ x0.toInt; omega) (by show x0.toInt ≤ 9999; omega) (gUs_lt [(1032, 5, x0)] rfl (fun _ _ _ => rfl)) hy)
theorem gt_rs7 {s : List Int32} {mi pc : Nat} (hat : mAt mi pc = some (1, .iastore)) : gSound9 s (mi, pc, pc + 1, 0, (([(.ofNat 0, .ofNat 0), (.negSucc 0, .ofNat 1006), (.ofNat 0, .ofNat 39)], [], [], [(1030, 1, (1, 2, .ofNat 0)), (1030, 2, (1, 0, .ofNat 1))]), [], [(1, 1, .ofNat 0), (1, 2, .ofNat 0), (2, 191, .ofNat 0)]), [(([(.ofNat 0, .ofNat 0), (.negSucc 0, .ofNat 1006), (.ofNat 0, .ofNat 39)], [], [], [(1032, 7, (1, 1, .ofNat 0))]), [], [])], [(191, 0), (1032, 7)], []) := by
  intro γ d σ L st0 st M Q _ hA k
  have h := aHold_0 hA
  obtain ⟨w0, w1, w2, rfl, g0, g1, g2⟩ := eS3 h
  obtain ⟨x0, rfl, ex0⟩ := gI g0
  have ex0 : x0.toInt = σ 1 + 0 := ex0
  obtain ⟨x1, rfl, ex1⟩ := gI g1
  have ex1 : x1.toInt = σ 2 + 0 := ex1
  have e2 := gR g2 rfl
  subst e2
  have q30_1 : (γ 1030 1).toInt = σ 2 + 0 := eG h (g := 1030) (i := 1) (sy := 2) (c := 0) (by decide) (List.Mem.head _)
  have q30_2 : (γ 1030 2).toInt = σ 0 + 1 := eG h (g := 1030) (i := 2) (sy := 0) (c := 1) (by decide) (List.Mem.tail _ (List.Mem.head _))
  have b1 := eB h (i := 1) (lo := (-1)) (hi := 1006) rfl
  have b2 := eB h (i := 2) (lo := 0) (hi := 39) rfl
  have s0 := h.1.2.1.1
  have hx : x9 γ M := hA.2.2.2.1.2.2
  have hT := aTp_of h.2.2.2
  have hd : x1.toInt.toNat < 40 := by omega
  have ed : (γ 1030 1).toInt.toNat = x1.toInt.toNat := by omega
  have hy := y9_p1 (f := 7) (x := x0) hx.2 (show (γ 1030 2).toInt = 1 by omega)
  rw [ed] at hy
  refine kIast (n := 40) hat (hT.hd (c := 191) (by decide) (by decide)) (by decide) (by omega) (by show x1.toInt < 40; omega) ?_
  refine k (gUs γ [(1032, 7, x0)]) σ _ L [] (mPut M 191 x1.toInt.toNat (.int x0)) (List.Mem.head _) (fun _ _ => rfl) (frR (f := 7) (by decide) rfl) (gUs_fr [(1032, 7, x0)] rfl gFr.rf) aExt.rf ?_
  exact mkHold9 (by decide) s0 ⟨b00 s0, b1, b2, True.intro⟩ True.intro ⟨hF1_gh (by decide) (by decide) (by show (x0 : Int32).toInt = σ 1 + 0; omega), True.intro⟩ True.intro (putR hA.2.2.2 hd (f := 7) (by decide) (by show (-1 : Int) ≤ x0.toInt; omega) (by show x0.toInt ≤ 1006; omega) (gUs_lt [(1032, 7, x0)] rfl (fun _ _ _ => rfl)) hy)
theorem gt_rs8 {s : List Int32} {mi pc : Nat} (hat : mAt mi pc = some (1, .iastore)) : gSound9 s (mi, pc, pc + 1, 0, (([(.ofNat 0, .ofNat 0), (.negSucc 0, .ofNat 9), (.ofNat 0, .ofNat 39)], [], [], [(1030, 1, (1, 2, .ofNat 0)), (1030, 2, (1, 0, .ofNat 1))]), [], [(1, 1, .ofNat 0), (1, 2, .ofNat 0), (2, 192, .ofNat 0)]), [(([(.ofNat 0, .ofNat 0), (.negSucc 0, .ofNat 9), (.ofNat 0, .ofNat 39)], [], [], [(1032, 8, (1, 1, .ofNat 0))]), [], [])], [(192, 0), (1032, 8)], []) := by
  intro γ d σ L st0 st M Q _ hA k
  have h := aHold_0 hA
  obtain ⟨w0, w1, w2, rfl, g0, g1, g2⟩ := eS3 h
  obtain ⟨x0, rfl, ex0⟩ := gI g0
  have ex0 : x0.toInt = σ 1 + 0 := ex0
  obtain ⟨x1, rfl, ex1⟩ := gI g1
  have ex1 : x1.toInt = σ 2 + 0 := ex1
  have e2 := gR g2 rfl
  subst e2
  have q30_1 : (γ 1030 1).toInt = σ 2 + 0 := eG h (g := 1030) (i := 1) (sy := 2) (c := 0) (by decide) (List.Mem.head _)
  have q30_2 : (γ 1030 2).toInt = σ 0 + 1 := eG h (g := 1030) (i := 2) (sy := 0) (c := 1) (by decide) (List.Mem.tail _ (List.Mem.head _))
  have b1 := eB h (i := 1) (lo := (-1)) (hi := 9) rfl
  have b2 := eB h (i := 2) (lo := 0) (hi := 39) rfl
  have s0 := h.1.2.1.1
  have hx : x9 γ M := hA.2.2.2.1.2.2
  have hT := aTp_of h.2.2.2
  have hd : x1.toInt.toNat < 40 := by omega
  have ed : (γ 1030 1).toInt.toNat = x1.toInt.toNat := by omega
  have hy := y9_p1 (f := 8) (x := x0) hx.2 (show (γ 1030 2).toInt = 1 by omega)
  rw [ed] at hy
  refine kIast (n := 40) hat (hT.hd (c := 192) (by decide) (by decide)) (by decide) (by omega) (by show x1.toInt < 40; omega) ?_
  refine k (gUs γ [(1032, 8, x0)]) σ _ L [] (mPut M 192 x1.toInt.toNat (.int x0)) (List.Mem.head _) (fun _ _ => rfl) (frR (f := 8) (by decide) rfl) (gUs_fr [(1032, 8, x0)] rfl gFr.rf) aExt.rf ?_
  exact mkHold9 (by decide) s0 ⟨b00 s0, b1, b2, True.intro⟩ True.intro ⟨hF1_gh (by decide) (by decide) (by show (x0 : Int32).toInt = σ 1 + 0; omega), True.intro⟩ True.intro (putR hA.2.2.2 hd (f := 8) (by decide) (by show (-1 : Int) ≤ x0.toInt; omega) (by show x0.toInt ≤ 9; omega) (gUs_lt [(1032, 8, x0)] rfl (fun _ _ _ => rfl)) hy)
theorem gt_rs9 {s : List Int32} {mi pc : Nat} (hat : mAt mi pc = some (1, .iastore)) : gSound9 s (mi, pc, pc + 1, 0, (([(.ofNat 0, .ofNat 0), (.ofNat 0, .ofNat 16383), (.ofNat 0, .ofNat 39)], [], [], [(1030, 1, (1, 2, .ofNat 0)), (1030, 2, (1, 0, .ofNat 1))]), [], [(1, 1, .ofNat 0), (1, 2, .ofNat 0), (2, 193, .ofNat 0)]), [(([(.ofNat 0, .ofNat 0), (.ofNat 0, .ofNat 16383), (.ofNat 0, .ofNat 39)], [], [], [(1032, 9, (1, 1, .ofNat 0))]), [], [])], [(193, 0), (1032, 9)], []) := by
  intro γ d σ L st0 st M Q _ hA k
  have h := aHold_0 hA
  obtain ⟨w0, w1, w2, rfl, g0, g1, g2⟩ := eS3 h
  obtain ⟨x0, rfl, ex0⟩ := gI g0
  have ex0 : x0.toInt = σ 1 + 0 := ex0
  obtain ⟨x1, rfl, ex1⟩ := gI g1
  have ex1 : x1.toInt = σ 2 + 0 := ex1
  have e2 := gR g2 rfl
  subst e2
  have q30_1 : (γ 1030 1).toInt = σ 2 + 0 := eG h (g := 1030) (i := 1) (sy := 2) (c := 0) (by decide) (List.Mem.head _)
  have q30_2 : (γ 1030 2).toInt = σ 0 + 1 := eG h (g := 1030) (i := 2) (sy := 0) (c := 1) (by decide) (List.Mem.tail _ (List.Mem.head _))
  have b1 := eB h (i := 1) (lo := 0) (hi := 16383) rfl
  have b2 := eB h (i := 2) (lo := 0) (hi := 39) rfl
  have s0 := h.1.2.1.1
  have hx : x9 γ M := hA.2.2.2.1.2.2
  have hT := aTp_of h.2.2.2
  have hd : x1.toInt.toNat < 40 := by omega
  have ed : (γ 1030 1).toInt.toNat = x1.toInt.toNat := by omega
  have hy := y9_p1 (f := 9) (x := x0) hx.2 (show (γ 1030 2).toInt = 1 by omega)
  rw [ed] at hy
  refine kIast (n := 40) hat (hT.hd (c := 193) (by decide) (by decide)) (by decide) (by omega) (by show x1.toInt < 40; omega) ?_
  refine k (gUs γ [(1032, 9, x0)]) σ _ L [] (mPut M 193 x1.toInt.toNat (.int x0)) (List.Mem.head _) (fun _ _ => rfl) (frR (f := 9) (by decide) rfl) (gUs_fr [(1032, 9, x0)] rfl gFr.rf) aExt.rf ?_
  exact mkHold9 (by decide) s0 ⟨b00 s0, b1, b2, True.intro⟩ True.intro ⟨hF1_gh (by decide) (by decide) (by show (x0 : Int32).toInt = σ 1 + 0; omega), True.intro⟩ True.intro (putR hA.2.2.2 hd (f := 9) (by decide) (by show (0 : Int) ≤ x0.toInt; omega) (by show x0.toInt ≤ 16383; omega) (gUs_lt [(1032, 9, x0)] rfl (fun _ _ _ => rfl)) hy)
theorem gt_rs6 {s : List Int32} {mi pc : Nat} (hat : mAt mi pc = some (1, .bastore)) : gSound9 s (mi, pc, pc + 1, 0, (([(.ofNat 0, .ofNat 0), (.ofNat 0, .ofNat 1), (.ofNat 0, .ofNat 39)], [], [], [(1030, 1, (1, 2, .ofNat 0)), (1030, 2, (1, 0, .ofNat 1))]), [], [(1, 1, .ofNat 0), (1, 2, .ofNat 0), (2, 194, .ofNat 0)]), [(([(.ofNat 0, .ofNat 0), (.ofNat 0, .ofNat 1), (.ofNat 0, .ofNat 39)], [], [], [(1032, 6, (1, 1, .ofNat 0))]), [], [])], [(194, 0), (1032, 6)], []) := by
  intro γ d σ L st0 st M Q _ hA k
  have h := aHold_0 hA
  obtain ⟨w0, w1, w2, rfl, g0, g1, g2⟩ := eS3 h
  obtain ⟨x0, rfl, ex0⟩ := gI g0
  have ex0 : x0.toInt = σ 1 + 0 := ex0
  obtain ⟨x1, rfl, ex1⟩ := gI g1
  have ex1 : x1.toInt = σ 2 + 0 := ex1
  have e2 := gR g2 rfl
  subst e2
  have q30_1 : (γ 1030 1).toInt = σ 2 + 0 := eG h (g := 1030) (i := 1) (sy := 2) (c := 0) (by decide) (List.Mem.head _)
  have q30_2 : (γ 1030 2).toInt = σ 0 + 1 := eG h (g := 1030) (i := 2) (sy := 0) (c := 1) (by decide) (List.Mem.tail _ (List.Mem.head _))
  have b1 := eB h (i := 1) (lo := 0) (hi := 1) rfl
  have b2 := eB h (i := 2) (lo := 0) (hi := 39) rfl
  have s0 := h.1.2.1.1
  have hx : x9 γ M := hA.2.2.2.1.2.2
  have hT := aTp_of h.2.2.2
  have hd : x1.toInt.toNat < 40 := by omega
  have ed : (γ 1030 1).toInt.toNat = x1.toInt.toNat := by omega
  have hy := y9_p1 (f := 6) (x := x0) hx.2 (show (γ 1030 2).toInt = 1 by omega)
  rw [ed] at hy
  refine kBast (n := 40) (z := x0) hat (hT.hd (c := 194) (by decide) (by decide)) (by decide) (by omega) (by show x1.toInt < 40; omega) (by rcases i32_zo (x := x0) (by omega) (by omega) with e | e <;> (rw [e]; rfl)) ?_
  refine k (gUs γ [(1032, 6, x0)]) σ _ L [] (mPut M 194 x1.toInt.toNat (.int x0)) (List.Mem.head _) (fun _ _ => rfl) (frR (f := 6) (by decide) rfl) (gUs_fr [(1032, 6, x0)] rfl gFr.rf) aExt.rf ?_
  exact mkHold9 (by decide) s0 ⟨b00 s0, b1, b2, True.intro⟩ True.intro ⟨hF1_gh (by decide) (by decide) (by show (x0 : Int32).toInt = σ 1 + 0; omega), True.intro⟩ True.intro (putR hA.2.2.2 hd (f := 6) (by decide) (by show (0 : Int) ≤ x0.toInt; omega) (by show x0.toInt ≤ 1; omega) (gUs_lt [(1032, 6, x0)] rfl (fun _ _ _ => rfl)) hy)
theorem gt_rs0 {s : List Int32} {mi pc : Nat} (hat : mAt mi pc = some (1, .iastore)) : gSound9 s (mi, pc, pc + 1, 0, (([(.ofNat 0, .ofNat 0), (.ofNat 0, .ofNat 9), (.ofNat 0, .ofNat 39)], [], [], [(1030, 1, (1, 2, .ofNat 0)), (1030, 2, (1, 0, .ofNat 1))]), [], [(1, 1, .ofNat 0), (1, 2, .ofNat 0), (2, 185, .ofNat 0)]), [(([(.ofNat 0, .ofNat 0), (.ofNat 0, .ofNat 9), (.ofNat 0, .ofNat 39)], [], [], [(1032, 0, (1, 1, .ofNat 0))]), [], [])], [(185, 0), (1032, 0)], []) := by
  intro γ d σ L st0 st M Q _ hA k
  have h := aHold_0 hA
  obtain ⟨w0, w1, w2, rfl, g0, g1, g2⟩ := eS3 h
  obtain ⟨x0, rfl, ex0⟩ := gI g0
  have ex0 : x0.toInt = σ 1 + 0 := ex0
  obtain ⟨x1, rfl, ex1⟩ := gI g1
  have ex1 : x1.toInt = σ 2 + 0 := ex1
  have e2 := gR g2 rfl
  subst e2
  have q30_1 : (γ 1030 1).toInt = σ 2 + 0 := eG h (g := 1030) (i := 1) (sy := 2) (c := 0) (by decide) (List.Mem.head _)
  have q30_2 : (γ 1030 2).toInt = σ 0 + 1 := eG h (g := 1030) (i := 2) (sy := 0) (c := 1) (by decide) (List.Mem.tail _ (List.Mem.head _))
  have b1 := eB h (i := 1) (lo := 0) (hi := 9) rfl
  have b2 := eB h (i := 2) (lo := 0) (hi := 39) rfl
  have s0 := h.1.2.1.1
  have hx : x9 γ M := hA.2.2.2.1.2.2
  have hT := aTp_of h.2.2.2
  have hd : x1.toInt.toNat < 40 := by omega
  have ed : (γ 1030 1).toInt.toNat = x1.toInt.toNat := by omega
  have hy := y9_p1 (f := 0) (x := x0) hx.2 (show (γ 1030 2).toInt = 1 by omega)
  rw [ed] at hy
  refine kIast (n := 40) hat (hT.hd (c := 185) (by decide) (by decide)) (by decide) (by omega) (by show x1.toInt < 40; omega) ?_
  refine k (gUs γ [(1032, 0, x0)]) σ _ L [] (mPut M 185 x1.toInt.toNat (.int x0)) (List.Mem.head _) (fun _ _ => rfl) (frR (f := 0) (by decide) rfl) (gUs_fr [(1032, 0, x0)] rfl gFr.rf) aExt.rf ?_
  exact mkHold9 (by decide) s0 ⟨b00 s0, b1, b2, True.intro⟩ True.intro ⟨hF1_gh (by decide) (by decide) (by show (x0 : Int32).toInt = σ 1 + 0; omega), True.intro⟩ True.intro (putR hA.2.2.2 hd (f := 0) (by decide) (by show (0 : Int) ≤ x0.toInt; omega) (by show x0.toInt ≤ 9; omega) (gUs_lt [(1032, 0, x0)] rfl (fun _ _ _ => rfl)) hy)
theorem gt_rs1 {s : List Int32} {mi pc : Nat} (hat : mAt mi pc = some (1, .iastore)) : gSound9 s (mi, pc, pc + 1, 0, (([(.ofNat 0, .ofNat 0), (.ofNat 0, .ofNat 9), (.ofNat 0, .ofNat 39)], [], [], [(1030, 1, (1, 2, .ofNat 0)), (1030, 2, (1, 0, .ofNat 1))]), [], [(1, 1, .ofNat 0), (1, 2, .ofNat 0), (2, 186, .ofNat 0)]), [(([(.ofNat 0, .ofNat 0), (.ofNat 0, .ofNat 9), (.ofNat 0, .ofNat 39)], [], [], [(1032, 1, (1, 1, .ofNat 0))]), [], [])], [(186, 0), (1032, 1)], []) := by
  intro γ d σ L st0 st M Q _ hA k
  have h := aHold_0 hA
  obtain ⟨w0, w1, w2, rfl, g0, g1, g2⟩ := eS3 h
  obtain ⟨x0, rfl, ex0⟩ := gI g0
  have ex0 : x0.toInt = σ 1 + 0 := ex0
  obtain ⟨x1, rfl, ex1⟩ := gI g1
  have ex1 : x1.toInt = σ 2 + 0 := ex1
  have e2 := gR g2 rfl
  subst e2
  have q30_1 : (γ 1030 1).toInt = σ 2 + 0 := eG h (g := 1030) (i := 1) (sy := 2) (c := 0) (by decide) (List.Mem.head _)
  have q30_2 : (γ 1030 2).toInt = σ 0 + 1 := eG h (g := 1030) (i := 2) (sy := 0) (c := 1) (by decide) (List.Mem.tail _ (List.Mem.head _))
  have b1 := eB h (i := 1) (lo := 0) (hi := 9) rfl
  have b2 := eB h (i := 2) (lo := 0) (hi := 39) rfl
  have s0 := h.1.2.1.1
  have hx : x9 γ M := hA.2.2.2.1.2.2
  have hT := aTp_of h.2.2.2
  have hd : x1.toInt.toNat < 40 := by omega
  have ed : (γ 1030 1).toInt.toNat = x1.toInt.toNat := by omega
  have hy := y9_p1 (f := 1) (x := x0) hx.2 (show (γ 1030 2).toInt = 1 by omega)
  rw [ed] at hy
  refine kIast (n := 40) hat (hT.hd (c := 186) (by decide) (by decide)) (by decide) (by omega) (by show x1.toInt < 40; omega) ?_
  refine k (gUs γ [(1032, 1, x0)]) σ _ L [] (mPut M 186 x1.toInt.toNat (.int x0)) (List.Mem.head _) (fun _ _ => rfl) (frR (f := 1) (by decide) rfl) (gUs_fr [(1032, 1, x0)] rfl gFr.rf) aExt.rf ?_
  exact mkHold9 (by decide) s0 ⟨b00 s0, b1, b2, True.intro⟩ True.intro ⟨hF1_gh (by decide) (by decide) (by show (x0 : Int32).toInt = σ 1 + 0; omega), True.intro⟩ True.intro (putR hA.2.2.2 hd (f := 1) (by decide) (by show (0 : Int) ≤ x0.toInt; omega) (by show x0.toInt ≤ 9; omega) (gUs_lt [(1032, 1, x0)] rfl (fun _ _ _ => rfl)) hy)
theorem gs_ca112_34 {s : List Int32} : gSound9 s sg_ca112_34 := gt_ca rfl
theorem gs_ca113_24 {s : List Int32} : gSound9 s sg_ca113_24 := gt_ca rfl
theorem gs_ca114_56 {s : List Int32} : gSound9 s sg_ca114_56 := gt_ca rfl
theorem gs_ca115_38 {s : List Int32} : gSound9 s sg_ca115_38 := gt_ca rfl
theorem gs_ca115_56 {s : List Int32} : gSound9 s sg_ca115_56 := gt_ca rfl
theorem gs_ca116_33 {s : List Int32} : gSound9 s sg_ca116_33 := gt_ca rfl
theorem gs_ca132_93 {s : List Int32} : gSound9 s sg_ca132_93 := gt_ca rfl
theorem gs_ca133_67 {s : List Int32} : gSound9 s sg_ca133_67 := gt_ca rfl
theorem gs_ca157_68 {s : List Int32} : gSound9 s sg_ca157_68 := gt_ca rfl
theorem gs_cg112_17 {s : List Int32} : gSound9 s sg_cg112_17 := gt_cg6 rfl
theorem gs_cg115_39 {s : List Int32} : gSound9 s sg_cg115_39 := gt_cg8 rfl
theorem gs_cg157_54 {s : List Int32} : gSound9 s sg_cg157_54 := gt_cg3 rfl
theorem gs_cg26_1 {s : List Int32} : gSound9 s sg_cg26_1 := gt_cg2 rfl
theorem gs_cg27_1 {s : List Int32} : gSound9 s sg_cg27_1 := gt_cg7 rfl
theorem gs_cg29_7 {s : List Int32} : gSound9 s sg_cg29_7 := gt_cg0 rfl
theorem gs_cg34_107 {s : List Int32} : gSound9 s sg_cg34_107 := gt_cg6 rfl
theorem gs_cg34_39 {s : List Int32} : gSound9 s sg_cg34_39 := gt_cg4 rfl
theorem gs_cg34_58 {s : List Int32} : gSound9 s sg_cg34_58 := gt_cg6 rfl
theorem gs_cg35_48 {s : List Int32} : gSound9 s sg_cg35_48 := gt_cg7 rfl
theorem gs_cg35_57 {s : List Int32} : gSound9 s sg_cg35_57 := gt_cg7 rfl
theorem gs_cg35_64 {s : List Int32} : gSound9 s sg_cg35_64 := gt_cg8 rfl
theorem gs_cg35_71 {s : List Int32} : gSound9 s sg_cg35_71 := gt_cg9 rfl
theorem gs_co112_16 {s : List Int32} : gSound9 s sg_co112_16 := gt_co rfl
theorem gs_co115_23 {s : List Int32} : gSound9 s sg_co115_23 := gt_co rfl
theorem gs_co116_16 {s : List Int32} : gSound9 s sg_co116_16 := gt_co rfl
theorem gs_co157_53 {s : List Int32} : gSound9 s sg_co157_53 := gt_co rfl
theorem gs_co34_34 {s : List Int32} : gSound9 s sg_co34_34 := gt_co rfl
theorem gs_co35_34 {s : List Int32} : gSound9 s sg_co35_34 := gt_co rfl
theorem gs_cp112_36 {s : List Int32} : gSound9 s sg_cp112_36 := gt_cp6 rfl
theorem gs_cp115_58 {s : List Int32} : gSound9 s sg_cp115_58 := gt_cp8 rfl
theorem gs_cp158_26 {s : List Int32} : gSound9 s sg_cp158_26 := gt_cp2 rfl
theorem gs_cp158_33 {s : List Int32} : gSound9 s sg_cp158_33 := gt_cp4 rfl
theorem gs_cp158_40 {s : List Int32} : gSound9 s sg_cp158_40 := gt_cp5 rfl
theorem gs_cp29_10 {s : List Int32} : gSound9 s sg_cp29_10 := gt_cp8 rfl
theorem gs_cp29_15 {s : List Int32} : gSound9 s sg_cp29_15 := gt_cp9 rfl
theorem gs_cp29_2 {s : List Int32} : gSound9 s sg_cp29_2 := gt_cp7 rfl
theorem gs_cp30_13 {s : List Int32} : gSound9 s sg_cp30_13 := gt_cp9 rfl
theorem gs_cp30_3 {s : List Int32} : gSound9 s sg_cp30_3 := gt_cp7 rfl
theorem gs_cp30_8 {s : List Int32} : gSound9 s sg_cp30_8 := gt_cp8 rfl
theorem gs_cp34_118 {s : List Int32} : gSound9 s sg_cp34_118 := gt_cp6 rfl
theorem gs_cp34_69 {s : List Int32} : gSound9 s sg_cp34_69 := gt_cp6 rfl
theorem gs_cp35_118 {s : List Int32} : gSound9 s sg_cp35_118 := gt_cp8 rfl
theorem gs_ka247_126 {s : List Int32} : gSound9 s sg_ka247_126 := gt_ka_goto rfl rfl
theorem gs_ka248_111 {s : List Int32} : gSound9 s sg_ka248_111 := gt_ka_goto rfl rfl
theorem gs_ka282_1887 {s : List Int32} : gSound9 s sg_ka282_1887 := gt_ka_goto rfl rfl
theorem gs_ka34_124 {s : List Int32} : gSound9 s sg_ka34_124 := gt_ka_goto rfl rfl
theorem gs_ka35_124 {s : List Int32} : gSound9 s sg_ka35_124 := gt_ka_goto rfl rfl
theorem gs_kb247_126 {s : List Int32} : gSound9 s sg_kb247_126 := gt_kb_goto rfl rfl
theorem gs_kb248_111 {s : List Int32} : gSound9 s sg_kb248_111 := gt_kb_goto rfl rfl
theorem gs_kb282_1887 {s : List Int32} : gSound9 s sg_kb282_1887 := gt_kb_goto rfl rfl
theorem gs_kb34_124 {s : List Int32} : gSound9 s sg_kb34_124 := gt_kb_goto rfl rfl
theorem gs_kb35_124 {s : List Int32} : gSound9 s sg_kb35_124 := gt_kb_goto rfl rfl
theorem gs_kc132_140 {s : List Int32} : gSound9 s sg_kc132_140 := gt_kc_11 (len := 2) rfl
theorem gs_kc133_82 {s : List Int32} : gSound9 s sg_kc133_82 := gt_kc_8 (len := 2) rfl
theorem gs_kc249_152 {s : List Int32} : gSound9 s sg_kc249_152 := gt_kc_9 (len := 2) rfl
theorem gs_kg282_1887 {s : List Int32} : gSound9 s sg_kg282_1887 := gt_kg_goto rfl rfl
theorem gs_ra168_13 {s : List Int32} : gSound9 s sg_ra168_13 := gt_ra6 rfl
theorem gs_ra170_21 {s : List Int32} : gSound9 s sg_ra170_21 := gt_ra3 rfl
theorem gs_ra170_30 {s : List Int32} : gSound9 s sg_ra170_30 := gt_ra7 rfl
theorem gs_ra171_17 {s : List Int32} : gSound9 s sg_ra171_17 := gt_ra0 rfl
theorem gs_ra173_69 {s : List Int32} : gSound9 s sg_ra173_69 := gt_ra7 rfl
theorem gs_ra174_20 {s : List Int32} : gSound9 s sg_ra174_20 := gt_ra7 rfl
theorem gs_ra174_30 {s : List Int32} : gSound9 s sg_ra174_30 := gt_ra8 rfl
theorem gs_ra175_13 {s : List Int32} : gSound9 s sg_ra175_13 := gt_ra7 rfl
theorem gs_ra177_15 {s : List Int32} : gSound9 s sg_ra177_15 := gt_ra0 rfl
theorem gs_ra177_21 {s : List Int32} : gSound9 s sg_ra177_21 := gt_ra3 rfl
theorem gs_ra177_5 {s : List Int32} : gSound9 s sg_ra177_5 := gt_ra6 rfl
theorem gs_ra247_91 {s : List Int32} : gSound9 s sg_ra247_91 := gt_ra6 rfl
theorem gs_rn249_13 {s : List Int32} : gSound9 s sg_rn249_13 := gt_rn0 rfl
theorem gs_ro170_21 {s : List Int32} : gSound9 s sg_ro170_21 := gt_ro3 rfl
theorem gs_ro247_62 {s : List Int32} : gSound9 s sg_ro247_62 := gt_ro6 rfl
theorem gs_ro248_59 {s : List Int32} : gSound9 s sg_ro248_59 := gt_ro7 rfl
theorem gs_rs167_100 {s : List Int32} : gSound9 s sg_rs167_100 := gt_rs2 rfl
theorem gs_rs167_111 {s : List Int32} : gSound9 s sg_rs167_111 := gt_rs3 rfl
theorem gs_rs167_122 {s : List Int32} : gSound9 s sg_rs167_122 := gt_rs4 rfl
theorem gs_rs167_133 {s : List Int32} : gSound9 s sg_rs167_133 := gt_rs5 rfl
theorem gs_rs167_143 {s : List Int32} : gSound9 s sg_rs167_143 := gt_rs7 rfl
theorem gs_rs167_153 {s : List Int32} : gSound9 s sg_rs167_153 := gt_rs8 rfl
theorem gs_rs167_163 {s : List Int32} : gSound9 s sg_rs167_163 := gt_rs9 rfl
theorem gs_rs167_173 {s : List Int32} : gSound9 s sg_rs167_173 := gt_rs6 rfl
theorem gs_rs167_80 {s : List Int32} : gSound9 s sg_rs167_80 := gt_rs0 rfl
theorem gs_rs167_90 {s : List Int32} : gSound9 s sg_rs167_90 := gt_rs1 rfl
theorem gs_rs168_26 {s : List Int32} : gSound9 s sg_rs168_26 := gt_rs6 rfl
theorem gs_rs171_18 {s : List Int32} : gSound9 s sg_rs171_18 := gt_rs8 rfl
theorem gs_rs171_25 {s : List Int32} : gSound9 s sg_rs171_25 := gt_rs9 rfl
theorem gs_rs171_6 {s : List Int32} : gSound9 s sg_rs171_6 := gt_rs7 rfl
theorem gs_rs174_43 {s : List Int32} : gSound9 s sg_rs174_43 := gt_rs8 rfl
theorem gs_rs175_26 {s : List Int32} : gSound9 s sg_rs175_26 := gt_rs7 rfl
theorem gs_rs175_33 {s : List Int32} : gSound9 s sg_rs175_33 := gt_rs8 rfl
theorem gs_rs175_40 {s : List Int32} : gSound9 s sg_rs175_40 := gt_rs9 rfl
theorem gs_rs247_100 {s : List Int32} : gSound9 s sg_rs247_100 := gt_rs6 rfl
theorem gs_rs247_71 {s : List Int32} : gSound9 s sg_rs247_71 := gt_rs6 rfl
theorem gs_rs248_69 {s : List Int32} : gSound9 s sg_rs248_69 := gt_rs7 rfl
theorem gs_rs248_85 {s : List Int32} : gSound9 s sg_rs248_85 := gt_rs7 rfl
theorem gs_rs249_102 {s : List Int32} : gSound9 s sg_rs249_102 := gt_rs9 rfl
theorem gs_rs249_110 {s : List Int32} : gSound9 s sg_rs249_110 := gt_rs6 rfl
theorem gs_rs249_21 {s : List Int32} : gSound9 s sg_rs249_21 := gt_rs1 rfl
theorem gs_rs249_31 {s : List Int32} : gSound9 s sg_rs249_31 := gt_rs2 rfl
theorem gs_rs249_40 {s : List Int32} : gSound9 s sg_rs249_40 := gt_rs3 rfl
theorem gs_rs249_48 {s : List Int32} : gSound9 s sg_rs249_48 := gt_rs4 rfl
theorem gs_rs249_57 {s : List Int32} : gSound9 s sg_rs249_57 := gt_rs5 rfl
theorem gs_rs249_66 {s : List Int32} : gSound9 s sg_rs249_66 := gt_rs7 rfl
theorem gs_rs249_84 {s : List Int32} : gSound9 s sg_rs249_84 := gt_rs8 rfl
