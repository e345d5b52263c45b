/-! pages, seeds, forgeries, ways, deaths (printed by gen10.py) -/
theorem gs_pgx {s : List Int32} : gSound9 s sg_pgx := by
  intro γ d σ L st0 st M Q _ hA k
  have h := aHold_0 hA
  have e0 := eNil h
  subst e0
  obtain ⟨l0, hl0, el0⟩ := eI h (i := 0) (sy := 1) (c := 0) rfl
  obtain ⟨l1, hl1, el1⟩ := eI h (i := 1) (sy := 2) (c := 0) rfl
  obtain ⟨l2, hl2, el2⟩ := eI h (i := 2) (sy := 3) (c := 0) rfl
  have b1 := eB h (i := 1) (lo := 0) (hi := 13) rfl
  have b2 := eB h (i := 2) (lo := 0) (hi := 13) rfl
  have b3 := eB h (i := 3) (lo := 0) (hi := 13) rfl
  have s0 := h.1.2.1.1
  have hx : x9 γ M := hA.2.2.2.1.2.2
  have hT := aTp_of h.2.2.2
  have r := pgI_rng (a := l0) (b := l1) (c := l2) (by omega) (by omega) (by omega) (by omega) (by omega) (by omega)
  refine kIconst (mi := 153) (pc := 0) (len := 1) (v := 1) rfl ?_
  refine kIload (len := 1) (i := 0) rfl hl0 ?_
  refine kShl (len := 1) rfl ?_
  refine kIconst (len := 1) (v := 1) rfl ?_
  refine kIload (len := 1) (i := 1) rfl hl1 ?_
  refine kShl (len := 1) rfl ?_
  refine kOr (len := 1) rfl ?_
  refine kIconst (len := 1) (v := 1) rfl ?_
  refine kIload (len := 1) (i := 2) rfl hl2 ?_
  refine kShl (len := 1) rfl ?_
  refine kOr (len := 1) rfl ?_
  refine k (gUs γ [(1036, 0, l0), (1036, 1, l1), (1036, 2, l2), (1036, 3, pgI l0 l1 l2)]) (aUp σ 4 ((pgI l0 l1 l2).toInt)) _ L [.int (pgI l0 l1 l2)] M (List.Mem.head _) (fun _ _ => rfl) aFr.rf (gUs_fr [(1036, 0, l0), (1036, 1, l1), (1036, 2, l2), (1036, 3, pgI l0 l1 l2)] rfl gFr.rf) aUp_ext ?_
  exact mkHold9 (by decide) s0 ⟨b00 s0, b1, b2, b3, ⟨by show (0 : Int) ≤ (pgI l0 l1 l2).toInt; omega, by show (pgI l0 l1 l2).toInt ≤ 16383; omega⟩, True.intro⟩ True.intro ⟨hF1_gh (by decide) (by decide) (by show (l0 : Int32).toInt = σ 1 + 0; omega), hF1_gh (by decide) (by decide) (by show (l1 : Int32).toInt = σ 2 + 0; omega), hF1_gh (by decide) (by decide) (by show (l2 : Int32).toInt = σ 3 + 0; omega), hF1_gh (by decide) (by decide) (by show ((pgI l0 l1 l2) : Int32).toInt = (pgI l0 l1 l2).toInt + 0; omega), True.intro⟩ ⟨⟨by decide, _, rfl, by show ((pgI l0 l1 l2) : Int32).toInt = (pgI l0 l1 l2).toInt + 0; omega⟩, True.intro⟩ (fin9 hA.2.2.2 hT (gUs_lt [(1036, 0, l0), (1036, 1, l1), (1036, 2, l2), (1036, 3, pgI l0 l1 l2)] rfl (fun _ _ _ => rfl)) rfl ⟨hx.1, y9_pg hx.2⟩)
theorem gs_pgm172 {s : List Int32} : gSound9 s sg_pgm172 := by
  intro γ d σ L st0 st M Q _ hA k
  have h := aHold_0 hA
  have e0 := eNil h
  subst e0
  obtain ⟨l3, hl3, el3⟩ := eI h (i := 3) (sy := 1) (c := 0) rfl
  obtain ⟨l4, hl4, el4⟩ := eI h (i := 4) (sy := 2) (c := 0) rfl
  obtain ⟨l5, hl5, el5⟩ := eI h (i := 5) (sy := 3) (c := 0) rfl
  have q36_0 : (γ 1036 0).toInt = σ 1 + 0 := eG h (g := 1036) (i := 0) (sy := 1) (c := 0) (by decide) (List.Mem.head _)
  have q36_1 : (γ 1036 1).toInt = σ 2 + 0 := eG h (g := 1036) (i := 1) (sy := 2) (c := 0) (by decide) (List.Mem.tail _ (List.Mem.head _))
  have q36_2 : (γ 1036 2).toInt = σ 3 + 0 := eG h (g := 1036) (i := 2) (sy := 3) (c := 0) (by decide) (List.Mem.tail _ (List.Mem.tail _ (List.Mem.head _)))
  have q36_3 : (γ 1036 3).toInt = σ 4 + 0 := eG h (g := 1036) (i := 3) (sy := 4) (c := 0) (by decide) (List.Mem.tail _ (List.Mem.tail _ (List.Mem.tail _ (List.Mem.head _))))
  have b1 := eB h (i := 1) (lo := 0) (hi := 13) rfl
  have b2 := eB h (i := 2) (lo := 0) (hi := 13) rfl
  have b3 := eB h (i := 3) (lo := 0) (hi := 13) rfl
  have b4 := eB h (i := 4) (lo := 0) (hi := 16383) rfl
  have s0 := h.1.2.1.1
  have hx : x9 γ M := hA.2.2.2.1.2.2
  have hT := aTp_of h.2.2.2
  have eql3 : l3 = γ 1036 0 := Int32.toInt_inj.mp (by omega)
  have eql4 : l4 = γ 1036 1 := Int32.toInt_inj.mp (by omega)
  have eql5 : l5 = γ 1036 2 := Int32.toInt_inj.mp (by omega)
  have hm : γ 1036 3 = pgI (γ 1036 0) (γ 1036 1) (γ 1036 2) := hx.2.2.2.2.1.1
  have e : (pgI l3 l4 l5).toInt = σ 4 := by rw [eql3, eql4, eql5, ← hm]; omega
  refine kIconst (mi := 172) (pc := 19) (len := 1) (v := 1) rfl ?_
  refine kIload (len := 1) (i := 3) rfl hl3 ?_
  refine kShl (len := 1) rfl ?_
  refine kIconst (len := 1) (v := 1) rfl ?_
  refine kIload (len := 2) (i := 4) rfl hl4 ?_
  refine kShl (len := 1) rfl ?_
  refine kOr (len := 1) rfl ?_
  refine kIconst (len := 1) (v := 1) rfl ?_
  refine kIload (len := 2) (i := 5) rfl hl5 ?_
  refine kShl (len := 1) rfl ?_
  refine kOr (len := 1) rfl ?_
  refine k γ σ _ L [.int (pgI l3 l4 l5)] M (List.Mem.head _) (fun _ _ => rfl) aFr.rf gFr.rf aExt.rf ?_
  exact mkHold9 (by decide) s0 ⟨b00 s0, b1, b2, b3, b4, True.intro⟩ True.intro True.intro ⟨⟨by decide, _, rfl, by show ((pgI l3 l4 l5) : Int32).toInt = σ 4 + 0; omega⟩, True.intro⟩ (hA.2.2.2)
theorem gs_pgm173 {s : List Int32} : gSound9 s sg_pgm173 := by
  intro γ d σ L st0 st M Q _ hA k
  have h := aHold_0 hA
  have e0 := eNil h
  subst e0
  obtain ⟨l3, hl3, el3⟩ := eI h (i := 3) (sy := 1) (c := 0) rfl
  obtain ⟨l4, hl4, el4⟩ := eI h (i := 4) (sy := 2) (c := 0) rfl
  obtain ⟨l5, hl5, el5⟩ := eI h (i := 5) (sy := 3) (c := 0) rfl
  have q36_0 : (γ 1036 0).toInt = σ 1 + 0 := eG h (g := 1036) (i := 0) (sy := 1) (c := 0) (by decide) (List.Mem.head _)
  have q36_1 : (γ 1036 1).toInt = σ 2 + 0 := eG h (g := 1036) (i := 1) (sy := 2) (c := 0) (by decide) (List.Mem.tail _ (List.Mem.head _))
  have q36_2 : (γ 1036 2).toInt = σ 3 + 0 := eG h (g := 1036) (i := 2) (sy := 3) (c := 0) (by decide) (List.Mem.tail _ (List.Mem.tail _ (List.Mem.head _)))
  have q36_3 : (γ 1036 3).toInt = σ 4 + 0 := eG h (g := 1036) (i := 3) (sy := 4) (c := 0) (by decide) (List.Mem.tail _ (List.Mem.tail _ (List.Mem.tail _ (List.Mem.head _))))
  have b1 := eB h (i := 1) (lo := 0) (hi := 13) rfl
  have b2 := eB h (i := 2) (lo := 0) (hi := 13) rfl
  have b3 := eB h (i := 3) (lo := 0) (hi := 13) rfl
  have b4 := eB h (i := 4) (lo := 0) (hi := 16383) rfl
  have s0 := h.1.2.1.1
  have hx : x9 γ M := hA.2.2.2.1.2.2
  have hT := aTp_of h.2.2.2
  have eql3 : l3 = γ 1036 0 := Int32.toInt_inj.mp (by omega)
  have eql4 : l4 = γ 1036 1 := Int32.toInt_inj.mp (by omega)
  have eql5 : l5 = γ 1036 2 := Int32.toInt_inj.mp (by omega)
  have hm : γ 1036 3 = pgI (γ 1036 0) (γ 1036 1) (γ 1036 2) := hx.2.2.2.2.1.1
  have e : (pgI l3 l4 l5).toInt = σ 4 := by rw [eql3, eql4, eql5, ← hm]; omega
  refine kIconst (mi := 173) (pc := 48) (len := 1) (v := 1) rfl ?_
  refine kIload (len := 1) (i := 3) rfl hl3 ?_
  refine kShl (len := 1) rfl ?_
  refine kIconst (len := 1) (v := 1) rfl ?_
  refine kIload (len := 2) (i := 4) rfl hl4 ?_
  refine kShl (len := 1) rfl ?_
  refine kOr (len := 1) rfl ?_
  refine kIconst (len := 1) (v := 1) rfl ?_
  refine kIload (len := 2) (i := 5) rfl hl5 ?_
  refine kShl (len := 1) rfl ?_
  refine kOr (len := 1) rfl ?_
  refine k γ σ _ L [.int (pgI l3 l4 l5)] M (List.Mem.head _) (fun _ _ => rfl) aFr.rf gFr.rf aExt.rf ?_
  exact mkHold9 (by decide) s0 ⟨b00 s0, b1, b2, b3, b4, True.intro⟩ True.intro True.intro ⟨⟨by decide, _, rfl, by show ((pgI l3 l4 l5) : Int32).toInt = σ 4 + 0; omega⟩, True.intro⟩ (hA.2.2.2)
theorem gs_mn114 {s : List Int32} : gSound9 s sg_mn114 := by
  intro γ d σ L st0 st M Q _ hA k
  have h := aHold_0 hA
  have e0 := eNil h
  subst e0
  have hl0 := eR h (i := 0) (g := 2) (c := 0) rfl rfl
  obtain ⟨f2_11, hf2_11, ef2_11⟩ := eF h (g := 2) (i := 11) (sy := 1) (c := 0) (by decide) (by decide) rfl (List.Mem.head _)
  have b1 := eB h (i := 1) (lo := 0) (hi := 65535) rfl
  have s0 := h.1.2.1.1
  have hx : x9 γ M := hA.2.2.2.1.2.2
  have hT := aTp_of h.2.2.2
  have r := lcI_rng (x := f2_11) (by omega) (by omega)
  refine kIconst (mi := 114) (pc := 17) (len := 3) (v := 25173) rfl ?_
  refine kAload (len := 1) (i := 0) rfl hl0 ?_
  refine kGetf (len := 3) (j := 1011) rfl (hT.hd (c := 2) (by decide) (by decide)) (by decide) hf2_11 ?_
  refine kMul (len := 1) rfl ?_
  refine kIconst (len := 3) (v := 13849) rfl ?_
  refine kAdd (len := 1) rfl ?_
  refine kIconst (len := 2) (v := 65536) rfl ?_
  refine kRem (len := 1) rfl (by decide) ?_
  change Ok d 114 32 L (.int (lcI f2_11) :: st) M Q
  generalize hv : lcI f2_11 = v at r ⊢
  refine k (gUs γ [(1037, 0, f2_11), (1037, 1, v), (1037, 2, mdI 0 v), (1037, 3, 0)]) (aUp σ 2 (v.toInt)) _ L [.int v] M (List.Mem.head _) (fun _ _ => rfl) aFr.rf (gUs_fr [(1037, 0, f2_11), (1037, 1, v), (1037, 2, mdI 0 v), (1037, 3, 0)] rfl gFr.rf) aUp_ext ?_
  exact mkHold9 (by decide) s0 ⟨b00 s0, b1, ⟨by show (0 : Int) ≤ v.toInt; omega, by show v.toInt ≤ 65535; omega⟩, True.intro⟩ True.intro ⟨hF1_gh (by decide) (by decide) (by show (f2_11 : Int32).toInt = σ 1 + 0; omega), hF1_gh (by decide) (by decide) (by show (v : Int32).toInt = v.toInt + 0; omega), True.intro⟩ ⟨⟨by decide, _, rfl, by show (v : Int32).toInt = v.toInt + 0; omega⟩, True.intro⟩ (fin9 hA.2.2.2 hT (gUs_lt [(1037, 0, f2_11), (1037, 1, v), (1037, 2, mdI 0 v), (1037, 3, 0)] rfl (fun _ _ _ => rfl)) rfl ⟨hx.1, y9_mv hx.2 hv⟩)
theorem gs_mx173 {s : List Int32} : gSound9 s sg_mx173 := by
  intro γ d σ L st0 st M Q _ hA k
  have h := aHold_0 hA
  have e0 := eNil h
  subst e0
  have hl0 := eR h (i := 0) (g := 181) (c := 0) rfl rfl
  obtain ⟨f181_1, hf181_1, ef181_1⟩ := eF h (g := 181) (i := 1) (sy := 1) (c := 0) (by decide) (by decide) rfl (List.Mem.head _)
  have q37_0 : (γ 1037 0).toInt = σ 1 + 0 := eG h (g := 1037) (i := 0) (sy := 1) (c := 0) (by decide) (List.Mem.tail _ (List.Mem.head _))
  have q37_1 : (γ 1037 1).toInt = σ 2 + 0 := eG h (g := 1037) (i := 1) (sy := 2) (c := 0) (by decide) (List.Mem.tail _ (List.Mem.tail _ (List.Mem.head _)))
  have b1 := eB h (i := 1) (lo := 0) (hi := 65535) rfl
  have b2 := eB h (i := 2) (lo := 0) (hi := 65535) rfl
  have s0 := h.1.2.1.1
  have hx : x9 γ M := hA.2.2.2.1.2.2
  have hT := aTp_of h.2.2.2
  have eq : f181_1 = γ 1037 0 := Int32.toInt_inj.mp (by omega)
  have hm : γ 1037 1 = lcI (γ 1037 0) := hx.2.2.2.2.1.2.1
  have e : (lcI f181_1).toInt = σ 2 := by rw [eq, ← hm]; omega
  refine kIconst (mi := 173) (pc := 17) (len := 3) (v := 25173) rfl ?_
  refine kAload (len := 1) (i := 0) rfl hl0 ?_
  refine kGetf (len := 3) (j := 1101) rfl (hT.hd (c := 181) (by decide) (by decide)) (by decide) hf181_1 ?_
  refine kMul (len := 1) rfl ?_
  refine kIconst (len := 3) (v := 13849) rfl ?_
  refine kAdd (len := 1) rfl ?_
  refine kIconst (len := 2) (v := 65536) rfl ?_
  refine kRem (len := 1) rfl (by decide) ?_
  refine k γ σ _ L [.int (lcI f181_1)] M (List.Mem.head _) (fun _ _ => rfl) aFr.rf gFr.rf aExt.rf ?_
  exact mkHold9 (by decide) s0 ⟨b00 s0, b1, b2, True.intro⟩ True.intro True.intro ⟨⟨by decide, _, rfl, by show ((lcI f181_1) : Int32).toInt = σ 2 + 0; omega⟩, True.intro⟩ (hA.2.2.2)
theorem gs_mz114 {s : List Int32} : gSound9 s sg_mz114 := by
  intro γ d σ L st0 st M Q _ hA k
  have h := aHold_0 hA
  have e0 := eNil h
  subst e0
  have hl0 := eR h (i := 0) (g := 2) (c := 0) rfl rfl
  obtain ⟨l2, hl2, el2⟩ := eI h (i := 2) (sy := 1) (c := 0) rfl
  obtain ⟨f2_11, hf2_11, ef2_11⟩ := eF h (g := 2) (i := 11) (sy := 2) (c := 0) (by decide) (by decide) rfl (List.Mem.head _)
  have q37_1 : (γ 1037 1).toInt = σ 2 + 0 := eG h (g := 1037) (i := 1) (sy := 2) (c := 0) (by decide) (List.Mem.tail _ (List.Mem.head _))
  have b1 := eB h (i := 1) (lo := 0) (hi := 999) rfl
  have b2 := eB h (i := 2) (lo := 0) (hi := 65535) rfl
  have s0 := h.1.2.1.1
  have hx : x9 γ M := hA.2.2.2.1.2.2
  have hT := aTp_of h.2.2.2
  have eq : f2_11 = γ 1037 1 := Int32.toInt_inj.mp (by omega)
  have r := mdI_rng (d := l2) (x := γ 1037 1) (by omega) (by omega) (by omega)
  refine kIload (mi := 114) (pc := 35) (len := 1) (i := 2) rfl hl2 ?_
  refine kIconst (len := 1) (v := 1) rfl ?_
  refine kAdd (len := 1) rfl ?_
  refine kAload (len := 1) (i := 0) rfl hl0 ?_
  refine kGetf (len := 3) (j := 1011) rfl (hT.hd (c := 2) (by decide) (by decide)) (by decide) hf2_11 ?_
  refine kIconst (len := 2) (v := 7) rfl ?_
  refine kRem (len := 1) rfl (by decide) ?_
  refine kAdd (len := 1) rfl ?_
  rw [eq]
  refine k (gUs γ [(1037, 2, mdI l2 (γ 1037 1)), (1037, 3, l2)]) (aUp σ 3 ((mdI l2 (γ 1037 1)).toInt)) _ L [.int (mdI l2 (γ 1037 1))] M (List.Mem.head _) (fun _ _ => rfl) aFr.rf (gUs_fr [(1037, 2, mdI l2 (γ 1037 1)), (1037, 3, l2)] rfl gFr.rf) aUp_ext ?_
  exact mkHold9 (by decide) s0 ⟨b00 s0, b1, b2, ⟨by show (1 : Int) ≤ (mdI l2 (γ 1037 1)).toInt; omega, by show (mdI l2 (γ 1037 1)).toInt ≤ 1006; omega⟩, True.intro⟩ True.intro ⟨hF1_gh (by decide) (by decide) (by show ((mdI l2 (γ 1037 1)) : Int32).toInt = (mdI l2 (γ 1037 1)).toInt + 0; omega), hF1_gh (by decide) (by decide) (by show (l2 : Int32).toInt = σ 1 + 0; omega), True.intro⟩ ⟨⟨by decide, _, rfl, by show ((mdI l2 (γ 1037 1)) : Int32).toInt = (mdI l2 (γ 1037 1)).toInt + 0; omega⟩, True.intro⟩ (fin9 hA.2.2.2 hT (gUs_lt [(1037, 2, mdI l2 (γ 1037 1)), (1037, 3, l2)] rfl (fun _ _ _ => rfl)) rfl ⟨hx.1, y9_mz hx.2⟩)
theorem gs_my173 {s : List Int32} : gSound9 s sg_my173 := by
  intro γ d σ L st0 st M Q _ hA k
  have h := aHold_0 hA
  have e0 := eNil h
  subst e0
  have hl0 := eR h (i := 0) (g := 181) (c := 0) rfl rfl
  obtain ⟨l2, hl2, el2⟩ := eI h (i := 2) (sy := 1) (c := 0) rfl
  obtain ⟨f181_1, hf181_1, ef181_1⟩ := eF h (g := 181) (i := 1) (sy := 2) (c := 0) (by decide) (by decide) rfl (List.Mem.head _)
  have q37_1 : (γ 1037 1).toInt = σ 2 + 0 := eG h (g := 1037) (i := 1) (sy := 2) (c := 0) (by decide) (List.Mem.tail _ (List.Mem.head _))
  have q37_2 : (γ 1037 2).toInt = σ 3 + 0 := eG h (g := 1037) (i := 2) (sy := 3) (c := 0) (by decide) (List.Mem.tail _ (List.Mem.tail _ (List.Mem.head _)))
  have q37_3 : (γ 1037 3).toInt = σ 1 + 0 := eG h (g := 1037) (i := 3) (sy := 1) (c := 0) (by decide) (List.Mem.tail _ (List.Mem.tail _ (List.Mem.tail _ (List.Mem.head _))))
  have b1 := eB h (i := 1) (lo := 0) (hi := 999) rfl
  have b2 := eB h (i := 2) (lo := 0) (hi := 65535) rfl
  have b3 := eB h (i := 3) (lo := 1) (hi := 1006) rfl
  have s0 := h.1.2.1.1
  have hx : x9 γ M := hA.2.2.2.1.2.2
  have hT := aTp_of h.2.2.2
  have eq : f181_1 = γ 1037 1 := Int32.toInt_inj.mp (by omega)
  have eq2 : l2 = γ 1037 3 := Int32.toInt_inj.mp (by omega)
  have hm : γ 1037 2 = mdI (γ 1037 3) (γ 1037 1) := hx.2.2.2.2.1.2.2
  have e : (mdI l2 f181_1).toInt = σ 3 := by rw [eq, eq2, ← hm]; omega
  refine kIload (mi := 173) (pc := 37) (len := 1) (i := 2) rfl hl2 ?_
  refine kIconst (len := 1) (v := 1) rfl ?_
  refine kAdd (len := 1) rfl ?_
  refine kAload (len := 1) (i := 0) rfl hl0 ?_
  refine kGetf (len := 3) (j := 1101) rfl (hT.hd (c := 181) (by decide) (by decide)) (by decide) hf181_1 ?_
  refine kIconst (len := 2) (v := 7) rfl ?_
  refine kRem (len := 1) rfl (by decide) ?_
  refine kAdd (len := 1) rfl ?_
  refine k γ σ _ L [.int (mdI l2 f181_1)] M (List.Mem.head _) (fun _ _ => rfl) aFr.rf gFr.rf aExt.rf ?_
  exact mkHold9 (by decide) s0 ⟨b00 s0, b1, b2, b3, True.intro⟩ True.intro True.intro ⟨⟨by decide, _, rfl, by show ((mdI l2 f181_1) : Int32).toInt = σ 3 + 0; omega⟩, True.intro⟩ (hA.2.2.2)
theorem gs_mk0 {s : List Int32} : gSound9 s sg_mk0 := by
  intro γ d σ L st0 st M Q _ hA k
  have h := aHold_0 hA
  have e0 := eNil h
  subst e0
  obtain ⟨l4, hl4, el4⟩ := eI h (i := 4) (sy := 1) (c := 0) rfl
  obtain ⟨l5, hl5, el5⟩ := eI h (i := 5) (sy := 2) (c := 0) rfl
  obtain ⟨l6, hl6, el6⟩ := eI h (i := 6) (sy := 3) (c := 0) rfl
  have q30_2 : (γ 1030 2).toInt = σ 0 + 0 := eG h (g := 1030) (i := 2) (sy := 0) (c := 0) (by decide) (List.Mem.head _)
  have b1 := eB h (i := 1) (lo := (-1)) (hi := 39) rfl
  have b2 := eB h (i := 2) (lo := (-1)) (hi := 39) rfl
  have b3 := eB h (i := 3) (lo := (-1)) (hi := 39) rfl
  have s0 := h.1.2.1.1
  have hx : x9 γ M := hA.2.2.2.1.2.2
  have hT := aTp_of h.2.2.2
  refine kIload (mi := 253) (pc := 0) (len := 2) (i := 4) rfl hl4 ?_
  refine k (gUs γ [(1030, 2, 2), (1034, 1, l4), (1034, 2, l5), (1034, 3, l6), (1034, 4, -1), (1034, 5, -1), (1034, 6, -1)]) σ _ L [.int l4] M (List.Mem.head _) (fun _ _ => rfl) aFr.rf (gUs_fr [(1030, 2, 2), (1034, 1, l4), (1034, 2, l5), (1034, 3, l6), (1034, 4, -1), (1034, 5, -1), (1034, 6, -1)] rfl gFr.rf) aExt.rf ?_
  exact mkHold9 (by decide) s0 ⟨b00 s0, b1, b2, b3, True.intro⟩ True.intro ⟨hF1_gh (by decide) (by decide) (by show (2 : Int) = σ 0 + 2; omega), hF1_gh (by decide) (by decide) (by show (l4 : Int32).toInt = σ 1 + 0; omega), hF1_gh (by decide) (by decide) (by show (l5 : Int32).toInt = σ 2 + 0; omega), hF1_gh (by decide) (by decide) (by show (l6 : Int32).toInt = σ 3 + 0; omega), True.intro⟩ ⟨⟨by decide, _, rfl, by show (l4 : Int32).toInt = σ 1 + 0; omega⟩, True.intro⟩ (fin9 hA.2.2.2 hT (gUs_lt [(1030, 2, 2), (1034, 1, l4), (1034, 2, l5), (1034, 3, l6), (1034, 4, -1), (1034, 5, -1), (1034, 6, -1)] rfl (fun _ _ _ => rfl)) rfl ⟨hx.1, y9_mk0 hx.2 (by omega)⟩)
theorem gs_ml0 {s : List Int32} : gSound9 s sg_ml0 := by
  intro γ d σ L st0 st M Q _ hA k
  have h := aHold_0 hA
  obtain ⟨w0, w1, rfl, g0, g1⟩ := eS2 h
  obtain ⟨x0, rfl, ex0⟩ := gI g0
  have ex0 : x0.toInt = σ 1 + 0 := ex0
  have e1 := gR g1 rfl
  subst e1
  have q30_2 : (γ 1030 2).toInt = σ 0 + 2 := eG h (g := 1030) (i := 2) (sy := 0) (c := 2) (by decide) (List.Mem.head _)
  have q34_1 : (γ 1034 1).toInt = σ 1 + 0 := eG h (g := 1034) (i := 1) (sy := 1) (c := 0) (by decide) (List.Mem.tail _ (List.Mem.head _))
  have b1 := eB h (i := 1) (lo := 0) (hi := 39) rfl
  have s0 := h.1.2.1.1
  have hx : x9 γ M := hA.2.2.2.1.2.2
  have hT := aTp_of h.2.2.2
  have hd : x0.toInt.toNat < 40 := by omega
  obtain ⟨x, x1, x2, x3, x4⟩ := tR hT hd (f := 6) (by decide)
  have x3 : 0 ≤ x.toInt := x3
  have x4 : x.toInt ≤ 1 := x4
  have ed : (γ 1034 1).toInt.toNat = x0.toInt.toNat := by omega
  refine kBald (mi := 253) (pc := 12) (len := 1) (n := 40) rfl (hT.hd (c := 194) (by decide) (by decide)) rfl (by omega) (by show x0.toInt < 40; omega) x1 ?_
  refine k (gUs γ [(1034, 4, x)]) (aUp σ 2 (x.toInt)) _ L [.int x] M (List.Mem.head _) (fun _ _ => rfl) aFr.rf (gUs_fr [(1034, 4, x)] rfl gFr.rf) aUp_ext ?_
  exact mkHold9 (by decide) s0 ⟨b00 s0, b1, ⟨by show (0 : Int) ≤ x.toInt; omega, by show x.toInt ≤ 1; omega⟩, True.intro⟩ True.intro ⟨hF1_gh (by decide) (by decide) (by show (x : Int32).toInt = x.toInt + 0; omega), True.intro⟩ ⟨⟨by decide, _, rfl, by show (x : Int32).toInt = x.toInt + 0; omega⟩, True.intro⟩ (fin9 hA.2.2.2 hT (gUs_lt [(1034, 4, x)] rfl (fun _ _ _ => rfl)) rfl ⟨hx.1, y9_ml (q := 0) hx.2 (by omega) (by decide) (by show yV M 1 6 (γ 1034 1).toInt.toNat = x.toInt; rw [ed]; exact x2)⟩)
theorem gs_ml1 {s : List Int32} : gSound9 s sg_ml1 := by
  intro γ d σ L st0 st M Q _ hA k
  have h := aHold_0 hA
  obtain ⟨w0, w1, rfl, g0, g1⟩ := eS2 h
  obtain ⟨x0, rfl, ex0⟩ := gI g0
  have ex0 : x0.toInt = σ 1 + 0 := ex0
  have e1 := gR g1 rfl
  subst e1
  have q30_2 : (γ 1030 2).toInt = σ 0 + 2 := eG h (g := 1030) (i := 2) (sy := 0) (c := 2) (by decide) (List.Mem.head _)
  have q34_2 : (γ 1034 2).toInt = σ 1 + 0 := eG h (g := 1034) (i := 2) (sy := 1) (c := 0) (by decide) (List.Mem.tail _ (List.Mem.head _))
  have b1 := eB h (i := 1) (lo := 0) (hi := 39) rfl
  have s0 := h.1.2.1.1
  have hx : x9 γ M := hA.2.2.2.1.2.2
  have hT := aTp_of h.2.2.2
  have hd : x0.toInt.toNat < 40 := by omega
  obtain ⟨x, x1, x2, x3, x4⟩ := tR hT hd (f := 6) (by decide)
  have x3 : 0 ≤ x.toInt := x3
  have x4 : x.toInt ≤ 1 := x4
  have ed : (γ 1034 2).toInt.toNat = x0.toInt.toNat := by omega
  refine kBald (mi := 253) (pc := 35) (len := 1) (n := 40) rfl (hT.hd (c := 194) (by decide) (by decide)) rfl (by omega) (by show x0.toInt < 40; omega) x1 ?_
  refine k (gUs γ [(1034, 5, x)]) (aUp σ 2 (x.toInt)) _ L [.int x] M (List.Mem.head _) (fun _ _ => rfl) aFr.rf (gUs_fr [(1034, 5, x)] rfl gFr.rf) aUp_ext ?_
  exact mkHold9 (by decide) s0 ⟨b00 s0, b1, ⟨by show (0 : Int) ≤ x.toInt; omega, by show x.toInt ≤ 1; omega⟩, True.intro⟩ True.intro ⟨hF1_gh (by decide) (by decide) (by show (x : Int32).toInt = x.toInt + 0; omega), True.intro⟩ ⟨⟨by decide, _, rfl, by show (x : Int32).toInt = x.toInt + 0; omega⟩, True.intro⟩ (fin9 hA.2.2.2 hT (gUs_lt [(1034, 5, x)] rfl (fun _ _ _ => rfl)) rfl ⟨hx.1, y9_ml (q := 1) hx.2 (by omega) (by decide) (by show yV M 1 6 (γ 1034 2).toInt.toNat = x.toInt; rw [ed]; exact x2)⟩)
theorem gs_ml2 {s : List Int32} : gSound9 s sg_ml2 := by
  intro γ d σ L st0 st M Q _ hA k
  have h := aHold_0 hA
  obtain ⟨w0, w1, rfl, g0, g1⟩ := eS2 h
  obtain ⟨x0, rfl, ex0⟩ := gI g0
  have ex0 : x0.toInt = σ 1 + 0 := ex0
  have e1 := gR g1 rfl
  subst e1
  have q30_2 : (γ 1030 2).toInt = σ 0 + 2 := eG h (g := 1030) (i := 2) (sy := 0) (c := 2) (by decide) (List.Mem.head _)
  have q34_3 : (γ 1034 3).toInt = σ 1 + 0 := eG h (g := 1034) (i := 3) (sy := 1) (c := 0) (by decide) (List.Mem.tail _ (List.Mem.head _))
  have b1 := eB h (i := 1) (lo := 0) (hi := 39) rfl
  have s0 := h.1.2.1.1
  have hx : x9 γ M := hA.2.2.2.1.2.2
  have hT := aTp_of h.2.2.2
  have hd : x0.toInt.toNat < 40 := by omega
  obtain ⟨x, x1, x2, x3, x4⟩ := tR hT hd (f := 6) (by decide)
  have x3 : 0 ≤ x.toInt := x3
  have x4 : x.toInt ≤ 1 := x4
  have ed : (γ 1034 3).toInt.toNat = x0.toInt.toNat := by omega
  refine kBald (mi := 253) (pc := 58) (len := 1) (n := 40) rfl (hT.hd (c := 194) (by decide) (by decide)) rfl (by omega) (by show x0.toInt < 40; omega) x1 ?_
  refine k (gUs γ [(1034, 6, x)]) (aUp σ 2 (x.toInt)) _ L [.int x] M (List.Mem.head _) (fun _ _ => rfl) aFr.rf (gUs_fr [(1034, 6, x)] rfl gFr.rf) aUp_ext ?_
  exact mkHold9 (by decide) s0 ⟨b00 s0, b1, ⟨by show (0 : Int) ≤ x.toInt; omega, by show x.toInt ≤ 1; omega⟩, True.intro⟩ True.intro ⟨hF1_gh (by decide) (by decide) (by show (x : Int32).toInt = x.toInt + 0; omega), True.intro⟩ ⟨⟨by decide, _, rfl, by show (x : Int32).toInt = x.toInt + 0; omega⟩, True.intro⟩ (fin9 hA.2.2.2 hT (gUs_lt [(1034, 6, x)] rfl (fun _ _ _ => rfl)) rfl ⟨hx.1, y9_ml (q := 2) hx.2 (by omega) (by decide) (by show yV M 1 6 (γ 1034 3).toInt.toNat = x.toInt; rw [ed]; exact x2)⟩)
theorem gs_mk1 {s : List Int32} : gSound9 s sg_mk1 := by
  intro γ d σ L st0 st M Q _ hA k
  have h := aHold_0 hA
  have e0 := eNil h
  subst e0
  obtain ⟨l4, hl4, el4⟩ := eI h (i := 4) (sy := 1) (c := 0) rfl
  have q30_2 : (γ 1030 2).toInt = σ 0 + 2 := eG h (g := 1030) (i := 2) (sy := 0) (c := 2) (by decide) (List.Mem.head _)
  have b1 := eB h (i := 1) (lo := (-1)) (hi := 39) rfl
  have s0 := h.1.2.1.1
  have hx : x9 γ M := hA.2.2.2.1.2.2
  have hT := aTp_of h.2.2.2
  refine kIload (mi := 253) (pc := 69) (len := 2) (i := 4) rfl hl4 ?_
  refine k (gUs γ [(1030, 2, 5)]) σ _ L [.int l4] M (List.Mem.head _) (fun _ _ => rfl) aFr.rf (gUs_fr [(1030, 2, 5)] rfl gFr.rf) aExt.rf ?_
  exact mkHold9 (by decide) s0 ⟨b00 s0, b1, True.intro⟩ True.intro ⟨hF1_gh (by decide) (by decide) (by show (5 : Int) = σ 0 + 5; omega), True.intro⟩ ⟨⟨by decide, _, rfl, by show (l4 : Int32).toInt = σ 1 + 0; omega⟩, True.intro⟩ (fin9 hA.2.2.2 hT (gUs_lt [(1030, 2, 5)] rfl (fun _ _ _ => rfl)) rfl ⟨hx.1, y9_mk1 hx.2 (by omega)⟩)
theorem gs_ms0 {s : List Int32} : gSound9 s sg_ms0 := by
  intro γ d σ L st0 st M Q _ hA k
  have h := aHold_0 hA
  obtain ⟨w0, w1, w2, rfl, g0, g1, g2⟩ := eS3 h
  obtain ⟨x0, rfl, ex0⟩ := gI g0
  have ex0 : x0.toInt = σ 1 + 0 := ex0
  obtain ⟨x1, rfl, ex1⟩ := gI g1
  have ex1 : x1.toInt = σ 2 + 0 := ex1
  have e2 := gR g2 rfl
  subst e2
  have q30_2 : (γ 1030 2).toInt = σ 0 + 5 := eG h (g := 1030) (i := 2) (sy := 0) (c := 5) (by decide) (List.Mem.head _)
  have q34_1 : (γ 1034 1).toInt = σ 2 + 0 := eG h (g := 1034) (i := 1) (sy := 2) (c := 0) (by decide) (List.Mem.tail _ (List.Mem.head _))
  have b1 := eB h (i := 1) (lo := 0) (hi := 1) rfl
  have b2 := eB h (i := 2) (lo := 0) (hi := 39) rfl
  have s0 := h.1.2.1.1
  have hx : x9 γ M := hA.2.2.2.1.2.2
  have hT := aTp_of h.2.2.2
  have hd : x1.toInt.toNat < 40 := by omega
  have ed : (γ 1034 1).toInt.toNat = x1.toInt.toNat := by omega
  have hy := y9_ms (q := 0) (v := x0.toInt) hx.2 (by omega) (by decide) (show 0 ≤ (γ 1034 1).toInt by omega)
  have hy : y9 (gS γ) (yUp (yV M) 1 6 (γ 1034 1).toInt.toNat x0.toInt) := hy
  rw [ed] at hy
  refine kBast (mi := 253) (pc := 82) (len := 1) (n := 40) (z := x0) rfl (hT.hd (c := 194) (by decide) (by decide)) (by decide) (by omega) (by show x1.toInt < 40; omega) (by rcases i32_zo (x := x0) (by omega) (by omega) with e | e <;> (rw [e]; rfl)) ?_
  refine k γ σ _ L [] (mPut M 194 x1.toInt.toNat (.int x0)) (List.Mem.head _) (fun _ _ => rfl) (frR (f := 6) (by decide) rfl) gFr.rf aExt.rf ?_
  exact mkHold9 (by decide) s0 ⟨b00 s0, b1, b2, True.intro⟩ True.intro True.intro True.intro (putR hA.2.2.2 hd (f := 6) (by decide) (by show (0 : Int) ≤ x0.toInt; omega) (by show x0.toInt ≤ 1; omega) (fun _ _ _ => rfl) hy)
theorem gs_mr0 {s : List Int32} : gSound9 s sg_mr0 := by
  intro γ d σ L st0 st M Q _ hA k
  have h := aHold_0 hA
  obtain ⟨w0, w1, w2, rfl, g0, g1, g2⟩ := eS3 h
  obtain ⟨x0, rfl, ex0⟩ := gI g0
  have ex0 : x0.toInt = σ 1 + 0 := ex0
  obtain ⟨x1, rfl, ex1⟩ := gI g1
  have ex1 : x1.toInt = σ 2 + 0 := ex1
  have e2 := gR g2 rfl
  subst e2
  have q30_2 : (γ 1030 2).toInt = σ 0 + 5 := eG h (g := 1030) (i := 2) (sy := 0) (c := 5) (by decide) (List.Mem.head _)
  have q34_1 : (γ 1034 1).toInt = σ 2 + 0 := eG h (g := 1034) (i := 1) (sy := 2) (c := 0) (by decide) (List.Mem.tail _ (List.Mem.head _))
  have q34_4 : (γ 1034 4).toInt = σ 1 + 0 := eG h (g := 1034) (i := 4) (sy := 1) (c := 0) (by decide) (List.Mem.tail _ (List.Mem.tail _ (List.Mem.head _)))
  have b1 := eB h (i := 1) (lo := 0) (hi := 1) rfl
  have b2 := eB h (i := 2) (lo := 0) (hi := 39) rfl
  have s0 := h.1.2.1.1
  have hx : x9 γ M := hA.2.2.2.1.2.2
  have hT := aTp_of h.2.2.2
  have hd : x1.toInt.toNat < 40 := by omega
  have ed : (γ 1034 1).toInt.toNat = x1.toInt.toNat := by omega
  have hy := y9_mr (q := 0) (v := x0.toInt) hx.2 (by omega) (by decide) (show 0 ≤ (γ 1034 1).toInt by omega) (show (γ 1034 4).toInt = x0.toInt by omega) (by omega)
  have hy : y9 (gS (gUs γ [(1034, 1, -1)])) (yUp (yV M) 1 6 (γ 1034 1).toInt.toNat x0.toInt) := hy
  rw [ed] at hy
  refine kBast (mi := 253) (pc := 142) (len := 1) (n := 40) (z := x0) rfl (hT.hd (c := 194) (by decide) (by decide)) (by decide) (by omega) (by show x1.toInt < 40; omega) (by rcases i32_zo (x := x0) (by omega) (by omega) with e | e <;> (rw [e]; rfl)) ?_
  refine k (gUs γ [(1034, 1, -1)]) σ _ L [] (mPut M 194 x1.toInt.toNat (.int x0)) (List.Mem.head _) (fun _ _ => rfl) (frR (f := 6) (by decide) rfl) (gUs_fr [(1034, 1, -1)] rfl gFr.rf) aExt.rf ?_
  exact mkHold9 (by decide) s0 ⟨b00 s0, b1, b2, True.intro⟩ True.intro ⟨hF1_gh (by decide) (by decide) (by show (-1 : Int) = σ 0 + (-1); omega), True.intro⟩ True.intro (putR hA.2.2.2 hd (f := 6) (by decide) (by show (0 : Int) ≤ x0.toInt; omega) (by show x0.toInt ≤ 1; omega) (gUs_lt [(1034, 1, -1)] rfl (fun _ _ _ => rfl)) hy)
theorem gs_ms1 {s : List Int32} : gSound9 s sg_ms1 := by
  intro γ d σ L st0 st M Q _ hA k
  have h := aHold_0 hA
  obtain ⟨w0, w1, w2, rfl, g0, g1, g2⟩ := eS3 h
  obtain ⟨x0, rfl, ex0⟩ := gI g0
  have ex0 : x0.toInt = σ 1 + 0 := ex0
  obtain ⟨x1, rfl, ex1⟩ := gI g1
  have ex1 : x1.toInt = σ 2 + 0 := ex1
  have e2 := gR g2 rfl
  subst e2
  have q30_2 : (γ 1030 2).toInt = σ 0 + 5 := eG h (g := 1030) (i := 2) (sy := 0) (c := 5) (by decide) (List.Mem.head _)
  have q34_2 : (γ 1034 2).toInt = σ 2 + 0 := eG h (g := 1034) (i := 2) (sy := 2) (c := 0) (by decide) (List.Mem.tail _ (List.Mem.head _))
  have b1 := eB h (i := 1) (lo := 0) (hi := 1) rfl
  have b2 := eB h (i := 2) (lo := 0) (hi := 39) rfl
  have s0 := h.1.2.1.1
  have hx : x9 γ M := hA.2.2.2.1.2.2
  have hT := aTp_of h.2.2.2
  have hd : x1.toInt.toNat < 40 := by omega
  have ed : (γ 1034 2).toInt.toNat = x1.toInt.toNat := by omega
  have hy := y9_ms (q := 1) (v := x0.toInt) hx.2 (by omega) (by decide) (show 0 ≤ (γ 1034 2).toInt by omega)
  have hy : y9 (gS γ) (yUp (yV M) 1 6 (γ 1034 2).toInt.toNat x0.toInt) := hy
  rw [ed] at hy
  refine kBast (mi := 253) (pc := 96) (len := 1) (n := 40) (z := x0) rfl (hT.hd (c := 194) (by decide) (by decide)) (by decide) (by omega) (by show x1.toInt < 40; omega) (by rcases i32_zo (x := x0) (by omega) (by omega) with e | e <;> (rw [e]; rfl)) ?_
  refine k γ σ _ L [] (mPut M 194 x1.toInt.toNat (.int x0)) (List.Mem.head _) (fun _ _ => rfl) (frR (f := 6) (by decide) rfl) gFr.rf aExt.rf ?_
  exact mkHold9 (by decide) s0 ⟨b00 s0, b1, b2, True.intro⟩ True.intro True.intro True.intro (putR hA.2.2.2 hd (f := 6) (by decide) (by show (0 : Int) ≤ x0.toInt; omega) (by show x0.toInt ≤ 1; omega) (fun _ _ _ => rfl) hy)
theorem gs_mr1 {s : List Int32} : gSound9 s sg_mr1 := by
  intro γ d σ L st0 st M Q _ hA k
  have h := aHold_0 hA
  obtain ⟨w0, w1, w2, rfl, g0, g1, g2⟩ := eS3 h
  obtain ⟨x0, rfl, ex0⟩ := gI g0
  have ex0 : x0.toInt = σ 1 + 0 := ex0
  obtain ⟨x1, rfl, ex1⟩ := gI g1
  have ex1 : x1.toInt = σ 2 + 0 := ex1
  have e2 := gR g2 rfl
  subst e2
  have q30_2 : (γ 1030 2).toInt = σ 0 + 5 := eG h (g := 1030) (i := 2) (sy := 0) (c := 5) (by decide) (List.Mem.head _)
  have q34_2 : (γ 1034 2).toInt = σ 2 + 0 := eG h (g := 1034) (i := 2) (sy := 2) (c := 0) (by decide) (List.Mem.tail _ (List.Mem.head _))
  have q34_5 : (γ 1034 5).toInt = σ 1 + 0 := eG h (g := 1034) (i := 5) (sy := 1) (c := 0) (by decide) (List.Mem.tail _ (List.Mem.tail _ (List.Mem.head _)))
  have b1 := eB h (i := 1) (lo := 0) (hi := 1) rfl
  have b2 := eB h (i := 2) (lo := 0) (hi := 39) rfl
  have s0 := h.1.2.1.1
  have hx : x9 γ M := hA.2.2.2.1.2.2
  have hT := aTp_of h.2.2.2
  have hd : x1.toInt.toNat < 40 := by omega
  have ed : (γ 1034 2).toInt.toNat = x1.toInt.toNat := by omega
  have hy := y9_mr (q := 1) (v := x0.toInt) hx.2 (by omega) (by decide) (show 0 ≤ (γ 1034 2).toInt by omega) (show (γ 1034 5).toInt = x0.toInt by omega) (by omega)
  have hy : y9 (gS (gUs γ [(1034, 2, -1)])) (yUp (yV M) 1 6 (γ 1034 2).toInt.toNat x0.toInt) := hy
  rw [ed] at hy
  refine kBast (mi := 253) (pc := 157) (len := 1) (n := 40) (z := x0) rfl (hT.hd (c := 194) (by decide) (by decide)) (by decide) (by omega) (by show x1.toInt < 40; omega) (by rcases i32_zo (x := x0) (by omega) (by omega) with e | e <;> (rw [e]; rfl)) ?_
  refine k (gUs γ [(1034, 2, -1)]) σ _ L [] (mPut M 194 x1.toInt.toNat (.int x0)) (List.Mem.head _) (fun _ _ => rfl) (frR (f := 6) (by decide) rfl) (gUs_fr [(1034, 2, -1)] rfl gFr.rf) aExt.rf ?_
  exact mkHold9 (by decide) s0 ⟨b00 s0, b1, b2, True.intro⟩ True.intro ⟨hF1_gh (by decide) (by decide) (by show (-1 : Int) = σ 0 + (-1); omega), True.intro⟩ True.intro (putR hA.2.2.2 hd (f := 6) (by decide) (by show (0 : Int) ≤ x0.toInt; omega) (by show x0.toInt ≤ 1; omega) (gUs_lt [(1034, 2, -1)] rfl (fun _ _ _ => rfl)) hy)
theorem gs_ms2 {s : List Int32} : gSound9 s sg_ms2 := by
  intro γ d σ L st0 st M Q _ hA k
  have h := aHold_0 hA
  obtain ⟨w0, w1, w2, rfl, g0, g1, g2⟩ := eS3 h
  obtain ⟨x0, rfl, ex0⟩ := gI g0
  have ex0 : x0.toInt = σ 1 + 0 := ex0
  obtain ⟨x1, rfl, ex1⟩ := gI g1
  have ex1 : x1.toInt = σ 2 + 0 := ex1
  have e2 := gR g2 rfl
  subst e2
  have q30_2 : (γ 1030 2).toInt = σ 0 + 5 := eG h (g := 1030) (i := 2) (sy := 0) (c := 5) (by decide) (List.Mem.head _)
  have q34_3 : (γ 1034 3).toInt = σ 2 + 0 := eG h (g := 1034) (i := 3) (sy := 2) (c := 0) (by decide) (List.Mem.tail _ (List.Mem.head _))
  have b1 := eB h (i := 1) (lo := 0) (hi := 1) rfl
  have b2 := eB h (i := 2) (lo := 0) (hi := 39) rfl
  have s0 := h.1.2.1.1
  have hx : x9 γ M := hA.2.2.2.1.2.2
  have hT := aTp_of h.2.2.2
  have hd : x1.toInt.toNat < 40 := by omega
  have ed : (γ 1034 3).toInt.toNat = x1.toInt.toNat := by omega
  have hy := y9_ms (q := 2) (v := x0.toInt) hx.2 (by omega) (by decide) (show 0 ≤ (γ 1034 3).toInt by omega)
  have hy : y9 (gS γ) (yUp (yV M) 1 6 (γ 1034 3).toInt.toNat x0.toInt) := hy
  rw [ed] at hy
  refine kBast (mi := 253) (pc := 110) (len := 1) (n := 40) (z := x0) rfl (hT.hd (c := 194) (by decide) (by decide)) (by decide) (by omega) (by show x1.toInt < 40; omega) (by rcases i32_zo (x := x0) (by omega) (by omega) with e | e <;> (rw [e]; rfl)) ?_
  refine k γ σ _ L [] (mPut M 194 x1.toInt.toNat (.int x0)) (List.Mem.head _) (fun _ _ => rfl) (frR (f := 6) (by decide) rfl) gFr.rf aExt.rf ?_
  exact mkHold9 (by decide) s0 ⟨b00 s0, b1, b2, True.intro⟩ True.intro True.intro True.intro (putR hA.2.2.2 hd (f := 6) (by decide) (by show (0 : Int) ≤ x0.toInt; omega) (by show x0.toInt ≤ 1; omega) (fun _ _ _ => rfl) hy)
theorem gs_mr2 {s : List Int32} : gSound9 s sg_mr2 := by
  intro γ d σ L st0 st M Q _ hA k
  have h := aHold_0 hA
  obtain ⟨w0, w1, w2, rfl, g0, g1, g2⟩ := eS3 h
  obtain ⟨x0, rfl, ex0⟩ := gI g0
  have ex0 : x0.toInt = σ 1 + 0 := ex0
  obtain ⟨x1, rfl, ex1⟩ := gI g1
  have ex1 : x1.toInt = σ 2 + 0 := ex1
  have e2 := gR g2 rfl
  subst e2
  have q30_2 : (γ 1030 2).toInt = σ 0 + 5 := eG h (g := 1030) (i := 2) (sy := 0) (c := 5) (by decide) (List.Mem.head _)
  have q34_3 : (γ 1034 3).toInt = σ 2 + 0 := eG h (g := 1034) (i := 3) (sy := 2) (c := 0) (by decide) (List.Mem.tail _ (List.Mem.head _))
  have q34_6 : (γ 1034 6).toInt = σ 1 + 0 := eG h (g := 1034) (i := 6) (sy := 1) (c := 0) (by decide) (List.Mem.tail _ (List.Mem.tail _ (List.Mem.head _)))
  have b1 := eB h (i := 1) (lo := 0) (hi := 1) rfl
  have b2 := eB h (i := 2) (lo := 0) (hi := 39) rfl
  have s0 := h.1.2.1.1
  have hx : x9 γ M := hA.2.2.2.1.2.2
  have hT := aTp_of h.2.2.2
  have hd : x1.toInt.toNat < 40 := by omega
  have ed : (γ 1034 3).toInt.toNat = x1.toInt.toNat := by omega
  have hy := y9_mr (q := 2) (v := x0.toInt) hx.2 (by omega) (by decide) (show 0 ≤ (γ 1034 3).toInt by omega) (show (γ 1034 6).toInt = x0.toInt by omega) (by omega)
  have hy : y9 (gS (gUs γ [(1034, 3, -1)])) (yUp (yV M) 1 6 (γ 1034 3).toInt.toNat x0.toInt) := hy
  rw [ed] at hy
  refine kBast (mi := 253) (pc := 172) (len := 1) (n := 40) (z := x0) rfl (hT.hd (c := 194) (by decide) (by decide)) (by decide) (by omega) (by show x1.toInt < 40; omega) (by rcases i32_zo (x := x0) (by omega) (by omega) with e | e <;> (rw [e]; rfl)) ?_
  refine k (gUs γ [(1034, 3, -1)]) σ _ L [] (mPut M 194 x1.toInt.toNat (.int x0)) (List.Mem.head _) (fun _ _ => rfl) (frR (f := 6) (by decide) rfl) (gUs_fr [(1034, 3, -1)] rfl gFr.rf) aExt.rf ?_
  exact mkHold9 (by decide) s0 ⟨b00 s0, b1, b2, True.intro⟩ True.intro ⟨hF1_gh (by decide) (by decide) (by show (-1 : Int) = σ 0 + (-1); omega), True.intro⟩ True.intro (putR hA.2.2.2 hd (f := 6) (by decide) (by show (0 : Int) ≤ x0.toInt; omega) (by show x0.toInt ≤ 1; omega) (gUs_lt [(1034, 3, -1)] rfl (fun _ _ _ => rfl)) hy)
theorem gs_mk2 {s : List Int32} : gSound9 s sg_mk2 := by
  intro γ d σ L st0 st M Q _ hA k
  have h := aHold_0 hA
  have e0 := eNil h
  subst e0
  obtain ⟨l10, hl10, el10⟩ := eI h (i := 10) (sy := 1) (c := 0) rfl
  have q30_2 : (γ 1030 2).toInt = σ 0 + 5 := eG h (g := 1030) (i := 2) (sy := 0) (c := 5) (by decide) (List.Mem.head _)
  have q34_1 : (γ 1034 1).toInt = σ 0 + (-1) := eG h (g := 1034) (i := 1) (sy := 0) (c := (-1)) (by decide) (List.Mem.tail _ (List.Mem.head _))
  have q34_2 : (γ 1034 2).toInt = σ 0 + (-1) := eG h (g := 1034) (i := 2) (sy := 0) (c := (-1)) (by decide) (List.Mem.tail _ (List.Mem.tail _ (List.Mem.head _)))
  have q34_3 : (γ 1034 3).toInt = σ 0 + (-1) := eG h (g := 1034) (i := 3) (sy := 0) (c := (-1)) (by decide) (List.Mem.tail _ (List.Mem.tail _ (List.Mem.tail _ (List.Mem.head _))))
  have b1 := eB h (i := 1) (lo := 0) (hi := 1) rfl
  have s0 := h.1.2.1.1
  have hx : x9 γ M := hA.2.2.2.1.2.2
  have hT := aTp_of h.2.2.2
  refine kIload (mi := 253) (pc := 173) (len := 2) (i := 10) rfl hl10 ?_
  refine k (gUs γ [(1030, 2, 0)]) σ _ L [.int l10] M (List.Mem.head _) (fun _ _ => rfl) aFr.rf (gUs_fr [(1030, 2, 0)] rfl gFr.rf) aExt.rf ?_
  exact mkHold9 (by decide) s0 ⟨b00 s0, b1, True.intro⟩ True.intro ⟨hF1_gh (by decide) (by decide) (by show (0 : Int) = σ 0 + 0; omega), True.intro⟩ ⟨⟨by decide, _, rfl, by show (l10 : Int32).toInt = σ 1 + 0; omega⟩, True.intro⟩ (fin9 hA.2.2.2 hT (gUs_lt [(1030, 2, 0)] rfl (fun _ _ _ => rfl)) rfl ⟨hx.1, y9_mk2 hx.2 (by omega) (by omega) (by omega) (by omega)⟩)
theorem gs_cs0 {s : List Int32} : gSound9 s sg_cs0 := by
  intro γ d σ L st0 st M Q _ hA k
  have h := aHold_0 hA
  have e0 := eNil h
  subst e0
  have q30_2 : (γ 1030 2).toInt = σ 0 + 0 := eG h (g := 1030) (i := 2) (sy := 0) (c := 0) (by decide) (List.Mem.head _)
  have s0 := h.1.2.1.1
  have hx : x9 γ M := hA.2.2.2.1.2.2
  have hT := aTp_of h.2.2.2
  refine kIconst (mi := 258) (pc := 0) (len := 1) (v := 0) rfl ?_
  refine k (gUs γ [(1030, 2, 8), (1035, 3, 0), (1035, 4, -1)]) σ _ L [.int 0] M (List.Mem.head _) (fun _ _ => rfl) aFr.rf (gUs_fr [(1030, 2, 8), (1035, 3, 0), (1035, 4, -1)] rfl gFr.rf) aExt.rf ?_
  exact mkHold9 (by decide) s0 ⟨b00 s0, True.intro⟩ True.intro ⟨hF1_gh (by decide) (by decide) (by show (8 : Int) = σ 0 + 8; omega), hF1_gh (by decide) (by decide) (by show (0 : Int) = σ 0 + 0; omega), hF1_gh (by decide) (by decide) (by show (-1 : Int) = σ 0 + (-1); omega), True.intro⟩ ⟨⟨by decide, _, rfl, by show (0 : Int) = σ 0 + 0; omega⟩, True.intro⟩ (fin9 hA.2.2.2 hT (gUs_lt [(1030, 2, 8), (1035, 3, 0), (1035, 4, -1)] rfl (fun _ _ _ => rfl)) rfl ⟨hx.1, y9_cs0 hx.2 (by omega)⟩)
theorem gs_csl {s : List Int32} : gSound9 s sg_csl := by
  intro γ d σ L st0 st M Q _ hA k
  have h := aHold_0 hA
  obtain ⟨w0, w1, rfl, g0, g1⟩ := eS2 h
  obtain ⟨x0, rfl, ex0⟩ := gI g0
  have ex0 : x0.toInt = σ 1 + 0 := ex0
  have e1 := gR g1 rfl
  subst e1
  have q30_2 : (γ 1030 2).toInt = σ 0 + 8 := eG h (g := 1030) (i := 2) (sy := 0) (c := 8) (by decide) (List.Mem.head _)
  have q30_0 : (γ 1030 0).toInt = σ 2 + 0 := eG h (g := 1030) (i := 0) (sy := 2) (c := 0) (by decide) (List.Mem.tail _ (List.Mem.head _))
  have b1 := eB h (i := 1) (lo := 0) (hi := 39) rfl
  have b2 := eB h (i := 2) (lo := 0) (hi := 40) rfl
  have z0 := (h.1.2.1.2.2 1 2 (-1) (List.Mem.head _)).2.2
  have s0 := h.1.2.1.1
  have hx : x9 γ M := hA.2.2.2.1.2.2
  have hT := aTp_of h.2.2.2
  have hd : x0.toInt.toNat < 40 := by omega
  obtain ⟨x, x1, x2, x3, x4⟩ := tR hT hd (f := 7) (by decide)
  have x3 : -1 ≤ x.toInt := x3
  have x4 : x.toInt ≤ 1006 := x4
  refine kIald (mi := 258) (pc := 35) (len := 1) (n := 40) rfl (hT.hd (c := 191) (by decide) (by decide)) (by omega) (by show x0.toInt < 40; omega) x1 ?_
  by_cases e : x.toInt = -1
  · skip
    refine k (gUs γ [(1035, 4, x0)]) σ _ L [.int x] M (List.Mem.head _) (fun _ _ => rfl) aFr.rf (gUs_fr [(1035, 4, x0)] rfl gFr.rf) aExt.rf ?_
    exact mkHold9 (by decide) s0 ⟨b00 s0, b1, b2, True.intro⟩ True.intro ⟨hF1_gh (by decide) (by decide) (by show (x0 : Int32).toInt = σ 1 + 0; omega), True.intro⟩ ⟨⟨by decide, _, rfl, by show (x : Int32).toInt = σ 0 + (-1); omega⟩, True.intro⟩ (fin9 hA.2.2.2 hT (gUs_lt [(1035, 4, x0)] rfl (fun _ _ _ => rfl)) rfl ⟨hx.1, y9_csl hx.2 (by omega) (by omega) (x2.trans e)⟩)
  · skip
    refine k γ (aUp σ 3 (x.toInt)) _ L [.int x] M (List.Mem.tail _ (List.Mem.head _)) (fun _ _ => rfl) aFr.rf gFr.rf aUp_ext ?_
    exact mkHold9 (by decide) s0 ⟨b00 s0, b1, b2, ⟨by show (0 : Int) ≤ x.toInt; omega, by show x.toInt ≤ 1006; omega⟩, True.intro⟩ True.intro True.intro ⟨⟨by decide, _, rfl, by show (x : Int32).toInt = x.toInt + 0; omega⟩, True.intro⟩ (hA.2.2.2)
theorem gs_css {s : List Int32} : gSound9 s sg_css := by
  intro γ d σ L st0 st M Q _ hA k
  have h := aHold_0 hA
  obtain ⟨w0, rfl, g0⟩ := eS1 h
  have e0 := gR g0 rfl
  subst e0
  obtain ⟨l4, hl4, el4⟩ := eI h (i := 4) (sy := 1) (c := 0) rfl
  obtain ⟨l5, hl5, el5⟩ := eI h (i := 5) (sy := 2) (c := 0) rfl
  have q30_2 : (γ 1030 2).toInt = σ 0 + 8 := eG h (g := 1030) (i := 2) (sy := 0) (c := 8) (by decide) (List.Mem.head _)
  have q35_3 : (γ 1035 3).toInt = σ 1 + 0 := eG h (g := 1035) (i := 3) (sy := 1) (c := 0) (by decide) (List.Mem.tail _ (List.Mem.head _))
  have q35_4 : (γ 1035 4).toInt = σ 2 + 0 := eG h (g := 1035) (i := 4) (sy := 2) (c := 0) (by decide) (List.Mem.tail _ (List.Mem.tail _ (List.Mem.head _)))
  have b1 := eB h (i := 1) (lo := 0) (hi := 39) rfl
  have b2 := eB h (i := 2) (lo := 0) (hi := 39) rfl
  have s0 := h.1.2.1.1
  have hx : x9 γ M := hA.2.2.2.1.2.2
  have hT := aTp_of h.2.2.2
  have ei : (l4 + 1).toInt = l4.toInt + 1 := i32_inc (by omega) (by omega)
  have r : (l4 - l4 / 4 * 4).toInt = l4.toInt.tmod 4 := i32_rem (y := 4) (by decide)
  have r2 : l4.toInt.tmod 4 = l4.toInt % 4 := Int.tmod_eq_emod_of_nonneg (by omega)
  rw [r2] at r
  have hd : (l4 - l4 / 4 * 4).toInt.toNat < 4 := by omega
  have hy := y9_css (c := l4 + 1) (x := l5) (i := (l4 - l4 / 4 * 4).toInt.toNat) hx.2 (by omega) (by omega) (by omega) (by omega) (by omega) (by omega)
  refine kIload (mi := 258) (pc := 57) (len := 2) (i := 4) rfl hl4 ?_
  refine kIconst (len := 1) (v := 4) rfl ?_
  refine kRem (len := 1) rfl (by decide) ?_
  refine kIload (len := 2) (i := 5) rfl hl5 ?_
  refine kIast (len := 1) (n := 4) rfl (hT.hd (c := 222) (by decide) (by decide)) (by decide) (by show 0 ≤ (l4 - l4 / 4 * 4).toInt; omega) (by show (l4 - l4 / 4 * 4).toInt < 4; omega) ?_
  refine k (gUs γ [(1035, 3, l4 + 1)]) σ _ L [] (mPut M 222 (l4 - l4 / 4 * 4).toInt.toNat (.int l5)) (List.Mem.head _) (fun _ _ => rfl) (aFr_put rfl) (gUs_fr [(1035, 3, l4 + 1)] rfl gFr.rf) aExt.rf ?_
  exact mkHold9 (by decide) s0 ⟨b00 s0, b1, b2, True.intro⟩ True.intro ⟨hF1_gh (by decide) (by decide) (by show ((l4 + 1) : Int32).toInt = σ 1 + 1; omega), True.intro⟩ True.intro (putT (t := 4) (f := 0) (d := (l4 - l4 / 4 * 4).toInt.toNat) hA.2.2.2 (yOk_s hd rfl) (by show 2 ≤ 222; decide) (by show 222 < 242; decide) ⟨l5, rfl, by show (0 : Int) ≤ l5.toInt; omega, by show l5.toInt ≤ 39; omega⟩ (hT.hd (c := 222) (by decide) (by decide)) hd rfl (by show 222 ≠ 8; decide) (by show 222 ≠ 51; decide) (gUs_lt [(1035, 3, l4 + 1)] rfl (fun _ _ _ => rfl)) hy)
theorem gs_csf51 {s : List Int32} : gSound9 s sg_csf51 := by
  intro γ d σ L st0 st M Q _ hA k
  have h := aHold_0 hA
  have e0 := eNil h
  subst e0
  have q30_2 : (γ 1030 2).toInt = σ 0 + 8 := eG h (g := 1030) (i := 2) (sy := 0) (c := 8) (by decide) (List.Mem.head _)
  have s0 := h.1.2.1.1
  have hx : x9 γ M := hA.2.2.2.1.2.2
  have hT := aTp_of h.2.2.2
  refine kIconst (mi := 258) (pc := 51) (len := 1) (v := 0) rfl ?_
  refine k (gUs γ [(1030, 2, 0)]) σ _ L [.int 0] M (List.Mem.head _) (fun _ _ => rfl) aFr.rf (gUs_fr [(1030, 2, 0)] rfl gFr.rf) aExt.rf ?_
  exact mkHold9 (by decide) s0 ⟨b00 s0, True.intro⟩ True.intro ⟨hF1_gh (by decide) (by decide) (by show (0 : Int) = σ 0 + 0; omega), True.intro⟩ ⟨⟨by decide, _, rfl, by show (0 : Int) = σ 0 + 0; omega⟩, True.intro⟩ (fin9 hA.2.2.2 hT (gUs_lt [(1030, 2, 0)] rfl (fun _ _ _ => rfl)) rfl ⟨hx.1, y9_csf hx.2 (by omega)⟩)
theorem gs_csf109 {s : List Int32} : gSound9 s sg_csf109 := by
  intro γ d σ L st0 st M Q _ hA k
  have h := aHold_0 hA
  have e0 := eNil h
  subst e0
  have q30_2 : (γ 1030 2).toInt = σ 0 + 8 := eG h (g := 1030) (i := 2) (sy := 0) (c := 8) (by decide) (List.Mem.head _)
  have s0 := h.1.2.1.1
  have hx : x9 γ M := hA.2.2.2.1.2.2
  have hT := aTp_of h.2.2.2
  refine kIconst (mi := 258) (pc := 109) (len := 1) (v := 0) rfl ?_
  refine k (gUs γ [(1030, 2, 0)]) σ _ L [.int 0] M (List.Mem.head _) (fun _ _ => rfl) aFr.rf (gUs_fr [(1030, 2, 0)] rfl gFr.rf) aExt.rf ?_
  exact mkHold9 (by decide) s0 ⟨b00 s0, True.intro⟩ True.intro ⟨hF1_gh (by decide) (by decide) (by show (0 : Int) = σ 0 + 0; omega), True.intro⟩ ⟨⟨by decide, _, rfl, by show (0 : Int) = σ 0 + 0; omega⟩, True.intro⟩ (fin9 hA.2.2.2 hT (gUs_lt [(1030, 2, 0)] rfl (fun _ _ _ => rfl)) rfl ⟨hx.1, y9_csf hx.2 (by omega)⟩)
theorem gs_wy0 {s : List Int32} : gSound9 s sg_wy0 := by
  intro γ d σ L st0 st M Q _ hA k
  have h := aHold_0 hA
  have e0 := eNil h
  subst e0
  have q30_2 : (γ 1030 2).toInt = σ 0 + 8 := eG h (g := 1030) (i := 2) (sy := 0) (c := 8) (by decide) (List.Mem.head _)
  have q35_3 : (γ 1035 3).toInt = σ 1 + 0 := eG h (g := 1035) (i := 3) (sy := 1) (c := 0) (by decide) (List.Mem.tail _ (List.Mem.head _))
  have b1 := eB h (i := 1) (lo := 0) (hi := 4) rfl
  have s0 := h.1.2.1.1
  have hx : x9 γ M := hA.2.2.2.1.2.2
  have hT := aTp_of h.2.2.2
  refine kIconst (mi := 259) (pc := 0) (len := 1) (v := 0) rfl ?_
  refine k (gUs γ [(1030, 2, 6), (1035, 0, 0), (1035, 1, -1), (1035, 2, -1), (1035, 5, 0)]) σ _ L [.int 0] M (List.Mem.head _) (fun _ _ => rfl) aFr.rf (gUs_fr [(1030, 2, 6), (1035, 0, 0), (1035, 1, -1), (1035, 2, -1), (1035, 5, 0)] rfl gFr.rf) aExt.rf ?_
  exact mkHold9 (by decide) s0 ⟨b00 s0, b1, True.intro⟩ True.intro ⟨hF1_gh (by decide) (by decide) (by show (6 : Int) = σ 0 + 6; omega), hF1_gh (by decide) (by decide) (by show (0 : Int) = σ 0 + 0; omega), True.intro⟩ ⟨⟨by decide, _, rfl, by show (0 : Int) = σ 0 + 0; omega⟩, True.intro⟩ (fin9 hA.2.2.2 hT (gUs_lt [(1030, 2, 6), (1035, 0, 0), (1035, 1, -1), (1035, 2, -1), (1035, 5, 0)] rfl (fun _ _ _ => rfl)) rfl ⟨hx.1, y9_wy0 hx.2 (by omega) (by omega)⟩)
theorem gs_wl136 {s : List Int32} : gSound9 s sg_wl136 := by
  intro γ d σ L st0 st M Q _ hA k
  have h := aHold_0 hA
  obtain ⟨w0, w1, rfl, g0, g1⟩ := eS2 h
  obtain ⟨x0, rfl, ex0⟩ := gI g0
  have ex0 : x0.toInt = σ 1 + 0 := ex0
  have e1 := gR g1 rfl
  subst e1
  have q30_2 : (γ 1030 2).toInt = σ 0 + 6 := eG h (g := 1030) (i := 2) (sy := 0) (c := 6) (by decide) (List.Mem.head _)
  have q35_3 : (γ 1035 3).toInt = σ 2 + 0 := eG h (g := 1035) (i := 3) (sy := 2) (c := 0) (by decide) (List.Mem.tail _ (List.Mem.head _))
  have b1 := eB h (i := 1) (lo := 0) (hi := 3) rfl
  have b2 := eB h (i := 2) (lo := 0) (hi := 4) rfl
  have z0 := (h.1.2.1.2.2 1 2 (-1) (List.Mem.head _)).2.2
  have s0 := h.1.2.1.1
  have hx : x9 γ M := hA.2.2.2.1.2.2
  have hT := aTp_of h.2.2.2
  have hd : x0.toInt.toNat < 4 := by omega
  obtain ⟨v, v1, v2, v3⟩ := hT.int (c := 222) (i := x0.toInt.toNat) (by decide) (by decide) hd (lo := 0) (hi' := 39) (gs := []) rfl
  have ev := yV_get (t := 4) (f := 0) (d := x0.toInt.toNat) (yOk_s hd rfl) v1
  refine kIald (mi := 259) (pc := 136) (len := 1) (n := 4) rfl (hT.hd (c := 222) (by decide) (by decide)) (by omega) (by show x0.toInt < 4; omega) v1 ?_
  refine k (gUs γ [(1035, 1, v), (1035, 2, x0)]) (aUp σ 3 (v.toInt)) _ L [.int v] M (List.Mem.head _) (fun _ _ => rfl) aFr.rf (gUs_fr [(1035, 1, v), (1035, 2, x0)] rfl gFr.rf) aUp_ext ?_
  exact mkHold9 (by decide) s0 ⟨b00 s0, b1, b2, ⟨by show (0 : Int) ≤ v.toInt; omega, by show v.toInt ≤ 39; omega⟩, True.intro⟩ True.intro ⟨hF1_gh (by decide) (by decide) (by show (v : Int32).toInt = v.toInt + 0; omega), hF1_gh (by decide) (by decide) (by show (x0 : Int32).toInt = σ 1 + 0; omega), True.intro⟩ ⟨⟨by decide, _, rfl, by show (v : Int32).toInt = v.toInt + 0; omega⟩, True.intro⟩ (fin9 hA.2.2.2 hT (gUs_lt [(1035, 1, v), (1035, 2, x0)] rfl (fun _ _ _ => rfl)) rfl ⟨hx.1, y9_wl hx.2 (by omega) (by omega) (by omega) ev⟩)
theorem gs_wl149 {s : List Int32} : gSound9 s sg_wl149 := by
  intro γ d σ L st0 st M Q _ hA k
  have h := aHold_0 hA
  obtain ⟨w0, w1, rfl, g0, g1⟩ := eS2 h
  obtain ⟨x0, rfl, ex0⟩ := gI g0
  have ex0 : x0.toInt = σ 1 + 0 := ex0
  have e1 := gR g1 rfl
  subst e1
  have q30_2 : (γ 1030 2).toInt = σ 0 + 6 := eG h (g := 1030) (i := 2) (sy := 0) (c := 6) (by decide) (List.Mem.head _)
  have q35_3 : (γ 1035 3).toInt = σ 2 + 0 := eG h (g := 1035) (i := 3) (sy := 2) (c := 0) (by decide) (List.Mem.tail _ (List.Mem.head _))
  have b1 := eB h (i := 1) (lo := 0) (hi := 3) rfl
  have b2 := eB h (i := 2) (lo := 0) (hi := 4) rfl
  have z0 := (h.1.2.1.2.2 1 2 (-1) (List.Mem.head _)).2.2
  have s0 := h.1.2.1.1
  have hx : x9 γ M := hA.2.2.2.1.2.2
  have hT := aTp_of h.2.2.2
  have hd : x0.toInt.toNat < 4 := by omega
  obtain ⟨v, v1, v2, v3⟩ := hT.int (c := 222) (i := x0.toInt.toNat) (by decide) (by decide) hd (lo := 0) (hi' := 39) (gs := []) rfl
  have ev := yV_get (t := 4) (f := 0) (d := x0.toInt.toNat) (yOk_s hd rfl) v1
  refine kIald (mi := 259) (pc := 149) (len := 1) (n := 4) rfl (hT.hd (c := 222) (by decide) (by decide)) (by omega) (by show x0.toInt < 4; omega) v1 ?_
  refine k (gUs γ [(1035, 1, v), (1035, 2, x0)]) (aUp σ 3 (v.toInt)) _ L [.int v] M (List.Mem.head _) (fun _ _ => rfl) aFr.rf (gUs_fr [(1035, 1, v), (1035, 2, x0)] rfl gFr.rf) aUp_ext ?_
  exact mkHold9 (by decide) s0 ⟨b00 s0, b1, b2, ⟨by show (0 : Int) ≤ v.toInt; omega, by show v.toInt ≤ 39; omega⟩, True.intro⟩ True.intro ⟨hF1_gh (by decide) (by decide) (by show (v : Int32).toInt = v.toInt + 0; omega), hF1_gh (by decide) (by decide) (by show (x0 : Int32).toInt = σ 1 + 0; omega), True.intro⟩ ⟨⟨by decide, _, rfl, by show (v : Int32).toInt = v.toInt + 0; omega⟩, True.intro⟩ (fin9 hA.2.2.2 hT (gUs_lt [(1035, 1, v), (1035, 2, x0)] rfl (fun _ _ _ => rfl)) rfl ⟨hx.1, y9_wl hx.2 (by omega) (by omega) (by omega) ev⟩)
theorem gs_wl39 {s : List Int32} : gSound9 s sg_wl39 := by
  intro γ d σ L st0 st M Q _ hA k
  have h := aHold_0 hA
  obtain ⟨w0, w1, rfl, g0, g1⟩ := eS2 h
  obtain ⟨x0, rfl, ex0⟩ := gI g0
  have ex0 : x0.toInt = σ 1 + 0 := ex0
  have e1 := gR g1 rfl
  subst e1
  have q30_2 : (γ 1030 2).toInt = σ 0 + 6 := eG h (g := 1030) (i := 2) (sy := 0) (c := 6) (by decide) (List.Mem.head _)
  have q35_3 : (γ 1035 3).toInt = σ 2 + 0 := eG h (g := 1035) (i := 3) (sy := 2) (c := 0) (by decide) (List.Mem.tail _ (List.Mem.head _))
  have b1 := eB h (i := 1) (lo := 0) (hi := 3) rfl
  have b2 := eB h (i := 2) (lo := 0) (hi := 4) rfl
  have z0 := (h.1.2.1.2.2 1 2 (-1) (List.Mem.head _)).2.2
  have s0 := h.1.2.1.1
  have hx : x9 γ M := hA.2.2.2.1.2.2
  have hT := aTp_of h.2.2.2
  have hd : x0.toInt.toNat < 4 := by omega
  obtain ⟨v, v1, v2, v3⟩ := hT.int (c := 222) (i := x0.toInt.toNat) (by decide) (by decide) hd (lo := 0) (hi' := 39) (gs := []) rfl
  have ev := yV_get (t := 4) (f := 0) (d := x0.toInt.toNat) (yOk_s hd rfl) v1
  refine kIald (mi := 259) (pc := 39) (len := 1) (n := 4) rfl (hT.hd (c := 222) (by decide) (by decide)) (by omega) (by show x0.toInt < 4; omega) v1 ?_
  refine k (gUs γ [(1035, 1, v), (1035, 2, x0)]) (aUp σ 3 (v.toInt)) _ L [.int v] M (List.Mem.head _) (fun _ _ => rfl) aFr.rf (gUs_fr [(1035, 1, v), (1035, 2, x0)] rfl gFr.rf) aUp_ext ?_
  exact mkHold9 (by decide) s0 ⟨b00 s0, b1, b2, ⟨by show (0 : Int) ≤ v.toInt; omega, by show v.toInt ≤ 39; omega⟩, True.intro⟩ True.intro ⟨hF1_gh (by decide) (by decide) (by show (v : Int32).toInt = v.toInt + 0; omega), hF1_gh (by decide) (by decide) (by show (x0 : Int32).toInt = σ 1 + 0; omega), True.intro⟩ ⟨⟨by decide, _, rfl, by show (v : Int32).toInt = v.toInt + 0; omega⟩, True.intro⟩ (fin9 hA.2.2.2 hT (gUs_lt [(1035, 1, v), (1035, 2, x0)] rfl (fun _ _ _ => rfl)) rfl ⟨hx.1, y9_wl hx.2 (by omega) (by omega) (by omega) ev⟩)
theorem gs_wl60 {s : List Int32} : gSound9 s sg_wl60 := by
  intro γ d σ L st0 st M Q _ hA k
  have h := aHold_0 hA
  obtain ⟨w0, w1, rfl, g0, g1⟩ := eS2 h
  obtain ⟨x0, rfl, ex0⟩ := gI g0
  have ex0 : x0.toInt = σ 1 + 0 := ex0
  have e1 := gR g1 rfl
  subst e1
  have q30_2 : (γ 1030 2).toInt = σ 0 + 6 := eG h (g := 1030) (i := 2) (sy := 0) (c := 6) (by decide) (List.Mem.head _)
  have q35_3 : (γ 1035 3).toInt = σ 2 + 0 := eG h (g := 1035) (i := 3) (sy := 2) (c := 0) (by decide) (List.Mem.tail _ (List.Mem.head _))
  have b1 := eB h (i := 1) (lo := 0) (hi := 3) rfl
  have b2 := eB h (i := 2) (lo := 0) (hi := 4) rfl
  have z0 := (h.1.2.1.2.2 1 2 (-1) (List.Mem.head _)).2.2
  have s0 := h.1.2.1.1
  have hx : x9 γ M := hA.2.2.2.1.2.2
  have hT := aTp_of h.2.2.2
  have hd : x0.toInt.toNat < 4 := by omega
  obtain ⟨v, v1, v2, v3⟩ := hT.int (c := 222) (i := x0.toInt.toNat) (by decide) (by decide) hd (lo := 0) (hi' := 39) (gs := []) rfl
  have ev := yV_get (t := 4) (f := 0) (d := x0.toInt.toNat) (yOk_s hd rfl) v1
  refine kIald (mi := 259) (pc := 60) (len := 1) (n := 4) rfl (hT.hd (c := 222) (by decide) (by decide)) (by omega) (by show x0.toInt < 4; omega) v1 ?_
  refine k (gUs γ [(1035, 1, v), (1035, 2, x0)]) (aUp σ 3 (v.toInt)) _ L [.int v] M (List.Mem.head _) (fun _ _ => rfl) aFr.rf (gUs_fr [(1035, 1, v), (1035, 2, x0)] rfl gFr.rf) aUp_ext ?_
  exact mkHold9 (by decide) s0 ⟨b00 s0, b1, b2, ⟨by show (0 : Int) ≤ v.toInt; omega, by show v.toInt ≤ 39; omega⟩, True.intro⟩ True.intro ⟨hF1_gh (by decide) (by decide) (by show (v : Int32).toInt = v.toInt + 0; omega), hF1_gh (by decide) (by decide) (by show (x0 : Int32).toInt = σ 1 + 0; omega), True.intro⟩ ⟨⟨by decide, _, rfl, by show (v : Int32).toInt = v.toInt + 0; omega⟩, True.intro⟩ (fin9 hA.2.2.2 hT (gUs_lt [(1035, 1, v), (1035, 2, x0)] rfl (fun _ _ _ => rfl)) rfl ⟨hx.1, y9_wl hx.2 (by omega) (by omega) (by omega) ev⟩)
theorem gs_vl43 {s : List Int32} : gSound9 s sg_vl43 := by
  intro γ d σ L st0 st M Q _ hA k
  have h := aHold_0 hA
  obtain ⟨w0, w1, rfl, g0, g1⟩ := eS2 h
  obtain ⟨x0, rfl, ex0⟩ := gI g0
  have ex0 : x0.toInt = σ 1 + 0 := ex0
  have e1 := gR g1 rfl
  subst e1
  have q30_2 : (γ 1030 2).toInt = σ 0 + 7 := eG h (g := 1030) (i := 2) (sy := 0) (c := 7) (by decide) (List.Mem.head _)
  have q44_3 : (γ 1044 3).toInt = σ 2 + 0 := eG h (g := 1044) (i := 3) (sy := 2) (c := 0) (by decide) (List.Mem.tail _ (List.Mem.head _))
  have b1 := eB h (i := 1) (lo := 0) (hi := 3) rfl
  have b2 := eB h (i := 2) (lo := 0) (hi := 4) rfl
  have z0 := (h.1.2.1.2.2 1 2 (-1) (List.Mem.head _)).2.2
  have s0 := h.1.2.1.1
  have hx : x9 γ M := hA.2.2.2.1.2.2
  have hT := aTp_of h.2.2.2
  have hd : x0.toInt.toNat < 4 := by omega
  obtain ⟨v, v1, v2, v3⟩ := hT.int (c := 180) (i := x0.toInt.toNat) (by decide) (by decide) hd (lo := 0) (hi' := 39) (gs := []) rfl
  have ev := yV_get (t := 5) (f := 0) (d := x0.toInt.toNat) (yOk_s hd rfl) v1
  refine kIald (mi := 43) (pc := 113) (len := 1) (n := 4) rfl (hT.hd (c := 180) (by decide) (by decide)) (by omega) (by show x0.toInt < 4; omega) v1 ?_
  refine k (gUs γ [(1044, 1, v), (1044, 2, x0)]) (aUp σ 3 (v.toInt)) _ L [.int v] M (List.Mem.head _) (fun _ _ => rfl) aFr.rf (gUs_fr [(1044, 1, v), (1044, 2, x0)] rfl gFr.rf) aUp_ext ?_
  exact mkHold9 (by decide) s0 ⟨b00 s0, b1, b2, ⟨by show (0 : Int) ≤ v.toInt; omega, by show v.toInt ≤ 39; omega⟩, True.intro⟩ True.intro ⟨hF1_gh (by decide) (by decide) (by show (v : Int32).toInt = v.toInt + 0; omega), hF1_gh (by decide) (by decide) (by show (x0 : Int32).toInt = σ 1 + 0; omega), True.intro⟩ ⟨⟨by decide, _, rfl, by show (v : Int32).toInt = v.toInt + 0; omega⟩, True.intro⟩ (fin9 hA.2.2.2 hT (gUs_lt [(1044, 1, v), (1044, 2, x0)] rfl (fun _ _ _ => rfl)) rfl ⟨hx.1, y9_vl hx.2 (by omega) (by omega) (by omega) ev⟩)
theorem gs_vl44 {s : List Int32} : gSound9 s sg_vl44 := by
  intro γ d σ L st0 st M Q _ hA k
  have h := aHold_0 hA
  obtain ⟨w0, w1, rfl, g0, g1⟩ := eS2 h
  obtain ⟨x0, rfl, ex0⟩ := gI g0
  have ex0 : x0.toInt = σ 1 + 0 := ex0
  have e1 := gR g1 rfl
  subst e1
  have q30_2 : (γ 1030 2).toInt = σ 0 + 7 := eG h (g := 1030) (i := 2) (sy := 0) (c := 7) (by decide) (List.Mem.head _)
  have q44_3 : (γ 1044 3).toInt = σ 2 + 0 := eG h (g := 1044) (i := 3) (sy := 2) (c := 0) (by decide) (List.Mem.tail _ (List.Mem.head _))
  have b1 := eB h (i := 1) (lo := 0) (hi := 3) rfl
  have b2 := eB h (i := 2) (lo := 0) (hi := 4) rfl
  have z0 := (h.1.2.1.2.2 1 2 (-1) (List.Mem.head _)).2.2
  have s0 := h.1.2.1.1
  have hx : x9 γ M := hA.2.2.2.1.2.2
  have hT := aTp_of h.2.2.2
  have hd : x0.toInt.toNat < 4 := by omega
  obtain ⟨v, v1, v2, v3⟩ := hT.int (c := 180) (i := x0.toInt.toNat) (by decide) (by decide) hd (lo := 0) (hi' := 39) (gs := []) rfl
  have ev := yV_get (t := 5) (f := 0) (d := x0.toInt.toNat) (yOk_s hd rfl) v1
  refine kIald (mi := 44) (pc := 27) (len := 1) (n := 4) rfl (hT.hd (c := 180) (by decide) (by decide)) (by omega) (by show x0.toInt < 4; omega) v1 ?_
  refine k (gUs γ [(1044, 1, v), (1044, 2, x0)]) (aUp σ 3 (v.toInt)) _ L [.int v] M (List.Mem.head _) (fun _ _ => rfl) aFr.rf (gUs_fr [(1044, 1, v), (1044, 2, x0)] rfl gFr.rf) aUp_ext ?_
  exact mkHold9 (by decide) s0 ⟨b00 s0, b1, b2, ⟨by show (0 : Int) ≤ v.toInt; omega, by show v.toInt ≤ 39; omega⟩, True.intro⟩ True.intro ⟨hF1_gh (by decide) (by decide) (by show (v : Int32).toInt = v.toInt + 0; omega), hF1_gh (by decide) (by decide) (by show (x0 : Int32).toInt = σ 1 + 0; omega), True.intro⟩ ⟨⟨by decide, _, rfl, by show (v : Int32).toInt = v.toInt + 0; omega⟩, True.intro⟩ (fin9 hA.2.2.2 hT (gUs_lt [(1044, 1, v), (1044, 2, x0)] rfl (fun _ _ _ => rfl)) rfl ⟨hx.1, y9_vl hx.2 (by omega) (by omega) (by omega) ev⟩)
theorem gs_ww49 {s : List Int32} : gSound9 s sg_ww49 := by
  intro γ d σ L st0 st M Q _ hA k
  have h := aHold_0 hA
  obtain ⟨w0, w1, w2, rfl, g0, g1, g2⟩ := eS3 h
  obtain ⟨x0, rfl, ex0⟩ := gI g0
  have ex0 : x0.toInt = σ 1 + 0 := ex0
  obtain ⟨x1, rfl, ex1⟩ := gI g1
  have ex1 : x1.toInt = σ 2 + 0 := ex1
  have e2 := gR g2 rfl
  subst e2
  have q30_2 : (γ 1030 2).toInt = σ 0 + 6 := eG h (g := 1030) (i := 2) (sy := 0) (c := 6) (by decide) (List.Mem.head _)
  have q35_1 : (γ 1035 1).toInt = σ 2 + 0 := eG h (g := 1035) (i := 1) (sy := 2) (c := 0) (by decide) (List.Mem.tail _ (List.Mem.head _))
  have q35_0 : (γ 1035 0).toInt = σ 0 + 0 := eG h (g := 1035) (i := 0) (sy := 0) (c := 0) (by decide) (List.Mem.tail _ (List.Mem.tail _ (List.Mem.head _)))
  have b1 := eB h (i := 1) (lo := (-1)) (hi := 1006) rfl
  have b2 := eB h (i := 2) (lo := 0) (hi := 39) rfl
  have s0 := h.1.2.1.1
  have hx : x9 γ M := hA.2.2.2.1.2.2
  have hT := aTp_of h.2.2.2
  have hd : x1.toInt.toNat < 40 := by omega
  have ed : (γ 1035 1).toInt.toNat = x1.toInt.toNat := by omega
  have hy := y9_ww (f := 7) (v := x0.toInt) hx.2 (by omega) (by decide) (by omega) (by omega)
  rw [ed] at hy
  refine kIast (mi := 259) (pc := 49) (len := 1) (n := 40) rfl (hT.hd (c := 191) (by decide) (by decide)) (by decide) (by omega) (by show x1.toInt < 40; omega) ?_
  refine k (gUs γ [(1035, 5, 0)]) σ _ L [] (mPut M 191 x1.toInt.toNat (.int x0)) (List.Mem.head _) (fun _ _ => rfl) (frR (f := 7) (by decide) rfl) (gUs_fr [(1035, 5, 0)] rfl gFr.rf) aExt.rf ?_
  exact mkHold9 (by decide) s0 ⟨b00 s0, b1, b2, True.intro⟩ True.intro True.intro True.intro (putR hA.2.2.2 hd (f := 7) (by decide) (by show (-1 : Int) ≤ x0.toInt; omega) (by show x0.toInt ≤ 1006; omega) (gUs_lt [(1035, 5, 0)] rfl (fun _ _ _ => rfl)) hy)
theorem gs_ww73 {s : List Int32} : gSound9 s sg_ww73 := by
  intro γ d σ L st0 st M Q _ hA k
  have h := aHold_0 hA
  obtain ⟨w0, w1, w2, rfl, g0, g1, g2⟩ := eS3 h
  obtain ⟨x0, rfl, ex0⟩ := gI g0
  have ex0 : x0.toInt = σ 1 + 0 := ex0
  obtain ⟨x1, rfl, ex1⟩ := gI g1
  have ex1 : x1.toInt = σ 2 + 0 := ex1
  have e2 := gR g2 rfl
  subst e2
  have q30_2 : (γ 1030 2).toInt = σ 0 + 6 := eG h (g := 1030) (i := 2) (sy := 0) (c := 6) (by decide) (List.Mem.head _)
  have q35_1 : (γ 1035 1).toInt = σ 2 + 0 := eG h (g := 1035) (i := 1) (sy := 2) (c := 0) (by decide) (List.Mem.tail _ (List.Mem.head _))
  have q35_0 : (γ 1035 0).toInt = σ 0 + 0 := eG h (g := 1035) (i := 0) (sy := 0) (c := 0) (by decide) (List.Mem.tail _ (List.Mem.tail _ (List.Mem.head _)))
  have b1 := eB h (i := 1) (lo := (-1)) (hi := 9) rfl
  have b2 := eB h (i := 2) (lo := 0) (hi := 39) rfl
  have s0 := h.1.2.1.1
  have hx : x9 γ M := hA.2.2.2.1.2.2
  have hT := aTp_of h.2.2.2
  have hd : x1.toInt.toNat < 40 := by omega
  have ed : (γ 1035 1).toInt.toNat = x1.toInt.toNat := by omega
  have hy := y9_ww (f := 8) (v := x0.toInt) hx.2 (by omega) (by decide) (by omega) (by omega)
  rw [ed] at hy
  refine kIast (mi := 259) (pc := 73) (len := 1) (n := 40) rfl (hT.hd (c := 192) (by decide) (by decide)) (by decide) (by omega) (by show x1.toInt < 40; omega) ?_
  refine k (gUs γ [(1035, 5, 0)]) σ _ L [] (mPut M 192 x1.toInt.toNat (.int x0)) (List.Mem.head _) (fun _ _ => rfl) (frR (f := 8) (by decide) rfl) (gUs_fr [(1035, 5, 0)] rfl gFr.rf) aExt.rf ?_
  exact mkHold9 (by decide) s0 ⟨b00 s0, b1, b2, True.intro⟩ True.intro True.intro True.intro (putR hA.2.2.2 hd (f := 8) (by decide) (by show (-1 : Int) ≤ x0.toInt; omega) (by show x0.toInt ≤ 9; omega) (gUs_lt [(1035, 5, 0)] rfl (fun _ _ _ => rfl)) hy)
theorem gs_wr1 {s : List Int32} : gSound9 s sg_wr1 := by
  intro γ d σ L st0 st M Q _ hA k
  have h := aHold_0 hA
  obtain ⟨w0, w1, w2, rfl, g0, g1, g2⟩ := eS3 h
  obtain ⟨x0, rfl, ex0⟩ := gI g0
  have ex0 : x0.toInt = σ 0 + (-1) := ex0
  obtain ⟨x1, rfl, ex1⟩ := gI g1
  have ex1 : x1.toInt = σ 1 + 0 := ex1
  have e2 := gR g2 rfl
  subst e2
  have q30_2 : (γ 1030 2).toInt = σ 0 + 6 := eG h (g := 1030) (i := 2) (sy := 0) (c := 6) (by decide) (List.Mem.head _)
  have q35_1 : (γ 1035 1).toInt = σ 1 + 0 := eG h (g := 1035) (i := 1) (sy := 1) (c := 0) (by decide) (List.Mem.tail _ (List.Mem.head _))
  have q35_2 : (γ 1035 2).toInt = σ 2 + 0 := eG h (g := 1035) (i := 2) (sy := 2) (c := 0) (by decide) (List.Mem.tail _ (List.Mem.tail _ (List.Mem.head _)))
  have q35_0 : (γ 1035 0).toInt = σ 2 + 0 := eG h (g := 1035) (i := 0) (sy := 2) (c := 0) (by decide) (List.Mem.tail _ (List.Mem.tail _ (List.Mem.tail _ (List.Mem.head _))))
  have b1 := eB h (i := 1) (lo := 0) (hi := 39) rfl
  have b2 := eB h (i := 2) (lo := 0) (hi := 3) rfl
  have s0 := h.1.2.1.1
  have hx : x9 γ M := hA.2.2.2.1.2.2
  have hT := aTp_of h.2.2.2
  have hd : x1.toInt.toNat < 40 := by omega
  have ed : (γ 1035 1).toInt.toNat = x1.toInt.toNat := by omega
  have e1 : x0.toInt = -1 := by omega
  have hy := y9_wr1 hx.2 (by omega) (by omega) (by omega)
  rw [ed, ← e1] at hy
  refine kIast (mi := 259) (pc := 138) (len := 1) (n := 40) rfl (hT.hd (c := 191) (by decide) (by decide)) (by decide) (by omega) (by show x1.toInt < 40; omega) ?_
  refine k (gUs γ [(1035, 5, 1)]) σ _ L [] (mPut M 191 x1.toInt.toNat (.int x0)) (List.Mem.head _) (fun _ _ => rfl) (frR (f := 7) (by decide) rfl) (gUs_fr [(1035, 5, 1)] rfl gFr.rf) aExt.rf ?_
  exact mkHold9 (by decide) s0 ⟨b00 s0, b1, b2, True.intro⟩ True.intro ⟨hF1_gh (by decide) (by decide) (by show (1 : Int) = σ 0 + 1; omega), True.intro⟩ True.intro (putR hA.2.2.2 hd (f := 7) (by decide) (by show (-1 : Int) ≤ x0.toInt; omega) (by show x0.toInt ≤ 1006; omega) (gUs_lt [(1035, 5, 1)] rfl (fun _ _ _ => rfl)) hy)
theorem gs_wr2 {s : List Int32} : gSound9 s sg_wr2 := by
  intro γ d σ L st0 st M Q _ hA k
  have h := aHold_0 hA
  obtain ⟨w0, w1, w2, rfl, g0, g1, g2⟩ := eS3 h
  obtain ⟨x0, rfl, ex0⟩ := gI g0
  have ex0 : x0.toInt = σ 0 + (-1) := ex0
  obtain ⟨x1, rfl, ex1⟩ := gI g1
  have ex1 : x1.toInt = σ 1 + 0 := ex1
  have e2 := gR g2 rfl
  subst e2
  have q30_2 : (γ 1030 2).toInt = σ 0 + 6 := eG h (g := 1030) (i := 2) (sy := 0) (c := 6) (by decide) (List.Mem.head _)
  have q35_1 : (γ 1035 1).toInt = σ 1 + 0 := eG h (g := 1035) (i := 1) (sy := 1) (c := 0) (by decide) (List.Mem.tail _ (List.Mem.head _))
  have q35_2 : (γ 1035 2).toInt = σ 2 + 0 := eG h (g := 1035) (i := 2) (sy := 2) (c := 0) (by decide) (List.Mem.tail _ (List.Mem.tail _ (List.Mem.head _)))
  have q35_0 : (γ 1035 0).toInt = σ 2 + 0 := eG h (g := 1035) (i := 0) (sy := 2) (c := 0) (by decide) (List.Mem.tail _ (List.Mem.tail _ (List.Mem.tail _ (List.Mem.head _))))
  have q35_5 : (γ 1035 5).toInt = σ 0 + 1 := eG h (g := 1035) (i := 5) (sy := 0) (c := 1) (by decide) (List.Mem.tail _ (List.Mem.tail _ (List.Mem.tail _ (List.Mem.tail _ (List.Mem.head _)))))
  have b1 := eB h (i := 1) (lo := 0) (hi := 39) rfl
  have b2 := eB h (i := 2) (lo := 0) (hi := 3) rfl
  have s0 := h.1.2.1.1
  have hx : x9 γ M := hA.2.2.2.1.2.2
  have hT := aTp_of h.2.2.2
  have hd : x1.toInt.toNat < 40 := by omega
  have ed : (γ 1035 1).toInt.toNat = x1.toInt.toNat := by omega
  have ei : (γ 1035 0 + 1).toInt = (γ 1035 0).toInt + 1 := i32_inc (by omega) (by omega)
  have e1 : x0.toInt = -1 := by omega
  have hy := y9_wr2 (j := γ 1035 0 + 1) hx.2 (by omega) (by omega) (by omega) (by omega) ei
  rw [ed, ← e1] at hy
  refine kIast (mi := 259) (pc := 151) (len := 1) (n := 40) rfl (hT.hd (c := 192) (by decide) (by decide)) (by decide) (by omega) (by show x1.toInt < 40; omega) ?_
  refine k (gUs γ [(1035, 0, γ 1035 0 + 1), (1035, 5, 0)]) σ _ L [] (mPut M 192 x1.toInt.toNat (.int x0)) (List.Mem.head _) (fun _ _ => rfl) (frR (f := 8) (by decide) rfl) (gUs_fr [(1035, 0, γ 1035 0 + 1), (1035, 5, 0)] rfl gFr.rf) aExt.rf ?_
  exact mkHold9 (by decide) s0 ⟨b00 s0, b1, b2, True.intro⟩ True.intro ⟨hF1_gh (by decide) (by decide) (by show ((γ 1035 0 + 1) : Int32).toInt = σ 2 + 1; omega), True.intro⟩ True.intro (putR hA.2.2.2 hd (f := 8) (by decide) (by show (-1 : Int) ≤ x0.toInt; omega) (by show x0.toInt ≤ 9; omega) (gUs_lt [(1035, 0, γ 1035 0 + 1), (1035, 5, 0)] rfl (fun _ _ _ => rfl)) hy)
theorem gs_we {s : List Int32} : gSound9 s sg_we := by
  intro γ d σ L st0 st M Q _ hA k
  have h := aHold_0 hA
  have e0 := eNil h
  subst e0
  obtain ⟨l6, hl6, el6⟩ := eI h (i := 6) (sy := 1) (c := 0) rfl
  obtain ⟨l7, hl7, el7⟩ := eI h (i := 7) (sy := 2) (c := 0) rfl
  have q30_2 : (γ 1030 2).toInt = σ 0 + 6 := eG h (g := 1030) (i := 2) (sy := 0) (c := 6) (by decide) (List.Mem.head _)
  obtain ⟨f181_57, hf181_57, ef181_57⟩ := eF h (g := 181) (i := 57) (sy := 3) (c := 0) (by decide) (by decide) rfl (List.Mem.tail _ (List.Mem.head _))
  have q35_3 : (γ 1035 3).toInt = σ 3 + 0 := eG h (g := 1035) (i := 3) (sy := 3) (c := 0) (by decide) (List.Mem.tail _ (List.Mem.tail _ (List.Mem.head _)))
  have q35_0 : (γ 1035 0).toInt = σ 2 + 0 := eG h (g := 1035) (i := 0) (sy := 2) (c := 0) (by decide) (List.Mem.tail _ (List.Mem.tail _ (List.Mem.tail _ (List.Mem.head _))))
  have b1 := eB h (i := 1) (lo := 0) (hi := 2401) rfl
  have b2 := eB h (i := 2) (lo := 0) (hi := 4) rfl
  have b3 := eB h (i := 3) (lo := 0) (hi := 4) rfl
  have z0 := (h.1.2.1.2.2 3 2 0 (List.Mem.head _)).2.2
  have s0 := h.1.2.1.1
  have hx : x9 γ M := hA.2.2.2.1.2.2
  have hT := aTp_of h.2.2.2
  refine kIload (mi := 259) (pc := 158) (len := 2) (i := 6) rfl hl6 ?_
  refine k (gUs γ [(1030, 2, 0)]) σ _ L [.int l6] M (List.Mem.head _) (fun _ _ => rfl) aFr.rf (gUs_fr [(1030, 2, 0)] rfl gFr.rf) aExt.rf ?_
  exact mkHold9 (by decide) s0 ⟨b00 s0, b1, b2, b3, True.intro⟩ True.intro ⟨hF1_gh (by decide) (by decide) (by show (0 : Int) = σ 0 + 0; omega), True.intro⟩ ⟨⟨by decide, _, rfl, by show (l6 : Int32).toInt = σ 1 + 0; omega⟩, True.intro⟩ (fin9 hA.2.2.2 hT (gUs_lt [(1030, 2, 0)] rfl (fun _ _ _ => rfl)) rfl ⟨hx.1, y9_we hx.2 (by omega) (by omega)⟩)
theorem gs_cw0 {s : List Int32} : gSound9 s sg_cw0 := by
  intro γ d σ L st0 st M Q _ hA k
  have h := aHold_0 hA
  have e0 := eNil h
  subst e0
  have hl0 := eR h (i := 0) (g := 177) (c := 0) rfl rfl
  have q30_2 : (γ 1030 2).toInt = σ 0 + 9 := eG h (g := 1030) (i := 2) (sy := 0) (c := 9) (by decide) (List.Mem.head _)
  have q44_3 : (γ 1044 3).toInt = σ 1 + 0 := eG h (g := 1044) (i := 3) (sy := 1) (c := 0) (by decide) (List.Mem.tail _ (List.Mem.head _))
  have b1 := eB h (i := 1) (lo := 0) (hi := 4) rfl
  have s0 := h.1.2.1.1
  have hx : x9 γ M := hA.2.2.2.1.2.2
  have hT := aTp_of h.2.2.2
  refine kAload (mi := 43) (pc := 0) (len := 1) (i := 0) rfl hl0 ?_
  refine k (gUs γ [(1030, 2, 7), (1044, 0, 0), (1044, 1, -1), (1044, 2, -1), (1044, 4, 0)]) σ _ L [.ref 177] M (List.Mem.head _) (fun _ _ => rfl) aFr.rf (gUs_fr [(1030, 2, 7), (1044, 0, 0), (1044, 1, -1), (1044, 2, -1), (1044, 4, 0)] rfl gFr.rf) aExt.rf ?_
  exact mkHold9 (by decide) s0 ⟨b00 s0, b1, True.intro⟩ True.intro ⟨hF1_gh (by decide) (by decide) (by show (7 : Int) = σ 0 + 7; omega), hF1_gh (by decide) (by decide) (by show (0 : Int) = σ 0 + 0; omega), True.intro⟩ ⟨⟨177, rfl, by decide, by decide, rfl, fun hc => absurd hc (by decide)⟩, True.intro⟩ (fin9 hA.2.2.2 hT (gUs_lt [(1030, 2, 7), (1044, 0, 0), (1044, 1, -1), (1044, 2, -1), (1044, 4, 0)] rfl (fun _ _ _ => rfl)) rfl ⟨hx.1, y9_cw0 hx.2 (by omega)⟩)
theorem gs_va43 {s : List Int32} : gSound9 s sg_va43 := by
  intro γ d σ L st0 st M Q _ hA k
  have h := aHold_0 hA
  obtain ⟨w0, w1, rfl, g0, g1⟩ := eS2 h
  obtain ⟨x0, rfl, ex0⟩ := gI g0
  have ex0 : x0.toInt = σ 1 + 0 := ex0
  have e1 := gR g1 rfl
  subst e1
  have q30_2 : (γ 1030 2).toInt = σ 0 + 7 := eG h (g := 1030) (i := 2) (sy := 0) (c := 7) (by decide) (List.Mem.head _)
  have b1 := eB h (i := 1) (lo := 0) (hi := 39) rfl
  have s0 := h.1.2.1.1
  have hx : x9 γ M := hA.2.2.2.1.2.2
  have hT := aTp_of h.2.2.2
  refine kAaldT (n := 40) (mi := 43) (pc := 114) (len := 1) rfl (hT.hd (c := 8) (by decide) (by decide)) rfl (by omega) (by omega) (hx.1 x0.toInt.toNat (by omega)).1 ?_
  refine k γ (aUp σ 2 (σ 1)) _ L [.ref (10 + x0.toInt.toNat)] M (List.Mem.head _) (fun _ _ => rfl) aFr.rf gFr.rf aUp_ext ?_
  exact mkHold9 (by decide) s0 ⟨b00 s0, b1, ⟨by show (0 : Int) ≤ σ 1; omega, by show σ 1 ≤ 39; omega⟩, True.intro⟩ ⟨⟨by decide, by decide, by show σ 1 - σ 1 ≤ 0; omega⟩, ⟨by decide, by decide, by show σ 1 - σ 1 ≤ 0; omega⟩, True.intro⟩ True.intro ⟨⟨10 + x0.toInt.toNat, rfl, by show 2 ≤ 10 + x0.toInt.toNat; omega, by show 10 + x0.toInt.toNat < 242; omega, grp10 _ (by omega), fun _ => ⟨by decide, by show ((10 + x0.toInt.toNat : Nat) : Int) = 10 + σ 1; omega⟩⟩, True.intro⟩ (hA.2.2.2)
theorem gs_va44 {s : List Int32} : gSound9 s sg_va44 := by
  intro γ d σ L st0 st M Q _ hA k
  have h := aHold_0 hA
  obtain ⟨w0, w1, rfl, g0, g1⟩ := eS2 h
  obtain ⟨x0, rfl, ex0⟩ := gI g0
  have ex0 : x0.toInt = σ 1 + 0 := ex0
  have e1 := gR g1 rfl
  subst e1
  have q30_2 : (γ 1030 2).toInt = σ 0 + 7 := eG h (g := 1030) (i := 2) (sy := 0) (c := 7) (by decide) (List.Mem.head _)
  have b1 := eB h (i := 1) (lo := 0) (hi := 39) rfl
  have s0 := h.1.2.1.1
  have hx : x9 γ M := hA.2.2.2.1.2.2
  have hT := aTp_of h.2.2.2
  refine kAaldT (n := 40) (mi := 44) (pc := 28) (len := 1) rfl (hT.hd (c := 8) (by decide) (by decide)) rfl (by omega) (by omega) (hx.1 x0.toInt.toNat (by omega)).1 ?_
  refine k γ (aUp σ 2 (σ 1)) _ L [.ref (10 + x0.toInt.toNat)] M (List.Mem.head _) (fun _ _ => rfl) aFr.rf gFr.rf aUp_ext ?_
  exact mkHold9 (by decide) s0 ⟨b00 s0, b1, ⟨by show (0 : Int) ≤ σ 1; omega, by show σ 1 ≤ 39; omega⟩, True.intro⟩ ⟨⟨by decide, by decide, by show σ 1 - σ 1 ≤ 0; omega⟩, ⟨by decide, by decide, by show σ 1 - σ 1 ≤ 0; omega⟩, True.intro⟩ True.intro ⟨⟨10 + x0.toInt.toNat, rfl, by show 2 ≤ 10 + x0.toInt.toNat; omega, by show 10 + x0.toInt.toNat < 242; omega, grp10 _ (by omega), fun _ => ⟨by decide, by show ((10 + x0.toInt.toNat : Nat) : Int) = 10 + σ 1; omega⟩⟩, True.intro⟩ (hA.2.2.2)
theorem gs_vw7 {s : List Int32} : gSound9 s sg_vw7 := by
  intro γ d σ L st0 st M Q _ hA k
  have h := aHold_0 hA
  obtain ⟨w0, w1, rfl, g0, g1⟩ := eS2 h
  obtain ⟨x0, rfl, ex0⟩ := gI g0
  have ex0 : x0.toInt = σ 1 + 0 := ex0
  obtain ⟨a1, rfl, ea1⟩ := gD g1 (by decide)
  have q30_2 : (γ 1030 2).toInt = σ 0 + 7 := eG h (g := 1030) (i := 2) (sy := 0) (c := 7) (by decide) (List.Mem.head _)
  have q44_1 : (γ 1044 1).toInt = σ 2 + 0 := eG h (g := 1044) (i := 1) (sy := 2) (c := 0) (by decide) (List.Mem.tail _ (List.Mem.head _))
  have q44_0 : (γ 1044 0).toInt = σ 0 + 0 := eG h (g := 1044) (i := 0) (sy := 0) (c := 0) (by decide) (List.Mem.tail _ (List.Mem.tail _ (List.Mem.head _)))
  have b1 := eB h (i := 1) (lo := 0) (hi := 1000000) rfl
  have b2 := eB h (i := 2) (lo := 0) (hi := 39) rfl
  have s0 := h.1.2.1.1
  have hx : x9 γ M := hA.2.2.2.1.2.2
  have hT := aTp_of h.2.2.2
  have hd : (γ 1044 1).toInt.toNat < 40 := by omega
  have ea : a1 = 10 + (γ 1044 1).toInt.toNat := by omega
  subst ea
  refine kPutf (mi := 29) (pc := 2) (len := 3) (j := 107) rfl (hdD hT hd) (by decide) (by decide) rfl ?_
  refine k (gUs γ [(1044, 4, 0)]) σ _ L [] (mPut M (10 + (γ 1044 1).toInt.toNat) 7 (.int x0)) (List.Mem.head _) (fun _ _ => rfl) (frD hd rfl) (gUs_fr [(1044, 4, 0)] rfl gFr.rf) aExt.rf ?_
  exact mkHold9 (by decide) s0 ⟨b00 s0, b1, b2, True.intro⟩ True.intro True.intro True.intro (putD hA.2.2.2 hd (f := 7) (by decide) (by show (0 : Int) ≤ x0.toInt; omega) (by show x0.toInt ≤ 1000000; omega) (gUs_lt [(1044, 4, 0)] rfl (fun _ _ _ => rfl)) (y9_vw hx.2 (by omega) (by decide) (by omega) (by omega)))
theorem gs_vw8 {s : List Int32} : gSound9 s sg_vw8 := by
  intro γ d σ L st0 st M Q _ hA k
  have h := aHold_0 hA
  obtain ⟨w0, w1, rfl, g0, g1⟩ := eS2 h
  obtain ⟨x0, rfl, ex0⟩ := gI g0
  have ex0 : x0.toInt = σ 1 + 0 := ex0
  obtain ⟨a1, rfl, ea1⟩ := gD g1 (by decide)
  have q30_2 : (γ 1030 2).toInt = σ 0 + 7 := eG h (g := 1030) (i := 2) (sy := 0) (c := 7) (by decide) (List.Mem.head _)
  have q44_1 : (γ 1044 1).toInt = σ 2 + 0 := eG h (g := 1044) (i := 1) (sy := 2) (c := 0) (by decide) (List.Mem.tail _ (List.Mem.head _))
  have q44_0 : (γ 1044 0).toInt = σ 0 + 0 := eG h (g := 1044) (i := 0) (sy := 0) (c := 0) (by decide) (List.Mem.tail _ (List.Mem.tail _ (List.Mem.head _)))
  have b1 := eB h (i := 1) (lo := (-1)) (hi := 9) rfl
  have b2 := eB h (i := 2) (lo := 0) (hi := 39) rfl
  have s0 := h.1.2.1.1
  have hx : x9 γ M := hA.2.2.2.1.2.2
  have hT := aTp_of h.2.2.2
  have hd : (γ 1044 1).toInt.toNat < 40 := by omega
  have ea : a1 = 10 + (γ 1044 1).toInt.toNat := by omega
  subst ea
  refine kPutf (mi := 29) (pc := 10) (len := 3) (j := 108) rfl (hdD hT hd) (by decide) (by decide) rfl ?_
  refine k (gUs γ [(1044, 4, 0)]) σ _ L [] (mPut M (10 + (γ 1044 1).toInt.toNat) 8 (.int x0)) (List.Mem.head _) (fun _ _ => rfl) (frD hd rfl) (gUs_fr [(1044, 4, 0)] rfl gFr.rf) aExt.rf ?_
  exact mkHold9 (by decide) s0 ⟨b00 s0, b1, b2, True.intro⟩ True.intro True.intro True.intro (putD hA.2.2.2 hd (f := 8) (by decide) (by show (-1 : Int) ≤ x0.toInt; omega) (by show x0.toInt ≤ 9; omega) (gUs_lt [(1044, 4, 0)] rfl (fun _ _ _ => rfl)) (y9_vw hx.2 (by omega) (by decide) (by omega) (by omega)))
theorem gs_vw9 {s : List Int32} : gSound9 s sg_vw9 := by
  intro γ d σ L st0 st M Q _ hA k
  have h := aHold_0 hA
  obtain ⟨w0, w1, rfl, g0, g1⟩ := eS2 h
  obtain ⟨x0, rfl, ex0⟩ := gI g0
  have ex0 : x0.toInt = σ 1 + 0 := ex0
  obtain ⟨a1, rfl, ea1⟩ := gD g1 (by decide)
  have q30_2 : (γ 1030 2).toInt = σ 0 + 7 := eG h (g := 1030) (i := 2) (sy := 0) (c := 7) (by decide) (List.Mem.head _)
  have q44_1 : (γ 1044 1).toInt = σ 2 + 0 := eG h (g := 1044) (i := 1) (sy := 2) (c := 0) (by decide) (List.Mem.tail _ (List.Mem.head _))
  have q44_0 : (γ 1044 0).toInt = σ 0 + 0 := eG h (g := 1044) (i := 0) (sy := 0) (c := 0) (by decide) (List.Mem.tail _ (List.Mem.tail _ (List.Mem.head _)))
  have b1 := eB h (i := 1) (lo := 0) (hi := 16383) rfl
  have b2 := eB h (i := 2) (lo := 0) (hi := 39) rfl
  have s0 := h.1.2.1.1
  have hx : x9 γ M := hA.2.2.2.1.2.2
  have hT := aTp_of h.2.2.2
  have hd : (γ 1044 1).toInt.toNat < 40 := by omega
  have ea : a1 = 10 + (γ 1044 1).toInt.toNat := by omega
  subst ea
  refine kPutf (mi := 29) (pc := 15) (len := 3) (j := 109) rfl (hdD hT hd) (by decide) (by decide) rfl ?_
  refine k (gUs γ [(1044, 4, 0)]) σ _ L [] (mPut M (10 + (γ 1044 1).toInt.toNat) 9 (.int x0)) (List.Mem.head _) (fun _ _ => rfl) (frD hd rfl) (gUs_fr [(1044, 4, 0)] rfl gFr.rf) aExt.rf ?_
  exact mkHold9 (by decide) s0 ⟨b00 s0, b1, b2, True.intro⟩ True.intro True.intro True.intro (putD hA.2.2.2 hd (f := 9) (by decide) (by show (0 : Int) ≤ x0.toInt; omega) (by show x0.toInt ≤ 16383; omega) (gUs_lt [(1044, 4, 0)] rfl (fun _ _ _ => rfl)) (y9_vw hx.2 (by omega) (by decide) (by omega) (by omega)))
theorem gs_vt7 {s : List Int32} : gSound9 s sg_vt7 := by
  intro γ d σ L st0 st M Q _ hA k
  have h := aHold_0 hA
  obtain ⟨w0, w1, rfl, g0, g1⟩ := eS2 h
  obtain ⟨x0, rfl, ex0⟩ := gI g0
  have ex0 : x0.toInt = σ 0 + 1000000 := ex0
  obtain ⟨a1, rfl, ea1⟩ := gD g1 (by decide)
  have q30_2 : (γ 1030 2).toInt = σ 0 + 7 := eG h (g := 1030) (i := 2) (sy := 0) (c := 7) (by decide) (List.Mem.head _)
  have q44_1 : (γ 1044 1).toInt = σ 1 + 0 := eG h (g := 1044) (i := 1) (sy := 1) (c := 0) (by decide) (List.Mem.tail _ (List.Mem.head _))
  have q44_2 : (γ 1044 2).toInt = σ 2 + 0 := eG h (g := 1044) (i := 2) (sy := 2) (c := 0) (by decide) (List.Mem.tail _ (List.Mem.tail _ (List.Mem.head _)))
  have q44_0 : (γ 1044 0).toInt = σ 2 + 0 := eG h (g := 1044) (i := 0) (sy := 2) (c := 0) (by decide) (List.Mem.tail _ (List.Mem.tail _ (List.Mem.tail _ (List.Mem.head _))))
  have b1 := eB h (i := 1) (lo := 0) (hi := 39) rfl
  have b2 := eB h (i := 2) (lo := 0) (hi := 3) rfl
  have s0 := h.1.2.1.1
  have hx : x9 γ M := hA.2.2.2.1.2.2
  have hT := aTp_of h.2.2.2
  have hd : (γ 1044 1).toInt.toNat < 40 := by omega
  have ea : a1 = 10 + (γ 1044 1).toInt.toNat := by omega
  subst ea
  have e1 : x0.toInt = 1000000 := by omega
  have hy := y9_vt7 hx.2 (by omega) (by omega) (by omega)
  rw [← e1] at hy
  refine kPutf (mi := 30) (pc := 3) (len := 3) (j := 107) rfl (hdD hT hd) (by decide) (by decide) rfl ?_
  refine k (gUs γ [(1044, 4, 1)]) σ _ L [] (mPut M (10 + (γ 1044 1).toInt.toNat) 7 (.int x0)) (List.Mem.head _) (fun _ _ => rfl) (frD hd rfl) (gUs_fr [(1044, 4, 1)] rfl gFr.rf) aExt.rf ?_
  exact mkHold9 (by decide) s0 ⟨b00 s0, b1, b2, True.intro⟩ True.intro ⟨hF1_gh (by decide) (by decide) (by show (1 : Int) = σ 0 + 1; omega), True.intro⟩ True.intro (putD hA.2.2.2 hd (f := 7) (by decide) (by show (0 : Int) ≤ x0.toInt; omega) (by show x0.toInt ≤ 1000000; omega) (gUs_lt [(1044, 4, 1)] rfl (fun _ _ _ => rfl)) hy)
theorem gs_vt8 {s : List Int32} : gSound9 s sg_vt8 := by
  intro γ d σ L st0 st M Q _ hA k
  have h := aHold_0 hA
  obtain ⟨w0, w1, rfl, g0, g1⟩ := eS2 h
  obtain ⟨x0, rfl, ex0⟩ := gI g0
  have ex0 : x0.toInt = σ 0 + (-1) := ex0
  obtain ⟨a1, rfl, ea1⟩ := gD g1 (by decide)
  have q30_2 : (γ 1030 2).toInt = σ 0 + 7 := eG h (g := 1030) (i := 2) (sy := 0) (c := 7) (by decide) (List.Mem.head _)
  have q44_1 : (γ 1044 1).toInt = σ 1 + 0 := eG h (g := 1044) (i := 1) (sy := 1) (c := 0) (by decide) (List.Mem.tail _ (List.Mem.head _))
  have q44_2 : (γ 1044 2).toInt = σ 2 + 0 := eG h (g := 1044) (i := 2) (sy := 2) (c := 0) (by decide) (List.Mem.tail _ (List.Mem.tail _ (List.Mem.head _)))
  have q44_0 : (γ 1044 0).toInt = σ 2 + 0 := eG h (g := 1044) (i := 0) (sy := 2) (c := 0) (by decide) (List.Mem.tail _ (List.Mem.tail _ (List.Mem.tail _ (List.Mem.head _))))
  have q44_4 : (γ 1044 4).toInt = σ 0 + 1 := eG h (g := 1044) (i := 4) (sy := 0) (c := 1) (by decide) (List.Mem.tail _ (List.Mem.tail _ (List.Mem.tail _ (List.Mem.tail _ (List.Mem.head _)))))
  have b1 := eB h (i := 1) (lo := 0) (hi := 39) rfl
  have b2 := eB h (i := 2) (lo := 0) (hi := 3) rfl
  have s0 := h.1.2.1.1
  have hx : x9 γ M := hA.2.2.2.1.2.2
  have hT := aTp_of h.2.2.2
  have hd : (γ 1044 1).toInt.toNat < 40 := by omega
  have ea : a1 = 10 + (γ 1044 1).toInt.toNat := by omega
  subst ea
  have e1 : x0.toInt = -1 := by omega
  have hy := y9_vt8 hx.2 (by omega) (by omega) (by omega) (by omega)
  rw [← e1] at hy
  refine kPutf (mi := 30) (pc := 8) (len := 3) (j := 108) rfl (hdD hT hd) (by decide) (by decide) rfl ?_
  refine k (gUs γ [(1044, 4, 2)]) σ _ L [] (mPut M (10 + (γ 1044 1).toInt.toNat) 8 (.int x0)) (List.Mem.head _) (fun _ _ => rfl) (frD hd rfl) (gUs_fr [(1044, 4, 2)] rfl gFr.rf) aExt.rf ?_
  exact mkHold9 (by decide) s0 ⟨b00 s0, b1, b2, True.intro⟩ True.intro ⟨hF1_gh (by decide) (by decide) (by show (2 : Int) = σ 0 + 2; omega), True.intro⟩ True.intro (putD hA.2.2.2 hd (f := 8) (by decide) (by show (-1 : Int) ≤ x0.toInt; omega) (by show x0.toInt ≤ 9; omega) (gUs_lt [(1044, 4, 2)] rfl (fun _ _ _ => rfl)) hy)
theorem gs_vt9 {s : List Int32} : gSound9 s sg_vt9 := by
  intro γ d σ L st0 st M Q _ hA k
  have h := aHold_0 hA
  obtain ⟨w0, w1, rfl, g0, g1⟩ := eS2 h
  obtain ⟨x0, rfl, ex0⟩ := gI g0
  have ex0 : x0.toInt = σ 0 + 0 := ex0
  obtain ⟨a1, rfl, ea1⟩ := gD g1 (by decide)
  have q30_2 : (γ 1030 2).toInt = σ 0 + 7 := eG h (g := 1030) (i := 2) (sy := 0) (c := 7) (by decide) (List.Mem.head _)
  have q44_1 : (γ 1044 1).toInt = σ 1 + 0 := eG h (g := 1044) (i := 1) (sy := 1) (c := 0) (by decide) (List.Mem.tail _ (List.Mem.head _))
  have q44_2 : (γ 1044 2).toInt = σ 2 + 0 := eG h (g := 1044) (i := 2) (sy := 2) (c := 0) (by decide) (List.Mem.tail _ (List.Mem.tail _ (List.Mem.head _)))
  have q44_0 : (γ 1044 0).toInt = σ 2 + 0 := eG h (g := 1044) (i := 0) (sy := 2) (c := 0) (by decide) (List.Mem.tail _ (List.Mem.tail _ (List.Mem.tail _ (List.Mem.head _))))
  have q44_4 : (γ 1044 4).toInt = σ 0 + 2 := eG h (g := 1044) (i := 4) (sy := 0) (c := 2) (by decide) (List.Mem.tail _ (List.Mem.tail _ (List.Mem.tail _ (List.Mem.tail _ (List.Mem.head _)))))
  have b1 := eB h (i := 1) (lo := 0) (hi := 39) rfl
  have b2 := eB h (i := 2) (lo := 0) (hi := 3) rfl
  have s0 := h.1.2.1.1
  have hx : x9 γ M := hA.2.2.2.1.2.2
  have hT := aTp_of h.2.2.2
  have hd : (γ 1044 1).toInt.toNat < 40 := by omega
  have ea : a1 = 10 + (γ 1044 1).toInt.toNat := by omega
  subst ea
  have ei : (γ 1044 0 + 1).toInt = (γ 1044 0).toInt + 1 := i32_inc (by omega) (by omega)
  have e1 : x0.toInt = 0 := by omega
  have hy := y9_vt9 (j := γ 1044 0 + 1) hx.2 (by omega) (by omega) (by omega) (by omega) ei
  rw [← e1] at hy
  refine kPutf (mi := 30) (pc := 13) (len := 3) (j := 109) rfl (hdD hT hd) (by decide) (by decide) rfl ?_
  refine k (gUs γ [(1044, 0, γ 1044 0 + 1), (1044, 4, 0)]) σ _ L [] (mPut M (10 + (γ 1044 1).toInt.toNat) 9 (.int x0)) (List.Mem.head _) (fun _ _ => rfl) (frD hd rfl) (gUs_fr [(1044, 0, γ 1044 0 + 1), (1044, 4, 0)] rfl gFr.rf) aExt.rf ?_
  exact mkHold9 (by decide) s0 ⟨b00 s0, b1, b2, True.intro⟩ True.intro ⟨hF1_gh (by decide) (by decide) (by show ((γ 1044 0 + 1) : Int32).toInt = σ 2 + 1; omega), True.intro⟩ True.intro (putD hA.2.2.2 hd (f := 9) (by decide) (by show (0 : Int) ≤ x0.toInt; omega) (by show x0.toInt ≤ 16383; omega) (gUs_lt [(1044, 0, γ 1044 0 + 1), (1044, 4, 0)] rfl (fun _ _ _ => rfl)) hy)
theorem gs_ve {s : List Int32} : gSound9 s sg_ve := by
  intro γ d σ L st0 st M Q _ hA k
  have h := aHold_0 hA
  have e0 := eNil h
  subst e0
  have hl0 := eR h (i := 0) (g := 177) (c := 0) rfl rfl
  obtain ⟨l5, hl5, el5⟩ := eI h (i := 5) (sy := 1) (c := 0) rfl
  have q30_2 : (γ 1030 2).toInt = σ 0 + 7 := eG h (g := 1030) (i := 2) (sy := 0) (c := 7) (by decide) (List.Mem.head _)
  obtain ⟨f177_5, hf177_5, ef177_5⟩ := eF h (g := 177) (i := 5) (sy := 2) (c := 0) (by decide) (by decide) rfl (List.Mem.tail _ (List.Mem.head _))
  have q44_3 : (γ 1044 3).toInt = σ 2 + 0 := eG h (g := 1044) (i := 3) (sy := 2) (c := 0) (by decide) (List.Mem.tail _ (List.Mem.tail _ (List.Mem.head _)))
  have q44_0 : (γ 1044 0).toInt = σ 1 + 0 := eG h (g := 1044) (i := 0) (sy := 1) (c := 0) (by decide) (List.Mem.tail _ (List.Mem.tail _ (List.Mem.tail _ (List.Mem.head _))))
  have b1 := eB h (i := 1) (lo := 0) (hi := 4) rfl
  have b2 := eB h (i := 2) (lo := 0) (hi := 4) rfl
  have z0 := (h.1.2.1.2.2 2 1 0 (List.Mem.head _)).2.2
  have s0 := h.1.2.1.1
  have hx : x9 γ M := hA.2.2.2.1.2.2
  have hT := aTp_of h.2.2.2
  refine kAload (mi := 43) (pc := 124) (len := 1) (i := 0) rfl hl0 ?_
  refine k (gUs γ [(1030, 2, 0)]) σ _ L [.ref 177] M (List.Mem.head _) (fun _ _ => rfl) aFr.rf (gUs_fr [(1030, 2, 0)] rfl gFr.rf) aExt.rf ?_
  exact mkHold9 (by decide) s0 ⟨b00 s0, b1, b2, True.intro⟩ True.intro ⟨hF1_gh (by decide) (by decide) (by show (0 : Int) = σ 0 + 0; omega), True.intro⟩ ⟨⟨177, rfl, by decide, by decide, rfl, fun hc => absurd hc (by decide)⟩, True.intro⟩ (fin9 hA.2.2.2 hT (gUs_lt [(1030, 2, 0)] rfl (fun _ _ _ => rfl)) rfl ⟨hx.1, y9_ve hx.2 (by omega) (by omega)⟩)
theorem gs_dxs {s : List Int32} : gSound9 s sg_dxs := by
  intro γ d σ L st0 st M Q _ hA k
  have h := aHold_0 hA
  obtain ⟨w0, w1, w2, rfl, g0, g1, g2⟩ := eS3 h
  obtain ⟨x0, rfl, ex0⟩ := gI g0
  have ex0 : x0.toInt = σ 1 + 0 := ex0
  obtain ⟨x1, rfl, ex1⟩ := gI g1
  have ex1 : x1.toInt = σ 2 + 0 := ex1
  have e2 := gR g2 rfl
  subst e2
  have q45_0 : (γ 1045 0).toInt = σ 0 + 0 := eG h (g := 1045) (i := 0) (sy := 0) (c := 0) (by decide) (List.Mem.head _)
  have b1 := eB h (i := 1) (lo := (-1)) (hi := 999) rfl
  have b2 := eB h (i := 2) (lo := 0) (hi := 9) rfl
  have s0 := h.1.2.1.1
  have hx : x9 γ M := hA.2.2.2.1.2.2
  have hT := aTp_of h.2.2.2
  have hd : x1.toInt.toNat < 10 := by omega
  obtain ⟨w, w1, _, _⟩ := hT.int (c := 182) (i := x1.toInt.toNat) (by decide) (by decide) hd (lo := -1) (hi' := 999) (gs := []) rfl
  have ew := yV_get (t := 7) (f := 0) (d := x1.toInt.toNat) (yOk_s hd rfl) w1
  refine kIast (mi := 109) (pc := 25) (len := 1) (n := 10) rfl (hT.hd (c := 4) (by decide) (by decide)) (by decide) (by omega) (by show x1.toInt < 10; omega) ?_
  refine k (gUs γ [(1045, 0, 1), (1045, 1, x1), (1045, 2, x0), (1045, 3, w)]) σ _ L [] (mPut M 4 x1.toInt.toNat (.int x0)) (List.Mem.head _) (fun _ _ => rfl) (aFr_put rfl) (gUs_fr [(1045, 0, 1), (1045, 1, x1), (1045, 2, x0), (1045, 3, w)] rfl gFr.rf) aExt.rf ?_
  exact mkHold9 (by decide) s0 ⟨b00 s0, b1, b2, True.intro⟩ True.intro ⟨hF1_gh (by decide) (by decide) (by show (1 : Int) = σ 0 + 1; omega), hF1_gh (by decide) (by decide) (by show (x1 : Int32).toInt = σ 2 + 0; omega), hF1_gh (by decide) (by decide) (by show (x0 : Int32).toInt = σ 1 + 0; omega), True.intro⟩ True.intro (putT (t := 6) (f := 0) (d := x1.toInt.toNat) hA.2.2.2 (yOk_s hd rfl) (by show 2 ≤ 4; decide) (by show 4 < 242; decide) ⟨x0, rfl, by show (-1 : Int) ≤ x0.toInt; omega, by show x0.toInt ≤ 999; omega⟩ (hT.hd (c := 4) (by decide) (by decide)) hd rfl (by show 4 ≠ 8; decide) (by show 4 ≠ 51; decide) (gUs_lt [(1045, 0, 1), (1045, 1, x1), (1045, 2, x0), (1045, 3, w)] rfl (fun _ _ _ => rfl)) (y9_dx hx.2 (by omega) (by omega) (by omega) ew))
theorem gs_dms {s : List Int32} : gSound9 s sg_dms := by
  intro γ d σ L st0 st M Q _ hA k
  have h := aHold_0 hA
  obtain ⟨w0, w1, w2, rfl, g0, g1, g2⟩ := eS3 h
  obtain ⟨x0, rfl, ex0⟩ := gI g0
  have ex0 : x0.toInt = σ 1 + 0 := ex0
  obtain ⟨x1, rfl, ex1⟩ := gI g1
  have ex1 : x1.toInt = σ 2 + 0 := ex1
  have e2 := gR g2 rfl
  subst e2
  have q45_0 : (γ 1045 0).toInt = σ 0 + 1 := eG h (g := 1045) (i := 0) (sy := 0) (c := 1) (by decide) (List.Mem.head _)
  have q45_1 : (γ 1045 1).toInt = σ 2 + 0 := eG h (g := 1045) (i := 1) (sy := 2) (c := 0) (by decide) (List.Mem.tail _ (List.Mem.head _))
  have b1 := eB h (i := 1) (lo := (-1)) (hi := 999) rfl
  have b2 := eB h (i := 2) (lo := 0) (hi := 9) rfl
  have s0 := h.1.2.1.1
  have hx : x9 γ M := hA.2.2.2.1.2.2
  have hT := aTp_of h.2.2.2
  have hd : x1.toInt.toNat < 10 := by omega
  have ed : (γ 1045 1).toInt.toNat = x1.toInt.toNat := by omega
  have hy := y9_dm (v := x0) hx.2 (by omega)
  rw [ed] at hy
  refine kIast (mi := 165) (pc := 27) (len := 1) (n := 10) rfl (hT.hd (c := 182) (by decide) (by decide)) (by decide) (by omega) (by show x1.toInt < 10; omega) ?_
  refine k (gUs γ [(1045, 3, x0)]) σ _ L [] (mPut M 182 x1.toInt.toNat (.int x0)) (List.Mem.head _) (fun _ _ => rfl) (aFr_put rfl) (gUs_fr [(1045, 3, x0)] rfl gFr.rf) aExt.rf ?_
  exact mkHold9 (by decide) s0 ⟨b00 s0, b1, b2, True.intro⟩ True.intro ⟨hF1_gh (by decide) (by decide) (by show (x0 : Int32).toInt = σ 1 + 0; omega), True.intro⟩ True.intro (putT (t := 7) (f := 0) (d := x1.toInt.toNat) hA.2.2.2 (yOk_s hd rfl) (by show 2 ≤ 182; decide) (by show 182 < 242; decide) ⟨x0, rfl, by show (-1 : Int) ≤ x0.toInt; omega, by show x0.toInt ≤ 999; omega⟩ (hT.hd (c := 182) (by decide) (by decide)) hd rfl (by show 182 ≠ 8; decide) (by show 182 ≠ 51; decide) (gUs_lt [(1045, 3, x0)] rfl (fun _ _ _ => rfl)) hy)
theorem gs_dk230 {s : List Int32} : gSound9 s sg_dk230 := by
  intro γ d σ L st0 st M Q _ hA k
  have h := aHold_0 hA
  have e0 := eNil h
  subst e0
  have q45_0 : (γ 1045 0).toInt = σ 0 + 1 := eG h (g := 1045) (i := 0) (sy := 0) (c := 1) (by decide) (List.Mem.head _)
  have q45_2 : (γ 1045 2).toInt = σ 1 + 0 := eG h (g := 1045) (i := 2) (sy := 1) (c := 0) (by decide) (List.Mem.tail _ (List.Mem.head _))
  have q45_3 : (γ 1045 3).toInt = σ 1 + 0 := eG h (g := 1045) (i := 3) (sy := 1) (c := 0) (by decide) (List.Mem.tail _ (List.Mem.tail _ (List.Mem.head _)))
  have b1 := eB h (i := 1) (lo := (-1)) (hi := 999) rfl
  have s0 := h.1.2.1.1
  have hx : x9 γ M := hA.2.2.2.1.2.2
  have hT := aTp_of h.2.2.2
  refine kGoto (mi := 282) (pc := 230) (len := 3) (t := 1884) rfl rfl ?_
  refine k (gUs γ [(1045, 0, 0)]) σ _ L [] M (List.Mem.head _) (fun _ _ => rfl) aFr.rf (gUs_fr [(1045, 0, 0)] rfl gFr.rf) aExt.rf ?_
  exact mkHold9 (by decide) s0 ⟨b00 s0, b1, True.intro⟩ True.intro ⟨hF1_gh (by decide) (by decide) (by show (0 : Int) = σ 0 + 0; omega), True.intro⟩ True.intro (fin9 hA.2.2.2 hT (gUs_lt [(1045, 0, 0)] rfl (fun _ _ _ => rfl)) rfl ⟨hx.1, y9_dk hx.2 (by omega) (by omega)⟩)
