/-! keeping and undoing (printed by gen10.py) -/
theorem cs_lk {s : List Int32} : cSound9 s cm_lk := by
  intro γ d σ L M hd0 hA
  have hd0 : 60 ≤ d := hd0
  have h := aHold_0 hA
  have hl0 := eR h (i := 0) (g := 50) (c := 0) rfl rfl
  have hl1 := eR h (i := 1) (g := 7) (c := 0) rfl rfl
  obtain ⟨f7_2, hf7_2, ef7_2⟩ := eF h (g := 7) (i := 2) (sy := 1) (c := 0) (by decide) (by decide) rfl (List.Mem.head _)
  obtain ⟨f50_2, hf50_2, ef50_2⟩ := eF h (g := 50) (i := 2) (sy := 2) (c := 0) (by decide) (by decide) rfl (List.Mem.tail _ (List.Mem.head _))
  have q30_0 : (γ 1030 0).toInt = σ 1 + 0 := eG h (g := 1030) (i := 0) (sy := 1) (c := 0) (by decide) (List.Mem.tail _ (List.Mem.tail _ (List.Mem.head _)))
  have q30_2 : (γ 1030 2).toInt = σ 0 + 0 := eG h (g := 1030) (i := 2) (sy := 0) (c := 0) (by decide) (List.Mem.tail _ (List.Mem.tail _ (List.Mem.tail _ (List.Mem.head _))))
  have b1 := eB h (i := 1) (lo := 0) (hi := 40) rfl
  have b2 := eB h (i := 2) (lo := 0) (hi := 40) rfl
  have s0 := h.1.2.1.1
  have hx : x9 γ M := hA.2.2.2.1.2.2
  have hT := aTp_of h.2.2.2
  have c0 : 0 ≤ f7_2.toInt ∧ f7_2.toInt ≤ 40 := by omega
  refine kIconst (mi := 94) (pc := 0) (len := 1) (v := 0) rfl ?_
  refine kIstore (len := 1) (i := 2) rfl (by decide) ?_
  refine lk_loop (s := s) (mod := cm_lk.2.2.2.2.2) (M0 := M) (T := yV M) (cnt := f7_2) (by omega) c0.1 c0.2 (by intro f hf; rcases f10 hf with rfl | rfl | rfl | rfl | rfl | rfl | rfl | rfl | rfl | rfl <;> rfl) rfl rfl ?_ 40 _ M 0 (by show f7_2.toInt - 0 ≤ 40; omega) (Int.le_refl 0) c0.1 (mLd_st1_ref (by decide) hl0) (mLd_st1_ref (by decide) hl1) mLd_st1_i (by show CI s _ M (cRs (yV M) 2 0 0) M; rw [cRs_0]; exact CI_0 hA.2.2.2) hf7_2
  intro M1 h1 hs1
  have c := CI_nq (a := 50) (i := 2) (v := .int f7_2) h1 (by decide) (by decide) ⟨_, rfl, by show (0 : Int) ≤ f7_2.toInt; omega, by show f7_2.toInt ≤ 40; omega⟩ rfl rfl (by decide) (by decide) (aFr_put rfl)
  refine ⟨c.2.2.2.1, (gUs γ [(1030, 2, 10), (1038, 2, 0), (1038, 3, 0)]), (gUs_fr [(1030, 2, 10), (1038, 2, 0), (1038, 3, 0)] rfl gFr.rf), _, List.Mem.head _, σ, aExt.rf, ?_⟩
  exact mkHold9 (by decide) s0 ⟨b00 s0, b1, b2, True.intro⟩ True.intro ⟨hF1_re rfl (by decide) (by decide) ((mSlot_put_ne (Or.inl (by decide))).trans hs1) (by show (f7_2 : Int32).toInt = σ 1 + 0; omega), hF1_re rfl (by decide) (by decide) (mSlot_put_eq (h1.1.hd (c := 50) (by decide) (by decide)) (by decide)) (by show (f7_2 : Int32).toInt = σ 1 + 0; omega), hF1_gh (by decide) (by decide) (by show (10 : Int) = σ 0 + 10; omega), True.intro⟩ True.intro (CI_mem c hA.2.2.2 (gUs_lt [(1030, 2, 10), (1038, 2, 0), (1038, 3, 0)] rfl (fun _ _ _ => rfl)) (y9_lk hx.2 (by omega) (fun t ht => cRs_ne ht) (fun dd hdd f hf => cRs_eq (by omega) hf)))
theorem cs_lu {s : List Int32} : cSound9 s cm_lu := by
  intro γ d σ L M hd0 hA
  have hd0 : 60 ≤ d := hd0
  have h := aHold_0 hA
  have hl0 := eR h (i := 0) (g := 7) (c := 0) rfl rfl
  have hl1 := eR h (i := 1) (g := 50) (c := 0) rfl rfl
  obtain ⟨f7_2, hf7_2, ef7_2⟩ := eF h (g := 7) (i := 2) (sy := 1) (c := 0) (by decide) (by decide) rfl (List.Mem.head _)
  obtain ⟨f50_2, hf50_2, ef50_2⟩ := eF h (g := 50) (i := 2) (sy := 2) (c := 0) (by decide) (by decide) rfl (List.Mem.tail _ (List.Mem.head _))
  have q38_1 : (γ 1038 1).toInt = σ 2 + 0 := eG h (g := 1038) (i := 1) (sy := 2) (c := 0) (by decide) (List.Mem.tail _ (List.Mem.tail _ (List.Mem.head _)))
  have q30_2 : (γ 1030 2).toInt = σ 0 + 0 := eG h (g := 1030) (i := 2) (sy := 0) (c := 0) (by decide) (List.Mem.tail _ (List.Mem.tail _ (List.Mem.tail _ (List.Mem.head _))))
  have b1 := eB h (i := 1) (lo := 0) (hi := 40) rfl
  have b2 := eB h (i := 2) (lo := 0) (hi := 40) rfl
  have s0 := h.1.2.1.1
  have hx : x9 γ M := hA.2.2.2.1.2.2
  have hT := aTp_of h.2.2.2
  have c0 : 0 ≤ f50_2.toInt ∧ f50_2.toInt ≤ 40 := by omega
  refine kIconst (mi := 94) (pc := 0) (len := 1) (v := 0) rfl ?_
  refine kIstore (len := 1) (i := 2) rfl (by decide) ?_
  refine lu_loop (s := s) (mod := cm_lu.2.2.2.2.2) (M0 := M) (T := yV M) (cnt := f50_2) (by omega) c0.1 c0.2 (by intro f hf; rcases f10 hf with rfl | rfl | rfl | rfl | rfl | rfl | rfl | rfl | rfl | rfl <;> rfl) rfl rfl ?_ 40 _ M 0 (by show f50_2.toInt - 0 ≤ 40; omega) (Int.le_refl 0) c0.1 (mLd_st1_ref (by decide) hl0) (mLd_st1_ref (by decide) hl1) mLd_st1_i (by show CI s _ M (cRs (yV M) 0 2 0) M; rw [cRs_0]; exact CI_0 hA.2.2.2) hf50_2
  intro M1 h1 hs1
  have c := CI_nq (a := 7) (i := 2) (v := .int f50_2) h1 (by decide) (by decide) ⟨_, rfl, by show (0 : Int) ≤ f50_2.toInt; omega, by show f50_2.toInt ≤ 40; omega⟩ rfl rfl (by decide) (by decide) (aFr_put rfl)
  refine ⟨c.2.2.2.1, (gUs γ [(1030, 2, 11), (1038, 2, 0), (1038, 3, 0)]), (gUs_fr [(1030, 2, 11), (1038, 2, 0), (1038, 3, 0)] rfl gFr.rf), _, List.Mem.head _, σ, aExt.rf, ?_⟩
  exact mkHold9 (by decide) s0 ⟨b00 s0, b1, b2, True.intro⟩ True.intro ⟨hF1_re rfl (by decide) (by decide) (mSlot_put_eq (h1.1.hd (c := 7) (by decide) (by decide)) (by decide)) (by show (f50_2 : Int32).toInt = σ 2 + 0; omega), hF1_re rfl (by decide) (by decide) ((mSlot_put_ne (Or.inl (by decide))).trans hs1) (by show (f50_2 : Int32).toInt = σ 2 + 0; omega), hF1_gh (by decide) (by decide) (by show (11 : Int) = σ 0 + 11; omega), True.intro⟩ True.intro (CI_mem c hA.2.2.2 (gUs_lt [(1030, 2, 11), (1038, 2, 0), (1038, 3, 0)] rfl (fun _ _ _ => rfl)) (y9_lu hx.2 (by omega) (fun t ht => cRs_ne ht) (fun dd hdd f hf => cRs_eq (by omega) hf)))
theorem cs_ck0 {s : List Int32} : cSound9 s cm_ck0 := by
  intro γ d σ L M _ hA
  have h := aHold_0 hA
  have hl0 := eR h (i := 0) (g := 185) (c := 0) rfl rfl
  have hl1 := eR h (i := 1) (g := 227) (c := 0) rfl rfl
  obtain ⟨l2, hl2, el2⟩ := eI h (i := 2) (sy := 0) (c := 40) rfl
  have q30_2 : (γ 1030 2).toInt = σ 0 + 10 := eG h (g := 1030) (i := 2) (sy := 0) (c := 10) (by decide) (List.Mem.head _)
  have q38_2 : (γ 1038 2).toInt = σ 0 + 0 := eG h (g := 1038) (i := 2) (sy := 0) (c := 0) (by decide) (List.Mem.tail _ (List.Mem.head _))
  have s0 := h.1.2.1.1
  have hx : x9 γ M := hA.2.2.2.1.2.2
  have hT := aTp_of h.2.2.2
  have e2 : l2 = 40 := Int32.toInt_inj.mp (by show l2.toInt = 40; omega)
  subst e2
  refine kIconst (mi := 271) (pc := 0) (len := 1) (v := 0) rfl ?_
  refine kIstore (len := 1) (i := 3) rfl (by decide) ?_
  refine cp_loop (s := s) (mod := cm_ck0.2.2.2.2.2) (M0 := M) (T := yV M) (a := 185) (b := 227) (tt := 3) (ss := 1) (f := 0) (by decide) (by decide) (fun M i hT hi => tR hT hi (f := 0) (by decide)) (fun M hT => hT.hd (c := 185) (by decide) (by decide)) (fun M hT => hT.hd (c := 227) (by decide) (by decide)) (fun T' M i x h hi h1 h2 => CI_K h hi (f := 0) (by decide) h1 h2 rfl) ?_ 40 _ M 0 (by decide) (by decide) (by decide) (mLd_st1_ref (by decide) hl0) (mLd_st1_ref (by decide) hl1) (mLd_st1_int (by decide) hl2) mLd_st1_i (by show CI s _ M (cCol (yV M) 3 1 0 0) M; rw [cCol_0]; exact CI_0 hA.2.2.2)
  intro M1 c
  refine ⟨c.2.2.2.1, (gUs γ [(1038, 2, 1)]), (gUs_fr [(1038, 2, 1)] rfl gFr.rf), _, List.Mem.head _, σ, aExt.rf, ?_⟩
  exact mkHold9 (by decide) s0 ⟨b00 s0, True.intro⟩ True.intro ⟨hF1_gh (by decide) (by decide) (by show (1 : Int) = σ 0 + 1; omega), True.intro⟩ True.intro (CI_mem c hA.2.2.2 (gUs_lt [(1038, 2, 1)] rfl (fun _ _ _ => rfl)) (y9_ck (p := 0) (f := 0) hx.2 (by omega) (by omega) rfl rfl (by decide) (fun t ht => cCol_ne ht) (fun g hg => cCol_nf hg) (fun dd hdd => cCol_eq hdd)))
theorem cs_ck1 {s : List Int32} : cSound9 s cm_ck1 := by
  intro γ d σ L M _ hA
  have h := aHold_0 hA
  have hl0 := eR h (i := 0) (g := 186) (c := 0) rfl rfl
  have hl1 := eR h (i := 1) (g := 228) (c := 0) rfl rfl
  obtain ⟨l2, hl2, el2⟩ := eI h (i := 2) (sy := 0) (c := 40) rfl
  have q30_2 : (γ 1030 2).toInt = σ 0 + 10 := eG h (g := 1030) (i := 2) (sy := 0) (c := 10) (by decide) (List.Mem.head _)
  have q38_2 : (γ 1038 2).toInt = σ 0 + 1 := eG h (g := 1038) (i := 2) (sy := 0) (c := 1) (by decide) (List.Mem.tail _ (List.Mem.head _))
  have s0 := h.1.2.1.1
  have hx : x9 γ M := hA.2.2.2.1.2.2
  have hT := aTp_of h.2.2.2
  have e2 : l2 = 40 := Int32.toInt_inj.mp (by show l2.toInt = 40; omega)
  subst e2
  refine kIconst (mi := 271) (pc := 0) (len := 1) (v := 0) rfl ?_
  refine kIstore (len := 1) (i := 3) rfl (by decide) ?_
  refine cp_loop (s := s) (mod := cm_ck1.2.2.2.2.2) (M0 := M) (T := yV M) (a := 186) (b := 228) (tt := 3) (ss := 1) (f := 1) (by decide) (by decide) (fun M i hT hi => tR hT hi (f := 1) (by decide)) (fun M hT => hT.hd (c := 186) (by decide) (by decide)) (fun M hT => hT.hd (c := 228) (by decide) (by decide)) (fun T' M i x h hi h1 h2 => CI_K h hi (f := 1) (by decide) h1 h2 rfl) ?_ 40 _ M 0 (by decide) (by decide) (by decide) (mLd_st1_ref (by decide) hl0) (mLd_st1_ref (by decide) hl1) (mLd_st1_int (by decide) hl2) mLd_st1_i (by show CI s _ M (cCol (yV M) 3 1 1 0) M; rw [cCol_0]; exact CI_0 hA.2.2.2)
  intro M1 c
  refine ⟨c.2.2.2.1, (gUs γ [(1038, 2, 2)]), (gUs_fr [(1038, 2, 2)] rfl gFr.rf), _, List.Mem.head _, σ, aExt.rf, ?_⟩
  exact mkHold9 (by decide) s0 ⟨b00 s0, True.intro⟩ True.intro ⟨hF1_gh (by decide) (by decide) (by show (2 : Int) = σ 0 + 2; omega), True.intro⟩ True.intro (CI_mem c hA.2.2.2 (gUs_lt [(1038, 2, 2)] rfl (fun _ _ _ => rfl)) (y9_ck (p := 1) (f := 1) hx.2 (by omega) (by omega) rfl rfl (by decide) (fun t ht => cCol_ne ht) (fun g hg => cCol_nf hg) (fun dd hdd => cCol_eq hdd)))
theorem cs_ck2 {s : List Int32} : cSound9 s cm_ck2 := by
  intro γ d σ L M _ hA
  have h := aHold_0 hA
  have hl0 := eR h (i := 0) (g := 187) (c := 0) rfl rfl
  have hl1 := eR h (i := 1) (g := 229) (c := 0) rfl rfl
  obtain ⟨l2, hl2, el2⟩ := eI h (i := 2) (sy := 0) (c := 40) rfl
  have q30_2 : (γ 1030 2).toInt = σ 0 + 10 := eG h (g := 1030) (i := 2) (sy := 0) (c := 10) (by decide) (List.Mem.head _)
  have q38_2 : (γ 1038 2).toInt = σ 0 + 2 := eG h (g := 1038) (i := 2) (sy := 0) (c := 2) (by decide) (List.Mem.tail _ (List.Mem.head _))
  have s0 := h.1.2.1.1
  have hx : x9 γ M := hA.2.2.2.1.2.2
  have hT := aTp_of h.2.2.2
  have e2 : l2 = 40 := Int32.toInt_inj.mp (by show l2.toInt = 40; omega)
  subst e2
  refine kIconst (mi := 271) (pc := 0) (len := 1) (v := 0) rfl ?_
  refine kIstore (len := 1) (i := 3) rfl (by decide) ?_
  refine cp_loop (s := s) (mod := cm_ck2.2.2.2.2.2) (M0 := M) (T := yV M) (a := 187) (b := 229) (tt := 3) (ss := 1) (f := 2) (by decide) (by decide) (fun M i hT hi => tR hT hi (f := 2) (by decide)) (fun M hT => hT.hd (c := 187) (by decide) (by decide)) (fun M hT => hT.hd (c := 229) (by decide) (by decide)) (fun T' M i x h hi h1 h2 => CI_K h hi (f := 2) (by decide) h1 h2 rfl) ?_ 40 _ M 0 (by decide) (by decide) (by decide) (mLd_st1_ref (by decide) hl0) (mLd_st1_ref (by decide) hl1) (mLd_st1_int (by decide) hl2) mLd_st1_i (by show CI s _ M (cCol (yV M) 3 1 2 0) M; rw [cCol_0]; exact CI_0 hA.2.2.2)
  intro M1 c
  refine ⟨c.2.2.2.1, (gUs γ [(1038, 2, 3)]), (gUs_fr [(1038, 2, 3)] rfl gFr.rf), _, List.Mem.head _, σ, aExt.rf, ?_⟩
  exact mkHold9 (by decide) s0 ⟨b00 s0, True.intro⟩ True.intro ⟨hF1_gh (by decide) (by decide) (by show (3 : Int) = σ 0 + 3; omega), True.intro⟩ True.intro (CI_mem c hA.2.2.2 (gUs_lt [(1038, 2, 3)] rfl (fun _ _ _ => rfl)) (y9_ck (p := 2) (f := 2) hx.2 (by omega) (by omega) rfl rfl (by decide) (fun t ht => cCol_ne ht) (fun g hg => cCol_nf hg) (fun dd hdd => cCol_eq hdd)))
theorem cs_ck3 {s : List Int32} : cSound9 s cm_ck3 := by
  intro γ d σ L M _ hA
  have h := aHold_0 hA
  have hl0 := eR h (i := 0) (g := 188) (c := 0) rfl rfl
  have hl1 := eR h (i := 1) (g := 230) (c := 0) rfl rfl
  obtain ⟨l2, hl2, el2⟩ := eI h (i := 2) (sy := 0) (c := 40) rfl
  have q30_2 : (γ 1030 2).toInt = σ 0 + 10 := eG h (g := 1030) (i := 2) (sy := 0) (c := 10) (by decide) (List.Mem.head _)
  have q38_2 : (γ 1038 2).toInt = σ 0 + 3 := eG h (g := 1038) (i := 2) (sy := 0) (c := 3) (by decide) (List.Mem.tail _ (List.Mem.head _))
  have s0 := h.1.2.1.1
  have hx : x9 γ M := hA.2.2.2.1.2.2
  have hT := aTp_of h.2.2.2
  have e2 : l2 = 40 := Int32.toInt_inj.mp (by show l2.toInt = 40; omega)
  subst e2
  refine kIconst (mi := 271) (pc := 0) (len := 1) (v := 0) rfl ?_
  refine kIstore (len := 1) (i := 3) rfl (by decide) ?_
  refine cp_loop (s := s) (mod := cm_ck3.2.2.2.2.2) (M0 := M) (T := yV M) (a := 188) (b := 230) (tt := 3) (ss := 1) (f := 3) (by decide) (by decide) (fun M i hT hi => tR hT hi (f := 3) (by decide)) (fun M hT => hT.hd (c := 188) (by decide) (by decide)) (fun M hT => hT.hd (c := 230) (by decide) (by decide)) (fun T' M i x h hi h1 h2 => CI_K h hi (f := 3) (by decide) h1 h2 rfl) ?_ 40 _ M 0 (by decide) (by decide) (by decide) (mLd_st1_ref (by decide) hl0) (mLd_st1_ref (by decide) hl1) (mLd_st1_int (by decide) hl2) mLd_st1_i (by show CI s _ M (cCol (yV M) 3 1 3 0) M; rw [cCol_0]; exact CI_0 hA.2.2.2)
  intro M1 c
  refine ⟨c.2.2.2.1, (gUs γ [(1038, 2, 4)]), (gUs_fr [(1038, 2, 4)] rfl gFr.rf), _, List.Mem.head _, σ, aExt.rf, ?_⟩
  exact mkHold9 (by decide) s0 ⟨b00 s0, True.intro⟩ True.intro ⟨hF1_gh (by decide) (by decide) (by show (4 : Int) = σ 0 + 4; omega), True.intro⟩ True.intro (CI_mem c hA.2.2.2 (gUs_lt [(1038, 2, 4)] rfl (fun _ _ _ => rfl)) (y9_ck (p := 3) (f := 3) hx.2 (by omega) (by omega) rfl rfl (by decide) (fun t ht => cCol_ne ht) (fun g hg => cCol_nf hg) (fun dd hdd => cCol_eq hdd)))
theorem cs_ck4 {s : List Int32} : cSound9 s cm_ck4 := by
  intro γ d σ L M _ hA
  have h := aHold_0 hA
  have hl0 := eR h (i := 0) (g := 189) (c := 0) rfl rfl
  have hl1 := eR h (i := 1) (g := 231) (c := 0) rfl rfl
  obtain ⟨l2, hl2, el2⟩ := eI h (i := 2) (sy := 0) (c := 40) rfl
  have q30_2 : (γ 1030 2).toInt = σ 0 + 10 := eG h (g := 1030) (i := 2) (sy := 0) (c := 10) (by decide) (List.Mem.head _)
  have q38_2 : (γ 1038 2).toInt = σ 0 + 4 := eG h (g := 1038) (i := 2) (sy := 0) (c := 4) (by decide) (List.Mem.tail _ (List.Mem.head _))
  have s0 := h.1.2.1.1
  have hx : x9 γ M := hA.2.2.2.1.2.2
  have hT := aTp_of h.2.2.2
  have e2 : l2 = 40 := Int32.toInt_inj.mp (by show l2.toInt = 40; omega)
  subst e2
  refine kIconst (mi := 271) (pc := 0) (len := 1) (v := 0) rfl ?_
  refine kIstore (len := 1) (i := 3) rfl (by decide) ?_
  refine cp_loop (s := s) (mod := cm_ck4.2.2.2.2.2) (M0 := M) (T := yV M) (a := 189) (b := 231) (tt := 3) (ss := 1) (f := 4) (by decide) (by decide) (fun M i hT hi => tR hT hi (f := 4) (by decide)) (fun M hT => hT.hd (c := 189) (by decide) (by decide)) (fun M hT => hT.hd (c := 231) (by decide) (by decide)) (fun T' M i x h hi h1 h2 => CI_K h hi (f := 4) (by decide) h1 h2 rfl) ?_ 40 _ M 0 (by decide) (by decide) (by decide) (mLd_st1_ref (by decide) hl0) (mLd_st1_ref (by decide) hl1) (mLd_st1_int (by decide) hl2) mLd_st1_i (by show CI s _ M (cCol (yV M) 3 1 4 0) M; rw [cCol_0]; exact CI_0 hA.2.2.2)
  intro M1 c
  refine ⟨c.2.2.2.1, (gUs γ [(1038, 2, 5)]), (gUs_fr [(1038, 2, 5)] rfl gFr.rf), _, List.Mem.head _, σ, aExt.rf, ?_⟩
  exact mkHold9 (by decide) s0 ⟨b00 s0, True.intro⟩ True.intro ⟨hF1_gh (by decide) (by decide) (by show (5 : Int) = σ 0 + 5; omega), True.intro⟩ True.intro (CI_mem c hA.2.2.2 (gUs_lt [(1038, 2, 5)] rfl (fun _ _ _ => rfl)) (y9_ck (p := 4) (f := 4) hx.2 (by omega) (by omega) rfl rfl (by decide) (fun t ht => cCol_ne ht) (fun g hg => cCol_nf hg) (fun dd hdd => cCol_eq hdd)))
theorem cs_ck5 {s : List Int32} : cSound9 s cm_ck5 := by
  intro γ d σ L M _ hA
  have h := aHold_0 hA
  have hl0 := eR h (i := 0) (g := 190) (c := 0) rfl rfl
  have hl1 := eR h (i := 1) (g := 232) (c := 0) rfl rfl
  obtain ⟨l2, hl2, el2⟩ := eI h (i := 2) (sy := 0) (c := 40) rfl
  have q30_2 : (γ 1030 2).toInt = σ 0 + 10 := eG h (g := 1030) (i := 2) (sy := 0) (c := 10) (by decide) (List.Mem.head _)
  have q38_2 : (γ 1038 2).toInt = σ 0 + 5 := eG h (g := 1038) (i := 2) (sy := 0) (c := 5) (by decide) (List.Mem.tail _ (List.Mem.head _))
  have s0 := h.1.2.1.1
  have hx : x9 γ M := hA.2.2.2.1.2.2
  have hT := aTp_of h.2.2.2
  have e2 : l2 = 40 := Int32.toInt_inj.mp (by show l2.toInt = 40; omega)
  subst e2
  refine kIconst (mi := 271) (pc := 0) (len := 1) (v := 0) rfl ?_
  refine kIstore (len := 1) (i := 3) rfl (by decide) ?_
  refine cp_loop (s := s) (mod := cm_ck5.2.2.2.2.2) (M0 := M) (T := yV M) (a := 190) (b := 232) (tt := 3) (ss := 1) (f := 5) (by decide) (by decide) (fun M i hT hi => tR hT hi (f := 5) (by decide)) (fun M hT => hT.hd (c := 190) (by decide) (by decide)) (fun M hT => hT.hd (c := 232) (by decide) (by decide)) (fun T' M i x h hi h1 h2 => CI_K h hi (f := 5) (by decide) h1 h2 rfl) ?_ 40 _ M 0 (by decide) (by decide) (by decide) (mLd_st1_ref (by decide) hl0) (mLd_st1_ref (by decide) hl1) (mLd_st1_int (by decide) hl2) mLd_st1_i (by show CI s _ M (cCol (yV M) 3 1 5 0) M; rw [cCol_0]; exact CI_0 hA.2.2.2)
  intro M1 c
  refine ⟨c.2.2.2.1, (gUs γ [(1038, 2, 6)]), (gUs_fr [(1038, 2, 6)] rfl gFr.rf), _, List.Mem.head _, σ, aExt.rf, ?_⟩
  exact mkHold9 (by decide) s0 ⟨b00 s0, True.intro⟩ True.intro ⟨hF1_gh (by decide) (by decide) (by show (6 : Int) = σ 0 + 6; omega), True.intro⟩ True.intro (CI_mem c hA.2.2.2 (gUs_lt [(1038, 2, 6)] rfl (fun _ _ _ => rfl)) (y9_ck (p := 5) (f := 5) hx.2 (by omega) (by omega) rfl rfl (by decide) (fun t ht => cCol_ne ht) (fun g hg => cCol_nf hg) (fun dd hdd => cCol_eq hdd)))
theorem cs_ck7 {s : List Int32} : cSound9 s cm_ck7 := by
  intro γ d σ L M _ hA
  have h := aHold_0 hA
  have hl0 := eR h (i := 0) (g := 191) (c := 0) rfl rfl
  have hl1 := eR h (i := 1) (g := 233) (c := 0) rfl rfl
  obtain ⟨l2, hl2, el2⟩ := eI h (i := 2) (sy := 0) (c := 40) rfl
  have q30_2 : (γ 1030 2).toInt = σ 0 + 10 := eG h (g := 1030) (i := 2) (sy := 0) (c := 10) (by decide) (List.Mem.head _)
  have q38_2 : (γ 1038 2).toInt = σ 0 + 6 := eG h (g := 1038) (i := 2) (sy := 0) (c := 6) (by decide) (List.Mem.tail _ (List.Mem.head _))
  have s0 := h.1.2.1.1
  have hx : x9 γ M := hA.2.2.2.1.2.2
  have hT := aTp_of h.2.2.2
  have e2 : l2 = 40 := Int32.toInt_inj.mp (by show l2.toInt = 40; omega)
  subst e2
  refine kIconst (mi := 271) (pc := 0) (len := 1) (v := 0) rfl ?_
  refine kIstore (len := 1) (i := 3) rfl (by decide) ?_
  refine cp_loop (s := s) (mod := cm_ck7.2.2.2.2.2) (M0 := M) (T := yV M) (a := 191) (b := 233) (tt := 3) (ss := 1) (f := 7) (by decide) (by decide) (fun M i hT hi => tR hT hi (f := 7) (by decide)) (fun M hT => hT.hd (c := 191) (by decide) (by decide)) (fun M hT => hT.hd (c := 233) (by decide) (by decide)) (fun T' M i x h hi h1 h2 => CI_K h hi (f := 7) (by decide) h1 h2 rfl) ?_ 40 _ M 0 (by decide) (by decide) (by decide) (mLd_st1_ref (by decide) hl0) (mLd_st1_ref (by decide) hl1) (mLd_st1_int (by decide) hl2) mLd_st1_i (by show CI s _ M (cCol (yV M) 3 1 7 0) M; rw [cCol_0]; exact CI_0 hA.2.2.2)
  intro M1 c
  refine ⟨c.2.2.2.1, (gUs γ [(1038, 2, 7)]), (gUs_fr [(1038, 2, 7)] rfl gFr.rf), _, List.Mem.head _, σ, aExt.rf, ?_⟩
  exact mkHold9 (by decide) s0 ⟨b00 s0, True.intro⟩ True.intro ⟨hF1_gh (by decide) (by decide) (by show (7 : Int) = σ 0 + 7; omega), True.intro⟩ True.intro (CI_mem c hA.2.2.2 (gUs_lt [(1038, 2, 7)] rfl (fun _ _ _ => rfl)) (y9_ck (p := 6) (f := 7) hx.2 (by omega) (by omega) rfl rfl (by decide) (fun t ht => cCol_ne ht) (fun g hg => cCol_nf hg) (fun dd hdd => cCol_eq hdd)))
theorem cs_ck8 {s : List Int32} : cSound9 s cm_ck8 := by
  intro γ d σ L M _ hA
  have h := aHold_0 hA
  have hl0 := eR h (i := 0) (g := 192) (c := 0) rfl rfl
  have hl1 := eR h (i := 1) (g := 234) (c := 0) rfl rfl
  obtain ⟨l2, hl2, el2⟩ := eI h (i := 2) (sy := 0) (c := 40) rfl
  have q30_2 : (γ 1030 2).toInt = σ 0 + 10 := eG h (g := 1030) (i := 2) (sy := 0) (c := 10) (by decide) (List.Mem.head _)
  have q38_2 : (γ 1038 2).toInt = σ 0 + 7 := eG h (g := 1038) (i := 2) (sy := 0) (c := 7) (by decide) (List.Mem.tail _ (List.Mem.head _))
  have s0 := h.1.2.1.1
  have hx : x9 γ M := hA.2.2.2.1.2.2
  have hT := aTp_of h.2.2.2
  have e2 : l2 = 40 := Int32.toInt_inj.mp (by show l2.toInt = 40; omega)
  subst e2
  refine kIconst (mi := 271) (pc := 0) (len := 1) (v := 0) rfl ?_
  refine kIstore (len := 1) (i := 3) rfl (by decide) ?_
  refine cp_loop (s := s) (mod := cm_ck8.2.2.2.2.2) (M0 := M) (T := yV M) (a := 192) (b := 234) (tt := 3) (ss := 1) (f := 8) (by decide) (by decide) (fun M i hT hi => tR hT hi (f := 8) (by decide)) (fun M hT => hT.hd (c := 192) (by decide) (by decide)) (fun M hT => hT.hd (c := 234) (by decide) (by decide)) (fun T' M i x h hi h1 h2 => CI_K h hi (f := 8) (by decide) h1 h2 rfl) ?_ 40 _ M 0 (by decide) (by decide) (by decide) (mLd_st1_ref (by decide) hl0) (mLd_st1_ref (by decide) hl1) (mLd_st1_int (by decide) hl2) mLd_st1_i (by show CI s _ M (cCol (yV M) 3 1 8 0) M; rw [cCol_0]; exact CI_0 hA.2.2.2)
  intro M1 c
  refine ⟨c.2.2.2.1, (gUs γ [(1038, 2, 8)]), (gUs_fr [(1038, 2, 8)] rfl gFr.rf), _, List.Mem.head _, σ, aExt.rf, ?_⟩
  exact mkHold9 (by decide) s0 ⟨b00 s0, True.intro⟩ True.intro ⟨hF1_gh (by decide) (by decide) (by show (8 : Int) = σ 0 + 8; omega), True.intro⟩ True.intro (CI_mem c hA.2.2.2 (gUs_lt [(1038, 2, 8)] rfl (fun _ _ _ => rfl)) (y9_ck (p := 7) (f := 8) hx.2 (by omega) (by omega) rfl rfl (by decide) (fun t ht => cCol_ne ht) (fun g hg => cCol_nf hg) (fun dd hdd => cCol_eq hdd)))
theorem cs_ck9 {s : List Int32} : cSound9 s cm_ck9 := by
  intro γ d σ L M _ hA
  have h := aHold_0 hA
  have hl0 := eR h (i := 0) (g := 193) (c := 0) rfl rfl
  have hl1 := eR h (i := 1) (g := 235) (c := 0) rfl rfl
  obtain ⟨l2, hl2, el2⟩ := eI h (i := 2) (sy := 0) (c := 40) rfl
  have q30_2 : (γ 1030 2).toInt = σ 0 + 10 := eG h (g := 1030) (i := 2) (sy := 0) (c := 10) (by decide) (List.Mem.head _)
  have q38_2 : (γ 1038 2).toInt = σ 0 + 8 := eG h (g := 1038) (i := 2) (sy := 0) (c := 8) (by decide) (List.Mem.tail _ (List.Mem.head _))
  have s0 := h.1.2.1.1
  have hx : x9 γ M := hA.2.2.2.1.2.2
  have hT := aTp_of h.2.2.2
  have e2 : l2 = 40 := Int32.toInt_inj.mp (by show l2.toInt = 40; omega)
  subst e2
  refine kIconst (mi := 271) (pc := 0) (len := 1) (v := 0) rfl ?_
  refine kIstore (len := 1) (i := 3) rfl (by decide) ?_
  refine cp_loop (s := s) (mod := cm_ck9.2.2.2.2.2) (M0 := M) (T := yV M) (a := 193) (b := 235) (tt := 3) (ss := 1) (f := 9) (by decide) (by decide) (fun M i hT hi => tR hT hi (f := 9) (by decide)) (fun M hT => hT.hd (c := 193) (by decide) (by decide)) (fun M hT => hT.hd (c := 235) (by decide) (by decide)) (fun T' M i x h hi h1 h2 => CI_K h hi (f := 9) (by decide) h1 h2 rfl) ?_ 40 _ M 0 (by decide) (by decide) (by decide) (mLd_st1_ref (by decide) hl0) (mLd_st1_ref (by decide) hl1) (mLd_st1_int (by decide) hl2) mLd_st1_i (by show CI s _ M (cCol (yV M) 3 1 9 0) M; rw [cCol_0]; exact CI_0 hA.2.2.2)
  intro M1 c
  refine ⟨c.2.2.2.1, (gUs γ [(1038, 2, 9)]), (gUs_fr [(1038, 2, 9)] rfl gFr.rf), _, List.Mem.head _, σ, aExt.rf, ?_⟩
  exact mkHold9 (by decide) s0 ⟨b00 s0, True.intro⟩ True.intro ⟨hF1_gh (by decide) (by decide) (by show (9 : Int) = σ 0 + 9; omega), True.intro⟩ True.intro (CI_mem c hA.2.2.2 (gUs_lt [(1038, 2, 9)] rfl (fun _ _ _ => rfl)) (y9_ck (p := 8) (f := 9) hx.2 (by omega) (by omega) rfl rfl (by decide) (fun t ht => cCol_ne ht) (fun g hg => cCol_nf hg) (fun dd hdd => cCol_eq hdd)))
theorem cs_cu0 {s : List Int32} : cSound9 s cm_cu0 := by
  intro γ d σ L M _ hA
  have h := aHold_0 hA
  have hl0 := eR h (i := 0) (g := 227) (c := 0) rfl rfl
  have hl1 := eR h (i := 1) (g := 185) (c := 0) rfl rfl
  obtain ⟨l2, hl2, el2⟩ := eI h (i := 2) (sy := 0) (c := 40) rfl
  have q30_2 : (γ 1030 2).toInt = σ 0 + 11 := eG h (g := 1030) (i := 2) (sy := 0) (c := 11) (by decide) (List.Mem.head _)
  have q38_2 : (γ 1038 2).toInt = σ 0 + 0 := eG h (g := 1038) (i := 2) (sy := 0) (c := 0) (by decide) (List.Mem.tail _ (List.Mem.head _))
  have s0 := h.1.2.1.1
  have hx : x9 γ M := hA.2.2.2.1.2.2
  have hT := aTp_of h.2.2.2
  have e2 : l2 = 40 := Int32.toInt_inj.mp (by show l2.toInt = 40; omega)
  subst e2
  refine kIconst (mi := 271) (pc := 0) (len := 1) (v := 0) rfl ?_
  refine kIstore (len := 1) (i := 3) rfl (by decide) ?_
  refine cp_loop (s := s) (mod := cm_cu0.2.2.2.2.2) (M0 := M) (T := yV M) (a := 227) (b := 185) (tt := 1) (ss := 3) (f := 0) (by decide) (by decide) (fun M i hT hi => tK hT hi (f := 0) (by decide)) (fun M hT => hT.hd (c := 227) (by decide) (by decide)) (fun M hT => hT.hd (c := 185) (by decide) (by decide)) (fun T' M i x h hi h1 h2 => CI_R h hi (f := 0) (by decide) h1 h2 rfl) ?_ 40 _ M 0 (by decide) (by decide) (by decide) (mLd_st1_ref (by decide) hl0) (mLd_st1_ref (by decide) hl1) (mLd_st1_int (by decide) hl2) mLd_st1_i (by show CI s _ M (cCol (yV M) 1 3 0 0) M; rw [cCol_0]; exact CI_0 hA.2.2.2)
  intro M1 c
  refine ⟨c.2.2.2.1, (gUs γ [(1038, 2, 1)]), (gUs_fr [(1038, 2, 1)] rfl gFr.rf), _, List.Mem.head _, σ, aExt.rf, ?_⟩
  exact mkHold9 (by decide) s0 ⟨b00 s0, True.intro⟩ True.intro ⟨hF1_gh (by decide) (by decide) (by show (1 : Int) = σ 0 + 1; omega), True.intro⟩ True.intro (CI_mem c hA.2.2.2 (gUs_lt [(1038, 2, 1)] rfl (fun _ _ _ => rfl)) (y9_cu (p := 0) (f := 0) hx.2 (by omega) (by omega) rfl rfl (by decide) (fun t ht => cCol_ne ht) (fun g hg => cCol_nf hg) (fun dd hdd => cCol_eq hdd)))
theorem cs_cu1 {s : List Int32} : cSound9 s cm_cu1 := by
  intro γ d σ L M _ hA
  have h := aHold_0 hA
  have hl0 := eR h (i := 0) (g := 228) (c := 0) rfl rfl
  have hl1 := eR h (i := 1) (g := 186) (c := 0) rfl rfl
  obtain ⟨l2, hl2, el2⟩ := eI h (i := 2) (sy := 0) (c := 40) rfl
  have q30_2 : (γ 1030 2).toInt = σ 0 + 11 := eG h (g := 1030) (i := 2) (sy := 0) (c := 11) (by decide) (List.Mem.head _)
  have q38_2 : (γ 1038 2).toInt = σ 0 + 1 := eG h (g := 1038) (i := 2) (sy := 0) (c := 1) (by decide) (List.Mem.tail _ (List.Mem.head _))
  have s0 := h.1.2.1.1
  have hx : x9 γ M := hA.2.2.2.1.2.2
  have hT := aTp_of h.2.2.2
  have e2 : l2 = 40 := Int32.toInt_inj.mp (by show l2.toInt = 40; omega)
  subst e2
  refine kIconst (mi := 271) (pc := 0) (len := 1) (v := 0) rfl ?_
  refine kIstore (len := 1) (i := 3) rfl (by decide) ?_
  refine cp_loop (s := s) (mod := cm_cu1.2.2.2.2.2) (M0 := M) (T := yV M) (a := 228) (b := 186) (tt := 1) (ss := 3) (f := 1) (by decide) (by decide) (fun M i hT hi => tK hT hi (f := 1) (by decide)) (fun M hT => hT.hd (c := 228) (by decide) (by decide)) (fun M hT => hT.hd (c := 186) (by decide) (by decide)) (fun T' M i x h hi h1 h2 => CI_R h hi (f := 1) (by decide) h1 h2 rfl) ?_ 40 _ M 0 (by decide) (by decide) (by decide) (mLd_st1_ref (by decide) hl0) (mLd_st1_ref (by decide) hl1) (mLd_st1_int (by decide) hl2) mLd_st1_i (by show CI s _ M (cCol (yV M) 1 3 1 0) M; rw [cCol_0]; exact CI_0 hA.2.2.2)
  intro M1 c
  refine ⟨c.2.2.2.1, (gUs γ [(1038, 2, 2)]), (gUs_fr [(1038, 2, 2)] rfl gFr.rf), _, List.Mem.head _, σ, aExt.rf, ?_⟩
  exact mkHold9 (by decide) s0 ⟨b00 s0, True.intro⟩ True.intro ⟨hF1_gh (by decide) (by decide) (by show (2 : Int) = σ 0 + 2; omega), True.intro⟩ True.intro (CI_mem c hA.2.2.2 (gUs_lt [(1038, 2, 2)] rfl (fun _ _ _ => rfl)) (y9_cu (p := 1) (f := 1) hx.2 (by omega) (by omega) rfl rfl (by decide) (fun t ht => cCol_ne ht) (fun g hg => cCol_nf hg) (fun dd hdd => cCol_eq hdd)))
theorem cs_cu2 {s : List Int32} : cSound9 s cm_cu2 := by
  intro γ d σ L M _ hA
  have h := aHold_0 hA
  have hl0 := eR h (i := 0) (g := 229) (c := 0) rfl rfl
  have hl1 := eR h (i := 1) (g := 187) (c := 0) rfl rfl
  obtain ⟨l2, hl2, el2⟩ := eI h (i := 2) (sy := 0) (c := 40) rfl
  have q30_2 : (γ 1030 2).toInt = σ 0 + 11 := eG h (g := 1030) (i := 2) (sy := 0) (c := 11) (by decide) (List.Mem.head _)
  have q38_2 : (γ 1038 2).toInt = σ 0 + 2 := eG h (g := 1038) (i := 2) (sy := 0) (c := 2) (by decide) (List.Mem.tail _ (List.Mem.head _))
  have s0 := h.1.2.1.1
  have hx : x9 γ M := hA.2.2.2.1.2.2
  have hT := aTp_of h.2.2.2
  have e2 : l2 = 40 := Int32.toInt_inj.mp (by show l2.toInt = 40; omega)
  subst e2
  refine kIconst (mi := 271) (pc := 0) (len := 1) (v := 0) rfl ?_
  refine kIstore (len := 1) (i := 3) rfl (by decide) ?_
  refine cp_loop (s := s) (mod := cm_cu2.2.2.2.2.2) (M0 := M) (T := yV M) (a := 229) (b := 187) (tt := 1) (ss := 3) (f := 2) (by decide) (by decide) (fun M i hT hi => tK hT hi (f := 2) (by decide)) (fun M hT => hT.hd (c := 229) (by decide) (by decide)) (fun M hT => hT.hd (c := 187) (by decide) (by decide)) (fun T' M i x h hi h1 h2 => CI_R h hi (f := 2) (by decide) h1 h2 rfl) ?_ 40 _ M 0 (by decide) (by decide) (by decide) (mLd_st1_ref (by decide) hl0) (mLd_st1_ref (by decide) hl1) (mLd_st1_int (by decide) hl2) mLd_st1_i (by show CI s _ M (cCol (yV M) 1 3 2 0) M; rw [cCol_0]; exact CI_0 hA.2.2.2)
  intro M1 c
  refine ⟨c.2.2.2.1, (gUs γ [(1038, 2, 3)]), (gUs_fr [(1038, 2, 3)] rfl gFr.rf), _, List.Mem.head _, σ, aExt.rf, ?_⟩
  exact mkHold9 (by decide) s0 ⟨b00 s0, True.intro⟩ True.intro ⟨hF1_gh (by decide) (by decide) (by show (3 : Int) = σ 0 + 3; omega), True.intro⟩ True.intro (CI_mem c hA.2.2.2 (gUs_lt [(1038, 2, 3)] rfl (fun _ _ _ => rfl)) (y9_cu (p := 2) (f := 2) hx.2 (by omega) (by omega) rfl rfl (by decide) (fun t ht => cCol_ne ht) (fun g hg => cCol_nf hg) (fun dd hdd => cCol_eq hdd)))
theorem cs_cu3 {s : List Int32} : cSound9 s cm_cu3 := by
  intro γ d σ L M _ hA
  have h := aHold_0 hA
  have hl0 := eR h (i := 0) (g := 230) (c := 0) rfl rfl
  have hl1 := eR h (i := 1) (g := 188) (c := 0) rfl rfl
  obtain ⟨l2, hl2, el2⟩ := eI h (i := 2) (sy := 0) (c := 40) rfl
  have q30_2 : (γ 1030 2).toInt = σ 0 + 11 := eG h (g := 1030) (i := 2) (sy := 0) (c := 11) (by decide) (List.Mem.head _)
  have q38_2 : (γ 1038 2).toInt = σ 0 + 3 := eG h (g := 1038) (i := 2) (sy := 0) (c := 3) (by decide) (List.Mem.tail _ (List.Mem.head _))
  have s0 := h.1.2.1.1
  have hx : x9 γ M := hA.2.2.2.1.2.2
  have hT := aTp_of h.2.2.2
  have e2 : l2 = 40 := Int32.toInt_inj.mp (by show l2.toInt = 40; omega)
  subst e2
  refine kIconst (mi := 271) (pc := 0) (len := 1) (v := 0) rfl ?_
  refine kIstore (len := 1) (i := 3) rfl (by decide) ?_
  refine cp_loop (s := s) (mod := cm_cu3.2.2.2.2.2) (M0 := M) (T := yV M) (a := 230) (b := 188) (tt := 1) (ss := 3) (f := 3) (by decide) (by decide) (fun M i hT hi => tK hT hi (f := 3) (by decide)) (fun M hT => hT.hd (c := 230) (by decide) (by decide)) (fun M hT => hT.hd (c := 188) (by decide) (by decide)) (fun T' M i x h hi h1 h2 => CI_R h hi (f := 3) (by decide) h1 h2 rfl) ?_ 40 _ M 0 (by decide) (by decide) (by decide) (mLd_st1_ref (by decide) hl0) (mLd_st1_ref (by decide) hl1) (mLd_st1_int (by decide) hl2) mLd_st1_i (by show CI s _ M (cCol (yV M) 1 3 3 0) M; rw [cCol_0]; exact CI_0 hA.2.2.2)
  intro M1 c
  refine ⟨c.2.2.2.1, (gUs γ [(1038, 2, 4)]), (gUs_fr [(1038, 2, 4)] rfl gFr.rf), _, List.Mem.head _, σ, aExt.rf, ?_⟩
  exact mkHold9 (by decide) s0 ⟨b00 s0, True.intro⟩ True.intro ⟨hF1_gh (by decide) (by decide) (by show (4 : Int) = σ 0 + 4; omega), True.intro⟩ True.intro (CI_mem c hA.2.2.2 (gUs_lt [(1038, 2, 4)] rfl (fun _ _ _ => rfl)) (y9_cu (p := 3) (f := 3) hx.2 (by omega) (by omega) rfl rfl (by decide) (fun t ht => cCol_ne ht) (fun g hg => cCol_nf hg) (fun dd hdd => cCol_eq hdd)))
theorem cs_cu4 {s : List Int32} : cSound9 s cm_cu4 := by
  intro γ d σ L M _ hA
  have h := aHold_0 hA
  have hl0 := eR h (i := 0) (g := 231) (c := 0) rfl rfl
  have hl1 := eR h (i := 1) (g := 189) (c := 0) rfl rfl
  obtain ⟨l2, hl2, el2⟩ := eI h (i := 2) (sy := 0) (c := 40) rfl
  have q30_2 : (γ 1030 2).toInt = σ 0 + 11 := eG h (g := 1030) (i := 2) (sy := 0) (c := 11) (by decide) (List.Mem.head _)
  have q38_2 : (γ 1038 2).toInt = σ 0 + 4 := eG h (g := 1038) (i := 2) (sy := 0) (c := 4) (by decide) (List.Mem.tail _ (List.Mem.head _))
  have s0 := h.1.2.1.1
  have hx : x9 γ M := hA.2.2.2.1.2.2
  have hT := aTp_of h.2.2.2
  have e2 : l2 = 40 := Int32.toInt_inj.mp (by show l2.toInt = 40; omega)
  subst e2
  refine kIconst (mi := 271) (pc := 0) (len := 1) (v := 0) rfl ?_
  refine kIstore (len := 1) (i := 3) rfl (by decide) ?_
  refine cp_loop (s := s) (mod := cm_cu4.2.2.2.2.2) (M0 := M) (T := yV M) (a := 231) (b := 189) (tt := 1) (ss := 3) (f := 4) (by decide) (by decide) (fun M i hT hi => tK hT hi (f := 4) (by decide)) (fun M hT => hT.hd (c := 231) (by decide) (by decide)) (fun M hT => hT.hd (c := 189) (by decide) (by decide)) (fun T' M i x h hi h1 h2 => CI_R h hi (f := 4) (by decide) h1 h2 rfl) ?_ 40 _ M 0 (by decide) (by decide) (by decide) (mLd_st1_ref (by decide) hl0) (mLd_st1_ref (by decide) hl1) (mLd_st1_int (by decide) hl2) mLd_st1_i (by show CI s _ M (cCol (yV M) 1 3 4 0) M; rw [cCol_0]; exact CI_0 hA.2.2.2)
  intro M1 c
  refine ⟨c.2.2.2.1, (gUs γ [(1038, 2, 5)]), (gUs_fr [(1038, 2, 5)] rfl gFr.rf), _, List.Mem.head _, σ, aExt.rf, ?_⟩
  exact mkHold9 (by decide) s0 ⟨b00 s0, True.intro⟩ True.intro ⟨hF1_gh (by decide) (by decide) (by show (5 : Int) = σ 0 + 5; omega), True.intro⟩ True.intro (CI_mem c hA.2.2.2 (gUs_lt [(1038, 2, 5)] rfl (fun _ _ _ => rfl)) (y9_cu (p := 4) (f := 4) hx.2 (by omega) (by omega) rfl rfl (by decide) (fun t ht => cCol_ne ht) (fun g hg => cCol_nf hg) (fun dd hdd => cCol_eq hdd)))
theorem cs_cu5 {s : List Int32} : cSound9 s cm_cu5 := by
  intro γ d σ L M _ hA
  have h := aHold_0 hA
  have hl0 := eR h (i := 0) (g := 232) (c := 0) rfl rfl
  have hl1 := eR h (i := 1) (g := 190) (c := 0) rfl rfl
  obtain ⟨l2, hl2, el2⟩ := eI h (i := 2) (sy := 0) (c := 40) rfl
  have q30_2 : (γ 1030 2).toInt = σ 0 + 11 := eG h (g := 1030) (i := 2) (sy := 0) (c := 11) (by decide) (List.Mem.head _)
  have q38_2 : (γ 1038 2).toInt = σ 0 + 5 := eG h (g := 1038) (i := 2) (sy := 0) (c := 5) (by decide) (List.Mem.tail _ (List.Mem.head _))
  have s0 := h.1.2.1.1
  have hx : x9 γ M := hA.2.2.2.1.2.2
  have hT := aTp_of h.2.2.2
  have e2 : l2 = 40 := Int32.toInt_inj.mp (by show l2.toInt = 40; omega)
  subst e2
  refine kIconst (mi := 271) (pc := 0) (len := 1) (v := 0) rfl ?_
  refine kIstore (len := 1) (i := 3) rfl (by decide) ?_
  refine cp_loop (s := s) (mod := cm_cu5.2.2.2.2.2) (M0 := M) (T := yV M) (a := 232) (b := 190) (tt := 1) (ss := 3) (f := 5) (by decide) (by decide) (fun M i hT hi => tK hT hi (f := 5) (by decide)) (fun M hT => hT.hd (c := 232) (by decide) (by decide)) (fun M hT => hT.hd (c := 190) (by decide) (by decide)) (fun T' M i x h hi h1 h2 => CI_R h hi (f := 5) (by decide) h1 h2 rfl) ?_ 40 _ M 0 (by decide) (by decide) (by decide) (mLd_st1_ref (by decide) hl0) (mLd_st1_ref (by decide) hl1) (mLd_st1_int (by decide) hl2) mLd_st1_i (by show CI s _ M (cCol (yV M) 1 3 5 0) M; rw [cCol_0]; exact CI_0 hA.2.2.2)
  intro M1 c
  refine ⟨c.2.2.2.1, (gUs γ [(1038, 2, 6)]), (gUs_fr [(1038, 2, 6)] rfl gFr.rf), _, List.Mem.head _, σ, aExt.rf, ?_⟩
  exact mkHold9 (by decide) s0 ⟨b00 s0, True.intro⟩ True.intro ⟨hF1_gh (by decide) (by decide) (by show (6 : Int) = σ 0 + 6; omega), True.intro⟩ True.intro (CI_mem c hA.2.2.2 (gUs_lt [(1038, 2, 6)] rfl (fun _ _ _ => rfl)) (y9_cu (p := 5) (f := 5) hx.2 (by omega) (by omega) rfl rfl (by decide) (fun t ht => cCol_ne ht) (fun g hg => cCol_nf hg) (fun dd hdd => cCol_eq hdd)))
theorem cs_cu7 {s : List Int32} : cSound9 s cm_cu7 := by
  intro γ d σ L M _ hA
  have h := aHold_0 hA
  have hl0 := eR h (i := 0) (g := 233) (c := 0) rfl rfl
  have hl1 := eR h (i := 1) (g := 191) (c := 0) rfl rfl
  obtain ⟨l2, hl2, el2⟩ := eI h (i := 2) (sy := 0) (c := 40) rfl
  have q30_2 : (γ 1030 2).toInt = σ 0 + 11 := eG h (g := 1030) (i := 2) (sy := 0) (c := 11) (by decide) (List.Mem.head _)
  have q38_2 : (γ 1038 2).toInt = σ 0 + 6 := eG h (g := 1038) (i := 2) (sy := 0) (c := 6) (by decide) (List.Mem.tail _ (List.Mem.head _))
  have s0 := h.1.2.1.1
  have hx : x9 γ M := hA.2.2.2.1.2.2
  have hT := aTp_of h.2.2.2
  have e2 : l2 = 40 := Int32.toInt_inj.mp (by show l2.toInt = 40; omega)
  subst e2
  refine kIconst (mi := 271) (pc := 0) (len := 1) (v := 0) rfl ?_
  refine kIstore (len := 1) (i := 3) rfl (by decide) ?_
  refine cp_loop (s := s) (mod := cm_cu7.2.2.2.2.2) (M0 := M) (T := yV M) (a := 233) (b := 191) (tt := 1) (ss := 3) (f := 7) (by decide) (by decide) (fun M i hT hi => tK hT hi (f := 7) (by decide)) (fun M hT => hT.hd (c := 233) (by decide) (by decide)) (fun M hT => hT.hd (c := 191) (by decide) (by decide)) (fun T' M i x h hi h1 h2 => CI_R h hi (f := 7) (by decide) h1 h2 rfl) ?_ 40 _ M 0 (by decide) (by decide) (by decide) (mLd_st1_ref (by decide) hl0) (mLd_st1_ref (by decide) hl1) (mLd_st1_int (by decide) hl2) mLd_st1_i (by show CI s _ M (cCol (yV M) 1 3 7 0) M; rw [cCol_0]; exact CI_0 hA.2.2.2)
  intro M1 c
  refine ⟨c.2.2.2.1, (gUs γ [(1038, 2, 7)]), (gUs_fr [(1038, 2, 7)] rfl gFr.rf), _, List.Mem.head _, σ, aExt.rf, ?_⟩
  exact mkHold9 (by decide) s0 ⟨b00 s0, True.intro⟩ True.intro ⟨hF1_gh (by decide) (by decide) (by show (7 : Int) = σ 0 + 7; omega), True.intro⟩ True.intro (CI_mem c hA.2.2.2 (gUs_lt [(1038, 2, 7)] rfl (fun _ _ _ => rfl)) (y9_cu (p := 6) (f := 7) hx.2 (by omega) (by omega) rfl rfl (by decide) (fun t ht => cCol_ne ht) (fun g hg => cCol_nf hg) (fun dd hdd => cCol_eq hdd)))
theorem cs_cu8 {s : List Int32} : cSound9 s cm_cu8 := by
  intro γ d σ L M _ hA
  have h := aHold_0 hA
  have hl0 := eR h (i := 0) (g := 234) (c := 0) rfl rfl
  have hl1 := eR h (i := 1) (g := 192) (c := 0) rfl rfl
  obtain ⟨l2, hl2, el2⟩ := eI h (i := 2) (sy := 0) (c := 40) rfl
  have q30_2 : (γ 1030 2).toInt = σ 0 + 11 := eG h (g := 1030) (i := 2) (sy := 0) (c := 11) (by decide) (List.Mem.head _)
  have q38_2 : (γ 1038 2).toInt = σ 0 + 7 := eG h (g := 1038) (i := 2) (sy := 0) (c := 7) (by decide) (List.Mem.tail _ (List.Mem.head _))
  have s0 := h.1.2.1.1
  have hx : x9 γ M := hA.2.2.2.1.2.2
  have hT := aTp_of h.2.2.2
  have e2 : l2 = 40 := Int32.toInt_inj.mp (by show l2.toInt = 40; omega)
  subst e2
  refine kIconst (mi := 271) (pc := 0) (len := 1) (v := 0) rfl ?_
  refine kIstore (len := 1) (i := 3) rfl (by decide) ?_
  refine cp_loop (s := s) (mod := cm_cu8.2.2.2.2.2) (M0 := M) (T := yV M) (a := 234) (b := 192) (tt := 1) (ss := 3) (f := 8) (by decide) (by decide) (fun M i hT hi => tK hT hi (f := 8) (by decide)) (fun M hT => hT.hd (c := 234) (by decide) (by decide)) (fun M hT => hT.hd (c := 192) (by decide) (by decide)) (fun T' M i x h hi h1 h2 => CI_R h hi (f := 8) (by decide) h1 h2 rfl) ?_ 40 _ M 0 (by decide) (by decide) (by decide) (mLd_st1_ref (by decide) hl0) (mLd_st1_ref (by decide) hl1) (mLd_st1_int (by decide) hl2) mLd_st1_i (by show CI s _ M (cCol (yV M) 1 3 8 0) M; rw [cCol_0]; exact CI_0 hA.2.2.2)
  intro M1 c
  refine ⟨c.2.2.2.1, (gUs γ [(1038, 2, 8)]), (gUs_fr [(1038, 2, 8)] rfl gFr.rf), _, List.Mem.head _, σ, aExt.rf, ?_⟩
  exact mkHold9 (by decide) s0 ⟨b00 s0, True.intro⟩ True.intro ⟨hF1_gh (by decide) (by decide) (by show (8 : Int) = σ 0 + 8; omega), True.intro⟩ True.intro (CI_mem c hA.2.2.2 (gUs_lt [(1038, 2, 8)] rfl (fun _ _ _ => rfl)) (y9_cu (p := 7) (f := 8) hx.2 (by omega) (by omega) rfl rfl (by decide) (fun t ht => cCol_ne ht) (fun g hg => cCol_nf hg) (fun dd hdd => cCol_eq hdd)))
theorem cs_cu9 {s : List Int32} : cSound9 s cm_cu9 := by
  intro γ d σ L M _ hA
  have h := aHold_0 hA
  have hl0 := eR h (i := 0) (g := 235) (c := 0) rfl rfl
  have hl1 := eR h (i := 1) (g := 193) (c := 0) rfl rfl
  obtain ⟨l2, hl2, el2⟩ := eI h (i := 2) (sy := 0) (c := 40) rfl
  have q30_2 : (γ 1030 2).toInt = σ 0 + 11 := eG h (g := 1030) (i := 2) (sy := 0) (c := 11) (by decide) (List.Mem.head _)
  have q38_2 : (γ 1038 2).toInt = σ 0 + 8 := eG h (g := 1038) (i := 2) (sy := 0) (c := 8) (by decide) (List.Mem.tail _ (List.Mem.head _))
  have s0 := h.1.2.1.1
  have hx : x9 γ M := hA.2.2.2.1.2.2
  have hT := aTp_of h.2.2.2
  have e2 : l2 = 40 := Int32.toInt_inj.mp (by show l2.toInt = 40; omega)
  subst e2
  refine kIconst (mi := 271) (pc := 0) (len := 1) (v := 0) rfl ?_
  refine kIstore (len := 1) (i := 3) rfl (by decide) ?_
  refine cp_loop (s := s) (mod := cm_cu9.2.2.2.2.2) (M0 := M) (T := yV M) (a := 235) (b := 193) (tt := 1) (ss := 3) (f := 9) (by decide) (by decide) (fun M i hT hi => tK hT hi (f := 9) (by decide)) (fun M hT => hT.hd (c := 235) (by decide) (by decide)) (fun M hT => hT.hd (c := 193) (by decide) (by decide)) (fun T' M i x h hi h1 h2 => CI_R h hi (f := 9) (by decide) h1 h2 rfl) ?_ 40 _ M 0 (by decide) (by decide) (by decide) (mLd_st1_ref (by decide) hl0) (mLd_st1_ref (by decide) hl1) (mLd_st1_int (by decide) hl2) mLd_st1_i (by show CI s _ M (cCol (yV M) 1 3 9 0) M; rw [cCol_0]; exact CI_0 hA.2.2.2)
  intro M1 c
  refine ⟨c.2.2.2.1, (gUs γ [(1038, 2, 9)]), (gUs_fr [(1038, 2, 9)] rfl gFr.rf), _, List.Mem.head _, σ, aExt.rf, ?_⟩
  exact mkHold9 (by decide) s0 ⟨b00 s0, True.intro⟩ True.intro ⟨hF1_gh (by decide) (by decide) (by show (9 : Int) = σ 0 + 9; omega), True.intro⟩ True.intro (CI_mem c hA.2.2.2 (gUs_lt [(1038, 2, 9)] rfl (fun _ _ _ => rfl)) (y9_cu (p := 8) (f := 9) hx.2 (by omega) (by omega) rfl rfl (by decide) (fun t ht => cCol_ne ht) (fun g hg => cCol_nf hg) (fun dd hdd => cCol_eq hdd)))
theorem gs_kz272 {s : List Int32} : gSound9 s sg_kz272 := by
  intro γ d σ L st0 st M Q _ hA k
  have h := aHold_0 hA
  have e0 := eNil h
  subst e0
  have hl0 := eR h (i := 0) (g := 181) (c := 0) rfl rfl
  have q30_2 : (γ 1030 2).toInt = σ 0 + 10 := eG h (g := 1030) (i := 2) (sy := 0) (c := 10) (by decide) (List.Mem.head _)
  have s0 := h.1.2.1.1
  have hx : x9 γ M := hA.2.2.2.1.2.2
  have hT := aTp_of h.2.2.2
  refine kAload (mi := 272) (pc := 0) (len := 1) (i := 0) rfl hl0 ?_
  refine k (gUs γ [(1038, 2, 0)]) σ _ L [.ref 181] M (List.Mem.head _) (fun _ _ => rfl) aFr.rf (gUs_fr [(1038, 2, 0)] rfl gFr.rf) aExt.rf ?_
  exact mkHold9 (by decide) s0 ⟨b00 s0, True.intro⟩ True.intro ⟨hF1_gh (by decide) (by decide) (by show (0 : Int) = σ 0 + 0; omega), True.intro⟩ ⟨⟨181, rfl, by decide, by decide, rfl, fun hc => absurd hc (by decide)⟩, True.intro⟩ (fin9 hA.2.2.2 hT (gUs_lt [(1038, 2, 0)] rfl (fun _ _ _ => rfl)) rfl ⟨hx.1, y9_kz hx.2 (Or.inl (by omega))⟩)
theorem gs_kz273 {s : List Int32} : gSound9 s sg_kz273 := by
  intro γ d σ L st0 st M Q _ hA k
  have h := aHold_0 hA
  have e0 := eNil h
  subst e0
  have hl0 := eR h (i := 0) (g := 181) (c := 0) rfl rfl
  have q30_2 : (γ 1030 2).toInt = σ 0 + 11 := eG h (g := 1030) (i := 2) (sy := 0) (c := 11) (by decide) (List.Mem.head _)
  have s0 := h.1.2.1.1
  have hx : x9 γ M := hA.2.2.2.1.2.2
  have hT := aTp_of h.2.2.2
  refine kAload (mi := 273) (pc := 9) (len := 1) (i := 0) rfl hl0 ?_
  refine k (gUs γ [(1038, 2, 0)]) σ _ L [.ref 181] M (List.Mem.head _) (fun _ _ => rfl) aFr.rf (gUs_fr [(1038, 2, 0)] rfl gFr.rf) aExt.rf ?_
  exact mkHold9 (by decide) s0 ⟨b00 s0, True.intro⟩ True.intro ⟨hF1_gh (by decide) (by decide) (by show (0 : Int) = σ 0 + 0; omega), True.intro⟩ ⟨⟨181, rfl, by decide, by decide, rfl, fun hc => absurd hc (by decide)⟩, True.intro⟩ (fin9 hA.2.2.2 hT (gUs_lt [(1038, 2, 0)] rfl (fun _ _ _ => rfl)) rfl ⟨hx.1, y9_kz hx.2 (Or.inr (by omega))⟩)
theorem gs_fq272 {s : List Int32} : gSound9 s sg_fq272 := by
  intro γ d σ L st0 st M Q _ hA k
  have h := aHold_0 hA
  have e0 := eNil h
  subst e0
  have q30_2 : (γ 1030 2).toInt = σ 0 + 10 := eG h (g := 1030) (i := 2) (sy := 0) (c := 10) (by decide) (List.Mem.head _)
  have q38_2 : (γ 1038 2).toInt = σ 0 + 9 := eG h (g := 1038) (i := 2) (sy := 0) (c := 9) (by decide) (List.Mem.tail _ (List.Mem.head _))
  have s0 := h.1.2.1.1
  have hx : x9 γ M := hA.2.2.2.1.2.2
  have hT := aTp_of h.2.2.2
  refine kIconst (mi := 272) (pc := 219) (len := 1) (v := 0) rfl ?_
  refine k (gUs γ [(1038, 3, 0)]) σ _ L [.int 0] M (List.Mem.head _) (fun _ _ => rfl) aFr.rf (gUs_fr [(1038, 3, 0)] rfl gFr.rf) aExt.rf ?_
  exact mkHold9 (by decide) s0 ⟨b00 s0, True.intro⟩ True.intro ⟨hF1_gh (by decide) (by decide) (by show (0 : Int) = σ 0 + 0; omega), True.intro⟩ ⟨⟨by decide, _, rfl, by show (0 : Int) = σ 0 + 0; omega⟩, True.intro⟩ (fin9 hA.2.2.2 hT (gUs_lt [(1038, 3, 0)] rfl (fun _ _ _ => rfl)) rfl ⟨hx.1, y9_fq hx.2 (Or.inl (by omega))⟩)
theorem gs_fq273 {s : List Int32} : gSound9 s sg_fq273 := by
  intro γ d σ L st0 st M Q _ hA k
  have h := aHold_0 hA
  have e0 := eNil h
  subst e0
  have q30_2 : (γ 1030 2).toInt = σ 0 + 11 := eG h (g := 1030) (i := 2) (sy := 0) (c := 11) (by decide) (List.Mem.head _)
  have q38_2 : (γ 1038 2).toInt = σ 0 + 9 := eG h (g := 1038) (i := 2) (sy := 0) (c := 9) (by decide) (List.Mem.tail _ (List.Mem.head _))
  have s0 := h.1.2.1.1
  have hx : x9 γ M := hA.2.2.2.1.2.2
  have hT := aTp_of h.2.2.2
  refine kIconst (mi := 273) (pc := 223) (len := 1) (v := 0) rfl ?_
  refine k (gUs γ [(1038, 3, 0)]) σ _ L [.int 0] M (List.Mem.head _) (fun _ _ => rfl) aFr.rf (gUs_fr [(1038, 3, 0)] rfl gFr.rf) aExt.rf ?_
  exact mkHold9 (by decide) s0 ⟨b00 s0, True.intro⟩ True.intro ⟨hF1_gh (by decide) (by decide) (by show (0 : Int) = σ 0 + 0; omega), True.intro⟩ ⟨⟨by decide, _, rfl, by show (0 : Int) = σ 0 + 0; omega⟩, True.intro⟩ (fin9 hA.2.2.2 hT (gUs_lt [(1038, 3, 0)] rfl (fun _ _ _ => rfl)) rfl ⟨hx.1, y9_fq hx.2 (Or.inr (by omega))⟩)
theorem gs_fs272 {s : List Int32} : gSound9 s sg_fs272 := by
  intro γ d σ L st0 st M Q _ hA k
  have h := aHold_0 hA
  have e0 := eNil h
  subst e0
  have hl0 := eR h (i := 0) (g := 181) (c := 0) rfl rfl
  obtain ⟨l1, hl1, el1⟩ := eI h (i := 1) (sy := 1) (c := 0) rfl
  have q30_2 : (γ 1030 2).toInt = σ 0 + 10 := eG h (g := 1030) (i := 2) (sy := 0) (c := 10) (by decide) (List.Mem.head _)
  have q38_2 : (γ 1038 2).toInt = σ 0 + 9 := eG h (g := 1038) (i := 2) (sy := 0) (c := 9) (by decide) (List.Mem.tail _ (List.Mem.head _))
  have q38_3 : (γ 1038 3).toInt = σ 1 + 0 := eG h (g := 1038) (i := 3) (sy := 1) (c := 0) (by decide) (List.Mem.tail _ (List.Mem.tail _ (List.Mem.head _)))
  have b1 := eB h (i := 1) (lo := 0) (hi := 39) rfl
  have s0 := h.1.2.1.1
  have hx : x9 γ M := hA.2.2.2.1.2.2
  have hT := aTp_of h.2.2.2
  have hd : l1.toInt.toNat < 40 := by omega
  have ei : (l1 + 1).toInt = l1.toInt + 1 := i32_inc (by omega) (by omega)
  obtain ⟨x, x1, x2, x3, x4⟩ := tR hT hd (f := 6) (by decide)
  have x3 : 0 ≤ x.toInt := x3
  have x4 : x.toInt ≤ 1 := x4
  refine kAload (mi := 272) (pc := 227) (len := 1) (i := 0) rfl hl0 ?_
  refine kGetf (len := 3) (j := 1183) rfl (hT.hd (c := 181) (by decide) (by decide)) (by decide) (hT.ref (c := 181) (i := 83) (g := 241) (by decide) (by decide) (by decide) (lo := 0) (hi' := 0) rfl rfl) ?_
  refine kIload (len := 1) (i := 1) rfl hl1 ?_
  refine kAload (len := 1) (i := 0) rfl hl0 ?_
  refine kGetf (len := 3) (j := 1114) rfl (hT.hd (c := 181) (by decide) (by decide)) (by decide) (hT.ref (c := 181) (i := 14) (g := 194) (by decide) (by decide) (by decide) (lo := 0) (hi' := 0) rfl rfl) ?_
  refine kIload (len := 1) (i := 1) rfl hl1 ?_
  refine kBald (len := 1) (n := 40) rfl (hT.hd (c := 194) (by decide) (by decide)) rfl (by omega) (by show l1.toInt < 40; omega) x1 ?_
  refine kBast (len := 1) (n := 40) (z := x) rfl (hT.hd (c := 241) (by decide) (by decide)) (by decide) (by omega) (by show l1.toInt < 40; omega) (by rcases i32_zo (x := x) x3 x4 with e | e <;> (rw [e]; rfl)) ?_
  refine k (gUs γ [(1038, 3, l1 + 1)]) σ _ L [] (mPut M 241 l1.toInt.toNat (.int x)) (List.Mem.head _) (fun _ _ => rfl) (aFr_put rfl) (gUs_fr [(1038, 3, l1 + 1)] rfl gFr.rf) aExt.rf ?_
  exact mkHold9 (by decide) s0 ⟨b00 s0, b1, True.intro⟩ True.intro ⟨hF1_gh (by decide) (by decide) (by show ((l1 + 1) : Int32).toInt = σ 1 + 1; omega), True.intro⟩ True.intro (CI_mem (mod := [(241, 0)]) (CI_K (CI_0 hA.2.2.2) hd (f := 6) (by decide) x3 x4 rfl) hA.2.2.2 (gUs_lt [(1038, 3, l1 + 1)] rfl (fun _ _ _ => rfl)) (y9_fsk (i := l1.toInt.toNat) hx.2 (by omega) (by omega) (by omega) x2))
theorem gs_fs273 {s : List Int32} : gSound9 s sg_fs273 := by
  intro γ d σ L st0 st M Q _ hA k
  have h := aHold_0 hA
  have e0 := eNil h
  subst e0
  have hl0 := eR h (i := 0) (g := 181) (c := 0) rfl rfl
  obtain ⟨l1, hl1, el1⟩ := eI h (i := 1) (sy := 1) (c := 0) rfl
  have q30_2 : (γ 1030 2).toInt = σ 0 + 11 := eG h (g := 1030) (i := 2) (sy := 0) (c := 11) (by decide) (List.Mem.head _)
  have q38_2 : (γ 1038 2).toInt = σ 0 + 9 := eG h (g := 1038) (i := 2) (sy := 0) (c := 9) (by decide) (List.Mem.tail _ (List.Mem.head _))
  have q38_3 : (γ 1038 3).toInt = σ 1 + 0 := eG h (g := 1038) (i := 3) (sy := 1) (c := 0) (by decide) (List.Mem.tail _ (List.Mem.tail _ (List.Mem.head _)))
  have b1 := eB h (i := 1) (lo := 0) (hi := 39) rfl
  have s0 := h.1.2.1.1
  have hx : x9 γ M := hA.2.2.2.1.2.2
  have hT := aTp_of h.2.2.2
  have hd : l1.toInt.toNat < 40 := by omega
  have ei : (l1 + 1).toInt = l1.toInt + 1 := i32_inc (by omega) (by omega)
  obtain ⟨x, x1, x2, x3, x4⟩ := tK hT hd (f := 6) (by decide)
  have x3 : 0 ≤ x.toInt := x3
  have x4 : x.toInt ≤ 1 := x4
  refine kAload (mi := 273) (pc := 231) (len := 1) (i := 0) rfl hl0 ?_
  refine kGetf (len := 3) (j := 1114) rfl (hT.hd (c := 181) (by decide) (by decide)) (by decide) (hT.ref (c := 181) (i := 14) (g := 194) (by decide) (by decide) (by decide) (lo := 0) (hi' := 0) rfl rfl) ?_
  refine kIload (len := 1) (i := 1) rfl hl1 ?_
  refine kAload (len := 1) (i := 0) rfl hl0 ?_
  refine kGetf (len := 3) (j := 1183) rfl (hT.hd (c := 181) (by decide) (by decide)) (by decide) (hT.ref (c := 181) (i := 83) (g := 241) (by decide) (by decide) (by decide) (lo := 0) (hi' := 0) rfl rfl) ?_
  refine kIload (len := 1) (i := 1) rfl hl1 ?_
  refine kBald (len := 1) (n := 40) rfl (hT.hd (c := 241) (by decide) (by decide)) rfl (by omega) (by show l1.toInt < 40; omega) x1 ?_
  refine kBast (len := 1) (n := 40) (z := x) rfl (hT.hd (c := 194) (by decide) (by decide)) (by decide) (by omega) (by show l1.toInt < 40; omega) (by rcases i32_zo (x := x) x3 x4 with e | e <;> (rw [e]; rfl)) ?_
  refine k (gUs γ [(1038, 3, l1 + 1)]) σ _ L [] (mPut M 194 l1.toInt.toNat (.int x)) (List.Mem.head _) (fun _ _ => rfl) (aFr_put rfl) (gUs_fr [(1038, 3, l1 + 1)] rfl gFr.rf) aExt.rf ?_
  exact mkHold9 (by decide) s0 ⟨b00 s0, b1, True.intro⟩ True.intro ⟨hF1_gh (by decide) (by decide) (by show ((l1 + 1) : Int32).toInt = σ 1 + 1; omega), True.intro⟩ True.intro (CI_mem (mod := [(194, 0)]) (CI_R (CI_0 hA.2.2.2) hd (f := 6) (by decide) x3 x4 rfl) hA.2.2.2 (gUs_lt [(1038, 3, l1 + 1)] rfl (fun _ _ _ => rfl)) (y9_fsu (i := l1.toInt.toNat) hx.2 (by omega) (by omega) (by omega) x2))
theorem gs_fk {s : List Int32} : gSound9 s sg_fk := by
  intro γ d σ L st0 st M Q _ hA k
  have h := aHold_0 hA
  have e0 := eNil h
  subst e0
  have hl0 := eR h (i := 0) (g := 181) (c := 0) rfl rfl
  have q30_2 : (γ 1030 2).toInt = σ 0 + 10 := eG h (g := 1030) (i := 2) (sy := 0) (c := 10) (by decide) (List.Mem.head _)
  have q38_2 : (γ 1038 2).toInt = σ 0 + 9 := eG h (g := 1038) (i := 2) (sy := 0) (c := 9) (by decide) (List.Mem.tail _ (List.Mem.head _))
  have q38_3 : (γ 1038 3).toInt = σ 0 + 40 := eG h (g := 1038) (i := 3) (sy := 0) (c := 40) (by decide) (List.Mem.tail _ (List.Mem.tail _ (List.Mem.head _)))
  have q30_0 : (γ 1030 0).toInt = σ 1 + 0 := eG h (g := 1030) (i := 0) (sy := 1) (c := 0) (by decide) (List.Mem.tail _ (List.Mem.tail _ (List.Mem.tail _ (List.Mem.head _))))
  have b1 := eB h (i := 1) (lo := 0) (hi := 40) rfl
  have s0 := h.1.2.1.1
  have hx : x9 γ M := hA.2.2.2.1.2.2
  have hT := aTp_of h.2.2.2
  refine kAload (mi := 272) (pc := 245) (len := 1) (i := 0) rfl hl0 ?_
  refine k (gUs γ [(1030, 2, 0), (1038, 1, γ 1030 0)]) σ _ L [.ref 181] M (List.Mem.head _) (fun _ _ => rfl) aFr.rf (gUs_fr [(1030, 2, 0), (1038, 1, γ 1030 0)] rfl gFr.rf) aExt.rf ?_
  exact mkHold9 (by decide) s0 ⟨b00 s0, b1, True.intro⟩ True.intro ⟨hF1_gh (by decide) (by decide) (by show (0 : Int) = σ 0 + 0; omega), hF1_gh (by decide) (by decide) (by show ((γ 1030 0) : Int32).toInt = σ 1 + 0; omega), True.intro⟩ ⟨⟨181, rfl, by decide, by decide, rfl, fun hc => absurd hc (by decide)⟩, True.intro⟩ (fin9 hA.2.2.2 hT (gUs_lt [(1030, 2, 0), (1038, 1, γ 1030 0)] rfl (fun _ _ _ => rfl)) rfl ⟨hx.1, y9_fk hx.2 (by omega) (by omega) (by omega) rfl⟩)
theorem gs_fu {s : List Int32} : gSound9 s sg_fu := by
  intro γ d σ L st0 st M Q _ hA k
  have h := aHold_0 hA
  have e0 := eNil h
  subst e0
  have q30_2 : (γ 1030 2).toInt = σ 0 + 11 := eG h (g := 1030) (i := 2) (sy := 0) (c := 11) (by decide) (List.Mem.head _)
  have q38_2 : (γ 1038 2).toInt = σ 0 + 9 := eG h (g := 1038) (i := 2) (sy := 0) (c := 9) (by decide) (List.Mem.tail _ (List.Mem.head _))
  have q38_3 : (γ 1038 3).toInt = σ 0 + 40 := eG h (g := 1038) (i := 3) (sy := 0) (c := 40) (by decide) (List.Mem.tail _ (List.Mem.tail _ (List.Mem.head _)))
  have q38_1 : (γ 1038 1).toInt = σ 1 + 0 := eG h (g := 1038) (i := 1) (sy := 1) (c := 0) (by decide) (List.Mem.tail _ (List.Mem.tail _ (List.Mem.tail _ (List.Mem.head _))))
  have b1 := eB h (i := 1) (lo := 0) (hi := 40) rfl
  have s0 := h.1.2.1.1
  have hx : x9 γ M := hA.2.2.2.1.2.2
  have hT := aTp_of h.2.2.2
  refine kIconst (mi := 273) (pc := 249) (len := 1) (v := 1) rfl ?_
  refine k (gUs γ [(1030, 2, 0), (1030, 0, γ 1038 1)]) σ _ L [.int 1] M (List.Mem.head _) (fun _ _ => rfl) aFr.rf (gUs_fr [(1030, 2, 0), (1030, 0, γ 1038 1)] rfl gFr.rf) aExt.rf ?_
  exact mkHold9 (by decide) s0 ⟨b00 s0, b1, True.intro⟩ True.intro ⟨hF1_gh (by decide) (by decide) (by show (0 : Int) = σ 0 + 0; omega), hF1_gh (by decide) (by decide) (by show ((γ 1038 1) : Int32).toInt = σ 1 + 0; omega), True.intro⟩ ⟨⟨by decide, _, rfl, by show (1 : Int) = σ 0 + 1; omega⟩, True.intro⟩ (fin9 hA.2.2.2 hT (gUs_lt [(1030, 2, 0), (1030, 0, γ 1038 1)] rfl (fun _ _ _ => rfl)) rfl ⟨hx.1, y9_fu hx.2 (by omega) (by omega) (by omega) rfl⟩)
theorem gs_ks1 {s : List Int32} : gSound9 s sg_ks1 := by
  intro γ d σ L st0 st M Q _ hA k
  have h := aHold_0 hA
  obtain ⟨w0, w1, rfl, g0, g1⟩ := eS2 h
  obtain ⟨x0, rfl, ex0⟩ := gI g0
  have ex0 : x0.toInt = σ 1 + 0 := ex0
  have e1 := gR g1 rfl
  subst e1
  have b1 := eB h (i := 1) (lo := 0) (hi := 65535) rfl
  have s0 := h.1.2.1.1
  have hx : x9 γ M := hA.2.2.2.1.2.2
  have hT := aTp_of h.2.2.2
  refine kPutf (mi := 142) (pc := 27) (len := 3) (j := 1012) rfl (hT.hd (c := 2) (by decide) (by decide)) (by decide) (by decide) rfl ?_
  refine k (gUs γ [(1039, 0, 0)]) σ _ L [] (mPut M 2 12 (.int x0)) (List.Mem.head _) (fun _ _ => rfl) (aFr_put rfl) (gUs_fr [(1039, 0, 0)] rfl gFr.rf) aExt.rf ?_
  exact mkHold9 (by decide) s0 ⟨b00 s0, b1, True.intro⟩ True.intro ⟨hF1_re rfl (by decide) (by decide) (mSlot_put_eq (hT.hd (c := 2) (by decide) (by decide)) (by decide)) (by show (x0 : Int32).toInt = σ 1 + 0; omega), True.intro⟩ True.intro (putT (t := 8) (f := 0) (d := 0) hA.2.2.2 rfl (by decide) (by decide) ⟨x0, rfl, by show (0 : Int) ≤ x0.toInt; omega, by show x0.toInt ≤ 65535; omega⟩ (hT.hd (c := 2) (by decide) (by decide)) (by decide) rfl (by decide) (by decide) (gUs_lt [(1039, 0, 0)] rfl (fun _ _ _ => rfl)) (y9_ks1 hx.2))
theorem gs_ks2 {s : List Int32} : gSound9 s sg_ks2 := by
  intro γ d σ L st0 st M Q _ hA k
  have h := aHold_0 hA
  obtain ⟨w0, w1, rfl, g0, g1⟩ := eS2 h
  obtain ⟨x0, rfl, ex0⟩ := gI g0
  have ex0 : x0.toInt = σ 1 + 0 := ex0
  have e1 := gR g1 rfl
  subst e1
  obtain ⟨f2_12, hf2_12, ef2_12⟩ := eF h (g := 2) (i := 12) (sy := 1) (c := 0) (by decide) (by decide) rfl (List.Mem.head _)
  have b1 := eB h (i := 1) (lo := 0) (hi := 65535) rfl
  have s0 := h.1.2.1.1
  have hx : x9 γ M := hA.2.2.2.1.2.2
  have hT := aTp_of h.2.2.2
  have ev := yV_get (t := 8) (f := 0) (d := 0) rfl hf2_12
  refine kPutf (mi := 272) (pc := 34) (len := 3) (j := 1168) rfl (hT.hd (c := 181) (by decide) (by decide)) (by decide) (by decide) rfl ?_
  refine k (gUs γ [(1039, 0, 1)]) σ _ L [] (mPut M 181 68 (.int x0)) (List.Mem.head _) (fun _ _ => rfl) (aFr_put rfl) (gUs_fr [(1039, 0, 1)] rfl gFr.rf) aExt.rf ?_
  exact mkHold9 (by decide) s0 ⟨b00 s0, b1, True.intro⟩ True.intro ⟨hF1_gh (by decide) (by decide) (by show (1 : Int) = σ 0 + 1; omega), True.intro⟩ True.intro (putT (t := 9) (f := 0) (d := 0) hA.2.2.2 rfl (by decide) (by decide) ⟨x0, rfl, by show (0 : Int) ≤ x0.toInt; omega, by show x0.toInt ≤ 65535; omega⟩ (hT.hd (c := 181) (by decide) (by decide)) (by decide) rfl (by decide) (by decide) (gUs_lt [(1039, 0, 1)] rfl (fun _ _ _ => rfl)) (y9_ks2 hx.2 (ev.trans (by omega))))
theorem gs_ks3 {s : List Int32} : gSound9 s sg_ks3 := by
  intro γ d σ L st0 st M Q _ hA k
  have h := aHold_0 hA
  obtain ⟨w0, rfl, g0⟩ := eS1 h
  have e0 := gR g0 rfl
  subst e0
  obtain ⟨f2_12, hf2_12, ef2_12⟩ := eF h (g := 2) (i := 12) (sy := 1) (c := 0) (by decide) (by decide) rfl (List.Mem.head _)
  have q39_0 : (γ 1039 0).toInt = σ 0 + 1 := eG h (g := 1039) (i := 0) (sy := 0) (c := 1) (by decide) (List.Mem.tail _ (List.Mem.head _))
  have b1 := eB h (i := 1) (lo := 0) (hi := 65535) rfl
  have s0 := h.1.2.1.1
  have hx : x9 γ M := hA.2.2.2.1.2.2
  have hT := aTp_of h.2.2.2
  obtain ⟨v, v1, v2, v3⟩ := hT.int (c := 181) (i := 68) (by decide) (by decide) (by decide) (lo := 0) (hi' := 65535) (gs := []) rfl
  have ev := yV_get (t := 9) (f := 0) (d := 0) rfl v1
  have ew := yV_get (t := 8) (f := 0) (d := 0) rfl hf2_12
  have e : yV M 8 0 0 = yV M 9 0 0 := hx.2.2.2.2.2.1 (show (γ 1039 0).toInt = 1 by omega)
  refine kGetf (mi := 273) (pc := 35) (len := 3) (j := 1168) rfl (hT.hd (c := 181) (by decide) (by decide)) (by decide) v1 ?_
  refine k γ σ _ L [.int v] M (List.Mem.head _) (fun _ _ => rfl) aFr.rf gFr.rf aExt.rf ?_
  exact mkHold9 (by decide) s0 ⟨b00 s0, b1, True.intro⟩ True.intro True.intro ⟨⟨by decide, _, rfl, by show (v : Int32).toInt = σ 1 + 0; omega⟩, True.intro⟩ (hA.2.2.2)
