/-! stores into the order of the deeds and into their count: pieces that know of neither (by hand) -/
theorem m0_put {s : List Int32} {γ : Gh} {M : Mem} {a i : Nat} {v : Value} (h : aMem0 (s, γ) M) (h2 : 2 ≤ a) (h3 : a < tEnd) (ht : aTy (tTy (tGrp a) i) v) (hp : tPro0 (tGrp a) (aSlK a i) = false) : aMem0 (s, γ) (mPut M a i v) := by
  refine aMem_mk h.1.2 ((aTp_of h).put h2 h3 ht) ?_
  have q : tXI γ M := h.2.2.2
  unfold tXI at q ⊢
  rw [xv_put0 hp]
  exact q
theorem gt_ow {s : List Int32} {mi pc : Nat} (hat : mAt mi pc = some (1, .iastore)) : gSound0 s (mi, pc, pc + 1, 0, (([(.ofNat 0, .ofNat 0), (.ofNat 0, .ofNat 39), (.ofNat 0, .ofNat 39)], [], [], []), [], [(1, 1, .ofNat 0), (1, 2, .ofNat 0), (2, 9, .ofNat 0)]), [(([(.ofNat 0, .ofNat 0), (.ofNat 0, .ofNat 39), (.ofNat 0, .ofNat 39)], [], [], []), [], [])], [(9, 0)], []) := by
  intro γ d σ L st0 st M Q _ h k
  obtain ⟨w0, w1, w2, rfl, g0, g1, g2⟩ := eS3 h
  obtain ⟨x0, rfl, ex0⟩ := gI g0
  have ex0 : x0.toInt = σ 1 + 0 := ex0
  obtain ⟨x1, rfl, ex1⟩ := gI g1
  have ex1 : x1.toInt = σ 2 + 0 := ex1
  have e2 := gR g2 rfl
  subst e2
  have b1 := eB h (i := 1) (lo := 0) (hi := 39) rfl
  have b2 := eB h (i := 2) (lo := 0) (hi := 39) rfl
  have s0 := h.1.2.1.1
  have hT := aTp_of h.2.2.2
  refine kIast (n := 40) hat (hT.hd (c := 9) (by decide) (by decide)) (by decide) (by omega) (by show x1.toInt < 40; omega) ?_
  refine k γ σ _ L [] (mPut M 9 x1.toInt.toNat (.int x0)) (List.Mem.head _) (fun _ _ => rfl) (aFr_put rfl) gFr.rf aExt.rf ?_
  exact mkHold (by decide) s0 ⟨b00 s0, b1, b2, True.intro⟩ True.intro True.intro True.intro (m0_put h.2.2.2 (by decide) (by decide) ⟨x0, rfl, by show (0 : Int) ≤ x0.toInt; omega, by show x0.toInt ≤ 39; omega⟩ rfl)
theorem gt_oc {s : List Int32} {mi pc : Nat} (hat : mAt mi pc = some (3, .putfield 602)) : gSound0 s (mi, pc, pc + 3, 0, (([(.ofNat 0, .ofNat 0), (.ofNat 0, .ofNat 40)], [], [], []), [], [(1, 1, .ofNat 0), (2, 7, .ofNat 0)]), [(([(.ofNat 0, .ofNat 0), (.ofNat 0, .ofNat 40)], [], [], [(7, 2, (1, 1, .ofNat 0))]), [], [])], [(7, 2)], []) := by
  intro γ d σ L st0 st M Q _ h k
  obtain ⟨w0, w1, rfl, g0, g1⟩ := eS2 h
  obtain ⟨x0, rfl, ex0⟩ := gI g0
  have ex0 : x0.toInt = σ 1 + 0 := ex0
  have e1 := gR g1 rfl
  subst e1
  have b1 := eB h (i := 1) (lo := 0) (hi := 40) rfl
  have s0 := h.1.2.1.1
  have hT := aTp_of h.2.2.2
  have hh := hT.hd (c := 7) (by decide) (by decide)
  refine kPutf (j := 602) hat hh (by decide) (by decide) rfl ?_
  refine k γ σ _ L [] (mPut M 7 2 (.int x0)) (List.Mem.head _) (fun _ _ => rfl) (aFr_put rfl) gFr.rf aExt.rf ?_
  exact mkHold (by decide) s0 ⟨b00 s0, b1, True.intro⟩ True.intro ⟨hF1_re rfl (by decide) (by decide) (mSlot_put_eq hh (by decide)) ex0, True.intro⟩ True.intro (m0_put h.2.2.2 (by decide) (by decide) ⟨x0, rfl, by show (0 : Int) ≤ x0.toInt; omega, by show x0.toInt ≤ 40; omega⟩ rfl)
theorem gs_ow91_66 {s : List Int32} : gSound0 s sg_ow91_66 := gt_ow rfl
theorem gs_ow91_82 {s : List Int32} : gSound0 s sg_ow91_82 := gt_ow rfl
theorem gs_ow92_54 {s : List Int32} : gSound0 s sg_ow92_54 := gt_ow rfl
theorem gs_oc91 {s : List Int32} : gSound0 s sg_oc91 := gt_oc rfl
theorem gs_oc92 {s : List Int32} : gSound0 s sg_oc92 := gt_oc rfl
