/-! the tape's pieces -/
theorem xv_at {M : Mem} {c i : Nat} (hp : tPro0 (tGrp c) (aSlK c i) = true) : xv M c i = mSlot M c i := by
  unfold xv
  rw [hp]
  rfl
theorem gs_hr1 {s : List Int32} : gSound0 s sg_hr1 := by
  intro γ d σ L st0 st M Q _ h k
  have e0 := eNil h
  subst e0
  have hr := eR h (i := 0) (g := 181) (c := 0) rfl rfl
  obtain ⟨x, hx, ex⟩ := eF h (g := 181) (i := 26) (sy := 1) (c := 0) (by decide) (by decide) rfl (List.Mem.head _)
  have g1 := eG h (g := 1007) (i := 0) (sy := 1) (c := 0) (by decide) (List.Mem.tail _ (List.Mem.head _))
  have g1 : (γ 1007 0).toInt = σ 1 + 0 := g1
  have g2 := eG h (g := 1007) (i := 1) (sy := 2) (c := 0) (by decide) (List.Mem.tail _ (List.Mem.tail _ (List.Mem.head _)))
  have g2 : (γ 1007 1).toInt = σ 2 + 0 := g2
  have b1 := eB h (i := 1) (lo := 0) (hi := 199) rfl
  have b2 := eB h (i := 2) (lo := 0) (hi := 255) rfl
  have s0 := h.1.2.1.1
  have h8 : x8 (s, γ) := h.2.2.2.1.2
  have hX : tXI γ M := h.2.2.2.2.2.2
  have hT := aTp_of h.2.2.2
  have hd := hT.hd (c := 181) (by decide) (by decide)
  have hda := hT.hd (c := 202) (by decide) (by decide)
  have hf := t181_ref hT (i := 24) (g := 202) (lo := 0) (hi := 0) (by decide) rfl rfl
  obtain ⟨_, y, y1, y2⟩ := hX.2.2.2.2.2.1 (by omega)
  rw [xv_at rfl, show (γ 1007 0).toInt.toNat = x.toInt.toNat by omega] at y1
  refine kAload (mi := 192) (pc := 11) (len := 1) (i := 0) rfl hr ?_
  refine kGetf (len := 3) (j := 1124) rfl hd (by decide) hf ?_
  refine kAload (len := 1) (i := 0) rfl hr ?_
  refine kGetf (len := 3) (j := 1126) rfl hd (by decide) hx ?_
  refine kBald (len := 1) (n := 200) rfl hda rfl (by omega) (by show x.toInt < 200; omega) y1 ?_
  refine kIconst (len := 3) (v := 255) rfl ?_
  refine kAnd (len := 1) rfl ?_
  rw [show Int32.ofInt 255 = 255 from rfl, y2]
  refine k γ σ _ L [.int (γ 1007 1)] M (List.Mem.head _) (fun _ _ => rfl) aFr.rf gFr.rf aExt.rf ?_
  exact mkHold (by decide) s0 ⟨b00 s0, b1, b2, True.intro⟩ True.intro True.intro ⟨⟨by decide, _, rfl, g2⟩, True.intro⟩ h.2.2.2
theorem gs_hr2 {s : List Int32} : gSound0 s sg_hr2 := by
  intro γ d σ L st0 st M Q _ h k
  have e0 := eNil h
  subst e0
  have hr := eR h (i := 0) (g := 181) (c := 0) rfl rfl
  obtain ⟨x, hx, ex⟩ := eF h (g := 181) (i := 26) (sy := 1) (c := 0) (by decide) (by decide) rfl (List.Mem.head _)
  have b1 := eB h (i := 1) (lo := 0) (hi := 199) rfl
  have s0 := h.1.2.1.1
  have h8 : x8 (s, γ) := h.2.2.2.1.2
  have hX : tXI γ M := h.2.2.2.2.2.2
  have hT := aTp_of h.2.2.2
  have hd := hT.hd (c := 181) (by decide) (by decide)
  have hda := hT.hd (c := 202) (by decide) (by decide)
  have hf := t181_ref hT (i := 24) (g := 202) (lo := 0) (hi := 0) (by decide) rfl rfl
  obtain ⟨y, y1, y2, y3⟩ := hT.int (c := 202) (i := x.toInt.toNat) (by decide) (by decide) (by show _ < 200; omega) (lo := -128) (hi' := 127) (gs := []) rfl
  refine kAload (mi := 192) (pc := 11) (len := 1) (i := 0) rfl hr ?_
  refine kGetf (len := 3) (j := 1124) rfl hd (by decide) hf ?_
  refine kAload (len := 1) (i := 0) rfl hr ?_
  refine kGetf (len := 3) (j := 1126) rfl hd (by decide) hx ?_
  refine kBald (len := 1) (n := 200) rfl hda rfl (by omega) (by show x.toInt < 200; omega) y1 ?_
  refine kIconst (len := 3) (v := 255) rfl ?_
  refine kAnd (len := 1) rfl ?_
  rw [show Int32.ofInt 255 = 255 from rfl]
  have r := i32_and_r (x := y) (y := 255) (by decide)
  have r2 : (y &&& 255).toInt ≤ 255 := Int.le_trans r.2 (by decide)
  refine k (gUp (gUp γ 1007 0 x) 1007 1 (y &&& 255)) (aUp σ 2 (y &&& 255).toInt) _ L [.int (y &&& 255)] M (List.Mem.head _) (fun _ _ => rfl) aFr.rf (gFr_up rfl (gFr_up rfl gFr.rf)) aUp_ext ?_
  refine mkHold (by decide) s0 ⟨b00 s0, b1, ⟨r.1, r2⟩, True.intro⟩ True.intro ⟨hF1_gh (by decide) (by decide) ex, hF1_gh (by decide) (by decide) ?_, True.intro⟩ ⟨⟨by decide, _, rfl, ?_⟩, True.intro⟩ (aMem_mk h8 hT ⟨hX.1, hX.2.1, hX.2.2.1, hX.2.2.2.1, hX.2.2.2.2.1, ?_, hX.2.2.2.2.2.2⟩)
  · show (y &&& 255).toInt = (y &&& 255).toInt + 0
    omega
  · show (y &&& 255).toInt = (y &&& 255).toInt + 0
    omega
  · intro _
    exact ⟨by show x.toInt < 200; omega, y, (xv_at rfl).trans y1, rfl⟩
theorem e3 {scr : SG} {σ : Nat → Int} {K : AK} {A : List AV} {L : MLoc} {st : List Value} {M : Mem} {g : Nat} {c : Int} (hg : tSin g = true) (h : aHold0 scr σ (K, A, [(1, 1, 0), (1, 2, 0), (2, g, c)]) L st M) : ∃ x y : Int32, st = [.int x, .int y, .ref g] ∧ x.toInt = σ 1 + 0 ∧ y.toInt = σ 2 + 0 := by
  obtain ⟨w1, r1, rfl, g1, h1⟩ := aSs_cons h.2.2.1
  obtain ⟨w2, r2, rfl, g2, h2⟩ := aSs_cons h1
  obtain ⟨w3, r3, rfl, g3, h3⟩ := aSs_cons h2
  have e : r3 = [] := by
    cases r3 with
    | nil => rfl
    | cons _ _ => exact h3.elim
  subst e
  obtain ⟨_, x, rfl, hx⟩ := g1
  obtain ⟨_, y, rfl, hy⟩ := g2
  obtain ⟨a, rfl, a1, a2, a3, _⟩ := g3
  have e : tGrp a = a := tSin_grp (by rw [a3]; exact hg)
  have e2 : a = g := e.symm.trans a3
  subst e2
  exact ⟨x, y, rfl, hx, hy⟩
theorem tape_put {γ' : Gh} {M : Mem} {i : Nat} {v : Value} (h2 : x2 γ') (h3 : x3 γ' (xv M)) (h4 : x4 γ' (xv M)) (h5 : x5 γ' (xv M)) (h6 : x6 γ' (xv M)) (h7 : x7 γ' (xv (mPut M 202 i v))) (hp : xp γ' (xv M)) : tXI γ' (mPut M 202 i v) :=
  ⟨h2, x3_c (xv_put (by decide)) h3, x4_c (xv_put (by decide)) (xv_put (by decide)) h4, x5_c (fun c h1 h2 => xv_put (by omega)) h5, x6_c (xv_put (by decide)) (xv_put (by decide)) h6, h7, xp_c (fun c h1 h2 => xv_put (by omega)) (xv_put (by decide)) hp⟩
theorem nar_b {y : Int32} : vp_nar .byte y = y.toInt8.toInt32 := rfl
theorem gs_ty {s : List Int32} : gSound0 s sg_ty := by
  intro γ d σ L st0 st M Q _ h k
  obtain ⟨v, x, rfl, ev, ex⟩ := e3 (g := 202) rfl h
  have b1 := eB h (i := 1) (lo := -128) (hi := 127) rfl
  have b2 := eB h (i := 2) (lo := 0) (hi := 199) rfl
  have s0 := h.1.2.1.1
  have h8 : x8 (s, γ) := h.2.2.2.1.2
  have hX : tXI γ M := h.2.2.2.2.2.2
  have hT := aTp_of h.2.2.2
  have hda := hT.hd (c := 202) (by decide) (by decide)
  refine kBast (mi := 190) (pc := 21) (len := 1) (t := 66) (n := 200) (z := vp_nar .byte v) rfl hda (by decide) (by omega) (by show x.toInt < 200; omega) rfl ?_
  refine k (gUp γ 1007 0 (-1)) σ _ L [] _ (List.Mem.head _) (fun _ _ => rfl) (aFr_put rfl) (gFr_up rfl gFr.rf) aExt.rf ?_
  have r := i32_b (x := v)
  rw [← nar_b] at r
  refine mkHold (by decide) s0 ⟨b00 s0, b1, b2, True.intro⟩ True.intro True.intro True.intro (aMem_mk h8 (hT.put (by decide) (by decide) ⟨_, rfl, r.1, r.2⟩) ?_)
  exact tape_put hX.1 hX.2.1 hX.2.2.1 hX.2.2.2.1 hX.2.2.2.2.1 (fun h0 => absurd h0 m1lt) hX.2.2.2.2.2.2
/-! the stack of a run -/
theorem stk_put {γ' : Gh} {M : Mem} {i : Nat} {v : Value} (h2 : x2 γ') (h3 : x3 γ' (xv M)) (h4 : x4 γ' (xv M)) (h5 : x5 γ' (xv M)) (h6 : x6 γ' (xv (mPut M 215 i v))) (h7 : x7 γ' (xv M)) (hp : xp γ' (xv M)) : tXI γ' (mPut M 215 i v) :=
  ⟨h2, x3_c (xv_put (by decide)) h3, x4_c (xv_put (by decide)) (xv_put (by decide)) h4, x5_c (fun c h1 h2 => xv_put (by omega)) h5, h6, x7_c (xv_put (by decide)) h7, xp_c (fun c h1 h2 => xv_put (by omega)) (xv_put (by decide)) hp⟩
theorem gs_ct5 {s : List Int32} {pc : Nat} (hat : mAt 214 pc = some (1, .iastore)) : gSound0 s (214, pc, pc + 1, 0, sg_ct50.2.2.2.2) := by
  intro γ d σ L st0 st M Q _ h k
  obtain ⟨v, x, rfl, ev, ex⟩ := e3 (g := 215) rfl h
  have b1 := eB h (i := 1) (lo := -2147483648) (hi := 2147483647) rfl
  have b2 := eB h (i := 2) (lo := 0) (hi := 179) rfl
  have s0 := h.1.2.1.1
  have h8 : x8 (s, γ) := h.2.2.2.1.2
  have hX : tXI γ M := h.2.2.2.2.2.2
  have hT := aTp_of h.2.2.2
  have hda := hT.hd (c := 215) (by decide) (by decide)
  refine kIast (mi := 214) (len := 1) (n := 180) hat hda (by decide) (by omega) (by show x.toInt < 180; omega) ?_
  refine k (gUp γ 1006 6 (-1)) σ _ L [] _ (List.Mem.head _) (fun _ _ => rfl) (aFr_put rfl) (gFr_up rfl gFr.rf) aExt.rf ?_
  have r := i32_rng v
  refine mkHold (by decide) s0 ⟨b00 s0, b1, b2, True.intro⟩ True.intro True.intro True.intro (aMem_mk h8 (hT.put (by decide) (by decide) ⟨_, rfl, r.1, r.2⟩) ?_)
  refine stk_put hX.1 hX.2.1 hX.2.2.1 hX.2.2.2.1 ?_ hX.2.2.2.2.2.1 hX.2.2.2.2.2.2
  obtain ⟨p1, p2, p3, p4, _⟩ := hX.2.2.2.2.1
  have e : xI (xv (mPut M 215 x.toInt.toNat (.int v))) 209 = xI (xv M) 209 := by funext i; exact xI_ne (Or.inl (by decide))
  unfold x6
  rw [e]
  exact ⟨p1, p2, p3, p4, Or.inl rfl⟩
theorem gs_ct50 {s : List Int32} : gSound0 s sg_ct50 := gs_ct5 (pc := 87) rfl
theorem gs_ct51 {s : List Int32} : gSound0 s sg_ct51 := gs_ct5 (pc := 119) rfl
theorem gs_ct52 {s : List Int32} : gSound0 s sg_ct52 := gs_ct5 (pc := 231) rfl
theorem gs_ct6 {s : List Int32} : gSound0 s sg_ct6 := by
  intro γ d σ L st0 st M Q _ h k
  have e0 := eNil h
  subst e0
  have hr := eR h (i := 0) (g := 181) (c := 0) rfl rfl
  obtain ⟨x, hx, ex⟩ := eI h (i := 3) (sy := 1) (c := 0) rfl
  have b1 := eB h (i := 1) (lo := 0) (hi := 179) rfl
  have s0 := h.1.2.1.1
  have h8 : x8 (s, γ) := h.2.2.2.1.2
  have hX : tXI γ M := h.2.2.2.2.2.2
  have hT := aTp_of h.2.2.2
  have hd := hT.hd (c := 181) (by decide) (by decide)
  have hda := hT.hd (c := 215) (by decide) (by decide)
  have hf := t181_ref hT (i := 46) (g := 215) (lo := 0) (hi := 0) (by decide) rfl rfl
  obtain ⟨y, y1, y2, y3⟩ := hT.int (c := 215) (i := x.toInt.toNat) (by decide) (by decide) (by show _ < 180; omega) (lo := -2147483648) (hi' := 2147483647) (gs := []) rfl
  refine kAload (mi := 214) (pc := 194) (len := 1) (i := 0) rfl hr ?_
  refine kGetf (len := 3) (j := 1146) rfl hd (by decide) hf ?_
  refine kIload (len := 1) (i := 3) rfl hx ?_
  refine kIald (len := 1) (n := 180) rfl hda (by omega) (by show x.toInt < 180; omega) y1 ?_
  have hx6 : x6 (gUp (gUp γ 1006 6 x) 1006 7 y) (xv M) := by
    obtain ⟨p1, p2, p3, p4, _⟩ := hX.2.2.2.2.1
    exact ⟨p1, p2, p3, p4, Or.inr ⟨by show 0 ≤ x.toInt; omega, by show x.toInt < 180; omega, xI_at rfl y1⟩⟩
  by_cases e : y.toInt = 0
  · have e1 : y = 0 := Int32.toInt_inj.mp e
    subst e1
    refine k γ σ _ L [.int 0] M (List.Mem.head _) (fun _ _ => rfl) aFr.rf gFr.rf aExt.rf ?_
    refine mkHold (by decide) s0 ⟨b00 s0, b1, True.intro⟩ True.intro True.intro ⟨⟨by decide, 0, rfl, ?_⟩, True.intro⟩ h.2.2.2
    show (0 : Int) = σ 0 + 0
    omega
  · by_cases e2 : 0 < y.toInt
    · refine k (gUp (gUp γ 1006 6 x) 1006 7 y) (aUp σ 2 y.toInt) _ L [.int y] M (List.Mem.tail _ (List.Mem.head _)) (fun _ _ => rfl) aFr.rf (gFr_up rfl (gFr_up rfl gFr.rf)) aUp_ext ?_
      refine mkHold (by decide) s0 ⟨b00 s0, b1, ⟨by show (1 : Int) ≤ y.toInt; omega, by show y.toInt ≤ 2147483647; omega⟩, True.intro⟩ True.intro ⟨hF1_gh (by decide) (by decide) ex, hF1_gh (by decide) (by decide) ?_, True.intro⟩ ⟨⟨by decide, y, rfl, ?_⟩, True.intro⟩ (aMem_mk h8 hT ⟨hX.1, hX.2.1, hX.2.2.1, hX.2.2.2.1, hx6, hX.2.2.2.2.2⟩)
      · show y.toInt = y.toInt + 0
        omega
      · show y.toInt = y.toInt + 0
        omega
    · refine k (gUp (gUp γ 1006 6 x) 1006 7 y) (aUp σ 2 y.toInt) _ L [.int y] M (List.Mem.tail _ (List.Mem.tail _ (List.Mem.head _))) (fun _ _ => rfl) aFr.rf (gFr_up rfl (gFr_up rfl gFr.rf)) aUp_ext ?_
      refine mkHold (by decide) s0 ⟨b00 s0, b1, ⟨by show (-2147483648 : Int) ≤ y.toInt; omega, by show y.toInt ≤ -1; omega⟩, True.intro⟩ True.intro ⟨hF1_gh (by decide) (by decide) ex, hF1_gh (by decide) (by decide) ?_, True.intro⟩ ⟨⟨by decide, y, rfl, ?_⟩, True.intro⟩ (aMem_mk h8 hT ⟨hX.1, hX.2.1, hX.2.2.1, hX.2.2.2.1, hx6, hX.2.2.2.2.2⟩)
      · show y.toInt = y.toInt + 0
        omega
      · show y.toInt = y.toInt + 0
        omega
theorem gs_ct7 {s : List Int32} : gSound0 s sg_ct7 := by
  intro γ d σ L st0 st M Q _ h k
  have e0 := eNil h
  subst e0
  have hr := eR h (i := 0) (g := 181) (c := 0) rfl rfl
  obtain ⟨x, hx, ex⟩ := eI h (i := 3) (sy := 1) (c := 0) rfl
  have g1 := eG h (g := 1006) (i := 6) (sy := 1) (c := 0) (by decide) (List.Mem.head _)
  have g1 : (γ 1006 6).toInt = σ 1 + 0 := g1
  have g2 := eG h (g := 1006) (i := 7) (sy := 2) (c := 0) (by decide) (List.Mem.tail _ (List.Mem.head _))
  have g2 : (γ 1006 7).toInt = σ 2 + 0 := g2
  have b1 := eB h (i := 1) (lo := 0) (hi := 179) rfl
  have b2 := eB h (i := 2) (lo := -2147483648) (hi := 2147483647) rfl
  have s0 := h.1.2.1.1
  have h8 : x8 (s, γ) := h.2.2.2.1.2
  have hX : tXI γ M := h.2.2.2.2.2.2
  have hT := aTp_of h.2.2.2
  have hd := hT.hd (c := 181) (by decide) (by decide)
  have hda := hT.hd (c := 215) (by decide) (by decide)
  have hf := t181_ref hT (i := 46) (g := 215) (lo := 0) (hi := 0) (by decide) rfl rfl
  obtain ⟨y, y1, y2, y3⟩ := hT.int (c := 215) (i := x.toInt.toNat) (by decide) (by decide) (by show _ < 180; omega) (lo := -2147483648) (hi' := 2147483647) (gs := []) rfl
  refine kAload (mi := 214) (pc := 222) (len := 1) (i := 0) rfl hr ?_
  refine kGetf (len := 3) (j := 1146) rfl hd (by decide) hf ?_
  refine kIload (len := 1) (i := 3) rfl hx ?_
  refine kIald (len := 1) (n := 180) rfl hda (by omega) (by show x.toInt < 180; omega) y1 ?_
  have n1 : xI (xv M) 215 x.toInt.toNat = y.toInt := xI_at rfl y1
  obtain ⟨_, _, _, _, p5⟩ := hX.2.2.2.2.1
  have ey : y.toInt = σ 2 + 0 := by
    rcases p5 with p | ⟨_, _, p⟩
    · omega
    · rw [show (γ 1006 6).toInt.toNat = x.toInt.toNat by omega, n1] at p
      omega
  refine k γ σ _ L [.int y] M (List.Mem.head _) (fun _ _ => rfl) aFr.rf gFr.rf aExt.rf ?_
  exact mkHold (by decide) s0 ⟨b00 s0, b1, b2, True.intro⟩ True.intro True.intro ⟨⟨by decide, y, rfl, ey⟩, True.intro⟩ h.2.2.2
