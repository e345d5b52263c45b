/-! what is read of the script, kept among the ghosts -/
theorem tXI_g {γ γ' : Gh} {M : Mem} (h : ∀ g i, g < 1010 → γ' g i = γ g i) (hX : tXI γ M) : tXI γ' M := by
  unfold tXI tXJ x2 x3 x4 x5 x6 x7 xp xA at hX ⊢
  simp only [h 1002 0 (by decide), h 1002 1 (by decide), h 1002 2 (by decide), h 1002 3 (by decide), h 1003 0 (by decide), h 1003 1 (by decide), h 1003 2 (by decide), h 1004 0 (by decide), h 1004 1 (by decide), h 1004 2 (by decide), h 1004 3 (by decide), h 1004 4 (by decide), h 1004 5 (by decide), h 1005 0 (by decide), h 1005 1 (by decide), h 1005 2 (by decide), h 1005 3 (by decide), h 1005 4 (by decide), h 1005 5 (by decide), h 1006 0 (by decide), h 1006 1 (by decide), h 1006 2 (by decide), h 1006 4 (by decide), h 1006 5 (by decide), h 1006 6 (by decide), h 1006 7 (by decide), h 1006 8 (by decide), h 1007 0 (by decide), h 1007 1 (by decide), h 1001 0 (by decide), h 1001 1 (by decide), h 1001 2 (by decide), h 1001 3 (by decide), h 1001 4 (by decide), h 1001 5 (by decide), h 1001 6 (by decide), h 1001 7 (by decide), h 1001 8 (by decide), h 1001 9 (by decide), h 1001 10 (by decide)]
  exact hX
theorem gUp_lt {γ : Gh} {g' k : Nat} {x : Int32} (h1 : 1010 ≤ g') {γ0 : Gh} (h : ∀ g i, g < 1010 → γ g i = γ0 g i) : ∀ g i, g < 1010 → gUp γ g' k x g i = γ0 g i := by
  intro g i hg
  unfold gUp
  cases hq : (Nat.beq g g' && Nat.beq i k) with
  | false => exact h g i hg
  | true =>
    rw [Bool.and_eq_true] at hq
    have := Nat.eq_of_beq_eq_true hq.1
    omega
theorem scr_slot {s : List Int32} {M : Mem} (hT : aTp s M) {k : Nat} (hk : k < s.length) : mSlot M 0 k = some (.int s[k]) := by
  rw [mSlot_eq hT.1, List.getElem?_map, List.getElem?_eq_getElem hk]
  rfl
theorem scr_hd {s : List Int32} {M : Mem} (hT : aTp s M) : mHd M 0 = some (64, s.length) := by
  unfold mHd
  rw [hT.1]
  show some (64, (s.map Value.int).length) = _
  rw [List.length_map]
theorem eS {scr : SG} {σ : Nat → Int} {E : AS} {L : MLoc} {st : List Value} {M : Mem} (h : aHold0 scr σ E L st M) (e : E.2.1[0]? = some (5, 1, 0)) : mLd L 0 = some (.ref 0) ∧ σ 1 = (scr.1.length : Int) := by
  rcases h.2.1 0 _ e with h0 | ⟨w, h1, _, h2, h3⟩
  · cases h0
  · subst h2
    exact ⟨h1, h3⟩
theorem gs_me {s : List Int32} : gSound0 s sg_me := by
  intro γ d σ L st0 st M Q _ h k
  have e0 := eNil h
  subst e0
  obtain ⟨l0, el⟩ := eS h rfl
  obtain ⟨l3, hl3, el3⟩ := eI h (i := 3) (sy := 2) (c := 0) rfl
  have b1 := eB h (i := 1) (lo := 0) (hi := 576) rfl
  have b2 := eB h (i := 2) (lo := 0) (hi := 576) rfl
  have z0 := (h.1.2.1.2.2 2 1 (-9) (List.Mem.head _)).2.2
  have s0 := h.1.2.1.1
  have hX : tXI γ M := h.2.2.2.2.2.2
  have hT := aTp_of h.2.2.2
  have el : σ 1 = (s.length : Int) := el
  obtain ⟨v0, e0⟩ : ∃ v, s[l3.toInt.toNat + 0]? = some v := ⟨_, List.getElem?_eq_getElem (by omega)⟩
  obtain ⟨v1, e1⟩ : ∃ v, s[l3.toInt.toNat + 1]? = some v := ⟨_, List.getElem?_eq_getElem (by omega)⟩
  obtain ⟨v2, e2⟩ : ∃ v, s[l3.toInt.toNat + 2]? = some v := ⟨_, List.getElem?_eq_getElem (by omega)⟩
  obtain ⟨v3, e3⟩ : ∃ v, s[l3.toInt.toNat + 3]? = some v := ⟨_, List.getElem?_eq_getElem (by omega)⟩
  obtain ⟨v4, e4⟩ : ∃ v, s[l3.toInt.toNat + 4]? = some v := ⟨_, List.getElem?_eq_getElem (by omega)⟩
  obtain ⟨v5, e5⟩ : ∃ v, s[l3.toInt.toNat + 5]? = some v := ⟨_, List.getElem?_eq_getElem (by omega)⟩
  obtain ⟨v6, e6⟩ : ∃ v, s[l3.toInt.toNat + 6]? = some v := ⟨_, List.getElem?_eq_getElem (by omega)⟩
  obtain ⟨v7, e7⟩ : ∃ v, s[l3.toInt.toNat + 7]? = some v := ⟨_, List.getElem?_eq_getElem (by omega)⟩
  obtain ⟨v8, e8⟩ : ∃ v, s[l3.toInt.toNat + 8]? = some v := ⟨_, List.getElem?_eq_getElem (by omega)⟩
  have sl0 : mSlot M 0 l3.toInt.toNat = some (.int v0) := by
    have e0 : s[l3.toInt.toNat]? = some v0 := e0
    rw [scr_slot hT (by omega)]
    rw [List.getElem?_eq_getElem (by omega)] at e0
    rw [Option.some.inj e0]
  refine kAload (mi := 282) (pc := 27) (len := 1) (i := 0) rfl l0 ?_
  refine kIload (len := 1) (i := 3) rfl hl3 ?_
  refine kIald (len := 1) (n := s.length) rfl (scr_hd hT) (by omega) (by omega) sl0 ?_
  have h8 : x8 (s, (gUp (gUp (gUp (gUp (gUp (gUp (gUp (gUp (gUp γ 1010 0 l3) 1011 1 v1) 1011 2 v2) 1011 3 v3) 1011 4 v4) 1011 5 v5) 1011 6 v6) 1011 7 v7) 1011 8 v8)) := by
    refine ⟨?_, (show x8 (s, γ) from h.2.2.2.1.2).2⟩
    intro _ c c1 c8
    have hc : c = 1 ∨ c = 2 ∨ c = 3 ∨ c = 4 ∨ c = 5 ∨ c = 6 ∨ c = 7 ∨ c = 8 := by omega
    rcases hc with rfl | rfl | rfl | rfl | rfl | rfl | rfl | rfl
    · exact e1
    · exact e2
    · exact e3
    · exact e4
    · exact e5
    · exact e6
    · exact e7
    · exact e8
  refine k (gUp (gUp (gUp (gUp (gUp (gUp (gUp (gUp (gUp γ 1010 0 l3) 1011 1 v1) 1011 2 v2) 1011 3 v3) 1011 4 v4) 1011 5 v5) 1011 6 v6) 1011 7 v7) 1011 8 v8) (aUp (aUp (aUp (aUp (aUp (aUp (aUp (aUp (aUp σ 3 v0.toInt) 4 v1.toInt) 5 v2.toInt) 6 v3.toInt) 7 v4.toInt) 8 v5.toInt) 9 v6.toInt) 10 v7.toInt) 11 v8.toInt) _ L [.int v0] M (List.Mem.head _) (fun _ _ => rfl) aFr.rf (gFr_up rfl (gFr_up rfl (gFr_up rfl (gFr_up rfl (gFr_up rfl (gFr_up rfl (gFr_up rfl (gFr_up rfl (gFr_up rfl gFr.rf))))))))) (aExt.tr (aExt.tr (aExt.tr (aExt.tr (aExt.tr (aExt.tr (aExt.tr (aExt.tr aUp_ext aUp_ext (by decide)) aUp_ext (by decide)) aUp_ext (by decide)) aUp_ext (by decide)) aUp_ext (by decide)) aUp_ext (by decide)) aUp_ext (by decide)) aUp_ext (by decide)) ?_
  exact mkHold (by decide) s0 ⟨b00 s0, b1, b2, ⟨by show (-2147483648 : Int) ≤ v0.toInt; exact (i32_rng v0).1, by show v0.toInt ≤ 2147483647; exact (i32_rng v0).2⟩, ⟨by show (-2147483648 : Int) ≤ v1.toInt; exact (i32_rng v1).1, by show v1.toInt ≤ 2147483647; exact (i32_rng v1).2⟩, ⟨by show (-2147483648 : Int) ≤ v2.toInt; exact (i32_rng v2).1, by show v2.toInt ≤ 2147483647; exact (i32_rng v2).2⟩, ⟨by show (-2147483648 : Int) ≤ v3.toInt; exact (i32_rng v3).1, by show v3.toInt ≤ 2147483647; exact (i32_rng v3).2⟩, ⟨by show (-2147483648 : Int) ≤ v4.toInt; exact (i32_rng v4).1, by show v4.toInt ≤ 2147483647; exact (i32_rng v4).2⟩, ⟨by show (-2147483648 : Int) ≤ v5.toInt; exact (i32_rng v5).1, by show v5.toInt ≤ 2147483647; exact (i32_rng v5).2⟩, ⟨by show (-2147483648 : Int) ≤ v6.toInt; exact (i32_rng v6).1, by show v6.toInt ≤ 2147483647; exact (i32_rng v6).2⟩, ⟨by show (-2147483648 : Int) ≤ v7.toInt; exact (i32_rng v7).1, by show v7.toInt ≤ 2147483647; exact (i32_rng v7).2⟩, ⟨by show (-2147483648 : Int) ≤ v8.toInt; exact (i32_rng v8).1, by show v8.toInt ≤ 2147483647; exact (i32_rng v8).2⟩, True.intro⟩ True.intro ⟨hF1_gh (by decide) (by decide) (by show l3.toInt = σ 2 + 0; omega), hF1_gh (by decide) (by decide) (by show v1.toInt = v1.toInt + 0; omega), hF1_gh (by decide) (by decide) (by show v2.toInt = v2.toInt + 0; omega), hF1_gh (by decide) (by decide) (by show v3.toInt = v3.toInt + 0; omega), hF1_gh (by decide) (by decide) (by show v4.toInt = v4.toInt + 0; omega), hF1_gh (by decide) (by decide) (by show v5.toInt = v5.toInt + 0; omega), hF1_gh (by decide) (by decide) (by show v6.toInt = v6.toInt + 0; omega), hF1_gh (by decide) (by decide) (by show v7.toInt = v7.toInt + 0; omega), hF1_gh (by decide) (by decide) (by show v8.toInt = v8.toInt + 0; omega), True.intro⟩ ⟨⟨by decide, _, rfl, by show v0.toInt = v0.toInt + 0; omega⟩, True.intro⟩ (aMem_mk h8 hT (tXI_g (gUp_lt (by decide) (gUp_lt (by decide) (gUp_lt (by decide) (gUp_lt (by decide) (gUp_lt (by decide) (gUp_lt (by decide) (gUp_lt (by decide) (gUp_lt (by decide) (gUp_lt (by decide) (fun _ _ _ => rfl)))))))))) hX))
theorem gs_load {s : List Int32} {pc c len : Nat} {ci : Int} (h1 : mAt 282 pc = some (1, .aload 0)) (h2 : mAt 282 (pc + 1) = some (1, .iload 3)) (h3 : mAt 282 (pc + 1 + 1) = some (len, .iconst ci)) (h4 : mAt 282 (pc + 1 + 1 + len) = some (1, .iadd)) (h5 : mAt 282 (pc + 1 + 1 + len + 1) = some (1, .iaload)) (hc : (Int32.ofInt ci).toInt = (c : Int)) (hc1 : 1 ≤ c) (hc8 : c ≤ 8) : gSound0 s (282, pc, pc + 1 + 1 + len + 1 + 1, 0, (([(.ofNat 0, .ofNat 0), (.ofNat 0, .ofNat 576), (.ofNat 0, .ofNat 576), (.negSucc 2147483647, .ofNat 2147483647)], [(2, 1, .negSucc 8)], [], [(1010, 0, (1, 2, .ofNat 0)), (1011, c, (1, 3, .ofNat 0))]), [(5, 1, .ofNat 0), (0, 0, .ofNat 0), (0, 0, .ofNat 0), (1, 2, .ofNat 0)], []), [(([(.ofNat 0, .ofNat 0), (.ofNat 0, .ofNat 576), (.ofNat 0, .ofNat 576), (.negSucc 2147483647, .ofNat 2147483647)], [], [], []), [], [(1, 3, .ofNat 0)])], [], []) := by
  intro γ d σ L st0 st M Q _ h k
  have e0 := eNil h
  subst e0
  obtain ⟨l0, el⟩ := eS h rfl
  have el : σ 1 = (s.length : Int) := el
  obtain ⟨l3, hl3, el3⟩ := eI h (i := 3) (sy := 2) (c := 0) rfl
  have q0 : (γ 1010 0).toInt = σ 2 + 0 := eG h (g := 1010) (i := 0) (sy := 2) (c := 0) (by decide) (List.Mem.head _)
  have qc : (γ 1011 c).toInt = σ 3 + 0 := eG h (g := 1011) (i := c) (sy := 3) (c := 0) (by decide) (List.Mem.tail _ (List.Mem.head _))
  have b1 := eB h (i := 1) (lo := 0) (hi := 576) rfl
  have b2 := eB h (i := 2) (lo := 0) (hi := 576) rfl
  have b3 := eB h (i := 3) (lo := -2147483648) (hi := 2147483647) rfl
  have z0 := (h.1.2.1.2.2 2 1 (-9) (List.Mem.head _)).2.2
  have s0 := h.1.2.1.1
  have h8 : x8 (s, γ) := h.2.2.2.1.2
  have hT := aTp_of h.2.2.2
  have e8 := h8.1 (by show 0 ≤ (γ 1010 0).toInt; omega) c hc1 hc8
  have e8 : s[(γ 1010 0).toInt.toNat + c]? = some (γ 1011 c) := e8
  have ea : (l3 + Int32.ofInt ci).toInt = l3.toInt + c := by
    rw [i32_add (by omega) (by omega), hc]
  have hk : (l3 + Int32.ofInt ci).toInt.toNat < s.length := by omega
  have sl := scr_slot hT hk
  rw [List.getElem?_eq_getElem (by omega)] at e8
  have e9 : s[(l3 + Int32.ofInt ci).toInt.toNat] = γ 1011 c := by
    rw [← Option.some.inj e8]
    congr 1
    omega
  rw [e9] at sl
  refine kAload (len := 1) (i := 0) h1 l0 ?_
  refine kIload (len := 1) (i := 3) h2 hl3 ?_
  refine kIconst h3 ?_
  refine kAdd h4 ?_
  refine kIald (n := s.length) h5 (scr_hd hT) (by omega) (by omega) sl ?_
  refine k γ σ _ L [.int (γ 1011 c)] M (List.Mem.head _) (fun _ _ => rfl) aFr.rf gFr.rf aExt.rf ?_
  exact mkHold (by decide) s0 ⟨b00 s0, b1, b2, b3, True.intro⟩ True.intro True.intro ⟨⟨by decide, _, rfl, qc⟩, True.intro⟩ h.2.2.2
theorem gs_dvx {s : List Int32} : gSound0 s sg_dvx := by
  intro γ d σ L st0 st M Q _ h k
  have e0 := eNil h
  subst e0
  have l0 := eR h (i := 0) (g := 2) (c := 0) rfl rfl
  obtain ⟨f, hf, ef⟩ := eF h (g := 127) (i := 1) (sy := 1) (c := 0) (by decide) (by decide) rfl (List.Mem.head _)
  have q0 : (γ 1012 0).toInt = σ 1 + 0 := eG h (g := 1012) (i := 0) (sy := 1) (c := 0) (by decide) (List.Mem.tail _ (List.Mem.head _))
  have q1 : (γ 1012 1).toInt = σ 2 + 0 := eG h (g := 1012) (i := 1) (sy := 2) (c := 0) (by decide) (List.Mem.tail _ (List.Mem.tail _ (List.Mem.head _)))
  have b1 := eB h (i := 1) (lo := 0) (hi := 200) rfl
  have b2 := eB h (i := 2) (lo := 0) (hi := 50) rfl
  have s0 := h.1.2.1.1
  have h8 : x8 (s, γ) := h.2.2.2.1.2
  have hT := aTp_of h.2.2.2
  have e8 : (γ 1012 1).toInt = (γ 1012 0).toInt / 4 := h8.2.1
  have ed : (f / 4).toInt = f.toInt / 4 := i32_div (by omega) (by decide)
  refine kAload (mi := 144) (pc := 12) (len := 1) (i := 0) rfl l0 ?_
  refine kGetf (len := 3) (j := 1005) rfl (hT.hd (c := 2) (by decide) (by decide)) (by decide) (hT.ref (c := 2) (i := 5) (g := 127) (by decide) (by decide) (by decide) (lo := 0) (hi' := 0) rfl rfl) ?_
  refine kGetf (len := 3) (j := 801) rfl (hT.hd (c := 127) (by decide) (by decide)) (by decide) hf ?_
  refine kIconst (len := 1) (v := 4) rfl ?_
  refine kDiv (len := 1) rfl (by decide) ?_
  refine k γ σ _ L [.int (f / 4)] M (List.Mem.head _) (fun _ _ => rfl) aFr.rf gFr.rf aExt.rf ?_
  exact mkHold (by decide) s0 ⟨b00 s0, b1, b2, True.intro⟩ True.intro True.intro ⟨⟨by decide, _, rfl, by show (f / 4).toInt = σ 2 + 0; omega⟩, True.intro⟩ h.2.2.2
theorem gs_dvm {s : List Int32} : gSound0 s sg_dvm := by
  intro γ d σ L st0 st M Q _ h k
  have e0 := eNil h
  subst e0
  have l0 := eR h (i := 0) (g := 181) (c := 0) rfl rfl
  obtain ⟨f, hf, ef⟩ := eF h (g := 181) (i := 25) (sy := 1) (c := 0) (by decide) (by decide) rfl (List.Mem.head _)
  have q0 : (γ 1012 0).toInt = σ 1 + 0 := eG h (g := 1012) (i := 0) (sy := 1) (c := 0) (by decide) (List.Mem.tail _ (List.Mem.head _))
  have q1 : (γ 1012 1).toInt = σ 2 + 0 := eG h (g := 1012) (i := 1) (sy := 2) (c := 0) (by decide) (List.Mem.tail _ (List.Mem.tail _ (List.Mem.head _)))
  have b1 := eB h (i := 1) (lo := 0) (hi := 200) rfl
  have b2 := eB h (i := 2) (lo := 0) (hi := 50) rfl
  have s0 := h.1.2.1.1
  have h8 : x8 (s, γ) := h.2.2.2.1.2
  have hT := aTp_of h.2.2.2
  have e8 : (γ 1012 1).toInt = (γ 1012 0).toInt / 4 := h8.2.1
  have ed : (f / 4).toInt = f.toInt / 4 := i32_div (by omega) (by decide)
  refine kAload (mi := 275) (pc := 12) (len := 1) (i := 0) rfl l0 ?_
  refine kGetf (len := 3) (j := 1125) rfl (hT.hd (c := 181) (by decide) (by decide)) (by decide) hf ?_
  refine kIconst (len := 1) (v := 4) rfl ?_
  refine kDiv (len := 1) rfl (by decide) ?_
  refine k γ σ _ L [.int (f / 4)] M (List.Mem.head _) (fun _ _ => rfl) aFr.rf gFr.rf aExt.rf ?_
  exact mkHold (by decide) s0 ⟨b00 s0, b1, b2, True.intro⟩ True.intro True.intro ⟨⟨by decide, _, rfl, by show (f / 4).toInt = σ 2 + 0; omega⟩, True.intro⟩ h.2.2.2
theorem gs_tq {s : List Int32} : gSound0 s sg_tq := by
  intro γ d σ L st0 st M Q _ h k
  have e0 := eNil h
  subst e0
  have l1 := eR h (i := 1) (g := 2) (c := 0) rfl rfl
  obtain ⟨f, hf, ef⟩ := eF h (g := 127) (i := 1) (sy := 1) (c := 0) (by decide) (by decide) rfl (List.Mem.head _)
  have b1 := eB h (i := 1) (lo := 0) (hi := 200) rfl
  have s0 := h.1.2.1.1
  have h8 : x8 (s, γ) := h.2.2.2.1.2
  have hX : tXI γ M := h.2.2.2.2.2.2
  have hT := aTp_of h.2.2.2
  have ed : (f / 4).toInt = f.toInt / 4 := i32_div (by omega) (by decide)
  have h9 : x8 (s, gUp (gUp γ 1012 0 f) 1012 1 (f / 4)) := ⟨h8.1, ed, h8.2.2⟩
  refine kAload (mi := 282) (len := 1) (i := 1) rfl l1 ?_
  refine k (gUp (gUp γ 1012 0 f) 1012 1 (f / 4)) (aUp σ 2 (f / 4).toInt) _ L [.ref 2] M (List.Mem.head _) (fun _ _ => rfl) aFr.rf (gFr_up rfl (gFr_up rfl gFr.rf)) aUp_ext ?_
  exact mkHold (by decide) s0 ⟨b00 s0, b1, ⟨by show (0 : Int) ≤ (f / 4).toInt; omega, by show (f / 4).toInt ≤ 50; omega⟩, True.intro⟩ True.intro ⟨hF1_gh (by decide) (by decide) ef, hF1_gh (by decide) (by decide) (by show (f / 4).toInt = (f / 4).toInt + 0; omega), True.intro⟩ ⟨⟨2, rfl, by decide, by decide, rfl, fun hc => absurd hc (by decide)⟩, True.intro⟩ (aMem_mk h9 hT (tXI_g (gUp_lt (by decide) (gUp_lt (by decide) (fun _ _ _ => rfl))) hX))
theorem cs_bc1 {s : List Int32} : cSound0 s cm_bc1 := by
  intro γ d σ L M _ h
  obtain ⟨l0, hl0, el0⟩ := eI h (i := 0) (sy := 1) (c := 0) rfl
  have b1 := eB h (i := 1) (lo := 0) (hi := 1023) rfl
  have s0 := h.1.2.1.1
  have h8 : x8 (s, γ) := h.2.2.2.1.2
  have hX : tXI γ M := h.2.2.2.2.2.2
  have hT := aTp_of h.2.2.2
  have r := bcI_rng l0
  have h0 : 0 ≤ l0.toInt := by omega
  have f := (bits_fin l0.toInt.toNat (by omega)).2
  rw [← i32_nat h0] at f
  have h9 : x8 (s, gUp (gUp γ 1013 0 l0) 1013 1 (bcI l0)) := ⟨h8.1, h8.2.1, rfl⟩
  refine ib_run hl0 ?_
  refine ⟨aFr.rf, gUp (gUp γ 1013 0 l0) 1013 1 (bcI l0), gFr_up rfl (gFr_up rfl gFr.rf), _, List.Mem.head _, aUp σ 2 (bcI l0).toInt, aUp_ext, ?_⟩
  exact mkHold (by decide) s0 ⟨b00 s0, b1, ⟨r.1, r.2⟩, True.intro⟩ ⟨⟨by decide, by decide, by show (bcI l0).toInt - σ 1 ≤ 0; omega⟩, True.intro⟩ ⟨hF1_gh (by decide) (by decide) el0, hF1_gh (by decide) (by decide) (by show (bcI l0).toInt = (bcI l0).toInt + 0; omega), True.intro⟩ ⟨⟨by decide, _, rfl, by show (bcI l0).toInt = (bcI l0).toInt + 0; omega⟩, True.intro⟩ (aMem_mk h9 hT (tXI_g (gUp_lt (by decide) (gUp_lt (by decide) (fun _ _ _ => rfl))) hX))
theorem cs_bc {s : List Int32} : cSound0 s cm_bc := by
  intro γ d σ L M _ h
  obtain ⟨l0, hl0, el0⟩ := eI h (i := 0) (sy := 1) (c := 0) rfl
  have b1 := eB h (i := 1) (lo := -2147483648) (hi := 2147483647) rfl
  have s0 := h.1.2.1.1
  have h8 : x8 (s, γ) := h.2.2.2.1.2
  have hX : tXI γ M := h.2.2.2.2.2.2
  have hT := aTp_of h.2.2.2
  have r := bcI_rng l0
  have h9 : x8 (s, gUp (gUp γ 1013 0 l0) 1013 1 (bcI l0)) := ⟨h8.1, h8.2.1, rfl⟩
  refine ib_run hl0 ?_
  refine ⟨aFr.rf, gUp (gUp γ 1013 0 l0) 1013 1 (bcI l0), gFr_up rfl (gFr_up rfl gFr.rf), _, List.Mem.head _, aUp σ 2 (bcI l0).toInt, aUp_ext, ?_⟩
  exact mkHold (by decide) s0 ⟨b00 s0, b1, ⟨r.1, r.2⟩, True.intro⟩ True.intro ⟨hF1_gh (by decide) (by decide) el0, hF1_gh (by decide) (by decide) (by show (bcI l0).toInt = (bcI l0).toInt + 0; omega), True.intro⟩ ⟨⟨by decide, _, rfl, by show (bcI l0).toInt = (bcI l0).toInt + 0; omega⟩, True.intro⟩ (aMem_mk h9 hT (tXI_g (gUp_lt (by decide) (gUp_lt (by decide) (fun _ _ _ => rfl))) hX))
theorem cs_bt1 {s : List Int32} : cSound0 s cm_bt1 := by
  intro γ d σ L M _ h
  obtain ⟨l0, hl0, el0⟩ := eI h (i := 0) (sy := 1) (c := 0) rfl
  have q0 : (γ 1013 0).toInt = σ 1 + 0 := eG h (g := 1013) (i := 0) (sy := 1) (c := 0) (by decide) (List.Mem.head _)
  have q1 : (γ 1013 1).toInt = σ 2 + 0 := eG h (g := 1013) (i := 1) (sy := 2) (c := 0) (by decide) (List.Mem.tail _ (List.Mem.head _))
  have b1 := eB h (i := 1) (lo := 0) (hi := 1023) rfl
  have b2 := eB h (i := 2) (lo := 0) (hi := 63) rfl
  have s0 := h.1.2.1.1
  have h8 : x8 (s, γ) := h.2.2.2.1.2
  have h0 : 0 ≤ l0.toInt := by omega
  have f := (bits_fin l0.toInt.toNat (by omega)).1
  rw [← i32_nat h0] at f
  have e : γ 1013 0 = l0 := Int32.toInt_inj.mp (by omega)
  have e2 : γ 1013 1 = bcI l0 := by
    have : γ 1013 1 = bcI (γ 1013 0) := h8.2.2
    rw [this, e]
  refine bt_run hl0 ?_
  refine ⟨aFr.rf, γ, gFr.rf, _, List.Mem.head _, σ, aExt.rf, ?_⟩
  exact mkHold (by decide) s0 ⟨b00 s0, b1, b2, True.intro⟩ True.intro True.intro ⟨⟨by decide, _, rfl, by rw [f, ← e2]; exact q1⟩, True.intro⟩ h.2.2.2
theorem cs_bt2 {s : List Int32} : cSound0 s cm_bt2 := by
  intro γ d σ L M _ h
  obtain ⟨l0, hl0, el0⟩ := eI h (i := 0) (sy := 1) (c := 0) rfl
  have b1 := eB h (i := 1) (lo := -2147483648) (hi := 2147483647) rfl
  have s0 := h.1.2.1.1
  have r := bits_rng (v := l0) 14 (by decide)
  refine bt_run hl0 ?_
  refine ⟨aFr.rf, γ, gFr.rf, _, List.Mem.head _, aUp σ 2 (bitsP l0 14).toInt, aUp_ext, ?_⟩
  exact mkHold (by decide) s0 ⟨b00 s0, b1, ⟨r.1, r.2⟩, True.intro⟩ True.intro True.intro ⟨⟨by decide, _, rfl, by show (bitsP l0 14).toInt = (bitsP l0 14).toInt + 0; omega⟩, True.intro⟩ h.2.2.2
theorem gs_ld201 {s : List Int32} : gSound0 s sg_ld201 := gs_load (pc := 201) (c := 1) (len := 1) (ci := 1) rfl rfl rfl rfl rfl rfl (by decide) (by decide)
theorem gs_ld206 {s : List Int32} : gSound0 s sg_ld206 := gs_load (pc := 206) (c := 2) (len := 1) (ci := 2) rfl rfl rfl rfl rfl rfl (by decide) (by decide)
theorem gs_ld216 {s : List Int32} : gSound0 s sg_ld216 := gs_load (pc := 216) (c := 1) (len := 1) (ci := 1) rfl rfl rfl rfl rfl rfl (by decide) (by decide)
theorem gs_ld221 {s : List Int32} : gSound0 s sg_ld221 := gs_load (pc := 221) (c := 2) (len := 1) (ci := 2) rfl rfl rfl rfl rfl rfl (by decide) (by decide)
theorem gs_ld277 {s : List Int32} : gSound0 s sg_ld277 := gs_load (pc := 277) (c := 1) (len := 1) (ci := 1) rfl rfl rfl rfl rfl rfl (by decide) (by decide)
theorem gs_ld282 {s : List Int32} : gSound0 s sg_ld282 := gs_load (pc := 282) (c := 2) (len := 1) (ci := 2) rfl rfl rfl rfl rfl rfl (by decide) (by decide)
theorem gs_ld287 {s : List Int32} : gSound0 s sg_ld287 := gs_load (pc := 287) (c := 3) (len := 1) (ci := 3) rfl rfl rfl rfl rfl rfl (by decide) (by decide)
theorem gs_ld292 {s : List Int32} : gSound0 s sg_ld292 := gs_load (pc := 292) (c := 4) (len := 1) (ci := 4) rfl rfl rfl rfl rfl rfl (by decide) (by decide)
theorem gs_ld297 {s : List Int32} : gSound0 s sg_ld297 := gs_load (pc := 297) (c := 5) (len := 1) (ci := 5) rfl rfl rfl rfl rfl rfl (by decide) (by decide)
theorem gs_ld302 {s : List Int32} : gSound0 s sg_ld302 := gs_load (pc := 302) (c := 6) (len := 2) (ci := 6) rfl rfl rfl rfl rfl rfl (by decide) (by decide)
theorem gs_ld313 {s : List Int32} : gSound0 s sg_ld313 := gs_load (pc := 313) (c := 1) (len := 1) (ci := 1) rfl rfl rfl rfl rfl rfl (by decide) (by decide)
theorem gs_ld318 {s : List Int32} : gSound0 s sg_ld318 := gs_load (pc := 318) (c := 2) (len := 1) (ci := 2) rfl rfl rfl rfl rfl rfl (by decide) (by decide)
theorem gs_ld323 {s : List Int32} : gSound0 s sg_ld323 := gs_load (pc := 323) (c := 3) (len := 1) (ci := 3) rfl rfl rfl rfl rfl rfl (by decide) (by decide)
theorem gs_ld328 {s : List Int32} : gSound0 s sg_ld328 := gs_load (pc := 328) (c := 4) (len := 1) (ci := 4) rfl rfl rfl rfl rfl rfl (by decide) (by decide)
theorem gs_ld333 {s : List Int32} : gSound0 s sg_ld333 := gs_load (pc := 333) (c := 5) (len := 1) (ci := 5) rfl rfl rfl rfl rfl rfl (by decide) (by decide)
theorem gs_ld338 {s : List Int32} : gSound0 s sg_ld338 := gs_load (pc := 338) (c := 6) (len := 2) (ci := 6) rfl rfl rfl rfl rfl rfl (by decide) (by decide)
theorem gs_ld352 {s : List Int32} : gSound0 s sg_ld352 := gs_load (pc := 352) (c := 1) (len := 1) (ci := 1) rfl rfl rfl rfl rfl rfl (by decide) (by decide)
theorem gs_ld357 {s : List Int32} : gSound0 s sg_ld357 := gs_load (pc := 357) (c := 2) (len := 1) (ci := 2) rfl rfl rfl rfl rfl rfl (by decide) (by decide)
theorem gs_ld375 {s : List Int32} : gSound0 s sg_ld375 := gs_load (pc := 375) (c := 1) (len := 1) (ci := 1) rfl rfl rfl rfl rfl rfl (by decide) (by decide)
theorem gs_ld380 {s : List Int32} : gSound0 s sg_ld380 := gs_load (pc := 380) (c := 2) (len := 1) (ci := 2) rfl rfl rfl rfl rfl rfl (by decide) (by decide)
theorem gs_ld401 {s : List Int32} : gSound0 s sg_ld401 := gs_load (pc := 401) (c := 1) (len := 1) (ci := 1) rfl rfl rfl rfl rfl rfl (by decide) (by decide)
theorem gs_ld406 {s : List Int32} : gSound0 s sg_ld406 := gs_load (pc := 406) (c := 2) (len := 1) (ci := 2) rfl rfl rfl rfl rfl rfl (by decide) (by decide)
theorem gs_ld411 {s : List Int32} : gSound0 s sg_ld411 := gs_load (pc := 411) (c := 3) (len := 1) (ci := 3) rfl rfl rfl rfl rfl rfl (by decide) (by decide)
theorem gs_ld416 {s : List Int32} : gSound0 s sg_ld416 := gs_load (pc := 416) (c := 4) (len := 1) (ci := 4) rfl rfl rfl rfl rfl rfl (by decide) (by decide)
theorem gs_ld421 {s : List Int32} : gSound0 s sg_ld421 := gs_load (pc := 421) (c := 5) (len := 1) (ci := 5) rfl rfl rfl rfl rfl rfl (by decide) (by decide)
theorem gs_ld431 {s : List Int32} : gSound0 s sg_ld431 := gs_load (pc := 431) (c := 1) (len := 1) (ci := 1) rfl rfl rfl rfl rfl rfl (by decide) (by decide)
theorem gs_ld436 {s : List Int32} : gSound0 s sg_ld436 := gs_load (pc := 436) (c := 2) (len := 1) (ci := 2) rfl rfl rfl rfl rfl rfl (by decide) (by decide)
theorem gs_ld441 {s : List Int32} : gSound0 s sg_ld441 := gs_load (pc := 441) (c := 3) (len := 1) (ci := 3) rfl rfl rfl rfl rfl rfl (by decide) (by decide)
theorem gs_ld446 {s : List Int32} : gSound0 s sg_ld446 := gs_load (pc := 446) (c := 4) (len := 1) (ci := 4) rfl rfl rfl rfl rfl rfl (by decide) (by decide)
theorem gs_ld451 {s : List Int32} : gSound0 s sg_ld451 := gs_load (pc := 451) (c := 5) (len := 1) (ci := 5) rfl rfl rfl rfl rfl rfl (by decide) (by decide)
theorem gs_ld464 {s : List Int32} : gSound0 s sg_ld464 := gs_load (pc := 464) (c := 1) (len := 1) (ci := 1) rfl rfl rfl rfl rfl rfl (by decide) (by decide)
theorem gs_ld469 {s : List Int32} : gSound0 s sg_ld469 := gs_load (pc := 469) (c := 2) (len := 1) (ci := 2) rfl rfl rfl rfl rfl rfl (by decide) (by decide)
theorem gs_ld474 {s : List Int32} : gSound0 s sg_ld474 := gs_load (pc := 474) (c := 3) (len := 1) (ci := 3) rfl rfl rfl rfl rfl rfl (by decide) (by decide)
theorem gs_ld479 {s : List Int32} : gSound0 s sg_ld479 := gs_load (pc := 479) (c := 4) (len := 1) (ci := 4) rfl rfl rfl rfl rfl rfl (by decide) (by decide)
theorem gs_ld484 {s : List Int32} : gSound0 s sg_ld484 := gs_load (pc := 484) (c := 5) (len := 1) (ci := 5) rfl rfl rfl rfl rfl rfl (by decide) (by decide)
theorem gs_ld494 {s : List Int32} : gSound0 s sg_ld494 := gs_load (pc := 494) (c := 1) (len := 1) (ci := 1) rfl rfl rfl rfl rfl rfl (by decide) (by decide)
theorem gs_ld499 {s : List Int32} : gSound0 s sg_ld499 := gs_load (pc := 499) (c := 2) (len := 1) (ci := 2) rfl rfl rfl rfl rfl rfl (by decide) (by decide)
theorem gs_ld504 {s : List Int32} : gSound0 s sg_ld504 := gs_load (pc := 504) (c := 3) (len := 1) (ci := 3) rfl rfl rfl rfl rfl rfl (by decide) (by decide)
theorem gs_ld509 {s : List Int32} : gSound0 s sg_ld509 := gs_load (pc := 509) (c := 4) (len := 1) (ci := 4) rfl rfl rfl rfl rfl rfl (by decide) (by decide)
theorem gs_ld514 {s : List Int32} : gSound0 s sg_ld514 := gs_load (pc := 514) (c := 5) (len := 1) (ci := 5) rfl rfl rfl rfl rfl rfl (by decide) (by decide)
theorem gs_ld527 {s : List Int32} : gSound0 s sg_ld527 := gs_load (pc := 527) (c := 1) (len := 1) (ci := 1) rfl rfl rfl rfl rfl rfl (by decide) (by decide)
theorem gs_ld532 {s : List Int32} : gSound0 s sg_ld532 := gs_load (pc := 532) (c := 2) (len := 1) (ci := 2) rfl rfl rfl rfl rfl rfl (by decide) (by decide)
theorem gs_ld542 {s : List Int32} : gSound0 s sg_ld542 := gs_load (pc := 542) (c := 1) (len := 1) (ci := 1) rfl rfl rfl rfl rfl rfl (by decide) (by decide)
theorem gs_ld547 {s : List Int32} : gSound0 s sg_ld547 := gs_load (pc := 547) (c := 2) (len := 1) (ci := 2) rfl rfl rfl rfl rfl rfl (by decide) (by decide)
theorem gs_ld560 {s : List Int32} : gSound0 s sg_ld560 := gs_load (pc := 560) (c := 1) (len := 1) (ci := 1) rfl rfl rfl rfl rfl rfl (by decide) (by decide)
theorem gs_ld570 {s : List Int32} : gSound0 s sg_ld570 := gs_load (pc := 570) (c := 1) (len := 1) (ci := 1) rfl rfl rfl rfl rfl rfl (by decide) (by decide)
theorem gs_ld1747 {s : List Int32} : gSound0 s sg_ld1747 := gs_load (pc := 1747) (c := 1) (len := 1) (ci := 1) rfl rfl rfl rfl rfl rfl (by decide) (by decide)
theorem gs_ld1757 {s : List Int32} : gSound0 s sg_ld1757 := gs_load (pc := 1757) (c := 1) (len := 1) (ci := 1) rfl rfl rfl rfl rfl rfl (by decide) (by decide)
theorem gs_ld1796 {s : List Int32} : gSound0 s sg_ld1796 := gs_load (pc := 1796) (c := 1) (len := 1) (ci := 1) rfl rfl rfl rfl rfl rfl (by decide) (by decide)
theorem gs_ld1801 {s : List Int32} : gSound0 s sg_ld1801 := gs_load (pc := 1801) (c := 2) (len := 1) (ci := 2) rfl rfl rfl rfl rfl rfl (by decide) (by decide)
theorem gs_ld1811 {s : List Int32} : gSound0 s sg_ld1811 := gs_load (pc := 1811) (c := 1) (len := 1) (ci := 1) rfl rfl rfl rfl rfl rfl (by decide) (by decide)
theorem gs_ld1816 {s : List Int32} : gSound0 s sg_ld1816 := gs_load (pc := 1816) (c := 2) (len := 1) (ci := 2) rfl rfl rfl rfl rfl rfl (by decide) (by decide)
theorem gs_cmp {s : List Int32} : gSound0 s sg_cmp := by
  intro γ d σ L st0 st M Q _ h k
  have e0 := eNil h
  subst e0
  obtain ⟨l1, hl1, el1⟩ := eI h (i := 1) (sy := 1) (c := 0) rfl
  obtain ⟨l2, hl2, el2⟩ := eI h (i := 2) (sy := 2) (c := 0) rfl
  have b1 := eB h (i := 1) (lo := 0) (hi := 9) rfl
  have b2 := eB h (i := 2) (lo := 0) (hi := 9) rfl
  have s0 := h.1.2.1.1
  refine kIload (mi := 156) (pc := 14) (len := 1) (i := 1) rfl hl1 ?_
  refine kIload (len := 1) (i := 2) rfl hl2 ?_
  by_cases e : σ 1 = σ 2
  · refine k γ σ _ L [.int l2, .int l1] M (List.Mem.head _) (fun _ _ => rfl) aFr.rf gFr.rf aExt.rf ?_
    exact mkHold (by decide) s0 ⟨b00 s0, b1, b2, True.intro⟩ ⟨⟨by decide, by decide, by show σ 1 - σ 2 ≤ 0; omega⟩, ⟨by decide, by decide, by show σ 2 - σ 1 ≤ 0; omega⟩, True.intro⟩ True.intro ⟨⟨by decide, _, rfl, el2⟩, ⟨by decide, _, rfl, el1⟩, True.intro⟩ h.2.2.2
  · by_cases e2 : σ 1 < σ 2
    · refine k γ σ _ L [.int l2, .int l1] M (List.Mem.tail _ (List.Mem.head _)) (fun _ _ => rfl) aFr.rf gFr.rf aExt.rf ?_
      exact mkHold (by decide) s0 ⟨b00 s0, b1, b2, True.intro⟩ ⟨⟨by decide, by decide, by show σ 1 - σ 2 ≤ -1; omega⟩, True.intro⟩ True.intro ⟨⟨by decide, _, rfl, el2⟩, ⟨by decide, _, rfl, el1⟩, True.intro⟩ h.2.2.2
    · refine k γ σ _ L [.int l2, .int l1] M (List.Mem.tail _ (List.Mem.tail _ (List.Mem.head _))) (fun _ _ => rfl) aFr.rf gFr.rf aExt.rf ?_
      exact mkHold (by decide) s0 ⟨b00 s0, b1, b2, True.intro⟩ ⟨⟨by decide, by decide, by show σ 2 - σ 1 ≤ -1; omega⟩, True.intro⟩ True.intro ⟨⟨by decide, _, rfl, el2⟩, ⟨by decide, _, rfl, el1⟩, True.intro⟩ h.2.2.2
