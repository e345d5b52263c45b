/-! a program's run: one code on -/
theorem i32_remU {y : Int32} (h : 0 ≤ y.toInt) : (y - y / 1048576 * 1048576).toInt = y.toInt % xU := by
  rw [i32_rem (y := 1048576) (by decide), show (1048576 : Int32).toInt = xU from rfl]
  exact Int.tmod_eq_emod_of_nonneg h
theorem ct3_pre {s : List Int32} {γ : Gh} {σ : Nat → Int} {E : AS} {L : MLoc} {st st' : List Value} {M : Mem} {d : Nat} {Q : Option Value → Mem → Prop} (h : aHold0 (s, γ) σ E L st M) (hr : mLd L 0 = some (.ref 181)) {x : Int32} (hx : mLd L 5 = some (.int x)) (ex : x.toInt = (γ 1006 0).toInt) (b0 : 0 ≤ x.toInt) (b1 : x.toInt ≤ 539) (hk : (γ 1006 0).toInt < (γ 1005 1).toInt) (K : ∀ y v : Int32, xI (xv M) 209 (γ 1006 0).toInt.toNat = y.toInt → 0 ≤ y.toInt → v.toInt = y.toInt % xU → Ok d 214 46 L (.int v :: st') M Q) : Ok d 214 35 L st' M Q := by
  have hX : tXI γ M := h.2.2.2.2.2.2
  have hT := aTp_of h.2.2.2
  have hd := hT.hd (c := 181) (by decide) (by decide)
  have hda := hT.hd (c := 209) (by decide) (by decide)
  have hf := t181_ref hT (i := 40) (g := 209) (lo := 0) (hi := 0) (by decide) rfl rfl
  obtain ⟨y, y1, y2, y3⟩ := hT.int (c := 209) (i := x.toInt.toNat) (by decide) (by decide) (by show _ < 540; omega) (lo := -2147483648) (hi' := 2147483647) (gs := []) rfl
  have n1 : xI (xv M) 209 x.toInt.toNat = y.toInt := xI_at rfl y1
  have ek : (γ 1006 0).toInt.toNat = x.toInt.toNat := by omega
  have o := (x_here hX hk).1.1
  rw [ek, n1] at o
  refine kAload (mi := 214) (pc := 35) (len := 1) (i := 0) rfl hr ?_
  refine kGetf (len := 3) (j := 1140) rfl hd (by decide) hf ?_
  refine kIload (len := 2) (i := 5) rfl hx ?_
  refine kIald (len := 1) (n := 540) rfl hda (by omega) (by show x.toInt < 540; omega) y1 ?_
  refine kIconst (len := 3) (v := 1048576) rfl ?_
  refine kRem (len := 1) rfl (by decide) ?_
  exact K y _ (by rw [ek]; exact n1) o (i32_remU o)
theorem x6_next {γ : Gh} {M : Mem} (hX : tXI γ M) (hk : (γ 1006 0).toInt < (γ 1005 1).toInt) {k1 n1 : Int32} (e1 : k1.toInt = (γ 1006 0).toInt + 1) (e2 : n1.toInt = (γ 1006 1).toInt + xEff (xI (xv M) 209 (γ 1006 0).toInt.toNat)) : x6 (gUp (gUp (gUp (gUp γ 1006 0 k1) 1006 1 n1) 1006 2 (-1)) 1006 5 (-1)) (xv M) := by
  obtain ⟨p1, ⟨p2, p3, p4⟩, _, _, p5⟩ := hX.2.2.2.2.1
  obtain ⟨_, ⟨q1, q2, _⟩, _⟩ := hX.2.2.2.1
  refine ⟨p1, ⟨by show (γ 1005 0).toInt ≤ k1.toInt; omega, by show k1.toInt ≤ (γ 1005 1).toInt; omega, ?_⟩, Or.inl rfl, Or.inl rfl, p5⟩
  show n1.toInt = xHg (xI (xv M) 209) (γ 1005 0).toInt.toNat (k1.toInt.toNat - (γ 1005 0).toInt.toNat)
  rw [show k1.toInt.toNat - (γ 1005 0).toInt.toNat = ((γ 1006 0).toInt.toNat - (γ 1005 0).toInt.toNat) + 1 by omega]
  unfold xHg
  rw [← p4, show (γ 1005 0).toInt.toNat + ((γ 1006 0).toInt.toNat - (γ 1005 0).toInt.toNat) = (γ 1006 0).toInt.toNat by omega]
  exact e2
theorem x6_jump {γ : Gh} {M : Mem} (hX : tXI γ M) (hk : (γ 1006 0).toInt < (γ 1005 1).toInt) {k1 n1 v : Int32} (e1 : k1.toInt = (γ 1006 0).toInt + 1) (e2 : n1.toInt = (γ 1006 1).toInt + xEff (xI (xv M) 209 (γ 1006 0).toInt.toNat)) (ev : v.toInt = xI (xv M) 209 (γ 1006 0).toInt.toNat % xU) (hj : 11 ≤ xI (xv M) 209 (γ 1006 0).toInt.toNat / xU) : x6 (gUp (gUp (gUp (gUp (gUp γ 1006 0 k1) 1006 1 n1) 1006 2 (-1)) 1006 4 v) 1006 5 (γ 1006 1)) (xv M) := by
  obtain ⟨a1, a2, a3, _, a5⟩ := x6_next hX hk e1 e2
  obtain ⟨p1, ⟨p2, p3, p4⟩, _, _, _⟩ := hX.2.2.2.2.1
  obtain ⟨_, ⟨q1, q2, _⟩, _⟩ := hX.2.2.2.1
  refine ⟨a1, a2, a3, Or.inr ?_, a5⟩
  obtain ⟨o0, o⟩ := (x_here hX hk).1
  have hm : 0 ≤ xI (xv M) 209 (γ 1006 0).toInt.toNat % xU := Int.emod_nonneg _ (by decide)
  have hb : ((180 * ((γ 1005 0).toInt.toNat / 180) : Nat) : Int) = (γ 1006 8).toInt := by
    rw [p1]
    omega
  rcases o with c | ⟨c, _⟩ | ⟨_, c2, _⟩ | ⟨c, _⟩ | ⟨_, _, _, c | c⟩
  · omega
  · omega
  · omega
  · omega
  · obtain ⟨c1, c2, c3⟩ := c
    rw [hb] at c1 c2
    refine ⟨by show 0 ≤ v.toInt; omega, by show k1.toInt ≤ (γ 1006 8).toInt + v.toInt; omega, by show (γ 1006 8).toInt + v.toInt ≤ (γ 1005 1).toInt; omega, ?_⟩
    show xHg (xI (xv M) 209) (γ 1005 0).toInt.toNat (((γ 1006 8).toInt + v.toInt).toNat - (γ 1005 0).toInt.toNat) = (γ 1006 1).toInt
    rw [p4, ← c3, show ((γ 1006 8).toInt + v.toInt).toNat = 180 * ((γ 1005 0).toInt.toNat / 180) + (xI (xv M) 209 (γ 1006 0).toInt.toNat % xU).toNat by omega]
  · exact c.elim
theorem op_is {γ : Gh} {M : Mem} (hX : tXI γ M) (h : (γ 1006 2).toInt ≠ -1) : xI (xv M) 209 (γ 1006 0).toInt.toNat / xU = (γ 1006 2).toInt := by
  obtain ⟨_, _, p3, _⟩ := hX.2.2.2.2.1
  rcases p3 with p | ⟨_, p⟩
  · exact absurd p h
  · exact p
theorem i32_inc {x : Int32} (h0 : 0 ≤ x.toInt) (h : x.toInt ≤ 1000) : (x + 1).toInt = x.toInt + 1 := i32_add (by show -2147483648 ≤ x.toInt + 1; omega) (by show x.toInt + 1 ≤ _; omega)
theorem i32_dec {x : Int32} (h0 : 0 ≤ x.toInt) (h : x.toInt ≤ 1000) : (x - 1).toInt = x.toInt - 1 := i32_sub (by show -2147483648 ≤ x.toInt - 1; omega) (by show x.toInt - 1 ≤ _; omega)
theorem remU_rng {y : Int32} : 0 ≤ y.toInt % xU ∧ y.toInt % xU ≤ 1048575 := ⟨Int.emod_nonneg _ (by decide), by have := Int.emod_lt_of_pos y.toInt (show 0 < xU by decide); have : xU = 1048576 := rfl; omega⟩
theorem gs_ct3a {s : List Int32} : gSound0 s sg_ct3a := by
  intro γ d σ L st0 st M Q _ h k
  have e0 := eNil h
  subst e0
  have hr := eR h (i := 0) (g := 181) (c := 0) rfl rfl
  obtain ⟨z, hz, ez⟩ := eI h (i := 3) (sy := 2) (c := 0) rfl
  obtain ⟨x, hx, ex⟩ := eI h (i := 5) (sy := 3) (c := 0) rfl
  have g1 := eG h (g := 1005) (i := 1) (sy := 1) (c := 0) (by decide) (List.Mem.head _)
  have g1 : (γ 1005 1).toInt = σ 1 + 0 := g1
  have g2 := eG h (g := 1006) (i := 0) (sy := 3) (c := 0) (by decide) (List.Mem.tail _ (List.Mem.head _))
  have g2 : (γ 1006 0).toInt = σ 3 + 0 := g2
  have g3 := eG h (g := 1006) (i := 1) (sy := 2) (c := 0) (by decide) (List.Mem.tail _ (List.Mem.tail _ (List.Mem.head _)))
  have g3 : (γ 1006 1).toInt = σ 2 + 0 := g3
  have g4 := eG h (g := 1006) (i := 2) (sy := 0) (c := 0) (by decide) (List.Mem.tail _ (List.Mem.tail _ (List.Mem.tail _ (List.Mem.head _))))
  have g4 : (γ 1006 2).toInt = σ 0 + 0 := g4
  have b1 := eB h (i := 1) (lo := 0) (hi := 540) rfl
  have b2 := eB h (i := 2) (lo := 0) (hi := 180) rfl
  have b3 := eB h (i := 3) (lo := 0) (hi := 539) rfl
  have z1 := (h.1.2.1.2.2 3 1 (-1) (List.Mem.head _)).2.2
  have s0 := h.1.2.1.1
  have h8 : x8 (s, γ) := h.2.2.2.1.2
  have hX : tXI γ M := h.2.2.2.2.2.2
  have ho := op_is hX (by omega)
  refine ct3_pre h hr hx (by omega) (by omega) (by omega) (by omega) ?_
  intro y v n1 _ ev
  have r := remU_rng (y := y)
  obtain ⟨w, hw⟩ : ∃ w : Int, w = y.toInt % xU := ⟨_, rfl⟩
  rw [← hw] at r ev
  have ek := i32_inc (x := x) (by omega) (by omega)
  have en := i32_inc (x := z) (by omega) (by omega)
  refine k (gUp (gUp (gUp (gUp γ 1006 0 (x + 1)) 1006 1 (z + 1)) 1006 2 (-1)) 1006 5 (-1)) (aUp σ 4 w) _ L [.int v] M (List.Mem.head _) (fun _ _ => rfl) aFr.rf (gFr_up rfl (gFr_up rfl (gFr_up rfl (gFr_up rfl gFr.rf)))) aUp_ext ?_
  refine mkHold (by decide) s0 ⟨b00 s0, b1, b2, b3, ⟨by show (0 : Int) ≤ w; omega, by show w ≤ 1048575; omega⟩, True.intro⟩ True.intro ⟨hF1_gh (by decide) (by decide) ?_, hF1_gh (by decide) (by decide) ?_, True.intro⟩ ⟨⟨by decide, _, rfl, ?_⟩, True.intro⟩ (aMem_mk h8 (aTp_of h.2.2.2) ⟨hX.1, hX.2.1, hX.2.2.1, hX.2.2.2.1, x6_next hX (by omega) (by omega) (by rw [eff1 (by omega)]; omega), hX.2.2.2.2.2⟩)
  · show (x + 1).toInt = σ 3 + 1
    omega
  · show (z + 1).toInt = σ 2 + 1
    omega
  · exact ev.trans (Int.add_zero w).symm
theorem gs_ct3d {s : List Int32} : gSound0 s sg_ct3d := by
  intro γ d σ L st0 st M Q _ h k
  have e0 := eNil h
  subst e0
  have hr := eR h (i := 0) (g := 181) (c := 0) rfl rfl
  obtain ⟨z, hz, ez⟩ := eI h (i := 3) (sy := 2) (c := 0) rfl
  obtain ⟨x, hx, ex⟩ := eI h (i := 5) (sy := 3) (c := 0) rfl
  have g1 := eG h (g := 1005) (i := 1) (sy := 1) (c := 0) (by decide) (List.Mem.head _)
  have g1 : (γ 1005 1).toInt = σ 1 + 0 := g1
  have g2 := eG h (g := 1006) (i := 0) (sy := 3) (c := 0) (by decide) (List.Mem.tail _ (List.Mem.head _))
  have g2 : (γ 1006 0).toInt = σ 3 + 0 := g2
  have g3 := eG h (g := 1006) (i := 1) (sy := 2) (c := 0) (by decide) (List.Mem.tail _ (List.Mem.tail _ (List.Mem.head _)))
  have g3 : (γ 1006 1).toInt = σ 2 + 0 := g3
  have g4 := eG h (g := 1006) (i := 2) (sy := 0) (c := 10) (by decide) (List.Mem.tail _ (List.Mem.tail _ (List.Mem.tail _ (List.Mem.head _))))
  have g4 : (γ 1006 2).toInt = σ 0 + 10 := g4
  have b1 := eB h (i := 1) (lo := 0) (hi := 540) rfl
  have b2 := eB h (i := 2) (lo := 0) (hi := 180) rfl
  have b3 := eB h (i := 3) (lo := 0) (hi := 539) rfl
  have z1 := (h.1.2.1.2.2 3 1 (-1) (List.Mem.head _)).2.2
  have s0 := h.1.2.1.1
  have h8 : x8 (s, γ) := h.2.2.2.1.2
  have hX : tXI γ M := h.2.2.2.2.2.2
  have ho := op_is hX (by omega)
  refine ct3_pre h hr hx (by omega) (by omega) (by omega) (by omega) ?_
  intro y v n1 _ ev
  have r := remU_rng (y := y)
  obtain ⟨w, hw⟩ : ∃ w : Int, w = y.toInt % xU := ⟨_, rfl⟩
  rw [← hw] at r ev
  have ek := i32_inc (x := x) (by omega) (by omega)
  refine k (gUp (gUp (gUp (gUp γ 1006 0 (x + 1)) 1006 1 z) 1006 2 (-1)) 1006 5 (-1)) (aUp σ 4 w) _ L [.int v] M (List.Mem.head _) (fun _ _ => rfl) aFr.rf (gFr_up rfl (gFr_up rfl (gFr_up rfl (gFr_up rfl gFr.rf)))) aUp_ext ?_
  refine mkHold (by decide) s0 ⟨b00 s0, b1, b2, b3, ⟨by show (0 : Int) ≤ w; omega, by show w ≤ 1048575; omega⟩, True.intro⟩ True.intro ⟨hF1_gh (by decide) (by decide) ?_, hF1_gh (by decide) (by decide) ?_, True.intro⟩ ⟨⟨by decide, _, rfl, ?_⟩, True.intro⟩ (aMem_mk h8 (aTp_of h.2.2.2) ⟨hX.1, hX.2.1, hX.2.2.1, hX.2.2.2.1, x6_next hX (by omega) (by omega) (by rw [eff0 (by omega)]; omega), hX.2.2.2.2.2⟩)
  · show (x + 1).toInt = σ 3 + 1
    omega
  · show z.toInt = σ 2 + 0
    omega
  · exact ev.trans (Int.add_zero w).symm
theorem gs_ct3b {s : List Int32} : gSound0 s sg_ct3b := by
  intro γ d σ L st0 st M Q _ h k
  have e0 := eNil h
  subst e0
  have hr := eR h (i := 0) (g := 181) (c := 0) rfl rfl
  obtain ⟨z, hz, ez⟩ := eI h (i := 3) (sy := 2) (c := 0) rfl
  obtain ⟨x, hx, ex⟩ := eI h (i := 5) (sy := 3) (c := 0) rfl
  have g1 := eG h (g := 1005) (i := 1) (sy := 1) (c := 0) (by decide) (List.Mem.head _)
  have g1 : (γ 1005 1).toInt = σ 1 + 0 := g1
  have g2 := eG h (g := 1006) (i := 0) (sy := 3) (c := 0) (by decide) (List.Mem.tail _ (List.Mem.head _))
  have g2 : (γ 1006 0).toInt = σ 3 + 0 := g2
  have g3 := eG h (g := 1006) (i := 1) (sy := 2) (c := 0) (by decide) (List.Mem.tail _ (List.Mem.tail _ (List.Mem.head _)))
  have g3 : (γ 1006 1).toInt = σ 2 + 0 := g3
  have g4 := eG h (g := 1006) (i := 2) (sy := 0) (c := 1) (by decide) (List.Mem.tail _ (List.Mem.tail _ (List.Mem.tail _ (List.Mem.head _))))
  have g4 : (γ 1006 2).toInt = σ 0 + 1 := g4
  have b1 := eB h (i := 1) (lo := 0) (hi := 540) rfl
  have b2 := eB h (i := 2) (lo := 0) (hi := 180) rfl
  have b3 := eB h (i := 3) (lo := 0) (hi := 539) rfl
  have z1 := (h.1.2.1.2.2 3 1 (-1) (List.Mem.head _)).2.2
  have s0 := h.1.2.1.1
  have h8 : x8 (s, γ) := h.2.2.2.1.2
  have hX : tXI γ M := h.2.2.2.2.2.2
  have ho := op_is hX (by omega)
  have hq := (x_here hX (by omega)).1.2
  refine ct3_pre h hr hx (by omega) (by omega) (by omega) (by omega) ?_
  intro y v n1 _ ev
  have r := remU_rng (y := y)
  have r3 : y.toInt % xU ≤ 13 := by
    rw [n1] at hq ho
    rcases hq with c | ⟨_, c⟩ | ⟨c, _⟩ | ⟨c, _⟩ | ⟨c, _⟩
    · omega
    · exact c
    · omega
    · omega
    · omega
  obtain ⟨w, hw⟩ : ∃ w : Int, w = y.toInt % xU := ⟨_, rfl⟩
  rw [← hw] at r ev r3
  have ek := i32_inc (x := x) (by omega) (by omega)
  have en := i32_inc (x := z) (by omega) (by omega)
  refine k (gUp (gUp (gUp (gUp γ 1006 0 (x + 1)) 1006 1 (z + 1)) 1006 2 (-1)) 1006 5 (-1)) (aUp σ 4 w) _ L [.int v] M (List.Mem.head _) (fun _ _ => rfl) aFr.rf (gFr_up rfl (gFr_up rfl (gFr_up rfl (gFr_up rfl gFr.rf)))) aUp_ext ?_
  refine mkHold (by decide) s0 ⟨b00 s0, b1, b2, b3, ⟨by show (0 : Int) ≤ w; omega, by show w ≤ 13; omega⟩, True.intro⟩ True.intro ⟨hF1_gh (by decide) (by decide) ?_, hF1_gh (by decide) (by decide) ?_, True.intro⟩ ⟨⟨by decide, _, rfl, ?_⟩, True.intro⟩ (aMem_mk h8 (aTp_of h.2.2.2) ⟨hX.1, hX.2.1, hX.2.2.1, hX.2.2.2.1, x6_next hX (by omega) (by omega) (by rw [eff1 (by omega)]; omega), hX.2.2.2.2.2⟩)
  · show (x + 1).toInt = σ 3 + 1
    omega
  · show (z + 1).toInt = σ 2 + 1
    omega
  · exact ev.trans (Int.add_zero w).symm
theorem gs_ct3c {s : List Int32} : gSound0 s sg_ct3c := by
  intro γ d σ L st0 st M Q _ h k
  have e0 := eNil h
  subst e0
  have hr := eR h (i := 0) (g := 181) (c := 0) rfl rfl
  obtain ⟨z, hz, ez⟩ := eI h (i := 3) (sy := 2) (c := 0) rfl
  obtain ⟨x, hx, ex⟩ := eI h (i := 5) (sy := 3) (c := 0) rfl
  have g1 := eG h (g := 1005) (i := 1) (sy := 1) (c := 0) (by decide) (List.Mem.head _)
  have g1 : (γ 1005 1).toInt = σ 1 + 0 := g1
  have g2 := eG h (g := 1006) (i := 0) (sy := 3) (c := 0) (by decide) (List.Mem.tail _ (List.Mem.head _))
  have g2 : (γ 1006 0).toInt = σ 3 + 0 := g2
  have g3 := eG h (g := 1006) (i := 1) (sy := 2) (c := 0) (by decide) (List.Mem.tail _ (List.Mem.tail _ (List.Mem.head _)))
  have g3 : (γ 1006 1).toInt = σ 2 + 0 := g3
  have g4 := eG h (g := 1006) (i := 2) (sy := 4) (c := 0) (by decide) (List.Mem.tail _ (List.Mem.tail _ (List.Mem.tail _ (List.Mem.head _))))
  have g4 : (γ 1006 2).toInt = σ 4 + 0 := g4
  have b1 := eB h (i := 1) (lo := 0) (hi := 540) rfl
  have b2 := eB h (i := 2) (lo := 0) (hi := 180) rfl
  have b3 := eB h (i := 3) (lo := 0) (hi := 539) rfl
  have b4 := eB h (i := 4) (lo := 2) (hi := 9) rfl
  have z1 := (h.1.2.1.2.2 3 1 (-1) (List.Mem.head _)).2.2
  have s0 := h.1.2.1.1
  have h8 : x8 (s, γ) := h.2.2.2.1.2
  have hX : tXI γ M := h.2.2.2.2.2.2
  have ho := op_is hX (by omega)
  refine ct3_pre h hr hx (by omega) (by omega) (by omega) (by omega) ?_
  intro y v n1 _ ev
  have r := remU_rng (y := y)
  obtain ⟨w, hw⟩ : ∃ w : Int, w = y.toInt % xU := ⟨_, rfl⟩
  rw [← hw] at r ev
  have ek := i32_inc (x := x) (by omega) (by omega)
  have en := i32_dec (x := z) (by omega) (by omega)
  refine k (gUp (gUp (gUp (gUp γ 1006 0 (x + 1)) 1006 1 (z - 1)) 1006 2 (-1)) 1006 5 (-1)) (aUp σ 5 w) _ L [.int v] M (List.Mem.head _) (fun _ _ => rfl) aFr.rf (gFr_up rfl (gFr_up rfl (gFr_up rfl (gFr_up rfl gFr.rf)))) aUp_ext ?_
  refine mkHold (by decide) s0 ⟨b00 s0, b1, b2, b3, b4, ⟨by show (0 : Int) ≤ w; omega, by show w ≤ 1048575; omega⟩, True.intro⟩ True.intro ⟨hF1_gh (by decide) (by decide) ?_, hF1_gh (by decide) (by decide) ?_, True.intro⟩ ⟨⟨by decide, _, rfl, ?_⟩, True.intro⟩ (aMem_mk h8 (aTp_of h.2.2.2) ⟨hX.1, hX.2.1, hX.2.2.1, hX.2.2.2.1, x6_next hX (by omega) (by omega) (by rw [effm (by omega) (by omega)]; omega), hX.2.2.2.2.2⟩)
  · show (x + 1).toInt = σ 3 + 1
    omega
  · show (z - 1).toInt = σ 2 + (-1)
    omega
  · exact ev.trans (Int.add_zero w).symm
theorem gs_ct3e {s : List Int32} : gSound0 s sg_ct3e := by
  intro γ d σ L st0 st M Q _ h k
  have e0 := eNil h
  subst e0
  have hr := eR h (i := 0) (g := 181) (c := 0) rfl rfl
  obtain ⟨z, hz, ez⟩ := eI h (i := 3) (sy := 2) (c := 0) rfl
  obtain ⟨x, hx, ex⟩ := eI h (i := 5) (sy := 3) (c := 0) rfl
  have g1 := eG h (g := 1005) (i := 1) (sy := 1) (c := 0) (by decide) (List.Mem.head _)
  have g1 : (γ 1005 1).toInt = σ 1 + 0 := g1
  have g2 := eG h (g := 1006) (i := 0) (sy := 3) (c := 0) (by decide) (List.Mem.tail _ (List.Mem.head _))
  have g2 : (γ 1006 0).toInt = σ 3 + 0 := g2
  have g3 := eG h (g := 1006) (i := 1) (sy := 2) (c := 0) (by decide) (List.Mem.tail _ (List.Mem.tail _ (List.Mem.head _)))
  have g3 : (γ 1006 1).toInt = σ 2 + 0 := g3
  have g4 := eG h (g := 1006) (i := 2) (sy := 4) (c := 0) (by decide) (List.Mem.tail _ (List.Mem.tail _ (List.Mem.tail _ (List.Mem.head _))))
  have g4 : (γ 1006 2).toInt = σ 4 + 0 := g4
  have b1 := eB h (i := 1) (lo := 0) (hi := 540) rfl
  have b2 := eB h (i := 2) (lo := 0) (hi := 180) rfl
  have b3 := eB h (i := 3) (lo := 0) (hi := 539) rfl
  have b4 := eB h (i := 4) (lo := 11) (hi := 12) rfl
  have z1 := (h.1.2.1.2.2 3 1 (-1) (List.Mem.head _)).2.2
  have s0 := h.1.2.1.1
  have h8 : x8 (s, γ) := h.2.2.2.1.2
  have hX : tXI γ M := h.2.2.2.2.2.2
  have ho := op_is hX (by omega)
  refine ct3_pre h hr hx (by omega) (by omega) (by omega) (by omega) ?_
  intro y v n1 _ ev
  have r := remU_rng (y := y)
  obtain ⟨w, hw⟩ : ∃ w : Int, w = y.toInt % xU := ⟨_, rfl⟩
  rw [← hw] at r ev
  have ek := i32_inc (x := x) (by omega) (by omega)
  have en := i32_dec (x := z) (by omega) (by omega)
  refine k (gUp (gUp (gUp (gUp (gUp γ 1006 0 (x + 1)) 1006 1 (z - 1)) 1006 2 (-1)) 1006 4 v) 1006 5 (γ 1006 1)) (aUp σ 5 w) _ L [.int v] M (List.Mem.head _) (fun _ _ => rfl) aFr.rf (gFr_up rfl (gFr_up rfl (gFr_up rfl (gFr_up rfl (gFr_up rfl gFr.rf))))) aUp_ext ?_
  refine mkHold (by decide) s0 ⟨b00 s0, b1, b2, b3, b4, ⟨by show (0 : Int) ≤ w; omega, by show w ≤ 1048575; omega⟩, True.intro⟩ True.intro ⟨hF1_gh (by decide) (by decide) ?_, hF1_gh (by decide) (by decide) ?_, hF1_gh (by decide) (by decide) ?_, hF1_gh (by decide) (by decide) ?_, True.intro⟩ ⟨⟨by decide, _, rfl, ?_⟩, True.intro⟩ (aMem_mk h8 (aTp_of h.2.2.2) ⟨hX.1, hX.2.1, hX.2.2.1, hX.2.2.2.1, x6_jump hX (by omega) (by omega) (by rw [effm (by omega) (by omega)]; omega) (by rw [n1, ← hw]; exact ev) (by omega), hX.2.2.2.2.2⟩)
  · show (x + 1).toInt = σ 3 + 1
    omega
  · show (z - 1).toInt = σ 2 + (-1)
    omega
  · exact ev.trans (Int.add_zero w).symm
  · show (γ 1006 1).toInt = σ 2 + 0
    omega
  · exact ev.trans (Int.add_zero w).symm
theorem gs_ct4 {s : List Int32} : gSound0 s sg_ct4 := by
  intro γ d σ L st0 st M Q _ h k
  have e0 := eNil h
  subst e0
  obtain ⟨x, hx, ex⟩ := eI h (i := 4) (sy := 3) (c := 0) rfl
  obtain ⟨v, hv, ev⟩ := eI h (i := 7) (sy := 5) (c := 0) rfl
  have g1 := eG h (g := 1005) (i := 1) (sy := 1) (c := 0) (by decide) (List.Mem.head _)
  have g1 : (γ 1005 1).toInt = σ 1 + 0 := g1
  have g2 := eG h (g := 1006) (i := 0) (sy := 4) (c := 0) (by decide) (List.Mem.tail _ (List.Mem.head _))
  have g2 : (γ 1006 0).toInt = σ 4 + 0 := g2
  have g3 := eG h (g := 1006) (i := 8) (sy := 3) (c := 0) (by decide) (List.Mem.tail _ (List.Mem.tail _ (List.Mem.head _)))
  have g3 : (γ 1006 8).toInt = σ 3 + 0 := g3
  have g4 := eG h (g := 1006) (i := 4) (sy := 5) (c := 0) (by decide) (List.Mem.tail _ (List.Mem.tail _ (List.Mem.tail _ (List.Mem.head _))))
  have g4 : (γ 1006 4).toInt = σ 5 + 0 := g4
  have g5 := eG h (g := 1006) (i := 5) (sy := 2) (c := 0) (by decide) (List.Mem.tail _ (List.Mem.tail _ (List.Mem.tail _ (List.Mem.tail _ (List.Mem.head _)))))
  have g5 : (γ 1006 5).toInt = σ 2 + 0 := g5
  have b1 := eB h (i := 1) (lo := 0) (hi := 540) rfl
  have b2 := eB h (i := 2) (lo := 0) (hi := 180) rfl
  have b3 := eB h (i := 3) (lo := 0) (hi := 540) rfl
  have b4 := eB h (i := 4) (lo := 0) (hi := 540) rfl
  have b5 := eB h (i := 5) (lo := 0) (hi := 1048575) rfl
  have s0 := h.1.2.1.1
  have h8 : x8 (s, γ) := h.2.2.2.1.2
  have hX : tXI γ M := h.2.2.2.2.2.2
  refine kIload (mi := 214) (pc := 160) (len := 2) (i := 4) rfl hx ?_
  refine kIload (len := 2) (i := 7) rfl hv ?_
  refine kAdd (len := 1) rfl ?_
  obtain ⟨p1, ⟨p2, p3, p4⟩, _, p6, p5⟩ := hX.2.2.2.2.1
  obtain ⟨q1, q2, q3, q4⟩ : 0 ≤ (γ 1006 4).toInt ∧ (γ 1006 0).toInt ≤ (γ 1006 8).toInt + (γ 1006 4).toInt ∧ (γ 1006 8).toInt + (γ 1006 4).toInt ≤ (γ 1005 1).toInt ∧ xHg (xI (xv M) 209) (γ 1005 0).toInt.toNat (((γ 1006 8).toInt + (γ 1006 4).toInt).toNat - (γ 1005 0).toInt.toNat) = (γ 1006 5).toInt := by
    rcases p6 with p | p
    · omega
    · exact p
  have es : (x + v).toInt = x.toInt + v.toInt := i32_add (by omega) (by omega)
  refine k (gUp (gUp (gUp (gUp γ 1006 0 (x + v)) 1006 1 (γ 1006 5)) 1006 2 (-1)) 1006 5 (-1)) (aUp σ 6 (x + v).toInt) _ L [.int (x + v)] M (List.Mem.head _) (fun _ _ => rfl) aFr.rf (gFr_up rfl (gFr_up rfl (gFr_up rfl (gFr_up rfl gFr.rf)))) aUp_ext ?_
  refine mkHold (by decide) s0 ⟨b00 s0, b1, b2, b3, b4, b5, ⟨by show (0 : Int) ≤ (x + v).toInt; omega, by show (x + v).toInt ≤ 540; omega⟩, True.intro⟩ ⟨⟨by decide, by decide, ?_⟩, ⟨by decide, by decide, ?_⟩, True.intro⟩ ⟨hF1_gh (by decide) (by decide) ?_, hF1_gh (by decide) (by decide) g5, True.intro⟩ ⟨⟨by decide, _, rfl, ?_⟩, True.intro⟩ (aMem_mk h8 (aTp_of h.2.2.2) ⟨hX.1, hX.2.1, hX.2.2.1, hX.2.2.2.1, ⟨p1, ⟨?_, ?_, ?_⟩, Or.inl rfl, Or.inl rfl, p5⟩, hX.2.2.2.2.2⟩)
  · show σ 4 - (x + v).toInt ≤ 0
    omega
  · show (x + v).toInt - σ 1 ≤ 0
    omega
  · show (x + v).toInt = (x + v).toInt + 0
    omega
  · show (x + v).toInt = (x + v).toInt + 0
    omega
  · show (γ 1005 0).toInt ≤ (x + v).toInt
    omega
  · show (x + v).toInt ≤ (γ 1005 1).toInt
    omega
  · show (γ 1006 5).toInt = xHg (xI (xv M) 209) (γ 1005 0).toInt.toNat ((x + v).toInt.toNat - (γ 1005 0).toInt.toNat)
    rw [show (x + v).toInt = (γ 1006 8).toInt + (γ 1006 4).toInt by omega]
    exact q4.symm
