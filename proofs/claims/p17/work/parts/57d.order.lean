/-! the order's pieces -/
section
variable {γ : Gh} {V V' : Vw}
theorem xp_c2 (h : ∀ c, 203 ≤ c → c ≤ 208 → V' c = V c) (h2 : V' 181 30 = V 181 30) (h3 : V' 181 31 = V 181 31) (h4 : V' 181 32 = V 181 32) (hx : xp γ V) : xp γ V' := by
  have e : ∀ c, 203 ≤ c → c ≤ 208 → xI V' c = xI V c := by intro c h1 h2; funext i; unfold xI; rw [h c h1 h2]
  have e2 : xI V' 181 30 = xI V 181 30 := by unfold xI; rw [h2]
  have e3 : xI V' 181 31 = xI V 181 31 := by unfold xI; rw [h3]
  have e4 : xI V' 181 32 = xI V 181 32 := by unfold xI; rw [h4]
  unfold xp xSc at hx ⊢
  rw [e 203 (by decide) (by decide), e 204 (by decide) (by decide), e 205 (by decide) (by decide), e 206 (by decide) (by decide), e 207 (by decide) (by decide), e 208 (by decide) (by decide), e2, e3, e4]
  exact hx
end
/-- only the order and its length are stored into -/
theorem ord_put {γ γ' : Gh} {M M' : Mem} (hX : tXI γ M) (hv : ∀ c, c ≠ 217 → c ≠ 181 → xv M' c = xv M c) (hv2 : ∀ i, i ≠ 49 → xv M' 181 i = xv M 181 i) (h2 : x2 γ') (h3 : x3 γ' (xv M)) (h4 : x4 γ' (xv M')) (h5 : x5 γ' (xv M)) (h6 : x6 γ' (xv M)) (h7 : x7 γ' (xv M)) (hp : xp γ' (xv M)) : tXI γ' M' :=
  ⟨h2, x3_c (hv 201 (by decide) (by decide)) h3, h4, x5_c (fun c h1 h2 => hv c (by omega) (by omega)) h5, x6_c (hv 209 (by decide) (by decide)) (hv 215 (by decide) (by decide)) h6, x7_c (hv 202 (by decide) (by decide)) h7, xp_c2 (fun c h1 h2 => hv c (by omega) (by omega)) (hv2 30 (by decide)) (hv2 31 (by decide)) (hv2 32 (by decide)) hp⟩
theorem m1lt : ¬ 0 ≤ Int32.toInt (-1) := by decide
theorem xPl_m1 {V : Vw} {n h : Int} {p v : Int32} (e : p = -1) : xPl V n h p v := fun h0 => absurd h0 (by rw [e]; exact m1lt)
theorem gs_lo1 {s : List Int32} : gSound0 s sg_lo1 := by
  intro γ d σ L st0 st M Q _ h k
  have e0 := eNil h
  subst e0
  have hr := eR h (i := 0) (g := 181) (c := 0) rfl rfl
  have s0 := h.1.2.1.1
  have h8 : x8 (s, γ) := h.2.2.2.1.2
  have hX : tXI γ M := h.2.2.2.2.2.2
  have hT := aTp_of h.2.2.2
  have hd := hT.hd (c := 181) (by decide) (by decide)
  refine kAload (mi := 223) (pc := 0) (len := 1) (i := 0) rfl hr ?_
  refine kIconst (len := 1) (v := 0) rfl ?_
  refine kPutf (len := 3) (j := 1149) rfl hd (by decide) (by decide) rfl ?_
  have n0 : xI (xv (mPut M 181 49 (.int 0))) 181 49 = 0 := xI_put rfl hd (by decide)
  refine k (gUp (gUp (gUp (gUp γ 1004 0 (-1)) 1004 1 0) 1004 2 (-1)) 1004 4 (-1)) σ _ L [] (mPut M 181 49 (.int 0)) (List.Mem.head _) (fun _ _ => rfl) (aFr_put rfl) (gFr_up rfl (gFr_up rfl (gFr_up rfl (gFr_up rfl gFr.rf)))) aExt.rf ?_
  refine mkHold (by decide) s0 ⟨b00 s0, True.intro⟩ True.intro ⟨hF1_re (x := 0) rfl (by decide) (by decide) (mSlot_put_eq hd (by decide)) ?_, hF1_gh (by decide) (by decide) ?_, hF1_gh (by decide) (by decide) ?_, True.intro⟩ True.intro (aMem_mk h8 (hT.put (by decide) (by decide) ⟨0, rfl, by decide, by decide⟩) ?_)
  · show (0 : Int) = σ 0 + 0
    omega
  · show (-1 : Int) = σ 0 + (-1)
    omega
  · show (0 : Int) = σ 0 + 0
    omega
  · refine ord_put hX (fun c h1 h2 => xv_put h2) (fun i hi => xv_put2 hi) hX.1 hX.2.1 ?_ hX.2.2.2.1 hX.2.2.2.2.1 hX.2.2.2.2.2.1 hX.2.2.2.2.2.2
    unfold x4
    rw [n0]
    refine ⟨⟨?_, ?_, ?_⟩, ?_, ?_, xPl_m1 rfl, xPl_m1 rfl⟩
    · show (-1 : Int) ≤ -1; decide
    · show (-1 : Int) ≤ 0; decide
    · intro _; decide
    · intro i j _ h2
      have h2 : (j : Int) < 0 := h2
      omega
    · intro i h2
      have h2 : (i : Int) < 0 := h2
      omega
theorem xEnd_m {n : Int} : xEnd n (-1) = n := if_pos rfl
theorem xEnd_h {n h : Int} (hh : 0 ≤ h) : xEnd n h = n + 1 := if_neg (by omega)
theorem gs_lo2 {s : List Int32} : gSound0 s sg_lo2 := by
  intro γ d σ L st0 st M Q _ h k
  have e0 := eNil h
  subst e0
  have hr := eR h (i := 0) (g := 181) (c := 0) rfl rfl
  obtain ⟨x, hx, ex⟩ := eF h (g := 181) (i := 49) (sy := 1) (c := 0) (by decide) (by decide) rfl (List.Mem.head _)
  have g2 := eG h (g := 1004) (i := 0) (sy := 0) (c := -1) (by decide) (List.Mem.tail _ (List.Mem.head _))
  have b1 := eB h (i := 1) (lo := 0) (hi := 39) rfl
  have s0 := h.1.2.1.1
  have h8 : x8 (s, γ) := h.2.2.2.1.2
  have hX : tXI γ M := h.2.2.2.2.2.2
  have hT := aTp_of h.2.2.2
  have hd := hT.hd (c := 181) (by decide) (by decide)
  refine kAload (mi := 223) (pc := 15) (len := 1) (i := 0) rfl hr ?_
  refine kGetf (len := 3) (j := 1149) rfl hd (by decide) hx ?_
  have n0 : xI (xv M) 181 49 = x.toInt := xI_at rfl hx
  have g2 : (γ 1004 0).toInt = σ 0 + (-1) := g2
  have hm : (γ 1004 0).toInt = -1 := by omega
  refine k (gUp (gUp (gUp γ 1004 0 x) 1004 2 (-1)) 1004 4 (-1)) σ _ L [.int x] M (List.Mem.head _) (fun _ _ => rfl) aFr.rf (gFr_up rfl (gFr_up rfl (gFr_up rfl gFr.rf))) aExt.rf ?_
  refine mkHold (by decide) s0 ⟨b00 s0, b1, True.intro⟩ True.intro ⟨hF1_gh (by decide) (by decide) ex, True.intro⟩ ⟨⟨by decide, x, rfl, ex⟩, True.intro⟩ (aMem_mk h8 hT ⟨hX.1, hX.2.1, ?_, hX.2.2.2⟩)
  obtain ⟨⟨p1, p2, p3⟩, p4, p5, _, _⟩ := hX.2.2.1
  rw [hm, xEnd_m] at p4 p5
  refine ⟨⟨by show -1 ≤ x.toInt; omega, by show x.toInt ≤ _; omega, fun _ => by omega⟩, ?_, ?_, xPl_m1 rfl, xPl_m1 rfl⟩
  · intro i j hij hj hi hj2
    have hj : (j : Int) < xEnd (xI (xv M) 181 49) x.toInt := hj
    have hj2 : (j : Int) ≠ x.toInt := hj2
    rw [xEnd_h (by omega)] at hj
    exact p4 i j hij (by omega) (by omega) (by omega)
  · intro i hi hi2
    have hi : (i : Int) < xEnd (xI (xv M) 181 49) x.toInt := hi
    have hi2 : (i : Int) ≠ x.toInt := hi2
    rw [xEnd_h (by omega)] at hi
    exact p5 i (by omega) (by omega)
theorem gs_lo3 {s : List Int32} : gSound0 s sg_lo3 := by
  intro γ d σ L st0 st M Q _ h k
  have e0 := eNil h
  subst e0
  have hr := eR h (i := 0) (g := 181) (c := 0) rfl rfl
  obtain ⟨x, hx, ex⟩ := eI h (i := 2) (sy := 1) (c := 0) rfl
  have g1 := eG h (g := 1004) (i := 0) (sy := 1) (c := 0) (by decide) (List.Mem.head _)
  have g1 : (γ 1004 0).toInt = σ 1 + 0 := g1
  have b1 := eB h (i := 1) (lo := 1) (hi := 39) rfl
  have s0 := h.1.2.1.1
  have h8 : x8 (s, γ) := h.2.2.2.1.2
  have hX : tXI γ M := h.2.2.2.2.2.2
  have hT := aTp_of h.2.2.2
  have hd := hT.hd (c := 181) (by decide) (by decide)
  have hda := hT.hd (c := 217) (by decide) (by decide)
  have hf := t181_ref hT (i := 50) (g := 217) (lo := 0) (hi := 0) (by decide) rfl rfl
  have ex1 : (x - 1).toInt = x.toInt - 1 := i32_sub (by show -2147483648 ≤ x.toInt - 1; omega) (by show x.toInt - 1 ≤ _; omega)
  obtain ⟨y, y1, y2, y3⟩ := hT.int (c := 217) (i := (x - 1).toInt.toNat) (by decide) (by decide) (by show _ < 40; omega) (lo := 0) (hi' := 39) (gs := []) rfl
  refine kAload (mi := 223) (pc := 40) (len := 1) (i := 0) rfl hr ?_
  refine kGetf (len := 3) (j := 1150) rfl hd (by decide) hf ?_
  refine kIload (len := 1) (i := 2) rfl hx ?_
  refine kAload (len := 1) (i := 0) rfl hr ?_
  refine kGetf (len := 3) (j := 1150) rfl hd (by decide) hf ?_
  refine kIload (len := 1) (i := 2) rfl hx ?_
  refine kIconst (len := 1) (v := 1) rfl ?_
  refine kSub (len := 1) rfl ?_
  refine kIald (len := 1) (n := 40) rfl hda (by show 0 ≤ (x - 1).toInt; omega) (by show (x - 1).toInt < 40; omega) y1 ?_
  refine kIast (len := 1) (n := 40) rfl hda (by decide) (by omega) (by show x.toInt < 40; omega) ?_
  have n1 : xI (xv (mPut M 217 x.toInt.toNat (.int y))) 217 x.toInt.toNat = y.toInt := xI_put rfl hda (by show _ < 40; omega)
  have n2 : xI (xv M) 217 (x - 1).toInt.toNat = y.toInt := xI_at rfl y1
  have n3 : xI (xv (mPut M 217 x.toInt.toNat (.int y))) 181 49 = xI (xv M) 181 49 := xI_ne (Or.inl (by decide))
  refine k (gUp γ 1004 0 (x - 1)) σ _ L [] _ (List.Mem.head _) (fun _ _ => rfl) (aFr_put rfl) (gFr_up rfl gFr.rf) aExt.rf ?_
  refine mkHold (by decide) s0 ⟨b00 s0, b1, True.intro⟩ True.intro ⟨hF1_gh (by decide) (by decide) ?_, True.intro⟩ True.intro (aMem_mk h8 (hT.put (by decide) (by decide) ⟨y, rfl, y2, y3⟩) ?_)
  · show (x - 1).toInt = σ 1 + (-1)
    omega
  · refine ord_put hX (fun c h1 h2 => xv_put h1) (fun i hi => by rw [xv_put (by decide)]) hX.1 hX.2.1 ?_ hX.2.2.2.1 hX.2.2.2.2.1 hX.2.2.2.2.2.1 hX.2.2.2.2.2.2
    obtain ⟨⟨p1, p2, p3⟩, p4, p5, p6, p7⟩ := hX.2.2.1
    rw [xEnd_h (by omega)] at p4 p5
    have no : ∀ {p v : Int32}, xPl (xv M) (xI (xv M) 181 49) (γ 1004 0).toInt p v → ¬ 0 ≤ p.toInt := fun hp h0 => by
      have := (hp h0).1
      omega
    unfold x4
    rw [n3]
    refine ⟨⟨by show -1 ≤ (x - 1).toInt; omega, by show (x - 1).toInt ≤ _; omega, fun _ => p3 (by omega)⟩, ?_, ?_, fun h0 => absurd h0 (no p6), fun h0 => absurd h0 (no p7)⟩
    · intro i j hij hj hi hj2
      have hj : (j : Int) < xEnd (xI (xv M) 181 49) (x - 1).toInt := hj
      rw [xEnd_h (by omega)] at hj
      have hi : (i : Int) ≠ (x - 1).toInt := hi
      have hj2 : (j : Int) ≠ (x - 1).toInt := hj2
      by_cases ej : j = x.toInt.toNat
      · rw [ej, n1, ← n2, xI_ne (Or.inr (by omega))]
        exact p4 i (x - 1).toInt.toNat (by omega) (by omega) (by omega) (by omega)
      · by_cases ei : i = x.toInt.toNat
        · rw [ei, n1, ← n2, xI_ne (Or.inr ej)]
          exact p4 (x - 1).toInt.toNat j (by omega) (by omega) (by omega) (by omega)
        · rw [xI_ne (Or.inr ei), xI_ne (Or.inr ej)]
          exact p4 i j hij (by omega) (by omega) (by omega)
    · intro i hi hi2
      have hi : (i : Int) < xEnd (xI (xv M) 181 49) (x - 1).toInt := hi
      rw [xEnd_h (by omega)] at hi
      have hi2 : (i : Int) ≠ (x - 1).toInt := hi2
      by_cases ei : i = x.toInt.toNat
      · rw [ei, n1, ← n2]
        exact p5 _ (by omega) (by omega)
      · rw [xI_ne (Or.inr ei)]
        exact p5 i (by omega) (by omega)
theorem gs_lo4 {s : List Int32} : gSound0 s sg_lo4 := by
  intro γ d σ L st0 st M Q _ h k
  have e0 := eNil h
  subst e0
  have hr := eR h (i := 0) (g := 181) (c := 0) rfl rfl
  obtain ⟨z, hz, ez⟩ := eI h (i := 1) (sy := 1) (c := 0) rfl
  obtain ⟨x, hx, ex⟩ := eI h (i := 2) (sy := 2) (c := 0) rfl
  have g1 := eG h (g := 1004) (i := 0) (sy := 2) (c := 0) (by decide) (List.Mem.head _)
  have g1 : (γ 1004 0).toInt = σ 2 + 0 := g1
  have g2 := eG h (g := 1004) (i := 1) (sy := 1) (c := 0) (by decide) (List.Mem.tail _ (List.Mem.head _))
  have g2 : (γ 1004 1).toInt = σ 1 + 0 := g2
  obtain ⟨w, hw, ew⟩ := eF h (g := 181) (i := 49) (sy := 3) (c := 0) (by decide) (by decide) rfl (List.Mem.tail _ (List.Mem.tail _ (List.Mem.head _)))
  have b1 := eB h (i := 1) (lo := 0) (hi := 39) rfl
  have b2 := eB h (i := 2) (lo := 0) (hi := 39) rfl
  have b3 := eB h (i := 3) (lo := 0) (hi := 39) rfl
  have s0 := h.1.2.1.1
  have h8 : x8 (s, γ) := h.2.2.2.1.2
  have hX : tXI γ M := h.2.2.2.2.2.2
  have hT := aTp_of h.2.2.2
  have hd := hT.hd (c := 181) (by decide) (by decide)
  have hda := hT.hd (c := 217) (by decide) (by decide)
  have hf := t181_ref hT (i := 50) (g := 217) (lo := 0) (hi := 0) (by decide) rfl rfl
  have ew1 : (w + 1).toInt = w.toInt + 1 := i32_add (by show -2147483648 ≤ w.toInt + 1; omega) (by show w.toInt + 1 ≤ _; omega)
  have ez1 : (z + 1).toInt = z.toInt + 1 := i32_add (by show -2147483648 ≤ z.toInt + 1; omega) (by show z.toInt + 1 ≤ _; omega)
  have hT1 : aTp s (mPut M 217 x.toInt.toNat (.int z)) := hT.put (by decide) (by decide) ⟨z, rfl, (by show (0 : Int) ≤ z.toInt; omega), (by show z.toInt ≤ 39; omega)⟩
  have hd1 : mHd (mPut M 217 x.toInt.toNat (.int z)) 181 = some (11, 84) := mHd_put.trans hd
  have hw1 : mSlot (mPut M 217 x.toInt.toNat (.int z)) 181 49 = some (.int w) := (mSlot_put_ne (Or.inl (by decide))).trans hw
  refine kAload (mi := 223) (pc := 61) (len := 1) (i := 0) rfl hr ?_
  refine kGetf (len := 3) (j := 1150) rfl hd (by decide) hf ?_
  refine kIload (len := 1) (i := 2) rfl hx ?_
  refine kIload (len := 1) (i := 1) rfl hz ?_
  refine kIast (len := 1) (n := 40) rfl hda (by decide) (by omega) (by show x.toInt < 40; omega) ?_
  refine kAload (len := 1) (i := 0) rfl hr ?_
  refine kAload (len := 1) (i := 0) rfl hr ?_
  refine kGetf (len := 3) (j := 1149) rfl hd1 (by decide) hw1 ?_
  refine kIconst (len := 1) (v := 1) rfl ?_
  refine kAdd (len := 1) rfl ?_
  refine kPutf (len := 3) (j := 1149) rfl hd1 (by decide) (by decide) rfl ?_
  have n1 : xI (xv (mPut (mPut M 217 x.toInt.toNat (.int z)) 181 49 (.int (w + 1)))) 217 x.toInt.toNat = z.toInt := by
    rw [xI_ne (Or.inl (by decide))]
    exact xI_put rfl hda (by show _ < 40; omega)
  have n2 : ∀ i, i ≠ x.toInt.toNat → xI (xv (mPut (mPut M 217 x.toInt.toNat (.int z)) 181 49 (.int (w + 1)))) 217 i = xI (xv M) 217 i := fun i hi => by
    rw [xI_ne (Or.inl (by decide)), xI_ne (Or.inr hi)]
  have n3 : xI (xv (mPut (mPut M 217 x.toInt.toNat (.int z)) 181 49 (.int (w + 1)))) 181 49 = w.toInt + 1 := by
    rw [← ew1]
    exact xI_put rfl hd1 (by decide)
  have n4 : xI (xv M) 181 49 = w.toInt := xI_at rfl hw
  refine k (gUp (gUp γ 1004 0 (-1)) 1004 1 (z + 1)) σ _ L [] (mPut (mPut M 217 x.toInt.toNat (.int z)) 181 49 (.int (w + 1))) (List.Mem.head _) (fun _ _ => rfl) ((aFr_put rfl).tr (aFr_put rfl)) (gFr_up rfl (gFr_up rfl gFr.rf)) aExt.rf ?_
  refine mkHold (by decide) s0 ⟨b00 s0, b1, b2, b3, True.intro⟩ True.intro ⟨hF1_gh (by decide) (by decide) ?_, hF1_gh (by decide) (by decide) ?_, hF1_re (x := w + 1) rfl (by decide) (by decide) (mSlot_put_eq hd1 (by decide)) ?_, True.intro⟩ True.intro (aMem_mk h8 (hT1.put (by decide) (by decide) ⟨w + 1, rfl, (by show (0 : Int) ≤ (w + 1).toInt; omega), (by show (w + 1).toInt ≤ 40; omega)⟩) ?_)
  · show (-1 : Int) = σ 0 + (-1)
    omega
  · show (z + 1).toInt = σ 1 + 1
    omega
  · show (w + 1).toInt = σ 3 + 1
    omega
  · refine ord_put hX (fun c h1 h2 => by rw [xv_put h2, xv_put h1]) (fun i hi => by rw [xv_put2 hi, xv_put (by decide)]) hX.1 hX.2.1 ?_ hX.2.2.2.1 hX.2.2.2.2.1 hX.2.2.2.2.2.1 hX.2.2.2.2.2.2
    obtain ⟨⟨p1, p2, p3⟩, p4, p5, p6, p7⟩ := hX.2.2.1
    rw [xEnd_h (by omega)] at p4 p5
    have no : ∀ {p v : Int32}, xPl (xv M) (xI (xv M) 181 49) (γ 1004 0).toInt p v → ¬ 0 ≤ p.toInt := fun hp h0 => by
      have := (hp h0).1
      omega
    unfold x4
    rw [n3]
    refine ⟨⟨by show (-1 : Int) ≤ -1; decide, by show (-1 : Int) ≤ _; omega, fun h0 => absurd h0 m1lt⟩, ?_, ?_, fun h0 => absurd h0 (no p6), fun h0 => absurd h0 (no p7)⟩
    · intro i j hij hj _ _
      have hj : (j : Int) < w.toInt + 1 := hj
      by_cases ej : j = x.toInt.toNat
      · rw [ej, n1, n2 i (by omega)]
        have := p5 i (by omega) (by omega)
        omega
      · by_cases ei : i = x.toInt.toNat
        · rw [ei, n1, n2 j ej]
          have := p5 j (by omega) (by omega)
          omega
        · rw [n2 i ei, n2 j ej]
          exact p4 i j hij (by omega) (by omega) (by omega)
    · intro i hi _
      have hi : (i : Int) < w.toInt + 1 := hi
      show _ < (z + 1).toInt
      by_cases ei : i = x.toInt.toNat
      · rw [ei, n1]
        omega
      · rw [n2 i ei]
        have := p5 i (by omega) (by omega)
        omega
theorem gs_bo1 {s : List Int32} : gSound0 s sg_bo1 := by
  intro γ d σ L st0 st M Q _ h k
  have e0 := eNil h
  subst e0
  have hr := eR h (i := 0) (g := 181) (c := 0) rfl rfl
  obtain ⟨x, hx, ex⟩ := eI h (i := 6) (sy := 1) (c := 0) rfl
  obtain ⟨w, hw, ew⟩ := eF h (g := 181) (i := 49) (sy := 2) (c := 0) (by decide) (by decide) rfl (List.Mem.head _)
  have g1 := eG h (g := 1004) (i := 0) (sy := 0) (c := -1) (by decide) (List.Mem.tail _ (List.Mem.head _))
  have g1 : (γ 1004 0).toInt = σ 0 + (-1) := g1
  have b1 := eB h (i := 1) (lo := 0) (hi := 39) rfl
  have b2 := eB h (i := 2) (lo := 0) (hi := 40) rfl
  have z1 := h.1.2.1.2.2 1 2 (-1) (List.Mem.head _)
  have s0 := h.1.2.1.1
  have h8 : x8 (s, γ) := h.2.2.2.1.2
  have hX : tXI γ M := h.2.2.2.2.2.2
  have hT := aTp_of h.2.2.2
  have hd := hT.hd (c := 181) (by decide) (by decide)
  have hda := hT.hd (c := 217) (by decide) (by decide)
  have hf := t181_ref hT (i := 50) (g := 217) (lo := 0) (hi := 0) (by decide) rfl rfl
  obtain ⟨y, y1, y2, y3⟩ := hT.int (c := 217) (i := x.toInt.toNat) (by decide) (by decide) (by show _ < 40; omega) (lo := 0) (hi' := 39) (gs := []) rfl
  refine kAload (mi := 225) (pc := 16) (len := 1) (i := 0) rfl hr ?_
  refine kGetf (len := 3) (j := 1150) rfl hd (by decide) hf ?_
  refine kIload (len := 2) (i := 6) rfl hx ?_
  refine kIald (len := 1) (n := 40) rfl hda (by omega) (by show x.toInt < 40; omega) y1 ?_
  have n4 : xI (xv M) 181 49 = w.toInt := xI_at rfl hw
  refine k (gUp (gUp γ 1004 2 x) 1004 3 y) (aUp σ 3 y.toInt) _ L [.int y] M (List.Mem.head _) (fun _ _ => rfl) aFr.rf (gFr_up rfl (gFr_up rfl gFr.rf)) aUp_ext ?_
  refine mkHold (by decide) s0 ⟨b00 s0, b1, b2, ⟨y2, y3⟩, True.intro⟩ True.intro ⟨hF1_gh (by decide) (by decide) ex, hF1_gh (by decide) (by decide) ?_, True.intro⟩ ⟨⟨by decide, y, rfl, ?_⟩, True.intro⟩ (aMem_mk h8 hT ⟨hX.1, hX.2.1, ?_, hX.2.2.2⟩)
  · show y.toInt = y.toInt + 0
    omega
  · show y.toInt = y.toInt + 0
    omega
  · obtain ⟨p1, p4, p5, p6, p7⟩ := hX.2.2.1
    refine ⟨p1, p4, p5, ?_, p7⟩
    intro _
    exact ⟨by show (γ 1004 0).toInt = -1; omega, by show x.toInt < _; omega, xI_at rfl y1⟩
theorem gs_bo2 {s : List Int32} : gSound0 s sg_bo2 := by
  intro γ d σ L st0 st M Q _ h k
  have e0 := eNil h
  subst e0
  obtain ⟨x, hx, ex⟩ := eI h (i := 7) (sy := 2) (c := 0) rfl
  have g1 := eG h (g := 1004) (i := 2) (sy := 1) (c := 0) (by decide) (List.Mem.head _)
  have g2 := eG h (g := 1004) (i := 3) (sy := 2) (c := 0) (by decide) (List.Mem.tail _ (List.Mem.head _))
  have b1 := eB h (i := 1) (lo := 0) (hi := 39) rfl
  have b2 := eB h (i := 2) (lo := 0) (hi := 39) rfl
  have s0 := h.1.2.1.1
  have h8 : x8 (s, γ) := h.2.2.2.1.2
  have hX : tXI γ M := h.2.2.2.2.2.2
  refine kIload (mi := 225) (pc := 69) (len := 2) (i := 7) rfl hx ?_
  refine k (gUp (gUp γ 1004 4 (γ 1004 2)) 1004 5 (γ 1004 3)) σ _ L [.int x] M (List.Mem.head _) (fun _ _ => rfl) aFr.rf (gFr_up rfl (gFr_up rfl gFr.rf)) aExt.rf ?_
  obtain ⟨p1, p4, p5, p6, p7⟩ := hX.2.2.1
  exact mkHold (by decide) s0 ⟨b00 s0, b1, b2, True.intro⟩ True.intro ⟨hF1_gh (by decide) (by decide) g1, hF1_gh (by decide) (by decide) g2, True.intro⟩ ⟨⟨by decide, x, rfl, ex⟩, True.intro⟩ (aMem_mk h8 (aTp_of h.2.2.2) ⟨hX.1, hX.2.1, ⟨p1, p4, p5, p6, p6⟩, hX.2.2.2⟩)
theorem gs_po1 {s : List Int32} : gSound0 s sg_po1 := by
  intro γ d σ L st0 st M Q _ h k
  have e0 := eNil h
  subst e0
  have hr := eR h (i := 0) (g := 181) (c := 0) rfl rfl
  obtain ⟨z, hz, ez⟩ := eI h (i := 1) (sy := 1) (c := 0) rfl
  obtain ⟨x, hx, ex⟩ := eI h (i := 2) (sy := 2) (c := 0) rfl
  have g1 := eG h (g := 1004) (i := 0) (sy := 0) (c := -1) (by decide) (List.Mem.head _)
  have g1 : (γ 1004 0).toInt = σ 0 + (-1) := g1
  have g2 := eG h (g := 1004) (i := 4) (sy := 3) (c := 0) (by decide) (List.Mem.tail _ (List.Mem.head _))
  have g2 : (γ 1004 4).toInt = σ 3 + 0 := g2
  have g3 := eG h (g := 1004) (i := 5) (sy := 1) (c := 0) (by decide) (List.Mem.tail _ (List.Mem.tail _ (List.Mem.head _)))
  have g3 : (γ 1004 5).toInt = σ 1 + 0 := g3
  have b1 := eB h (i := 1) (lo := 0) (hi := 39) rfl
  have b2 := eB h (i := 2) (lo := 0) (hi := 39) rfl
  have b3 := eB h (i := 3) (lo := 0) (hi := 39) rfl
  have z1 := (h.1.2.1.2.2 2 3 0 (List.Mem.head _)).2.2
  have s0 := h.1.2.1.1
  have h8 : x8 (s, γ) := h.2.2.2.1.2
  have hX : tXI γ M := h.2.2.2.2.2.2
  have hT := aTp_of h.2.2.2
  have hd := hT.hd (c := 181) (by decide) (by decide)
  have hda := hT.hd (c := 217) (by decide) (by decide)
  have hf := t181_ref hT (i := 50) (g := 217) (lo := 0) (hi := 0) (by decide) rfl rfl
  obtain ⟨y, y1, y2, y3⟩ := hT.int (c := 217) (i := x.toInt.toNat) (by decide) (by decide) (by show _ < 40; omega) (lo := 0) (hi' := 39) (gs := []) rfl
  refine kAload (mi := 226) (pc := 2) (len := 1) (i := 0) rfl hr ?_
  refine kGetf (len := 3) (j := 1150) rfl hd (by decide) hf ?_
  refine kIload (len := 1) (i := 2) rfl hx ?_
  refine kIald (len := 1) (n := 40) rfl hda (by omega) (by show x.toInt < 40; omega) y1 ?_
  have n1 : xI (xv M) 217 x.toInt.toNat = y.toInt := xI_at rfl y1
  have hm : (γ 1004 0).toInt = -1 := by omega
  obtain ⟨p1, p4, p5, p6, p7⟩ := hX.2.2.1
  obtain ⟨_, q2, q3⟩ := p7 (by omega)
  rw [hm, xEnd_m] at p4
  by_cases e : y.toInt = z.toInt
  · have exp : x.toInt = (γ 1004 4).toInt := by
      by_cases e2 : x.toInt = (γ 1004 4).toInt
      · exact e2
      · have := p4 x.toInt.toNat (γ 1004 4).toInt.toNat (by omega) (by omega) (by omega) (by omega)
        omega
    have eyz : y = z := Int32.toInt_inj.mp e
    refine k γ σ _ L [.int y] M (List.Mem.head _) (fun _ _ => rfl) aFr.rf gFr.rf aExt.rf ?_
    refine mkHold (by decide) s0 ⟨b00 s0, b1, b2, b3, True.intro⟩ ⟨⟨by decide, by decide, z1⟩, ⟨by decide, by decide, ?_⟩, True.intro⟩ True.intro ⟨⟨by decide, y, rfl, ?_⟩, True.intro⟩ h.2.2.2
    · show σ 3 - σ 2 ≤ 0
      omega
    · rw [eyz]; exact ez
  · have nx : x.toInt ≠ (γ 1004 4).toInt := by
      intro e2
      rw [← e2] at q3
      omega
    by_cases e2 : y.toInt < z.toInt
    · refine k γ (aUp σ 4 y.toInt) _ L [.int y] M (List.Mem.tail _ (List.Mem.head _)) (fun _ _ => rfl) aFr.rf gFr.rf aUp_ext ?_
      refine mkHold (by decide) s0 ⟨b00 s0, b1, b2, b3, ⟨y2, y3⟩, True.intro⟩ ⟨⟨by decide, by decide, ?_⟩, ⟨by decide, by decide, ?_⟩, True.intro⟩ True.intro ⟨⟨by decide, y, rfl, ?_⟩, True.intro⟩ h.2.2.2
      · show σ 2 - σ 3 ≤ -1
        omega
      · show y.toInt - σ 1 ≤ -1
        omega
      · show y.toInt = y.toInt + 0
        omega
    · refine k γ (aUp σ 4 y.toInt) _ L [.int y] M (List.Mem.tail _ (List.Mem.tail _ (List.Mem.head _))) (fun _ _ => rfl) aFr.rf gFr.rf aUp_ext ?_
      refine mkHold (by decide) s0 ⟨b00 s0, b1, b2, b3, ⟨y2, y3⟩, True.intro⟩ ⟨⟨by decide, by decide, ?_⟩, ⟨by decide, by decide, ?_⟩, True.intro⟩ True.intro ⟨⟨by decide, y, rfl, ?_⟩, True.intro⟩ h.2.2.2
      · show σ 2 - σ 3 ≤ -1
        omega
      · show σ 1 - y.toInt ≤ -1
        omega
      · show y.toInt = y.toInt + 0
        omega
