/-! the protected slots seen after a store; the wells' pieces -/
theorem xv_put {M : Mem} {a i c : Nat} {v : Value} (h : c ≠ a) : xv (mPut M a i v) c = xv M c := by
  funext j
  unfold xv
  rw [mSlot_put_ne (Or.inl h)]
theorem xv_put2 {M : Mem} {a i c j : Nat} {v : Value} (h : j ≠ i) : xv (mPut M a i v) c j = xv M c j := by
  unfold xv
  rw [mSlot_put_ne (Or.inr h)]
theorem xI_at {M : Mem} {c i : Nat} {x : Int32} (hp : tPro0 (tGrp c) (aSlK c i) = true) (h : mSlot M c i = some (.int x)) : xI (xv M) c i = x.toInt := by
  unfold xI xv
  rw [hp, h]
  rfl
theorem xI_put {M : Mem} {a i t n : Nat} {x : Int32} (hp : tPro0 (tGrp a) (aSlK a i) = true) (hh : mHd M a = some (t, n)) (hi : i < n) : xI (xv (mPut M a i (.int x))) a i = x.toInt := xI_at hp (mSlot_put_eq hh hi)
theorem xI_ne {M : Mem} {a i c j : Nat} {v : Value} (h : c ≠ a ∨ j ≠ i) : xI (xv (mPut M a i v)) c j = xI (xv M) c j := by
  unfold xI
  rcases h with h | h
  · rw [xv_put h]
  · rw [xv_put2 h]
section
variable {γ : Gh} {V V' : Vw}
theorem x3_c (h : V' 201 = V 201) (hx : x3 γ V) : x3 γ V' := by
  have e : xI V' 201 = xI V 201 := by funext i; unfold xI; rw [h]
  unfold x3 xWl at hx ⊢
  rw [e]
  exact hx
theorem x4_c (h : V' 217 = V 217) (h2 : V' 181 = V 181) (hx : x4 γ V) : x4 γ V' := by
  have e : xI V' 217 = xI V 217 := by funext i; unfold xI; rw [h]
  have e2 : xI V' 181 = xI V 181 := by funext i; unfold xI; rw [h2]
  unfold x4 xPl at hx ⊢
  rw [e, e2]
  exact hx
theorem x5_c (h : ∀ c, 209 ≤ c → c ≤ 214 → V' c = V c) (hx : x5 γ V) : x5 γ V' := by
  have e : ∀ c, 209 ≤ c → c ≤ 214 → xI V' c = xI V c := by intro c h1 h2; funext i; unfold xI; rw [h c h1 h2]
  unfold x5 xCl xIn xVp at hx ⊢
  rw [e 209 (by decide) (by decide), e 210 (by decide) (by decide), e 211 (by decide) (by decide), e 212 (by decide) (by decide), e 213 (by decide) (by decide), e 214 (by decide) (by decide)]
  exact hx
theorem x6_c (h : V' 209 = V 209) (h2 : V' 215 = V 215) (hx : x6 γ V) : x6 γ V' := by
  have e : xI V' 209 = xI V 209 := by funext i; unfold xI; rw [h]
  have e2 : xI V' 215 = xI V 215 := by funext i; unfold xI; rw [h2]
  unfold x6 at hx ⊢
  rw [e, e2]
  exact hx
theorem x7_c (h : V' 202 = V 202) (hx : x7 γ V) : x7 γ V' := by
  unfold x7 at hx ⊢
  rw [h]
  exact hx
theorem xp_c (h : ∀ c, 203 ≤ c → c ≤ 208 → V' c = V c) (h2 : V' 181 = V 181) (hx : xp γ V) : xp γ V' := by
  have e : ∀ c, 203 ≤ c → c ≤ 208 → xI V' c = xI V c := by intro c h1 h2; funext i; unfold xI; rw [h c h1 h2]
  have e2 : xI V' 181 = xI V 181 := by funext i; unfold xI; rw [h2]
  unfold xp xSc at hx ⊢
  rw [e 203 (by decide) (by decide), e 204 (by decide) (by decide), e 205 (by decide) (by decide), e 206 (by decide) (by decide), e 207 (by decide) (by decide), e 208 (by decide) (by decide), e2]
  exact hx
end
theorem xCnt_rng {f : Nat → Int} : ∀ n, 0 ≤ xCnt f n ∧ xCnt f n ≤ (n : Int)
  | 0 => ⟨Int.le_refl _, Int.le_refl _⟩
  | n + 1 => by
    have := xCnt_rng (f := f) n
    unfold xCnt
    by_cases h : f n = 0
    · rw [if_pos h]; omega
    · rw [if_neg h]; omega
theorem xCnt_same {f g : Nat → Int} : ∀ n, (∀ i, i < n → g i = f i) → xCnt g n = xCnt f n
  | 0, _ => rfl
  | n + 1, h => by
    unfold xCnt
    rw [xCnt_same n (fun i hi => h i (by omega)), h n (by omega)]
theorem xCnt_less {f g : Nat → Int} {k : Nat} (hf : f k = 0) (hg : g k ≠ 0) (hs : ∀ i, i ≠ k → g i = f i) : ∀ n, k < n → xCnt g n = xCnt f n - 1
  | 0, h => absurd h (Nat.not_lt_zero _)
  | n + 1, h => by
    unfold xCnt
    by_cases e : k = n
    · subst e
      rw [xCnt_same k (fun i hi => hs i (by omega)), if_pos hf, if_neg hg]
      omega
    · rw [xCnt_less hf hg hs n (by omega), hs n (fun h => e h.symm)]
      omega
theorem t181_ref {s : List Int32} {M : Mem} (h : aTp s M) {i g : Nat} {lo hi : Int} (hi' : i < tSiz 181) (ht : tTy 181 i = (2, lo, hi, [g])) (hs : tSin g = true) : mSlot M 181 i = some (.ref g) := h.ref (c := 181) (by decide) (by decide) hi' ht hs
theorem gs_nw1 {s : List Int32} : gSound0 s sg_nw1 := by
  intro γ d σ L st0 st M Q _ h k
  have e0 := eNil h
  subst e0
  have hr := eR h (i := 0) (g := 181) (c := 0) rfl rfl
  obtain ⟨x, hx, ex⟩ := eI h (i := 2) (sy := 1) (c := 0) rfl
  have b1 := eB h (i := 1) (lo := 0) (hi := 19) rfl
  have s0 := h.1.2.1.1
  have h8 : x8 (s, γ) := h.2.2.2.1.2
  have hX : tXI γ M := h.2.2.2.2.2.2
  have hT := aTp_of h.2.2.2
  obtain ⟨y, y1, y2, y3⟩ := hT.int (c := 201) (i := x.toInt.toNat) (by decide) (by decide) (by show _ < 20; omega) (lo := 0) (hi' := 1) (gs := []) rfl
  refine kAload (mi := 186) (pc := 12) (len := 1) (i := 0) rfl hr ?_
  refine kGetf (len := 3) (j := 1123) rfl (hT.hd (by decide) (by decide)) (by decide) (t181_ref hT (i := 23) (g := 201) (lo := 0) (hi := 0) (by decide) rfl rfl) ?_
  refine kIload (len := 1) (i := 2) rfl hx ?_
  refine kBald (len := 1) (n := 20) rfl (hT.hd (c := 201) (by decide) (by decide)) rfl (by omega) (by omega) y1 ?_
  rcases i32_zo y2 y3 with e | e
  · subst e
    refine k (gUp γ 1003 1 x) σ _ L [.int 0] M (List.Mem.head _) (fun _ _ => rfl) aFr.rf (gFr_up rfl gFr.rf) aExt.rf ?_
    refine mkHold (by decide) s0 ⟨b00 s0, b1, True.intro⟩ True.intro ⟨hF1_gh (by decide) (by decide) ex, True.intro⟩ ⟨⟨by decide, 0, rfl, ?_⟩, True.intro⟩ (aMem_mk h8 hT ?_)
    · show (0 : Int) = σ 0 + 0
      omega
    · refine ⟨hX.1, ⟨hX.2.1.1, ?_, hX.2.1.2.2⟩, hX.2.2⟩
      intro _
      exact ⟨by show x.toInt < 20; omega, xI_at rfl y1⟩
  · subst e
    refine k γ σ _ L [.int 1] M (List.Mem.tail _ (List.Mem.head _)) (fun _ _ => rfl) aFr.rf gFr.rf aExt.rf ?_
    refine mkHold (by decide) s0 ⟨b00 s0, b1, True.intro⟩ True.intro True.intro ⟨⟨by decide, 1, rfl, ?_⟩, True.intro⟩ h.2.2.2
    show (1 : Int) = σ 0 + 1
    omega
theorem gs_nw2 {s : List Int32} : gSound0 s sg_nw2 := by
  intro γ d σ L st0 st M Q _ h k
  have e0 := eNil h
  subst e0
  obtain ⟨x, hx, ex⟩ := eI h (i := 2) (sy := 1) (c := 0) rfl
  have g1 := eG h (g := 1003) (i := 1) (sy := 1) (c := 0) (by decide) (List.Mem.head _)
  have b1 := eB h (i := 1) (lo := 0) (hi := 19) rfl
  have s0 := h.1.2.1.1
  have h8 : x8 (s, γ) := h.2.2.2.1.2
  have hX : tXI γ M := h.2.2.2.2.2.2
  refine kIload (mi := 186) (pc := 41) (len := 1) (i := 2) rfl hx ?_
  refine k (gUp γ 1003 2 (γ 1003 1)) σ _ L [.int x] M (List.Mem.head _) (fun _ _ => rfl) aFr.rf (gFr_up rfl gFr.rf) aExt.rf ?_
  exact mkHold (by decide) s0 ⟨b00 s0, b1, True.intro⟩ True.intro ⟨hF1_gh (by decide) (by decide) g1, True.intro⟩ ⟨⟨by decide, x, rfl, ex⟩, True.intro⟩ (aMem_mk h8 (aTp_of h.2.2.2) ⟨hX.1, ⟨hX.2.1.1, hX.2.1.2.1, hX.2.1.2.1⟩, hX.2.2⟩)
theorem gs_lk0 {s : List Int32} : gSound0 s sg_lk0 := by
  intro γ d σ L st0 st M Q _ h k
  have e0 := eNil h
  subst e0
  have s0 := h.1.2.1.1
  have h8 : x8 (s, γ) := h.2.2.2.1.2
  have hX : tXI γ M := h.2.2.2.2.2.2
  have r := xCnt_rng (f := xI (xv M) 201) 20
  have e : (γ 1003 0).toInt = xCnt (xI (xv M) 201) 20 := hX.2.1.1
  refine kIconst (mi := 188) (pc := 111) (len := 1) (v := 0) rfl ?_
  refine k γ (aUp σ 1 (γ 1003 0).toInt) _ L [.int 0] M (List.Mem.head _) (fun _ _ => rfl) aFr.rf gFr.rf aUp_ext ?_
  refine mkHold (by decide) s0 ⟨b00 s0, ⟨by show (0 : Int) ≤ (γ 1003 0).toInt; omega, by show (γ 1003 0).toInt ≤ 20; omega⟩, True.intro⟩ True.intro ⟨hF1_gh (by decide) (by decide) ?_, True.intro⟩ ⟨⟨by decide, 0, rfl, ?_⟩, True.intro⟩ h.2.2.2
  · show (γ 1003 0).toInt = (γ 1003 0).toInt + 0
    omega
  · show (0 : Int) = σ 0 + 0
    omega
/-- a store into isDone -/
theorem done_put {s : List Int32} {γ γ' : Gh} {M : Mem} (hX : tXI γ M) {k : Nat} {x : Int32} (h2 : x2 γ') (h3 : x3 γ' (xv (mPut M 201 k (.int x)))) (h4 : x4 γ' (xv M)) (h5 : x5 γ' (xv M)) (h6 : x6 γ' (xv M)) (h7 : x7 γ' (xv M)) (hp : xp γ' (xv M)) : tXI γ' (mPut M 201 k (.int x)) :=
  ⟨h2, h3, x4_c (xv_put (by decide)) (xv_put (by decide)) h4, x5_c (fun c h1 h2 => xv_put (by omega)) h5, x6_c (xv_put (by decide)) (xv_put (by decide)) h6, x7_c (xv_put (by decide)) h7, xp_c (fun c h1 h2 => xv_put (by omega)) (xv_put (by decide)) hp⟩
theorem gs_lk1 {s : List Int32} : gSound0 s sg_lk1 := by
  intro γ d σ L st0 st M Q _ h k
  have e0 := eNil h
  subst e0
  have hr := eR h (i := 0) (g := 181) (c := 0) rfl rfl
  obtain ⟨x, hx, ex⟩ := eI h (i := 1) (sy := 1) (c := 0) rfl
  have b1 := eB h (i := 1) (lo := 0) (hi := 19) rfl
  have s0 := h.1.2.1.1
  have h8 : x8 (s, γ) := h.2.2.2.1.2
  have hX : tXI γ M := h.2.2.2.2.2.2
  have hT := aTp_of h.2.2.2
  have hd := hT.hd (c := 201) (by decide) (by decide)
  refine kAload (mi := 188) (pc := 121) (len := 1) (i := 0) rfl hr ?_
  refine kGetf (len := 3) (j := 1123) rfl (hT.hd (by decide) (by decide)) (by decide) (t181_ref hT (i := 23) (g := 201) (lo := 0) (hi := 0) (by decide) rfl rfl) ?_
  refine kIload (len := 1) (i := 1) rfl hx ?_
  refine kIconst (len := 1) (v := 0) rfl ?_
  refine kBast (len := 1) (t := 67) (n := 20) (z := 0) rfl hd (by decide) (by omega) (by omega) rfl ?_
  have r := xCnt_rng (f := xI (xv (mPut M 201 x.toInt.toNat (.int 0))) 201) 20
  have w : ∀ q : Int32, xWl (xv M) q → xWl (xv (mPut M 201 x.toInt.toNat (.int 0))) q := by
    intro q hq h0
    obtain ⟨q1, q2⟩ := hq h0
    refine ⟨q1, ?_⟩
    by_cases e : q.toInt.toNat = x.toInt.toNat
    · rw [e]
      exact xI_put rfl hd (by show _ < 20; omega)
    · rw [xI_ne (Or.inr e)]
      exact q2
  have ec : (Int32.ofInt (xCnt (xI (xv (mPut M 201 x.toInt.toNat (.int 0))) 201) 20)).toInt = xCnt (xI (xv (mPut M 201 x.toInt.toNat (.int 0))) 201) 20 := i32_ofInt (by omega) (by omega)
  refine k (gUp γ 1003 0 (Int32.ofInt (xCnt (xI (xv (mPut M 201 x.toInt.toNat (.int 0))) 201) 20))) (aUp σ 2 (xCnt (xI (xv (mPut M 201 x.toInt.toNat (.int 0))) 201) 20)) _ L [] _ (List.Mem.head _) (fun _ _ => rfl) (aFr_put rfl) (gFr_up rfl gFr.rf) aUp_ext ?_
  refine mkHold (by decide) s0 ⟨b00 s0, b1, ⟨r.1, r.2⟩, True.intro⟩ True.intro ⟨hF1_gh (by decide) (by decide) ?_, True.intro⟩ True.intro (aMem_mk h8 (hT.put (by decide) (by decide) ⟨0, rfl, (by show (0 : Int) ≤ Int32.toInt 0; decide), (by show Int32.toInt 0 ≤ 1; decide)⟩) ?_)
  · show (Int32.ofInt _).toInt = xCnt _ 20 + 0
    rw [ec]
    omega
  · exact done_put (s := s) hX hX.1 ⟨ec, w _ hX.2.1.2.1, w _ hX.2.1.2.2⟩ hX.2.2.1 hX.2.2.2.1 hX.2.2.2.2.1 hX.2.2.2.2.2.1 hX.2.2.2.2.2.2
theorem gs_lk2 {s : List Int32} : gSound0 s sg_lk2 := by
  intro γ d σ L st0 st M Q _ h k
  have e0 := eNil h
  subst e0
  have hr := eR h (i := 0) (g := 181) (c := 0) rfl rfl
  obtain ⟨x, hx, ex⟩ := eI h (i := 1) (sy := 1) (c := 0) rfl
  have g1 := eG h (g := 1003) (i := 2) (sy := 1) (c := 0) (by decide) (List.Mem.head _)
  have g2 := eG h (g := 1003) (i := 0) (sy := 2) (c := 0) (by decide) (List.Mem.tail _ (List.Mem.head _))
  have b1 := eB h (i := 1) (lo := 0) (hi := 19) rfl
  have b2 := eB h (i := 2) (lo := 0) (hi := 20) rfl
  have s0 := h.1.2.1.1
  have h8 : x8 (s, γ) := h.2.2.2.1.2
  have hX : tXI γ M := h.2.2.2.2.2.2
  have hT := aTp_of h.2.2.2
  have hd := hT.hd (c := 201) (by decide) (by decide)
  refine kAload (mi := 188) (pc := 144) (len := 1) (i := 0) rfl hr ?_
  refine kGetf (len := 3) (j := 1123) rfl (hT.hd (by decide) (by decide)) (by decide) (t181_ref hT (i := 23) (g := 201) (lo := 0) (hi := 0) (by decide) rfl rfl) ?_
  refine kIload (len := 1) (i := 1) rfl hx ?_
  refine kIconst (len := 1) (v := 1) rfl ?_
  refine kBast (len := 1) (t := 67) (n := 20) (z := 1) rfl hd (by decide) (by omega) (by omega) rfl ?_
  have g1 : (γ 1003 2).toInt = σ 1 + 0 := g1
  have g2 : (γ 1003 0).toInt = σ 2 + 0 := g2
  obtain ⟨q1, q2⟩ := hX.2.1.2.2 (by omega)
  have eb : (γ 1003 2).toInt.toNat = x.toInt.toNat := by omega
  rw [eb] at q2
  have n1 : xI (xv (mPut M 201 x.toInt.toNat (.int 1))) 201 x.toInt.toNat = 1 := xI_put rfl hd (by show _ < 20; omega)
  have hc := xCnt_less (f := xI (xv M) 201) (g := xI (xv (mPut M 201 x.toInt.toNat (.int 1))) 201) q2 (by rw [n1]; decide) (fun i hi => xI_ne (Or.inr hi)) 20 (by omega)
  have r := xCnt_rng (f := xI (xv (mPut M 201 x.toInt.toNat (.int 1))) 201) 20
  have e : (γ 1003 0).toInt = xCnt (xI (xv M) 201) 20 := hX.2.1.1
  have ec : (Int32.ofInt ((γ 1003 0).toInt - 1)).toInt = (γ 1003 0).toInt - 1 := i32_ofInt (by omega) (by omega)
  refine k (gUp (gUp (gUp γ 1003 0 (Int32.ofInt ((γ 1003 0).toInt - 1))) 1003 1 (-1)) 1003 2 (-1)) σ _ L [] _ (List.Mem.head _) (fun _ _ => rfl) (aFr_put rfl) (gFr_up rfl (gFr_up rfl (gFr_up rfl gFr.rf))) aExt.rf ?_
  refine mkHold (by decide) s0 ⟨b00 s0, b1, b2, True.intro⟩ ⟨⟨by decide, by decide, ?_⟩, True.intro⟩ ⟨hF1_gh (by decide) (by decide) ?_, True.intro⟩ True.intro (aMem_mk h8 (hT.put (by decide) (by decide) ⟨1, rfl, (by show (0 : Int) ≤ Int32.toInt 1; decide), (by show Int32.toInt 1 ≤ 1; decide)⟩) ?_)
  · show σ 0 - σ 2 ≤ -1
    omega
  · show (Int32.ofInt ((γ 1003 0).toInt - 1)).toInt = σ 2 + (-1)
    rw [ec]
    omega
  · refine done_put (s := s) hX hX.1 ⟨?_, (fun h0 => absurd (show 0 ≤ Int32.toInt (-1) from h0) (by decide)), (fun h0 => absurd (show 0 ≤ Int32.toInt (-1) from h0) (by decide))⟩ hX.2.2.1 hX.2.2.2.1 hX.2.2.2.2.1 hX.2.2.2.2.2.1 hX.2.2.2.2.2.2
    show (Int32.ofInt ((γ 1003 0).toInt - 1)).toInt = _
    rw [ec, hc, e]
