/-! a law is what the draft was -/
theorem xv_set0 {M : Mem} {a t : Nat} {fs fs' : List Value} (hm : M[a]? = some (t, fs)) (hp : ∀ i, tPro0 (tGrp a) (aSlK a i) = false) : xv (M.set a (t, fs')) = xv M := by
  funext c i
  unfold xv
  cases hq : tPro0 (tGrp c) (aSlK c i) with
  | false => rfl
  | true =>
    dsimp only [cond_true]
    rw [mSlot_set hm]
    by_cases e : c = a
    · subst e
      rw [hp i] at hq
      cases hq
    · rw [if_neg e]
theorem aFr_cpy {mod : List (Nat × Nat)} {M : Mem} {a : Nat} {fs fs' : List Value} (hm : M[a]? = some (64, fs)) (hl : fs'.length = fs.length) (h64 : tTag (tGrp a) = 64) (hmod : memP (tGrp a) 0 mod = true) : aFr mod M (M.set a (64, fs')) := by
  refine ⟨List.length_set, mSl_set hm hl, fun c i _ _ _ c4 _ => ?_, fun c i _ _ _ c4 => ?_⟩
  · rw [mSlot_set hm]
    by_cases e : c = a
    · subst e
      omega
    · rw [if_neg e]
  · rw [mSlot_set hm]
    by_cases e : c = a
    · subst e
      have e0 : aSlK c i = 0 := by unfold aSlK; rw [h64]; rfl
      rw [e0, hmod] at c4
      cases c4
    · rw [if_neg e]
def CJ (s : List Int32) (mod : List (Nat × Nat)) (M0 M : Mem) : Prop := aTp s M ∧ xv M = xv M0 ∧ aFr mod M0 M
theorem CJ.put {s : List Int32} {mod : List (Nat × Nat)} {M0 M : Mem} (h : CJ s mod M0 M) {a i : Nat} {v : Value} (h2 : 2 ≤ a) (h3 : a < tEnd) (ht : aTy (tTy (tGrp a) i) v) (h0 : tPro0 (tGrp a) (aSlK a i) = false) (hm : memP (tGrp a) (aSlK a i) mod = true) : CJ s mod M0 (mPut M a i v) :=
  ⟨h.1.put h2 h3 ht, (xv_put0 h0).trans h.2.1, h.2.2.tr (aFr_put hm)⟩
theorem kCpy {s : List Int32} {mod : List (Nat × Nat)} {M0 M : Mem} {d mi pc len : Nat} {L : MLoc} {Q : Option Value → Mem → Prop} {a0 a1 sz : Nat} {nn z0 z1 : Int32} {lo0 hi0 lo1 hi1 : Int} (hd : 1 ≤ d) (h : CJ s mod M0 M) (a02 : 2 ≤ a0) (a03 : a0 < tEnd) (a12 : 2 ≤ a1) (a13 : a1 < tEnd) (hg0 : tTag (tGrp a0) = 64) (hg1 : tTag (tGrp a1) = 64) (hz0 : tSiz (tGrp a0) = sz) (hz1 : tSiz (tGrp a1) = sz) (ht0 : ∀ i, tTy (tGrp a0) i = (1, lo0, hi0, [])) (ht1 : ∀ i, tTy (tGrp a1) i = (1, lo1, hi1, [])) (hlo : lo1 ≤ lo0) (hhi : hi0 ≤ hi1) (hn : nn.toInt = (sz : Int)) (e0 : z0.toInt = 0) (e1 : z1.toInt = 0) (hp : ∀ i, tPro0 (tGrp a1) (aSlK a1 i) = false) (hm : memP (tGrp a1) 0 mod = true) (hat : mAt mi pc = some (len, .invokestatic 901)) (k : ∀ M', CJ s mod M0 M' → Ok d mi (pc + len) L [] M' Q) : Ok d mi pc L [.int nn, .int z1, .ref a1, .int z0, .ref a0] M Q := by
  obtain ⟨c0, m0, l0, t0⟩ := h.1.2.2 a0 a02 a03
  obtain ⟨c1, m1, l1, t1⟩ := h.1.2.2 a1 a12 a13
  rw [hg0] at m0
  rw [hg1] at m1
  have b1 : z0.toInt.toNat + nn.toInt.toNat ≤ c0.length := by omega
  have b2 : z1.toInt.toNat + nn.toInt.toNat ≤ c1.length := by omega
  refine Ok.prim hat (Or.inl rfl) (by decide) (st' := []) (M' := M.set a1 (64, mCpy c0 c1 z0.toInt.toNat z1.toInt.toNat nn.toInt.toNat)) ?_ (k _ ⟨⟨?_, ?_, ?_⟩, (xv_set0 m1 hp).trans h.2.1, h.2.2.tr (aFr_cpy m1 (mCpy_len _ _ _ _ _) hg1 hm)⟩)
  · unfold mPrim
    rw [if_neg (by decide), if_pos rfl]
    dsimp only
    rw [m0, m1]
    exact if_pos ⟨hd, by decide, (fun e => by rw [e] at a02; exact absurd a02 (by decide)), (fun e => by rw [e] at a12; exact absurd a12 (by decide)), by omega, by omega, by omega, b1, b2⟩
  · rw [List.getElem?_set_ne (by omega)]
    exact h.1.1
  · rw [List.getElem?_set_ne (by omega)]
    exact h.1.2.1
  · intro c hc hd'
    by_cases e : a1 = c
    · subst e
      obtain ⟨hL, _⟩ := List.getElem?_eq_some_iff.mp m1
      refine ⟨_, by rw [List.getElem?_set, if_pos rfl, if_pos hL, hg1], by rw [mCpy_len]; exact l1, ?_⟩
      intro i w hw
      rcases mCpy_get b1 hw with ⟨j, hj⟩ | ⟨j, hj⟩
      · have t := t0 j w hj
        rw [ht0] at t
        rw [ht1]
        obtain ⟨x, x1, x2, x3⟩ := t
        have x2 : lo0 ≤ x.toInt := x2
        have x3 : x.toInt ≤ hi0 := x3
        exact ⟨x, x1, by show lo1 ≤ x.toInt; omega, by show x.toInt ≤ hi1; omega⟩
      · have t := t1 j w hj
        rw [ht1] at t ⊢
        exact t
    · rw [List.getElem?_set_ne e]
      exact h.1.2.2 c hc hd'
theorem cs_lc0 {s : List Int32} : cSound9 s cm_lc0 := by
  intro γ d σ L M hd0 hA
  have hd0 : 1 ≤ d := hd0
  have h := aHold_0 hA
  have hl0 := eR h (i := 0) (g := 152) (c := 0) rfl rfl
  have hl1 := eR h (i := 1) (g := 131) (c := 0) rfl rfl
  have s0 := h.1.2.1.1
  have hx : x9 γ M := hA.2.2.2.1.2.2
  have hT := aTp_of h.2.2.2
  have c0 : CJ s cm_lc0.2.2.2.2.2 M M := ⟨hT, rfl, aFr.rf⟩
  refine kAload (mi := 59) (pc := 0) (len := 1) (i := 1) rfl hl1 ?_
  refine kGetf (mi := 59) (pc := 1) (len := 3) (j := 400) rfl (c0.1.hd (c := 131) (by decide) (by decide)) (by decide) (c0.1.ref (c := 131) (i := 0) (g := 132) (by decide) (by decide) (by decide) (lo := 0) (hi' := 0) rfl rfl) ?_
  refine kIconst (mi := 59) (pc := 4) (len := 1) (v := 0) rfl ?_
  refine kAload (mi := 59) (pc := 5) (len := 1) (i := 0) rfl hl0 ?_
  refine kGetf (mi := 59) (pc := 6) (len := 3) (j := 400) rfl (c0.1.hd (c := 152) (by decide) (by decide)) (by decide) (c0.1.ref (c := 152) (i := 0) (g := 153) (by decide) (by decide) (by decide) (lo := 0) (hi' := 0) rfl rfl) ?_
  refine kIconst (mi := 59) (pc := 9) (len := 1) (v := 0) rfl ?_
  refine kIconst (mi := 59) (pc := 10) (len := 3) (v := 160) rfl ?_
  refine kCpy (mi := 59) (pc := 13) (len := 3) (sz := 160) (lo0 := (-2147483648)) (hi0 := 2147483647) (lo1 := (-2147483648)) (hi1 := 2147483647) hd0 c0 (by decide) (by decide) (by decide) (by decide) rfl rfl rfl rfl (fun _ => rfl) (fun _ => rfl) (by decide) (by decide) (by decide) (by decide) (by decide) (fun _ => rfl) rfl rfl ?_
  intro M1 c1
  refine kAload (mi := 59) (pc := 16) (len := 1) (i := 0) rfl hl0 ?_
  refine kAload (mi := 59) (pc := 17) (len := 1) (i := 1) rfl hl1 ?_
  obtain ⟨x18, y18, lo18, hi18⟩ := c1.1.int (c := 131) (i := 1) (by decide) (by decide) (by decide) (lo := 0) (hi' := 160) (gs := []) rfl
  refine kGetf (mi := 59) (pc := 18) (len := 3) (j := 401) rfl (c1.1.hd (c := 131) (by decide) (by decide)) (by decide) y18 ?_
  refine kPutf (mi := 59) (pc := 21) (len := 3) (j := 401) rfl (c1.1.hd (c := 152) (by decide) (by decide)) (by decide) (by decide) rfl ?_
  have c2 := c1.put (a := 152) (i := 1) (v := .int x18) (by decide) (by decide) ⟨_, rfl, by show (0 : Int) ≤ x18.toInt; omega, by show x18.toInt ≤ (160 : Int); omega⟩ rfl rfl
  refine kAload (mi := 59) (pc := 24) (len := 1) (i := 1) rfl hl1 ?_
  refine kGetf (mi := 59) (pc := 25) (len := 3) (j := 402) rfl (c2.1.hd (c := 131) (by decide) (by decide)) (by decide) (c2.1.ref (c := 131) (i := 2) (g := 133) (by decide) (by decide) (by decide) (lo := 0) (hi' := 0) rfl rfl) ?_
  refine kIconst (mi := 59) (pc := 28) (len := 1) (v := 0) rfl ?_
  refine kAload (mi := 59) (pc := 29) (len := 1) (i := 0) rfl hl0 ?_
  refine kGetf (mi := 59) (pc := 30) (len := 3) (j := 402) rfl (c2.1.hd (c := 152) (by decide) (by decide)) (by decide) (c2.1.ref (c := 152) (i := 2) (g := 154) (by decide) (by decide) (by decide) (lo := 0) (hi' := 0) rfl rfl) ?_
  refine kIconst (mi := 59) (pc := 33) (len := 1) (v := 0) rfl ?_
  refine kIconst (mi := 59) (pc := 34) (len := 2) (v := 12) rfl ?_
  refine kCpy (mi := 59) (pc := 36) (len := 3) (sz := 12) (lo0 := 0) (hi0 := 159) (lo1 := 0) (hi1 := 159) hd0 c2 (by decide) (by decide) (by decide) (by decide) rfl rfl rfl rfl (fun _ => rfl) (fun _ => rfl) (by decide) (by decide) (by decide) (by decide) (by decide) (fun _ => rfl) rfl rfl ?_
  intro M3 c3
  refine kAload (mi := 59) (pc := 39) (len := 1) (i := 1) rfl hl1 ?_
  refine kGetf (mi := 59) (pc := 40) (len := 3) (j := 403) rfl (c3.1.hd (c := 131) (by decide) (by decide)) (by decide) (c3.1.ref (c := 131) (i := 3) (g := 134) (by decide) (by decide) (by decide) (lo := 0) (hi' := 0) rfl rfl) ?_
  refine kIconst (mi := 59) (pc := 43) (len := 1) (v := 0) rfl ?_
  refine kAload (mi := 59) (pc := 44) (len := 1) (i := 0) rfl hl0 ?_
  refine kGetf (mi := 59) (pc := 45) (len := 3) (j := 403) rfl (c3.1.hd (c := 152) (by decide) (by decide)) (by decide) (c3.1.ref (c := 152) (i := 3) (g := 155) (by decide) (by decide) (by decide) (lo := 0) (hi' := 0) rfl rfl) ?_
  refine kIconst (mi := 59) (pc := 48) (len := 1) (v := 0) rfl ?_
  refine kIconst (mi := 59) (pc := 49) (len := 2) (v := 12) rfl ?_
  refine kCpy (mi := 59) (pc := 51) (len := 3) (sz := 12) (lo0 := 0) (hi0 := 160) (lo1 := 0) (hi1 := 160) hd0 c3 (by decide) (by decide) (by decide) (by decide) rfl rfl rfl rfl (fun _ => rfl) (fun _ => rfl) (by decide) (by decide) (by decide) (by decide) (by decide) (fun _ => rfl) rfl rfl ?_
  intro M4 c4
  refine kAload (mi := 59) (pc := 54) (len := 1) (i := 1) rfl hl1 ?_
  refine kGetf (mi := 59) (pc := 55) (len := 3) (j := 404) rfl (c4.1.hd (c := 131) (by decide) (by decide)) (by decide) (c4.1.ref (c := 131) (i := 4) (g := 135) (by decide) (by decide) (by decide) (lo := 0) (hi' := 0) rfl rfl) ?_
  refine kIconst (mi := 59) (pc := 58) (len := 1) (v := 0) rfl ?_
  refine kAload (mi := 59) (pc := 59) (len := 1) (i := 0) rfl hl0 ?_
  refine kGetf (mi := 59) (pc := 60) (len := 3) (j := 404) rfl (c4.1.hd (c := 152) (by decide) (by decide)) (by decide) (c4.1.ref (c := 152) (i := 4) (g := 156) (by decide) (by decide) (by decide) (lo := 0) (hi' := 0) rfl rfl) ?_
  refine kIconst (mi := 59) (pc := 63) (len := 1) (v := 0) rfl ?_
  refine kIconst (mi := 59) (pc := 64) (len := 2) (v := 12) rfl ?_
  refine kCpy (mi := 59) (pc := 66) (len := 3) (sz := 12) (lo0 := 0) (hi0 := 160) (lo1 := 0) (hi1 := 160) hd0 c4 (by decide) (by decide) (by decide) (by decide) rfl rfl rfl rfl (fun _ => rfl) (fun _ => rfl) (by decide) (by decide) (by decide) (by decide) (by decide) (fun _ => rfl) rfl rfl ?_
  intro M5 c5
  refine kAload (mi := 59) (pc := 69) (len := 1) (i := 0) rfl hl0 ?_
  refine kAload (mi := 59) (pc := 70) (len := 1) (i := 1) rfl hl1 ?_
  obtain ⟨x71, y71, lo71, hi71⟩ := c5.1.int (c := 131) (i := 5) (by decide) (by decide) (by decide) (lo := 0) (hi' := 12) (gs := []) rfl
  refine kGetf (mi := 59) (pc := 71) (len := 3) (j := 405) rfl (c5.1.hd (c := 131) (by decide) (by decide)) (by decide) y71 ?_
  refine kPutf (mi := 59) (pc := 74) (len := 3) (j := 405) rfl (c5.1.hd (c := 152) (by decide) (by decide)) (by decide) (by decide) rfl ?_
  have c6 := c5.put (a := 152) (i := 5) (v := .int x71) (by decide) (by decide) ⟨_, rfl, by show (0 : Int) ≤ x71.toInt; omega, by show x71.toInt ≤ (12 : Int); omega⟩ rfl rfl
  refine kRetV (mi := 59) (pc := 77) (len := 1) rfl rfl ?_
  refine ⟨c6.2.2, γ, gFr.rf, _, List.Mem.head _, σ, aExt.rf, ?_⟩
  have hX : tXI γ M := hA.2.2.2.2.2.2
  unfold tXI at hX
  rw [← c6.2.1] at hX
  exact mkHold9 (by decide) s0 ⟨b00 s0, True.intro⟩ True.intro True.intro True.intro (aMem_9 (aMem_mk hA.2.2.2.1.2.1 c6.1 hX) (x9_fr c6.2.2 gFr.rf rfl hx))
theorem cs_lc1 {s : List Int32} : cSound9 s cm_lc1 := by
  intro γ d σ L M hd0 hA
  have hd0 : 1 ≤ d := hd0
  have h := aHold_0 hA
  have hl0 := eR h (i := 0) (g := 158) (c := 0) rfl rfl
  have hl1 := eR h (i := 1) (g := 131) (c := 0) rfl rfl
  have s0 := h.1.2.1.1
  have hx : x9 γ M := hA.2.2.2.1.2.2
  have hT := aTp_of h.2.2.2
  have c0 : CJ s cm_lc1.2.2.2.2.2 M M := ⟨hT, rfl, aFr.rf⟩
  refine kAload (mi := 59) (pc := 0) (len := 1) (i := 1) rfl hl1 ?_
  refine kGetf (mi := 59) (pc := 1) (len := 3) (j := 400) rfl (c0.1.hd (c := 131) (by decide) (by decide)) (by decide) (c0.1.ref (c := 131) (i := 0) (g := 132) (by decide) (by decide) (by decide) (lo := 0) (hi' := 0) rfl rfl) ?_
  refine kIconst (mi := 59) (pc := 4) (len := 1) (v := 0) rfl ?_
  refine kAload (mi := 59) (pc := 5) (len := 1) (i := 0) rfl hl0 ?_
  refine kGetf (mi := 59) (pc := 6) (len := 3) (j := 400) rfl (c0.1.hd (c := 158) (by decide) (by decide)) (by decide) (c0.1.ref (c := 158) (i := 0) (g := 159) (by decide) (by decide) (by decide) (lo := 0) (hi' := 0) rfl rfl) ?_
  refine kIconst (mi := 59) (pc := 9) (len := 1) (v := 0) rfl ?_
  refine kIconst (mi := 59) (pc := 10) (len := 3) (v := 160) rfl ?_
  refine kCpy (mi := 59) (pc := 13) (len := 3) (sz := 160) (lo0 := (-2147483648)) (hi0 := 2147483647) (lo1 := (-2147483648)) (hi1 := 2147483647) hd0 c0 (by decide) (by decide) (by decide) (by decide) rfl rfl rfl rfl (fun _ => rfl) (fun _ => rfl) (by decide) (by decide) (by decide) (by decide) (by decide) (fun _ => rfl) rfl rfl ?_
  intro M1 c1
  refine kAload (mi := 59) (pc := 16) (len := 1) (i := 0) rfl hl0 ?_
  refine kAload (mi := 59) (pc := 17) (len := 1) (i := 1) rfl hl1 ?_
  obtain ⟨x18, y18, lo18, hi18⟩ := c1.1.int (c := 131) (i := 1) (by decide) (by decide) (by decide) (lo := 0) (hi' := 160) (gs := []) rfl
  refine kGetf (mi := 59) (pc := 18) (len := 3) (j := 401) rfl (c1.1.hd (c := 131) (by decide) (by decide)) (by decide) y18 ?_
  refine kPutf (mi := 59) (pc := 21) (len := 3) (j := 401) rfl (c1.1.hd (c := 158) (by decide) (by decide)) (by decide) (by decide) rfl ?_
  have c2 := c1.put (a := 158) (i := 1) (v := .int x18) (by decide) (by decide) ⟨_, rfl, by show (0 : Int) ≤ x18.toInt; omega, by show x18.toInt ≤ (160 : Int); omega⟩ rfl rfl
  refine kAload (mi := 59) (pc := 24) (len := 1) (i := 1) rfl hl1 ?_
  refine kGetf (mi := 59) (pc := 25) (len := 3) (j := 402) rfl (c2.1.hd (c := 131) (by decide) (by decide)) (by decide) (c2.1.ref (c := 131) (i := 2) (g := 133) (by decide) (by decide) (by decide) (lo := 0) (hi' := 0) rfl rfl) ?_
  refine kIconst (mi := 59) (pc := 28) (len := 1) (v := 0) rfl ?_
  refine kAload (mi := 59) (pc := 29) (len := 1) (i := 0) rfl hl0 ?_
  refine kGetf (mi := 59) (pc := 30) (len := 3) (j := 402) rfl (c2.1.hd (c := 158) (by decide) (by decide)) (by decide) (c2.1.ref (c := 158) (i := 2) (g := 160) (by decide) (by decide) (by decide) (lo := 0) (hi' := 0) rfl rfl) ?_
  refine kIconst (mi := 59) (pc := 33) (len := 1) (v := 0) rfl ?_
  refine kIconst (mi := 59) (pc := 34) (len := 2) (v := 12) rfl ?_
  refine kCpy (mi := 59) (pc := 36) (len := 3) (sz := 12) (lo0 := 0) (hi0 := 159) (lo1 := 0) (hi1 := 159) hd0 c2 (by decide) (by decide) (by decide) (by decide) rfl rfl rfl rfl (fun _ => rfl) (fun _ => rfl) (by decide) (by decide) (by decide) (by decide) (by decide) (fun _ => rfl) rfl rfl ?_
  intro M3 c3
  refine kAload (mi := 59) (pc := 39) (len := 1) (i := 1) rfl hl1 ?_
  refine kGetf (mi := 59) (pc := 40) (len := 3) (j := 403) rfl (c3.1.hd (c := 131) (by decide) (by decide)) (by decide) (c3.1.ref (c := 131) (i := 3) (g := 134) (by decide) (by decide) (by decide) (lo := 0) (hi' := 0) rfl rfl) ?_
  refine kIconst (mi := 59) (pc := 43) (len := 1) (v := 0) rfl ?_
  refine kAload (mi := 59) (pc := 44) (len := 1) (i := 0) rfl hl0 ?_
  refine kGetf (mi := 59) (pc := 45) (len := 3) (j := 403) rfl (c3.1.hd (c := 158) (by decide) (by decide)) (by decide) (c3.1.ref (c := 158) (i := 3) (g := 161) (by decide) (by decide) (by decide) (lo := 0) (hi' := 0) rfl rfl) ?_
  refine kIconst (mi := 59) (pc := 48) (len := 1) (v := 0) rfl ?_
  refine kIconst (mi := 59) (pc := 49) (len := 2) (v := 12) rfl ?_
  refine kCpy (mi := 59) (pc := 51) (len := 3) (sz := 12) (lo0 := 0) (hi0 := 160) (lo1 := 0) (hi1 := 160) hd0 c3 (by decide) (by decide) (by decide) (by decide) rfl rfl rfl rfl (fun _ => rfl) (fun _ => rfl) (by decide) (by decide) (by decide) (by decide) (by decide) (fun _ => rfl) rfl rfl ?_
  intro M4 c4
  refine kAload (mi := 59) (pc := 54) (len := 1) (i := 1) rfl hl1 ?_
  refine kGetf (mi := 59) (pc := 55) (len := 3) (j := 404) rfl (c4.1.hd (c := 131) (by decide) (by decide)) (by decide) (c4.1.ref (c := 131) (i := 4) (g := 135) (by decide) (by decide) (by decide) (lo := 0) (hi' := 0) rfl rfl) ?_
  refine kIconst (mi := 59) (pc := 58) (len := 1) (v := 0) rfl ?_
  refine kAload (mi := 59) (pc := 59) (len := 1) (i := 0) rfl hl0 ?_
  refine kGetf (mi := 59) (pc := 60) (len := 3) (j := 404) rfl (c4.1.hd (c := 158) (by decide) (by decide)) (by decide) (c4.1.ref (c := 158) (i := 4) (g := 162) (by decide) (by decide) (by decide) (lo := 0) (hi' := 0) rfl rfl) ?_
  refine kIconst (mi := 59) (pc := 63) (len := 1) (v := 0) rfl ?_
  refine kIconst (mi := 59) (pc := 64) (len := 2) (v := 12) rfl ?_
  refine kCpy (mi := 59) (pc := 66) (len := 3) (sz := 12) (lo0 := 0) (hi0 := 160) (lo1 := 0) (hi1 := 160) hd0 c4 (by decide) (by decide) (by decide) (by decide) rfl rfl rfl rfl (fun _ => rfl) (fun _ => rfl) (by decide) (by decide) (by decide) (by decide) (by decide) (fun _ => rfl) rfl rfl ?_
  intro M5 c5
  refine kAload (mi := 59) (pc := 69) (len := 1) (i := 0) rfl hl0 ?_
  refine kAload (mi := 59) (pc := 70) (len := 1) (i := 1) rfl hl1 ?_
  obtain ⟨x71, y71, lo71, hi71⟩ := c5.1.int (c := 131) (i := 5) (by decide) (by decide) (by decide) (lo := 0) (hi' := 12) (gs := []) rfl
  refine kGetf (mi := 59) (pc := 71) (len := 3) (j := 405) rfl (c5.1.hd (c := 131) (by decide) (by decide)) (by decide) y71 ?_
  refine kPutf (mi := 59) (pc := 74) (len := 3) (j := 405) rfl (c5.1.hd (c := 158) (by decide) (by decide)) (by decide) (by decide) rfl ?_
  have c6 := c5.put (a := 158) (i := 5) (v := .int x71) (by decide) (by decide) ⟨_, rfl, by show (0 : Int) ≤ x71.toInt; omega, by show x71.toInt ≤ (12 : Int); omega⟩ rfl rfl
  refine kRetV (mi := 59) (pc := 77) (len := 1) rfl rfl ?_
  refine ⟨c6.2.2, γ, gFr.rf, _, List.Mem.head _, σ, aExt.rf, ?_⟩
  have hX : tXI γ M := hA.2.2.2.2.2.2
  unfold tXI at hX
  rw [← c6.2.1] at hX
  exact mkHold9 (by decide) s0 ⟨b00 s0, True.intro⟩ True.intro True.intro True.intro (aMem_9 (aMem_mk hA.2.2.2.1.2.1 c6.1 hX) (x9_fr c6.2.2 gFr.rf rfl hx))
theorem cs_lc2 {s : List Int32} : cSound9 s cm_lc2 := by
  intro γ d σ L M hd0 hA
  have hd0 : 1 ≤ d := hd0
  have h := aHold_0 hA
  have hl0 := eR h (i := 0) (g := 164) (c := 0) rfl rfl
  have hl1 := eR h (i := 1) (g := 131) (c := 0) rfl rfl
  have s0 := h.1.2.1.1
  have hx : x9 γ M := hA.2.2.2.1.2.2
  have hT := aTp_of h.2.2.2
  have c0 : CJ s cm_lc2.2.2.2.2.2 M M := ⟨hT, rfl, aFr.rf⟩
  refine kAload (mi := 59) (pc := 0) (len := 1) (i := 1) rfl hl1 ?_
  refine kGetf (mi := 59) (pc := 1) (len := 3) (j := 400) rfl (c0.1.hd (c := 131) (by decide) (by decide)) (by decide) (c0.1.ref (c := 131) (i := 0) (g := 132) (by decide) (by decide) (by decide) (lo := 0) (hi' := 0) rfl rfl) ?_
  refine kIconst (mi := 59) (pc := 4) (len := 1) (v := 0) rfl ?_
  refine kAload (mi := 59) (pc := 5) (len := 1) (i := 0) rfl hl0 ?_
  refine kGetf (mi := 59) (pc := 6) (len := 3) (j := 400) rfl (c0.1.hd (c := 164) (by decide) (by decide)) (by decide) (c0.1.ref (c := 164) (i := 0) (g := 165) (by decide) (by decide) (by decide) (lo := 0) (hi' := 0) rfl rfl) ?_
  refine kIconst (mi := 59) (pc := 9) (len := 1) (v := 0) rfl ?_
  refine kIconst (mi := 59) (pc := 10) (len := 3) (v := 160) rfl ?_
  refine kCpy (mi := 59) (pc := 13) (len := 3) (sz := 160) (lo0 := (-2147483648)) (hi0 := 2147483647) (lo1 := (-2147483648)) (hi1 := 2147483647) hd0 c0 (by decide) (by decide) (by decide) (by decide) rfl rfl rfl rfl (fun _ => rfl) (fun _ => rfl) (by decide) (by decide) (by decide) (by decide) (by decide) (fun _ => rfl) rfl rfl ?_
  intro M1 c1
  refine kAload (mi := 59) (pc := 16) (len := 1) (i := 0) rfl hl0 ?_
  refine kAload (mi := 59) (pc := 17) (len := 1) (i := 1) rfl hl1 ?_
  obtain ⟨x18, y18, lo18, hi18⟩ := c1.1.int (c := 131) (i := 1) (by decide) (by decide) (by decide) (lo := 0) (hi' := 160) (gs := []) rfl
  refine kGetf (mi := 59) (pc := 18) (len := 3) (j := 401) rfl (c1.1.hd (c := 131) (by decide) (by decide)) (by decide) y18 ?_
  refine kPutf (mi := 59) (pc := 21) (len := 3) (j := 401) rfl (c1.1.hd (c := 164) (by decide) (by decide)) (by decide) (by decide) rfl ?_
  have c2 := c1.put (a := 164) (i := 1) (v := .int x18) (by decide) (by decide) ⟨_, rfl, by show (0 : Int) ≤ x18.toInt; omega, by show x18.toInt ≤ (160 : Int); omega⟩ rfl rfl
  refine kAload (mi := 59) (pc := 24) (len := 1) (i := 1) rfl hl1 ?_
  refine kGetf (mi := 59) (pc := 25) (len := 3) (j := 402) rfl (c2.1.hd (c := 131) (by decide) (by decide)) (by decide) (c2.1.ref (c := 131) (i := 2) (g := 133) (by decide) (by decide) (by decide) (lo := 0) (hi' := 0) rfl rfl) ?_
  refine kIconst (mi := 59) (pc := 28) (len := 1) (v := 0) rfl ?_
  refine kAload (mi := 59) (pc := 29) (len := 1) (i := 0) rfl hl0 ?_
  refine kGetf (mi := 59) (pc := 30) (len := 3) (j := 402) rfl (c2.1.hd (c := 164) (by decide) (by decide)) (by decide) (c2.1.ref (c := 164) (i := 2) (g := 166) (by decide) (by decide) (by decide) (lo := 0) (hi' := 0) rfl rfl) ?_
  refine kIconst (mi := 59) (pc := 33) (len := 1) (v := 0) rfl ?_
  refine kIconst (mi := 59) (pc := 34) (len := 2) (v := 12) rfl ?_
  refine kCpy (mi := 59) (pc := 36) (len := 3) (sz := 12) (lo0 := 0) (hi0 := 159) (lo1 := 0) (hi1 := 159) hd0 c2 (by decide) (by decide) (by decide) (by decide) rfl rfl rfl rfl (fun _ => rfl) (fun _ => rfl) (by decide) (by decide) (by decide) (by decide) (by decide) (fun _ => rfl) rfl rfl ?_
  intro M3 c3
  refine kAload (mi := 59) (pc := 39) (len := 1) (i := 1) rfl hl1 ?_
  refine kGetf (mi := 59) (pc := 40) (len := 3) (j := 403) rfl (c3.1.hd (c := 131) (by decide) (by decide)) (by decide) (c3.1.ref (c := 131) (i := 3) (g := 134) (by decide) (by decide) (by decide) (lo := 0) (hi' := 0) rfl rfl) ?_
  refine kIconst (mi := 59) (pc := 43) (len := 1) (v := 0) rfl ?_
  refine kAload (mi := 59) (pc := 44) (len := 1) (i := 0) rfl hl0 ?_
  refine kGetf (mi := 59) (pc := 45) (len := 3) (j := 403) rfl (c3.1.hd (c := 164) (by decide) (by decide)) (by decide) (c3.1.ref (c := 164) (i := 3) (g := 167) (by decide) (by decide) (by decide) (lo := 0) (hi' := 0) rfl rfl) ?_
  refine kIconst (mi := 59) (pc := 48) (len := 1) (v := 0) rfl ?_
  refine kIconst (mi := 59) (pc := 49) (len := 2) (v := 12) rfl ?_
  refine kCpy (mi := 59) (pc := 51) (len := 3) (sz := 12) (lo0 := 0) (hi0 := 160) (lo1 := 0) (hi1 := 160) hd0 c3 (by decide) (by decide) (by decide) (by decide) rfl rfl rfl rfl (fun _ => rfl) (fun _ => rfl) (by decide) (by decide) (by decide) (by decide) (by decide) (fun _ => rfl) rfl rfl ?_
  intro M4 c4
  refine kAload (mi := 59) (pc := 54) (len := 1) (i := 1) rfl hl1 ?_
  refine kGetf (mi := 59) (pc := 55) (len := 3) (j := 404) rfl (c4.1.hd (c := 131) (by decide) (by decide)) (by decide) (c4.1.ref (c := 131) (i := 4) (g := 135) (by decide) (by decide) (by decide) (lo := 0) (hi' := 0) rfl rfl) ?_
  refine kIconst (mi := 59) (pc := 58) (len := 1) (v := 0) rfl ?_
  refine kAload (mi := 59) (pc := 59) (len := 1) (i := 0) rfl hl0 ?_
  refine kGetf (mi := 59) (pc := 60) (len := 3) (j := 404) rfl (c4.1.hd (c := 164) (by decide) (by decide)) (by decide) (c4.1.ref (c := 164) (i := 4) (g := 168) (by decide) (by decide) (by decide) (lo := 0) (hi' := 0) rfl rfl) ?_
  refine kIconst (mi := 59) (pc := 63) (len := 1) (v := 0) rfl ?_
  refine kIconst (mi := 59) (pc := 64) (len := 2) (v := 12) rfl ?_
  refine kCpy (mi := 59) (pc := 66) (len := 3) (sz := 12) (lo0 := 0) (hi0 := 160) (lo1 := 0) (hi1 := 160) hd0 c4 (by decide) (by decide) (by decide) (by decide) rfl rfl rfl rfl (fun _ => rfl) (fun _ => rfl) (by decide) (by decide) (by decide) (by decide) (by decide) (fun _ => rfl) rfl rfl ?_
  intro M5 c5
  refine kAload (mi := 59) (pc := 69) (len := 1) (i := 0) rfl hl0 ?_
  refine kAload (mi := 59) (pc := 70) (len := 1) (i := 1) rfl hl1 ?_
  obtain ⟨x71, y71, lo71, hi71⟩ := c5.1.int (c := 131) (i := 5) (by decide) (by decide) (by decide) (lo := 0) (hi' := 12) (gs := []) rfl
  refine kGetf (mi := 59) (pc := 71) (len := 3) (j := 405) rfl (c5.1.hd (c := 131) (by decide) (by decide)) (by decide) y71 ?_
  refine kPutf (mi := 59) (pc := 74) (len := 3) (j := 405) rfl (c5.1.hd (c := 164) (by decide) (by decide)) (by decide) (by decide) rfl ?_
  have c6 := c5.put (a := 164) (i := 5) (v := .int x71) (by decide) (by decide) ⟨_, rfl, by show (0 : Int) ≤ x71.toInt; omega, by show x71.toInt ≤ (12 : Int); omega⟩ rfl rfl
  refine kRetV (mi := 59) (pc := 77) (len := 1) rfl rfl ?_
  refine ⟨c6.2.2, γ, gFr.rf, _, List.Mem.head _, σ, aExt.rf, ?_⟩
  have hX : tXI γ M := hA.2.2.2.2.2.2
  unfold tXI at hX
  rw [← c6.2.1] at hX
  exact mkHold9 (by decide) s0 ⟨b00 s0, True.intro⟩ True.intro True.intro True.intro (aMem_9 (aMem_mk hA.2.2.2.1.2.1 c6.1 hX) (x9_fr c6.2.2 gFr.rf rfl hx))
