/-! ghosts changed; the buyers' pieces -/
def gUp (γ : Gh) (g i : Nat) (x : Int32) : Gh := fun a b => bif Nat.beq a g && Nat.beq b i then x else γ a b
theorem gUp_eq {γ : Gh} {g i : Nat} {x : Int32} : gUp γ g i x g i = x := by
  unfold gUp
  rw [Nat.beq_refl, Nat.beq_refl]
  rfl
theorem gFr_up {mod : List (Nat × Nat)} {γ γ1 : Gh} {g i : Nat} {x : Int32} (hm : memP g i mod = true) (h : gFr mod γ γ1) : gFr mod γ (gUp γ1 g i x) := by
  intro a b ha hb
  unfold gUp
  cases hq : (Nat.beq a g && Nat.beq b i) with
  | false => exact h a b ha hb
  | true =>
    rw [Bool.and_eq_true] at hq
    rw [Nat.eq_of_beq_eq_true hq.1, Nat.eq_of_beq_eq_true hq.2, hm] at hb
    cases hb
theorem b00 {x : Int} (h : x = 0) : Int.ofNat 0 ≤ x ∧ x ≤ Int.ofNat 0 := by
  rw [h]; exact ⟨Int.le_refl _, Int.le_refl _⟩
theorem eNil {scr : SG} {σ : Nat → Int} {K : AK} {A : List AV} {L : MLoc} {st : List Value} {M : Mem} (h : aHold0 scr σ (K, A, []) L st M) : st = [] := by
  have := h.2.2.1
  cases st with
  | nil => rfl
  | cons _ _ => exact this.elim
theorem i32_nat {x : Int32} (h : 0 ≤ x.toInt) : x = Int32.ofNat x.toInt.toNat := by
  have r := i32_rng x
  refine Int32.toInt_inj.mp ?_
  rw [Int32.toInt_ofNat_of_lt (by omega)]
  omega
theorem i32_and1 (z : Int32) : z &&& 1 = 0 ∨ z &&& 1 = 1 := by
  have h := i32_and_r (x := z) (y := 1) (by decide)
  exact i32_zo h.1 (Int.le_trans h.2 (by decide))
theorem gb_fin : ∀ i, i < 8 → ∀ g, g < 256 → (Int32.ofNat g >>> (Int32.ofNat i &&& 31)) &&& 1 = 0 → (g : Int) + 1 ≤ (Int32.ofNat g ||| (1 <<< (Int32.ofNat i &&& 31))).toInt ∧ (Int32.ofNat g ||| (1 <<< (Int32.ofNat i &&& 31))).toInt ≤ 255 := by decide +kernel
theorem gs_nb1 {s : List Int32} : gSound0 s sg_nb1 := by
  intro γ d σ L st0 st M Q _ h k
  have e0 := eNil h
  subst e0
  obtain ⟨x, hx, ex⟩ := eI h (i := 2) (sy := 1) (c := 0) rfl
  obtain ⟨y, hy, ey⟩ := eI h (i := 4) (sy := 2) (c := 0) rfl
  have b1 := eB h (i := 1) (lo := 0) (hi := 255) rfl
  have b2 := eB h (i := 2) (lo := 0) (hi := 7) rfl
  have s0 := h.1.2.1.1
  have h8 : x8 (s, γ) := h.2.2.2.1.2
  have hX : tXI γ M := h.2.2.2.2.2.2
  refine kIload (mi := 265) (pc := 22) (len := 1) (i := 2) rfl hx ?_
  refine kIload (len := 2) (i := 4) rfl hy ?_
  refine kShr (len := 1) rfl ?_
  refine kIconst (len := 1) (v := 1) rfl ?_
  refine kAnd (len := 1) rfl ?_
  rcases i32_and1 (x >>> (y &&& 31)) with hv | hv
  · rw [show Int32.ofInt 1 = 1 from rfl, hv]
    refine k (gUp (gUp γ 1002 0 y) 1002 1 x) σ _ L [.int 0] M (List.Mem.head _) (fun _ _ => rfl) aFr.rf (gFr_up rfl (gFr_up rfl gFr.rf)) aExt.rf ?_
    refine mkHold (by decide) s0 ⟨b00 s0, b1, b2, True.intro⟩ True.intro ⟨hF1_gh (by decide) (by decide) ?_, hF1_gh (by decide) (by decide) ?_, True.intro⟩ ⟨⟨by decide, 0, rfl, ?_⟩, True.intro⟩ (aMem_mk h8 (aTp_of h.2.2.2) ?_)
    · exact ey
    · exact ex
    · show (0 : Int) = σ 0 + 0
      omega
    · exact ⟨⟨⟨by show 0 ≤ y.toInt; omega, by show y.toInt ≤ 7; omega, by show 0 ≤ x.toInt; omega, by show x.toInt ≤ 255; omega, hv⟩, hX.1.2⟩, hX.2⟩
  · rw [show Int32.ofInt 1 = 1 from rfl, hv]
    refine k γ σ _ L [.int 1] M (List.Mem.tail _ (List.Mem.head _)) (fun _ _ => rfl) aFr.rf gFr.rf aExt.rf ?_
    refine mkHold (by decide) s0 ⟨b00 s0, b1, b2, True.intro⟩ True.intro True.intro ⟨⟨by decide, 1, rfl, ?_⟩, True.intro⟩ h.2.2.2
    show (1 : Int) = σ 0 + 1
    omega
theorem gs_nb2 {s : List Int32} : gSound0 s sg_nb2 := by
  intro γ d σ L st0 st M Q _ h k
  have e0 := eNil h
  subst e0
  obtain ⟨y, hy, ey⟩ := eI h (i := 4) (sy := 1) (c := 0) rfl
  have g1 := eG h (g := 1002) (i := 0) (sy := 1) (c := 0) (by decide) (List.Mem.head _)
  have g2 := eG h (g := 1002) (i := 1) (sy := 2) (c := 0) (by decide) (List.Mem.tail _ (List.Mem.head _))
  have b1 := eB h (i := 1) (lo := 0) (hi := 7) rfl
  have b2 := eB h (i := 2) (lo := 0) (hi := 255) rfl
  have s0 := h.1.2.1.1
  have h8 : x8 (s, γ) := h.2.2.2.1.2
  have hX : tXI γ M := h.2.2.2.2.2.2
  refine kIload (mi := 265) (pc := 46) (len := 2) (i := 4) rfl hy ?_
  refine k (gUp (gUp γ 1002 2 (γ 1002 0)) 1002 3 (γ 1002 1)) σ _ L [.int y] M (List.Mem.head _) (fun _ _ => rfl) aFr.rf (gFr_up rfl (gFr_up rfl gFr.rf)) aExt.rf ?_
  refine mkHold (by decide) s0 ⟨b00 s0, b1, b2, True.intro⟩ True.intro ⟨hF1_gh (by decide) (by decide) g1, hF1_gh (by decide) (by decide) g2, True.intro⟩ ⟨⟨by decide, y, rfl, ey⟩, True.intro⟩ (aMem_mk h8 (aTp_of h.2.2.2) ⟨⟨hX.1.1, hX.1.1⟩, hX.2⟩)
theorem gs_gb1 {s : List Int32} : gSound0 s sg_gb1 := by
  intro γ d σ L st0 st M Q _ h k
  have e0 := eNil h
  subst e0
  obtain ⟨x, hx, ex⟩ := eI h (i := 3) (sy := 1) (c := 0) rfl
  obtain ⟨y, hy, ey⟩ := eI h (i := 5) (sy := 2) (c := 0) rfl
  have g1 := eG h (g := 1002) (i := 2) (sy := 2) (c := 0) (by decide) (List.Mem.head _)
  have g2 := eG h (g := 1002) (i := 3) (sy := 1) (c := 0) (by decide) (List.Mem.tail _ (List.Mem.head _))
  have b1 := eB h (i := 1) (lo := 0) (hi := 255) rfl
  have b2 := eB h (i := 2) (lo := 0) (hi := 7) rfl
  have s0 := h.1.2.1.1
  have h8 : x8 (s, γ) := h.2.2.2.1.2
  have hX : tXI γ M := h.2.2.2.2.2.2
  refine kIload (mi := 266) (pc := 21) (len := 1) (i := 3) rfl hx ?_
  refine kIconst (len := 1) (v := 1) rfl ?_
  refine kIload (len := 2) (i := 5) rfl hy ?_
  refine kShl (len := 1) rfl ?_
  refine kOr (len := 1) rfl ?_
  have e1 : γ 1002 2 = y := Int32.toInt_inj.mp (by show (γ 1002 2).toInt = y.toInt; exact g1.trans ey.symm)
  have e2 : γ 1002 3 = x := Int32.toInt_inj.mp (by show (γ 1002 3).toInt = x.toInt; exact g2.trans ex.symm)
  obtain ⟨_, _, _, _, hb⟩ := hX.1.2
  rw [e1, e2] at hb
  have f := gb_fin y.toInt.toNat (by omega) x.toInt.toNat (by omega)
  rw [← i32_nat (x := y) (by omega), ← i32_nat (x := x) (by omega)] at f
  have f := f hb
  refine k γ (aUp σ 3 (x ||| (1 <<< (y &&& 31))).toInt) _ L [.int (x ||| (1 <<< (y &&& 31)))] M (List.Mem.head _) (fun _ _ => rfl) aFr.rf gFr.rf aUp_ext ?_
  refine mkHold (by decide) s0 ⟨b00 s0, b1, b2, ⟨by show (0 : Int) ≤ (x ||| (1 <<< (y &&& 31))).toInt; omega, by show (x ||| (1 <<< (y &&& 31))).toInt ≤ 255; omega⟩, True.intro⟩ ⟨⟨by decide, by decide, ?_⟩, True.intro⟩ True.intro ⟨⟨by decide, _, rfl, ?_⟩, True.intro⟩ h.2.2.2
  · show σ 1 - (x ||| (1 <<< (y &&& 31))).toInt ≤ -1
    omega
  · show (x ||| (1 <<< (y &&& 31))).toInt = (x ||| (1 <<< (y &&& 31))).toInt + 0
    omega
