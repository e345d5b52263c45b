/-! which deeds may be sent, and none of them has an entry (printed by mk69m.py) -/
theorem he9 {d : Nat} {L : MLoc} {M : Mem} {Q : Option Value → Mem → Prop} {a n : Nat} {y : Int32} (hd : mHd M a = some (1, n)) (hw : mSlot M a 7 = some (.int y)) (hl : mLd L 0 = some (.ref a)) (k0 : y.toInt = 1000000 → Q (some (.int 0)) M) (k1 : Q (some (.int 1)) M) : Ok d 27 0 L [] M Q := by
  refine kAload (mi := 27) (pc := 0) (len := 1) (i := 0) rfl hl ?_
  refine kGetf (len := 3) (j := 107) rfl hd (by decide) hw ?_
  refine kIconst (len := 2) (v := 1000000) rfl ?_
  cases hc : mCond .eq y (Int32.ofInt 1000000) with
  | true =>
    refine kIcT (len := 3) (t := 13) rfl rfl hc ?_
    refine kIconst (len := 1) (v := 0) rfl ?_
    refine kRetI (len := 1) rfl (Or.inr ⟨rfl, Or.inl rfl⟩) (k0 ?_)
    have e : y = Int32.ofInt 1000000 := of_decide_eq_true hc
    rw [e]
    rfl
  | false =>
    refine kIcF (len := 3) (t := 13) rfl rfl hc ?_
    refine kIconst (len := 1) (v := 1) rfl ?_
    refine kGoto (len := 3) (t := 14) rfl rfl ?_
    exact kRetI (len := 1) rfl (Or.inr ⟨rfl, Or.inr rfl⟩) k1
set_option maxRecDepth 100000 in
theorem y9_t5 {γ : Gh} {T : YT} {i : Nat} {v : Int} (h : y9 (gS γ) T) (h1 : (γ 1030 2).toInt = 0) : y9 (gS γ) (yUp T 5 0 i v) := by
  have hp : yAll (Gi (gS γ) 0 0) T := y9_o (k := 0) h h1
  exact ⟨h.1, ⟨0, h1, hp⟩, h.2.2.1, h.2.2.2.1, h.2.2.2.2.1, h.2.2.2.2.2⟩
/-- those that are sent have no entry -/
def mS (T : YT) (n c : Int) : Prop := ∀ k : Nat, (k : Int) < c → 0 ≤ T 5 0 k ∧ T 5 0 k < n ∧ T 0 7 (T 5 0 k).toNat = 1000000
theorem mS_up {T : YT} {n c : Int} {i d : Nat} (h : mS T n c) (hc : c = i) (hd : (d : Int) < n) (h7 : T 0 7 d = 1000000) : mS (yUp T 5 0 i d) n (c + 1) := by
  intro k hk
  show 0 ≤ yUp T 5 0 i d 5 0 k ∧ yUp T 5 0 i d 5 0 k < n ∧ T 0 7 (yUp T 5 0 i d 5 0 k).toNat = 1000000
  by_cases e : k = i
  · subst e
    rw [yUp_eq, Int.toNat_natCast]
    exact ⟨Int.natCast_nonneg d, hd, h7⟩
  · rw [yUp_ne (Or.inr (Or.inr e))]
    exact h k (by omega)
set_option maxRecDepth 100000 in
theorem y9_ms9 {γ : Gh} {T : YT} {x : Int32} (h : y9 (gS γ) T) (h1 : (γ 1030 2).toInt = 0) (x0 : 0 ≤ x.toInt) (x1 : x.toInt ≤ 4) (hm : mS T (γ 1030 0).toInt x.toInt) : y9 (gS (gUs γ [(1030, 2, 9), (1044, 3, x)])) T := by
  have hp : yAll (Gi (gS γ) 0 0) T := y9_o (k := 0) h h1
  exact ⟨h.1, ⟨9, rfl, hp, ⟨x0, x1⟩, hm⟩, fun _ => h.2.2.1 (n10 (T := T) h1 (by decide)), h.2.2.2.1, h.2.2.2.2.1, h.2.2.2.2.2⟩
theorem ms9_loop {s : List Int32} {γ : Gh} {d : Nat} {M : Mem} {Q : Option Value → Mem → Prop} {x : Int64} {cnt se : Int32} (hd1 : 1 ≤ d) (c0 : 0 ≤ cnt.toInt) (c1 : cnt.toInt ≤ 40) (hb : cb (un x) 64 ≤ 4) (h00 : (γ 1030 2).toInt = 0) (hA : aMem9 (s, γ) M) (post : ∀ (r sc : Int32) T M', (r = 0 ∨ (r = 1 ∧ mS T cnt.toInt sc.toInt)) → CI s cm_ms.2.2.2.2.2 M T M' → y9 (gS γ) T → mSlot M' 177 5 = some (.int sc) → 0 ≤ sc.toInt → sc.toInt ≤ 4 → Q (some (.int r)) M') : ∀ (n : Nat) (L : MLoc) (M' : Mem) (k sc : Int32), cnt.toInt - k.toInt ≤ n → 0 ≤ k.toInt → k.toInt ≤ cnt.toInt → mLd L 0 = some (.ref 177) → mLd L 1 = some (.long x) → mLd L 3 = some (.int se) → mLd L 4 = some (.int k) → ∀ T, CI s cm_ms.2.2.2.2.2 M T M' → y9 (gS γ) T → mS T cnt.toInt sc.toInt → mSlot M' 7 2 = some (.int cnt) → mSlot M' 177 5 = some (.int sc) → sc.toInt = ((cb (un x) k.toInt.toNat : Nat) : Int) → Ok d 42 38 L [] M' Q := by
  intro n
  induction n with
  | zero =>
    intro L M' k sc h1 h2 h3 l0 l1 l3 l4 T hC hY hS hc hs hsc
    have hT := hC.1
    have hsc4 : sc.toInt ≤ 4 := by
      have := cb_mono (x := un x) (n := k.toInt.toNat) (64 - k.toInt.toNat)
      rw [show k.toInt.toNat + (64 - k.toInt.toNat) = 64 by omega] at this
      omega
    have hd := hT.hd (c := 177) (by decide) (by decide)
    have hd7 := hT.hd (c := 7) (by decide) (by decide)
    have r0 := hT.ref (c := 177) (i := 0) (g := 7) (by decide) (by decide) (by decide) (lo := 0) (hi' := 0) rfl rfl
    refine kIload (mi := 42) (pc := 38) (len := 2) (i := 4) rfl l4 ?_
    refine kAload (len := 1) (i := 0) rfl l0 ?_
    refine kGetf (len := 3) (j := 200) rfl hd (by decide) r0 ?_
    refine kGetf (len := 3) (j := 602) rfl hd7 (by decide) hc ?_
    refine kIcT (len := 3) (t := 123) rfl rfl (c_ge (by omega)) ?_
    refine kIconst (len := 1) (v := 1) rfl ?_
    exact kRetI (len := 1) rfl (Or.inr ⟨rfl, Or.inr rfl⟩) (post 1 sc T M' (Or.inr ⟨rfl, hS⟩) hC hY hs (by omega) hsc4)
  | succ n ih =>
    intro L M' k sc h1 h2 h3 l0 l1 l3 l4 T hC hY hS hc hs hsc
    have hT := hC.1
    have hsc4 : sc.toInt ≤ 4 := by
      have := cb_mono (x := un x) (n := k.toInt.toNat) (64 - k.toInt.toNat)
      rw [show k.toInt.toNat + (64 - k.toInt.toNat) = 64 by omega] at this
      omega
    have hd := hT.hd (c := 177) (by decide) (by decide)
    have hd7 := hT.hd (c := 7) (by decide) (by decide)
    have hd8 := hT.hd (c := 8) (by decide) (by decide)
    have hd180 := hT.hd (c := 180) (by decide) (by decide)
    have r0 := hT.ref (c := 177) (i := 0) (g := 7) (by decide) (by decide) (by decide) (lo := 0) (hi' := 0) rfl rfl
    have r4 := hT.ref (c := 177) (i := 4) (g := 180) (by decide) (by decide) (by decide) (lo := 0) (hi' := 0) rfl rfl
    have r8 := hT.ref (c := 7) (i := 0) (g := 8) (by decide) (by decide) (by decide) (lo := 0) (hi' := 0) rfl rfl
    refine kIload (mi := 42) (pc := 38) (len := 2) (i := 4) rfl l4 ?_
    refine kAload (len := 1) (i := 0) rfl l0 ?_
    refine kGetf (len := 3) (j := 200) rfl hd (by decide) r0 ?_
    refine kGetf (len := 3) (j := 602) rfl hd7 (by decide) hc ?_
    by_cases g : cnt.toInt ≤ k.toInt
    · refine kIcT (len := 3) (t := 123) rfl rfl (c_ge g) ?_
      refine kIconst (len := 1) (v := 1) rfl ?_
      exact kRetI (len := 1) rfl (Or.inr ⟨rfl, Or.inr rfl⟩) (post 1 sc T M' (Or.inr ⟨rfl, hS⟩) hC hY hs (by omega) hsc4)
    · refine kIcF (len := 3) (t := 123) rfl rfl (c_nge (by omega)) ?_
      have ek : (k + 1).toInt = k.toInt + 1 := i32_inc (by omega) (by omega)
      have hbit := un_bit (x := x) (y := k) (by omega) (by omega)
      have hcb : cb (un x) (k + 1).toInt.toNat = cb (un x) k.toInt.toNat + un x / 2 ^ k.toInt.toNat % 2 := by
        rw [show (k + 1).toInt.toNat = k.toInt.toNat + 1 by omega]
        rfl
      have hmon : cb (un x) (k + 1).toInt.toNat ≤ 4 := by
        have := cb_mono (x := un x) (n := (k + 1).toInt.toNat) (64 - (k + 1).toInt.toNat)
        rw [show (k + 1).toInt.toNat + (64 - (k + 1).toInt.toNat) = 64 by omega] at this
        omega
      have next : ∀ (M2 : Mem) (sc2 : Int32) (T2 : YT), CI s cm_ms.2.2.2.2.2 M T2 M2 → y9 (gS γ) T2 → mS T2 cnt.toInt sc2.toInt → mSlot M2 7 2 = some (.int cnt) → mSlot M2 177 5 = some (.int sc2) → sc2.toInt = ((cb (un x) (k + 1).toInt.toNat : Nat) : Int) → Ok d 42 117 L [] M2 Q := by
        intro M2 sc2 T2 t1 t2 t3 t4 t5 t6
        refine kIinc (mi := 42) (pc := 117) (len := 3) rfl l4 (by decide) ?_
        refine kGoto (len := 3) (t := 38) rfl rfl ?_
        exact ih _ M2 (k + 1) sc2 (by omega) (by omega) (by omega) (mLd_st1_ref (by decide) l0) (mLd_st1 (by decide) l1 (fun e => absurd e (by decide))) (mLd_st1_int (by decide) l3) mLd_st1_i T2 t1 t2 t3 t4 t5 t6
      have no : Ok d 42 94 L [] M' Q := by
        refine kIconst (mi := 42) (pc := 94) (len := 1) (v := 0) rfl ?_
        exact kRetI (len := 1) rfl (Or.inr ⟨rfl, Or.inl rfl⟩) (post 0 sc T M' (Or.inl rfl) hC hY hs (by omega) hsc4)
      refine kLload (len := 1) (i := 1) rfl l1 ?_
      refine kIload (len := 2) (i := 4) rfl l4 ?_
      refine kLushr (len := 1) rfl ?_
      refine kLdc (len := 1) (j := 1) rfl ?_
      refine kLand (len := 1) rfl ?_
      refine kLdc (len := 1) (j := 0) rfl ?_
      refine kLcmp (len := 1) rfl ?_
      by_cases z : un x / 2 ^ k.toInt.toNat % 2 = 0
      · have e0 : lg_cmp (shr x k &&& 1) 0 = 0 := lg_zero.mpr (hbit.trans z)
        refine kIfT (len := 3) (t := 117) rfl rfl (decide_eq_true (show lg_cmp (shr x k &&& 1) 0 = 0 from e0)) ?_
        exact next M' sc T hC hY hS hc hs (by omega)
      · have e0 : ¬ lg_cmp (shr x k &&& 1) 0 = 0 := fun c => z (hbit.symm.trans (lg_zero.mp c))
        refine kIfF (len := 3) (t := 117) rfl rfl (decide_eq_false (show ¬ lg_cmp (shr x k &&& 1) 0 = 0 from e0)) ?_
        have hk40 : k.toInt.toNat < 40 := by omega
        have hw := (hC.2.2.1 k.toInt.toNat hk40).1
        have hda := hdD hT hk40
        obtain ⟨y, hy, _⟩ := tD hT hk40 (f := 3) (by decide)
        obtain ⟨y7, hy7, ey7, _⟩ := tD hT hk40 (f := 7) (by decide)
        refine kAload (len := 1) (i := 0) rfl l0 ?_
        refine kGetf (len := 3) (j := 200) rfl hd (by decide) r0 ?_
        refine kGetf (len := 3) (j := 600) rfl hd7 (by decide) r8 ?_
        refine kIload (len := 2) (i := 4) rfl l4 ?_
        refine kAald (len := 1) (n := 40) rfl hd8 (by omega) (by show k.toInt < 40; omega) hw ?_
        refine Ok.call (j := 27) (len := 3) rfl (Or.inr (Or.inl rfl)) (by decide) (mCall_27 hd1 hda) ?_
        have after : y7.toInt = 1000000 → Ok d 42 77 L [] M' Q := by
          intro e7
          refine kAload (mi := 42) (pc := 77) (len := 1) (i := 0) rfl l0 ?_
          refine kGetf (len := 3) (j := 200) rfl hd (by decide) r0 ?_
          refine kGetf (len := 3) (j := 600) rfl hd7 (by decide) r8 ?_
          refine kIload (len := 2) (i := 4) rfl l4 ?_
          refine kAald (len := 1) (n := 40) rfl hd8 (by omega) (by show k.toInt < 40; omega) hw ?_
          refine kGetf (len := 3) (j := 103) rfl hda (by decide) hy ?_
          refine kIload (len := 1) (i := 3) rfl l3 ?_
          cases hq : mCond .le y se with
          | false =>
            refine kIcF (len := 3) (t := 96) rfl rfl hq ?_
            exact no
          | true =>
            refine kIcT (len := 3) (t := 96) rfl rfl hq ?_
            have es : (sc + 1).toInt = sc.toInt + 1 := i32_inc (by omega) (by omega)
            refine kAload (len := 1) (i := 0) rfl l0 ?_
            refine kGetf (len := 3) (j := 204) rfl hd (by decide) r4 ?_
            refine kAload (len := 1) (i := 0) rfl l0 ?_
            refine kGetf (len := 3) (j := 205) rfl hd (by decide) hs ?_
            refine kIload (len := 2) (i := 4) rfl l4 ?_
            refine kIast (len := 1) (n := 4) rfl hd180 (by decide) (by omega) (by show sc.toInt < 4; omega) ?_
            refine kAload (len := 1) (i := 0) rfl l0 ?_
            refine kDupR (len := 1) rfl ?_
            refine kGetf (len := 3) (j := 205) rfl (mHd_put.trans hd) (by decide) ((mSlot_put_ne (Or.inl (by decide))).trans hs) ?_
            refine kIconst (len := 1) (v := 1) rfl ?_
            refine kAdd (len := 1) rfl ?_
            refine kPutf (len := 3) (j := 205) rfl (mHd_put.trans hd) (by decide) (by decide) rfl ?_
            have ek2 : k.toInt = ((k.toInt.toNat : Nat) : Int) := by omega
            have c1' := CI_put (t := 5) (f := 0) (d := sc.toInt.toNat) (x := k) hC (yOk_s (n := 4) (by omega) rfl) (by show 2 ≤ 180; decide) (by show 180 < 242; decide) ⟨k, rfl, by show (0 : Int) ≤ k.toInt; omega, by show k.toInt ≤ 39; omega⟩ hd180 (by show sc.toInt.toNat < 4; omega) rfl (by show 180 ≠ 8; decide) (by show 180 ≠ 51; decide) rfl
            have c2' := CI_nq (a := 177) (i := 5) (v := .int (sc + 1)) c1' (by decide) (by decide) ⟨sc + 1, rfl, by show (0 : Int) ≤ (sc + 1).toInt; omega, by show (sc + 1).toInt ≤ 4; omega⟩ rfl rfl (by decide) (by decide) (aFr_put rfl)
            rw [ek2] at c2'
            refine next (mPut (mPut M' 180 sc.toInt.toNat (.int k)) 177 5 (.int (sc + 1))) (sc + 1) (yUp T 5 0 sc.toInt.toNat ((k.toInt.toNat : Nat) : Int)) c2' (y9_t5 hY h00) ?_ ((mSlot_put_ne (Or.inl (by decide))).trans ((mSlot_put_ne (Or.inl (by decide))).trans hc)) (mSlot_put_eq (mHd_put.trans hd) (by decide)) (by omega)
            rw [es]
            exact mS_up hS (by omega) (by omega) (by rw [← hC.2.2.2.2, ey7]; exact e7)
        refine he9 hda hy7 rfl ?_ ?_
        · intro e7
          refine kIfF (mi := 42) (len := 3) (t := 94) rfl rfl rfl ?_
          exact after e7
        · refine kIfT (mi := 42) (len := 3) (t := 94) rfl rfl rfl ?_
          exact no
theorem cs_ms {s : List Int32} : cSound9 s cm_ms := by
  intro γ d σ L M hd0 hA
  have hd0 : 60 ≤ d := hd0
  have h := aHold_0 hA
  have hl0 := eR h (i := 0) (g := 177) (c := 0) rfl rfl
  obtain ⟨l3, hl3, el3⟩ := eI h (i := 3) (sy := 1) (c := 0) rfl
  have q30_2 : (γ 1030 2).toInt = σ 0 + 0 := eG h (g := 1030) (i := 2) (sy := 0) (c := 0) (by decide) (List.Mem.head _)
  obtain ⟨f7_2, hf7_2, ef7_2⟩ := eF h (g := 7) (i := 2) (sy := 2) (c := 0) (by decide) (by decide) rfl (List.Mem.tail _ (List.Mem.head _))
  have q30_0 : (γ 1030 0).toInt = σ 2 + 0 := eG h (g := 1030) (i := 0) (sy := 2) (c := 0) (by decide) (List.Mem.tail _ (List.Mem.tail _ (List.Mem.head _)))
  obtain ⟨f177_5, hf177_5, ef177_5⟩ := eF h (g := 177) (i := 5) (sy := 3) (c := 0) (by decide) (by decide) rfl (List.Mem.tail _ (List.Mem.tail _ (List.Mem.tail _ (List.Mem.head _))))
  have b1 := eB h (i := 1) (lo := 0) (hi := 999) rfl
  have b2 := eB h (i := 2) (lo := 0) (hi := 40) rfl
  have b3 := eB h (i := 3) (lo := 0) (hi := 4) rfl
  have s0 := h.1.2.1.1
  have hx : x9 γ M := hA.2.2.2.1.2.2
  have hT := aTp_of h.2.2.2
  obtain ⟨x, l1⟩ : ∃ x, mLd L 1 = some (.long x) := by
    rcases h.2.1 1 (3, 0, 0) rfl with h0 | ⟨w, h1, x, rfl⟩
    · cases h0
    · exact ⟨x, h1⟩
  have l0 := hl0
  have hd := hT.hd (c := 177) (by decide) (by decide)
  have hd7 := hT.hd (c := 7) (by decide) (by decide)
  have r0 := hT.ref (c := 177) (i := 0) (g := 7) (by decide) (by decide) (by decide) (lo := 0) (hi' := 0) rfl rfl
  have hc := hf7_2
  have c0 : 0 ≤ f7_2.toInt := by omega
  have c1 : f7_2.toInt ≤ 40 := by omega
  have h00 : (γ 1030 2).toInt = 0 := by omega
  have post : ∀ (r sc : Int32) T M', (r = 0 ∨ (r = 1 ∧ mS T f7_2.toInt sc.toInt)) → CI s cm_ms.2.2.2.2.2 M T M' → y9 (gS γ) T → mSlot M' 177 5 = some (.int sc) → 0 ≤ sc.toInt → sc.toInt ≤ 4 → aFr cm_ms.2.2.2.2.2 M M' ∧ ∃ γ', gFr cm_ms.2.2.2.2.2 γ γ' ∧ ∃ o, o ∈ cm_ms.2.2.2.2.1 ∧ ∃ σ', aExt cm_ms.2.2.2.1.1.1.length σ σ' ∧ aHold9 (s, γ') σ' o [] (some (.int r) : Option Value).toList M' := by
    intro r sc T M' hr hC hY t5 t6 t7
    rcases hr with rfl | ⟨rfl, hS⟩
    · skip
      refine ⟨hC.2.2.2.1, γ, gFr.rf, _, List.Mem.head _, (aUp σ 4 (sc.toInt)), aUp_ext, ?_⟩
      exact mkHold9 (by decide) s0 ⟨b00 s0, b1, b2, b3, ⟨by show (0 : Int) ≤ sc.toInt; omega, by show sc.toInt ≤ 4; omega⟩, True.intro⟩ True.intro ⟨hF1_gh (by decide) (by decide) (by show ((γ 1030 2) : Int32).toInt = σ 0 + 0; omega), hF1_re rfl (by decide) (by decide) t5 (by show (sc : Int32).toInt = sc.toInt + 0; omega), True.intro⟩ ⟨⟨by decide, _, rfl, by show (0 : Int) = σ 0 + 0; omega⟩, True.intro⟩ (CI_mem hC hA.2.2.2 (fun _ _ _ => rfl) hY)
    · have hS : mS T (γ 1030 0).toInt sc.toInt := by rw [show (γ 1030 0).toInt = f7_2.toInt by omega]; exact hS
      refine ⟨hC.2.2.2.1, (gUs γ [(1030, 2, 9), (1044, 3, sc)]), (gUs_fr [(1030, 2, 9), (1044, 3, sc)] rfl gFr.rf), _, List.Mem.tail _ (List.Mem.head _), (aUp σ 4 (sc.toInt)), aUp_ext, ?_⟩
      exact mkHold9 (by decide) s0 ⟨b00 s0, b1, b2, b3, ⟨by show (0 : Int) ≤ sc.toInt; omega, by show sc.toInt ≤ 4; omega⟩, True.intro⟩ True.intro ⟨hF1_gh (by decide) (by decide) (by show (9 : Int) = σ 0 + 9; omega), hF1_re rfl (by decide) (by decide) t5 (by show (sc : Int32).toInt = sc.toInt + 0; omega), hF1_gh (by decide) (by decide) (by show (sc : Int32).toInt = sc.toInt + 0; omega), True.intro⟩ ⟨⟨by decide, _, rfl, by show (1 : Int) = σ 0 + 1; omega⟩, True.intro⟩ (CI_mem hC hA.2.2.2 (gUs_lt [(1030, 2, 9), (1044, 3, sc)] rfl (fun _ _ _ => rfl)) (y9_ms9 hY h00 t6 t7 hS))
  have no : Ok d 42 28 L [] M (fun r M' => aFr cm_ms.2.2.2.2.2 M M' ∧ ∃ γ', gFr cm_ms.2.2.2.2.2 γ γ' ∧ ∃ o, o ∈ cm_ms.2.2.2.2.1 ∧ ∃ σ', aExt cm_ms.2.2.2.1.1.1.length σ σ' ∧ aHold9 (s, γ') σ' o [] r.toList M') := by
    refine kIconst (mi := 42) (pc := 28) (len := 1) (v := 0) rfl ?_
    exact kRetI (len := 1) rfl (Or.inr ⟨rfl, Or.inl rfl⟩) (post 0 f177_5 (yV M) M (Or.inl rfl) (CI_0 hA.2.2.2) hx.2 hf177_5 (by omega) (by omega))
  refine kLload (mi := 42) (pc := 0) (len := 1) (i := 1) rfl l1 ?_
  refine kLdc (len := 1) (j := 0) rfl ?_
  refine kLcmp (len := 1) rfl ?_
  cases q1 : mCond .eq (lg_cmp x (mKL.getD 0 0)) 0 with
  | true => exact kIfT (len := 3) (t := 28) rfl rfl q1 no
  | false =>
    refine kIfF (len := 3) (t := 28) rfl rfl q1 ?_
    refine kLload (len := 1) (i := 1) rfl l1 ?_
    refine kAload (len := 1) (i := 0) rfl l0 ?_
    refine kGetf (len := 3) (j := 200) rfl hd (by decide) r0 ?_
    refine kGetf (len := 3) (j := 602) rfl hd7 (by decide) hc ?_
    refine kLushr (len := 1) rfl ?_
    refine kLdc (len := 1) (j := 0) rfl ?_
    refine kLcmp (len := 1) rfl ?_
    cases q2 : mCond .ne (lg_cmp (shr x f7_2) (mKL.getD 0 0)) 0 with
    | true => exact kIfT (len := 3) (t := 28) rfl rfl q2 no
    | false =>
      refine kIfF (len := 3) (t := 28) rfl rfl q2 ?_
      refine kLload (len := 1) (i := 1) rfl l1 ?_
      refine Ok.call (j := 280) (len := 3) rfl (Or.inl rfl) (by decide) (mCall_280 (by omega)) ?_
      refine bc_run (x := x) rfl ?_
      intro r hr
      refine kIconst (mi := 42) (len := 1) (v := 4) rfl ?_
      by_cases q3 : r.toInt ≤ 4
      · refine kIcT (len := 3) (t := 30) rfl rfl (decide_eq_true (Int32.le_iff_toInt_le.mpr q3)) ?_
        refine kAload (len := 1) (i := 0) rfl l0 ?_
        refine kIconst (len := 1) (v := 0) rfl ?_
        refine kPutf (len := 3) (j := 205) rfl hd (by decide) (by decide) rfl ?_
        refine kIconst (len := 1) (v := 0) rfl ?_
        refine kIstore (len := 2) (i := 4) rfl (by decide) ?_
        have c1' := CI_nq (mod := cm_ms.2.2.2.2.2) (a := 177) (i := 5) (v := .int 0) (CI_0 hA.2.2.2) (by decide) (by decide) ⟨0, rfl, by decide, by decide⟩ rfl rfl (by decide) (by decide) (aFr_put rfl)
        refine ms9_loop (s := s) (γ := γ) (M := M) (x := x) (cnt := f7_2) (se := l3) (by omega) c0 c1 (by omega) h00 hA.2.2.2 post f7_2.toInt.toNat _ (mPut M 177 5 (.int 0)) 0 0 (by show f7_2.toInt - 0 ≤ _; omega) (Int.le_refl 0) c0 (mLd_st1_ref (by decide) l0) (mLd_st1 (by decide) l1 (fun e => absurd e (by decide))) (mLd_st1_int (by decide) hl3) mLd_st1_i (yV M) c1' hx.2 ?_ ((mSlot_put_ne (Or.inl (by decide))).trans hc) (mSlot_put_eq hd (by decide)) rfl
        intro k hk
        have hk : (k : Int) < 0 := hk
        omega
      · refine kIcF (len := 3) (t := 30) rfl rfl (decide_eq_false (fun c => q3 (Int32.le_iff_toInt_le.mp c))) ?_
        exact no
