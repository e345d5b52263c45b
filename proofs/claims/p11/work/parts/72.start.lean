/-! from the law's first instruction on -/
def tyB (t : AT) (w : Value) : Bool := bif Nat.beq t.1 0 then true else match w with
  | .int x => Nat.beq t.1 1 && ile t.2.1 x.toInt && ile x.toInt t.2.2.1
  | .ref a => Nat.beq t.1 2 && Nat.ble 2 a && Nat.blt a tEnd && t.2.2.2.contains (tGrp a)
  | .long _ => Nat.ble 3 t.1
  | _ => false
theorem tyB_ok {t : AT} {w : Value} (h : tyB t w = true) : aTy t w := by
  obtain ⟨k, lo, hi, gs⟩ := t
  unfold tyB at h
  cases h0 : Nat.beq k 0 with
  | true =>
    have e := Nat.eq_of_beq_eq_true h0
    subst e
    exact True.intro
  | false =>
    dsimp only at h
    rw [h0] at h
    cases w with
    | int x =>
      have h : (Nat.beq k 1 && ile lo x.toInt && ile x.toInt hi) = true := h
      rw [Bool.and_eq_true, Bool.and_eq_true] at h
      have e := Nat.eq_of_beq_eq_true h.1.1
      subst e
      exact ⟨x, rfl, ile_iff.mp h.1.2, ile_iff.mp h.2⟩
    | ref a =>
      have h : (Nat.beq k 2 && Nat.ble 2 a && Nat.blt a tEnd && gs.contains (tGrp a)) = true := h
      rw [Bool.and_eq_true, Bool.and_eq_true, Bool.and_eq_true] at h
      have e := Nat.eq_of_beq_eq_true h.1.1.1
      subst e
      exact ⟨a, rfl, Nat.le_of_ble_eq_true h.1.1.2, Nat.le_of_ble_eq_true h.1.2, List.contains_iff_mem.mp h.2⟩
    | long x =>
      have h : Nat.ble 3 k = true := h
      obtain ⟨n, rfl⟩ : ∃ n, k = n + 3 := ⟨k - 3, by have := Nat.le_of_ble_eq_true h; omega⟩
      exact ⟨x, rfl⟩
    | _ => cases h
def slB (g : Nat) : Nat → List Value → Bool
  | _, [] => true
  | i, w :: r => tyB (tTy g i) w && slB g (i + 1) r
theorem slB_ok {g : Nat} : ∀ {fs : List Value} {i : Nat}, slB g i fs = true → ∀ j w, fs[j]? = some w → aTy (tTy g (i + j)) w
  | [], _, _, j, w, e => by rw [List.getElem?_nil] at e; cases e
  | v :: fs, i, h, 0, w, e => by
    unfold slB at h
    rw [Bool.and_eq_true] at h
    cases e
    exact tyB_ok h.1
  | v :: fs, i, h, j + 1, w, e => by
    unfold slB at h
    rw [Bool.and_eq_true] at h
    have := slB_ok h.2 j w e
    rw [show i + (j + 1) = i + 1 + j by omega]
    exact this
def memB : Nat → List MCell → Bool
  | _, [] => true
  | c, q :: r => (Nat.beq q.1 (tTag (tGrp c)) && Nat.beq q.2.length (tSiz (tGrp c)) && slB (tGrp c) 0 q.2) && memB (c + 1) r
theorem memB_ok : ∀ {l : List MCell} {c : Nat}, memB c l = true → ∀ j q, l[j]? = some q → q.1 = tTag (tGrp (c + j)) ∧ q.2.length = tSiz (tGrp (c + j)) ∧ ∀ i w, q.2[i]? = some w → aTy (tTy (tGrp (c + j)) i) w
  | [], _, _, j, q, e => by rw [List.getElem?_nil] at e; cases e
  | v :: l, c, h, 0, q, e => by
    unfold memB at h
    rw [Bool.and_eq_true, Bool.and_eq_true, Bool.and_eq_true] at h
    cases e
    refine ⟨Nat.eq_of_beq_eq_true h.1.1.1, Nat.eq_of_beq_eq_true h.1.1.2, fun i w e => ?_⟩
    have := slB_ok h.1.2 i w e
    rw [Nat.zero_add] at this
    exact this
  | v :: l, c, h, j + 1, q, e => by
    unfold memB at h
    rw [Bool.and_eq_true] at h
    have := memB_ok h.2 j q e
    rw [show c + (j + 1) = c + 1 + j by omega]
    exact this
set_option maxRecDepth 1000000 in
theorem mIxy_ok : memB 2 (mIx0 ++ mIy0) = true := by decide +kernel
set_option maxRecDepth 1000000 in
theorem mIxy_len : (mIx0 ++ mIy0).length = tEnd - 2 ∧ mIx0.length = 179 ∧ mSl (mIx0 ++ mIy0) ≤ 20000 := by decide +kernel
set_option maxRecDepth 1000000 in
theorem mIxy_at : (mIx0 ++ mIy0)[199]? = some (67, List.replicate 20 (.int 0)) ∧ (mIx0 ++ mIy0)[208]? = some (64, List.replicate 3 (.int 0)) ∧ ((mIx0 ++ mIy0)[179]?.bind (fun q => q.2[49]?)) = some (.int 0) ∧ ((mIx0 ++ mIy0)[179]?.bind (fun q => q.2[32]?)) = some (.int 0) := by decide +kernel
set_option maxRecDepth 1000000 in
theorem mInit1b : mRun 4000 61 108 0 [(0, .ref 2)] [] [mZz, (63, []), (10, mDef 10)] = some (none, mZz :: (63, []) :: mIx0) := by decide +kernel
set_option maxRecDepth 1000000 in
theorem mInit2b : mRun 1000 61 159 0 [(0, .ref 181)] [] (mZz :: (63, []) :: (mIx0 ++ [(11, mDef 11)])) = some (none, mZz :: (63, []) :: (mIx0 ++ mIy0)) := by decide +kernel
/-- the ghosts at the start -/
def gh0 : Gh := (gUp (gUp (gUp (gUp (gUp (gUp (gUp (gUp (gUp (gUp (gUp (gUp (gUp (fun _ _ => 0) 1003 0 20) 1003 1 (-1)) 1003 2 (-1)) 1004 0 (-1)) 1004 2 (-1)) 1004 4 (-1)) 1005 2 (-1)) 1006 2 (-1)) 1006 5 (-1)) 1006 6 (-1)) 1007 0 (-1)) 1001 7 (-1)) 1010 0 (-1))
section
variable (s : List Int32)
def mI0 : Mem := (64, s.map .int) :: (63, []) :: (mIx0 ++ mIy0)
theorem mI0_at {c : Nat} : (mI0 s)[c + 2]? = (mIx0 ++ mIy0)[c]? := rfl
theorem mI0_tp : aTp s (mI0 s) := by
  refine ⟨rfl, rfl, fun c h2 h3 => ?_⟩
  have hl := mIxy_len.1
  obtain ⟨q, hq⟩ : ∃ q, (mIx0 ++ mIy0)[c - 2]? = some q := ⟨_, List.getElem?_eq_getElem (by omega)⟩
  have h4 := memB_ok mIxy_ok (c - 2) q hq
  rw [show 2 + (c - 2) = c by omega] at h4
  have e3 : (mI0 s)[c]? = some q := by
    have e := mI0_at s (c := c - 2)
    rw [show c - 2 + 2 = c by omega] at e
    rw [e]
    exact hq
  exact ⟨q.2, by rw [e3, ← h4.1], h4.2.1, h4.2.2⟩
theorem mI0_slot {c i : Nat} {v : Value} (h : ((mIx0 ++ mIy0)[c]?.bind (fun q => q.2[i]?)) = some v) : mSlot (mI0 s) (c + 2) i = some v := by
  unfold mSlot
  rw [mI0_at]
  cases hq : (mIx0 ++ mIy0)[c]? with
  | none => rw [hq] at h; cases h
  | some q => rw [hq] at h; exact h
theorem mI0_201 {i : Nat} (hi : i < 20) : xI (xv (mI0 s)) 201 i = 0 := by
  have e : mSlot (mI0 s) 201 i = some (.int 0) := mI0_slot s (c := 199) (by
    rw [mIxy_at.1]
    show (List.replicate 20 (Value.int 0))[i]? = _
    rw [List.getElem?_replicate, if_pos hi])
  rw [xI_at rfl e]
  rfl
theorem mI0_210 {i : Nat} (hi : i < 3) : xI (xv (mI0 s)) 210 i = 0 := by
  have e : mSlot (mI0 s) 210 i = some (.int 0) := mI0_slot s (c := 208) (by
    rw [mIxy_at.2.1]
    show (List.replicate 3 (Value.int 0))[i]? = _
    rw [List.getElem?_replicate, if_pos hi])
  rw [xI_at rfl e]
  rfl
theorem xCnt_all {f : Nat → Int} : ∀ n, (∀ i, i < n → f i = 0) → xCnt f n = (n : Int)
  | 0, _ => rfl
  | n + 1, h => by
    unfold xCnt
    rw [xCnt_all n (fun i hi => h i (by omega)), if_pos (h n (by omega))]
    omega
theorem mI0_xi : tXI gh0 (mI0 s) := by
  have e49 : xI (xv (mI0 s)) 181 49 = 0 := by rw [xI_at rfl (mI0_slot s (c := 179) mIxy_at.2.2.1)]; rfl
  have e32 : xI (xv (mI0 s)) 181 32 = 0 := by rw [xI_at rfl (mI0_slot s (c := 179) mIxy_at.2.2.2)]; rfl
  refine ⟨⟨⟨by decide, by decide, by decide, by decide, by decide⟩, ⟨by decide, by decide, by decide, by decide, by decide⟩⟩, ⟨?_, fun c => absurd (show 0 ≤ (-1 : Int32).toInt from c) (by decide), fun c => absurd (show 0 ≤ (-1 : Int32).toInt from c) (by decide)⟩, ?_, ⟨rfl, ⟨Int.le_refl 0, Int.le_refl 0, Nat.zero_le _, Nat.zero_le _, Nat.le_refl 0, fun k _ hk => absurd hk (Nat.not_lt_zero k)⟩, fun c => absurd (show 0 ≤ (-1 : Int32).toInt from c) (by decide), ?_⟩, ⟨by decide, ⟨Int.le_refl 0, Int.le_refl 0, rfl⟩, Or.inl rfl, Or.inl rfl, Or.inl rfl⟩, fun c => absurd (show 0 ≤ (-1 : Int32).toInt from c) (by decide), xp_zero e32 rfl rfl rfl rfl⟩
  · rw [xCnt_all 20 (fun i hi => mI0_201 s hi)]
    rfl
  · unfold x4 xPl xEnd
    rw [e49]
    refine ⟨⟨by decide, by decide, fun c => absurd (show 0 ≤ (-1 : Int32).toInt from c) (by decide)⟩, ?_, ?_, fun c => absurd (show 0 ≤ (-1 : Int32).toInt from c) (by decide), fun c => absurd (show 0 ≤ (-1 : Int32).toInt from c) (by decide)⟩
    · intro i j _ hj
      have hj : (j : Int) < 0 := hj
      omega
    · intro i hi
      have hi : (i : Int) < 0 := hi
      omega
  · intro i j hi hj
    rw [mI0_210 s hi] at hj
    omega
end
section
variable {d mi pc len : Nat} {L : MLoc} {st : List Value} {M : Mem} {Q : Option Value → Mem → Prop}
theorem kNew {ci : Nat} (hat : mAt mi pc = some (len, .new ci)) (h : ci < 12) (k : Ok d mi (pc + len) L (.ref M.length :: st) (M ++ [(ci, mDef ci)]) Q) : Ok d mi pc L st M Q := Ok.pl hat (by unfold mStep; dsimp only; rw [if_pos h]) k
theorem kAstore {i a : Nat} (hat : mAt mi pc = some (len, .astore i)) (hi : i < (mIT mi).2.1) (k : Ok d mi (pc + len) (mSt1 L i (.ref a)) st M Q) : Ok d mi pc L (.ref a :: st) M Q := Ok.pl hat (by unfold mStep; dsimp only; rw [if_pos hi]) k
theorem mCall_in {j a t l : Nat} (hd : 1 ≤ d) (hj : j < 282) (hi : mIT j = (1, l, 0, t, 2)) (hl : 1 ≤ l) : mCall d j [.ref a, .ref a] M = some ([.ref a], [.ref a]) := by
  unfold mCall
  rw [hi]
  exact if_pos ⟨⟨hd, hj, by show 1 ≤ 2; decide, by show 1 + 0 ≤ 8; decide, hl⟩, Or.inr (Or.inr ⟨rfl, rfl⟩)⟩
end
theorem mSl_cons {q : MCell} {l : Mem} : mSl (q :: l) = q.2.length + mSl l := by
  unfold mSl
  rw [List.map_cons, List.sum_cons]
set_option maxRecDepth 1000000 in
theorem mI0_f2_13 : ((mIx0 ++ mIy0)[0]?.bind (fun q => q.2[13]?)) = some (.int 0) := by decide +kernel
set_option maxRecDepth 1000000 in
theorem mI0_f93_6 : ((mIx0 ++ mIy0)[91]?.bind (fun q => q.2[6]?)) = some (.int 0) := by decide +kernel
set_option maxRecDepth 1000000 in
theorem mI0_f110_6 : ((mIx0 ++ mIy0)[108]?.bind (fun q => q.2[6]?)) = some (.int 0) := by decide +kernel
set_option maxRecDepth 1000000 in
theorem mI0_f127_1 : ((mIx0 ++ mIy0)[125]?.bind (fun q => q.2[1]?)) = some (.int 0) := by decide +kernel
set_option maxRecDepth 1000000 in
theorem mI0_f181_16 : ((mIx0 ++ mIy0)[179]?.bind (fun q => q.2[16]?)) = some (.int 0) := by decide +kernel
set_option maxRecDepth 1000000 in
theorem mI0_f181_25 : ((mIx0 ++ mIy0)[179]?.bind (fun q => q.2[25]?)) = some (.int 0) := by decide +kernel
set_option maxRecDepth 1000000 in
theorem mI0_f181_64 : ((mIx0 ++ mIy0)[179]?.bind (fun q => q.2[64]?)) = some (.int 0) := by decide +kernel
set_option maxRecDepth 1000000 in
theorem mI0_f181_67 : ((mIx0 ++ mIy0)[179]?.bind (fun q => q.2[67]?)) = some (.int 0) := by decide +kernel
theorem law_go {s : List Int32} (hl : s.length ≤ 576) : Ok 62 282 0 [(0, .ref 0)] [] [(64, s.map .int), (63, [])] (fun r M1 => r = some (.int 1) ∧ M1.length ≤ 600002 ∧ mSl M1 ≤ 7302250) := by
  obtain ⟨M1, e1, f1⟩ := mRun_fr _ _ _ _ _ _ _ _ _ mInit1b
  cases e1
  obtain ⟨M2, e2, f2⟩ := mRun_fr _ _ _ _ _ _ _ _ _ mInit2b
  cases e2
  refine kNew (mi := 282) (pc := 0) (len := 3) (ci := 10) rfl (by decide) ?_
  refine kDupR (len := 1) rfl ?_
  refine Ok.call (j := 108) (len := 3) rfl (Or.inr (Or.inr rfl)) (by decide) (mCall_in (by decide) (by decide) rfl (by decide)) ?_
  refine ⟨4000, none, _, f1 (64, s.map .int), ?_⟩
  refine kAstore (mi := 282) (len := 1) (i := 1) rfl (by decide) ?_
  refine kNew (len := 3) (ci := 11) rfl (by decide) ?_
  have el : ((64, s.map Value.int) :: (63, []) :: mIx0).length = 181 := by
    show mIx0.length + 1 + 1 = 181
    rw [mIxy_len.2.1]
  rw [el]
  refine kDupR (len := 1) rfl ?_
  refine Ok.call (j := 159) (len := 3) rfl (Or.inr (Or.inr rfl)) (by decide) (mCall_in (by decide) (by decide) rfl (by decide)) ?_
  refine ⟨1000, none, _, f2 (64, s.map .int), ?_⟩
  refine kAstore (mi := 282) (len := 1) (i := 2) rfl (by decide) ?_
  refine kIconst (len := 1) (v := 0) rfl ?_
  refine kIstore (len := 1) (i := 3) rfl (by decide) ?_
  have hm : aMem (s, gh0) (mI0 s) := aMem_mk ⟨fun c => absurd (show 0 ≤ (-1 : Int32).toInt from c) (by decide), (show (gh0 1012 1).toInt = (gh0 1012 0).toInt / 4 by decide), (show gh0 1013 1 = bcI (gh0 1013 0) by decide)⟩ (mI0_tp s) (mI0_xi s)
  have hH : aHold (s, gh0) (fun i => if i = 1 then (s.length : Int) else 0) ct_262.2.2.2.1 (mSt1 (mSt1 (mSt1 [(0, .ref 0)] 1 (.ref 2)) 2 (.ref 181)) 3 (.int 0)) [] (mI0 s) := by
    have hk := mkHold (scr := (s, gh0)) (σ := fun i => if i = 1 then (s.length : Int) else 0) (B := [(.ofNat 0, .ofNat 0), (.ofNat 0, .ofNat 576), (.ofNat 0, .ofNat 0), (.ofNat 0, .ofNat 0), (.ofNat 0, .ofNat 0), (.ofNat 0, .ofNat 0), (.ofNat 0, .ofNat 0), (.ofNat 0, .ofNat 0), (.ofNat 0, .ofNat 0), (.ofNat 0, .ofNat 0), (.ofNat 0, .ofNat 0)]) (Z := []) (F := [(2, 13, (1, 3, .ofNat 0)), (93, 6, (1, 4, .ofNat 0)), (110, 6, (1, 5, .ofNat 0)), (127, 1, (1, 6, .ofNat 0)), (181, 16, (1, 7, .ofNat 0)), (181, 25, (1, 8, .ofNat 0)), (181, 64, (1, 9, .ofNat 0)), (181, 67, (1, 10, .ofNat 0))]) (T := []) (st := []) (M := mI0 s) (by decide) rfl ⟨b00 rfl, ⟨by show (0 : Int) ≤ (s.length : Int); omega, by show (s.length : Int) ≤ 576; omega⟩, b00 rfl, b00 rfl, b00 rfl, b00 rfl, b00 rfl, b00 rfl, b00 rfl, b00 rfl, b00 rfl, True.intro⟩ True.intro ⟨hF1_re rfl (by decide) (by decide) (mI0_slot s (c := 0) mI0_f2_13) rfl, hF1_re rfl (by decide) (by decide) (mI0_slot s (c := 91) mI0_f93_6) rfl, hF1_re rfl (by decide) (by decide) (mI0_slot s (c := 108) mI0_f110_6) rfl, hF1_re rfl (by decide) (by decide) (mI0_slot s (c := 125) mI0_f127_1) rfl, hF1_re rfl (by decide) (by decide) (mI0_slot s (c := 179) mI0_f181_16) rfl, hF1_re rfl (by decide) (by decide) (mI0_slot s (c := 179) mI0_f181_25) rfl, hF1_re rfl (by decide) (by decide) (mI0_slot s (c := 179) mI0_f181_64) rfl, hF1_re rfl (by decide) (by decide) (mI0_slot s (c := 179) mI0_f181_67) rfl, True.intro⟩ True.intro hm
    refine ⟨hk.1, ?_, True.intro, hm⟩
    intro i v e
    match i, e with
    | 0, e => cases e; exact Or.inr ⟨.ref 0, rfl, by decide, rfl, rfl⟩
    | 1, e => cases e; exact Or.inr ⟨.ref 2, rfl, 2, rfl, by decide, by decide, rfl⟩
    | 2, e => cases e; exact Or.inr ⟨.ref 181, rfl, 181, rfl, by decide, by decide, rfl⟩
    | 3, e => cases e; exact Or.inr ⟨.int 0, rfl, by decide, 0, rfl, rfl⟩
    | i + 4, e => cases e
  refine Ok.mono (cs_262 cm_42_ok cs_bc cs_bc1 cs_bt1 cs_bt2 cs_hos cs_notes0 cs_notes1 cs_notes2 cs_notes3 cs_notes4 cs_top gs_aq0 gs_aq1 gs_aq2 gs_bo1 gs_bo2 gs_csp gs_ct0 gs_ct1 gs_ct2 gs_ct3a gs_ct3b gs_ct3c gs_ct3d gs_ct3e gs_ct4 gs_ct50 gs_ct51 gs_ct52 gs_ct6 gs_ct7 gs_dvm gs_dvx gs_ep gs_gb1 gs_hr1 gs_hr2 gs_jp gs_ld gs_ld1796 gs_ld1801 gs_ld1811 gs_ld1816 gs_ld626 gs_ld631 gs_ld640 gs_ld645 gs_ld722 gs_ld727 gs_ld737 gs_ld742 gs_lk0 gs_lk1 gs_lk2 gs_lo1 gs_lo2 gs_lo3 gs_lo4 gs_lq0 gs_lq1 gs_lq2 gs_lq3 gs_lql gs_lw1 gs_lw2 gs_me gs_nb1 gs_nb2 gs_nw1 gs_nw2 gs_op10 gs_op13 gs_op14 gs_po1 gs_rc1 gs_rc3n gs_rc3y gs_rc4 gs_rcp gs_rcp2 gs_rcr gs_rso gs_rsp gs_tq gs_ty gh0 62 _ _ (mI0 s) (Nat.le_refl _) hH) ?_
  intro r M3 h3
  obtain ⟨fr, γ', _, o, ho, σ', _, hO⟩ := h3
  have ho : o = _ := List.mem_singleton.mp ho
  subst ho
  refine ⟨?_, ?_, ?_⟩
  · have hs := hO.2.2.1
    have s0 := hO.1.2.1.1
    cases r with
    | none => exact hs.elim
    | some w =>
      obtain ⟨_, x, hx, hx2⟩ := hs.1
      subst hx
      have : x.toInt = 1 := by
        have hx2 : x.toInt = σ' 0 + 1 := hx2
        omega
      rw [Int32.toInt_inj.mp (this.trans (show (1 : Int) = (1 : Int32).toInt from rfl))]
  · rw [fr.1]
    show (mIx0 ++ mIy0).length + 1 + 1 ≤ 600002
    rw [mIxy_len.1]
    decide
  · rw [fr.2.1]
    have e : mSl (mI0 s) = (s.map Value.int).length + (([] : List Value).length + mSl (mIx0 ++ mIy0)) := by
      unfold mI0
      rw [mSl_cons, mSl_cons]
    rw [e, List.length_map, List.length_nil]
    have := mIxy_len.2.2
    omega
theorem hRun_all (scr : List Int32) (hl : scr.length ≤ 576) : ∃ n d M1, d ≤ 1300 ∧ mRun n d 282 0 [(0, .ref 0)] [] [(64, scr.map .int), (63, [])] = some (some (.int 1), M1) ∧ M1.length ≤ 600002 ∧ mSl M1 ≤ 7302250 := by
  obtain ⟨n, r, M1, h1, h4, h2, h3⟩ := law_go hl
  subst h4
  exact ⟨n, 62, M1, by decide, h1, h2, h3⟩
