/-! from the law's first instruction on -/
def tyB (t : AT) (w : Value) : Bool := bif Nat.beq t.1 0 then true else match w with
  | .int x => Nat.beq t.1 1 && ile t.2.1 x.toInt && ile x.toInt t.2.2.1
  | .ref a => Nat.beq t.1 2 && Nat.ble 2 a && Nat.blt a tEnd && t.2.2.2.contains (tGrp a)
  | .long _ => Nat.ble 3 t.1
  | _ => false
theorem tyB_ok {t : AT} {w : Value} (h : tyB t w = true) : aTy t w := by
  obtain ⟨k, lo, hi, gs⟩ := t
  unfold tyB at h
  cases h0 : Nat.beq k 0 with
  | true =>
    have e := Nat.eq_of_beq_eq_true h0
    subst e
    exact True.intro
  | false =>
    dsimp only at h
    rw [h0] at h
    cases w with
    | int x =>
      have h : (Nat.beq k 1 && ile lo x.toInt && ile x.toInt hi) = true := h
      rw [Bool.and_eq_true, Bool.and_eq_true] at h
      have e := Nat.eq_of_beq_eq_true h.1.1
      subst e
      exact ⟨x, rfl, ile_iff.mp h.1.2, ile_iff.mp h.2⟩
    | ref a =>
      have h : (Nat.beq k 2 && Nat.ble 2 a && Nat.blt a tEnd && gs.contains (tGrp a)) = true := h
      rw [Bool.and_eq_true, Bool.and_eq_true, Bool.and_eq_true] at h
      have e := Nat.eq_of_beq_eq_true h.1.1.1
      subst e
      exact ⟨a, rfl, Nat.le_of_ble_eq_true h.1.1.2, Nat.le_of_ble_eq_true h.1.2, List.contains_iff_mem.mp h.2⟩
    | long x =>
      have h : Nat.ble 3 k = true := h
      obtain ⟨n, rfl⟩ : ∃ n, k = n + 3 := ⟨k - 3, by have := Nat.le_of_ble_eq_true h; omega⟩
      exact ⟨x, rfl⟩
    | _ => cases h
def slB (g : Nat) : Nat → List Value → Bool
  | _, [] => true
  | i, w :: r => tyB (tTy g i) w && slB g (i + 1) r
theorem slB_ok {g : Nat} : ∀ {fs : List Value} {i : Nat}, slB g i fs = true → ∀ j w, fs[j]? = some w → aTy (tTy g (i + j)) w
  | [], _, _, j, w, e => by rw [List.getElem?_nil] at e; cases e
  | v :: fs, i, h, 0, w, e => by
    unfold slB at h
    rw [Bool.and_eq_true] at h
    cases e
    exact tyB_ok h.1
  | v :: fs, i, h, j + 1, w, e => by
    unfold slB at h
    rw [Bool.and_eq_true] at h
    have := slB_ok h.2 j w e
    rw [show i + (j + 1) = i + 1 + j by omega]
    exact this
def memB : Nat → List MCell → Bool
  | _, [] => true
  | c, q :: r => (Nat.beq q.1 (tTag (tGrp c)) && Nat.beq q.2.length (tSiz (tGrp c)) && slB (tGrp c) 0 q.2) && memB (c + 1) r
theorem memB_ok : ∀ {l : List MCell} {c : Nat}, memB c l = true → ∀ j q, l[j]? = some q → q.1 = tTag (tGrp (c + j)) ∧ q.2.length = tSiz (tGrp (c + j)) ∧ ∀ i w, q.2[i]? = some w → aTy (tTy (tGrp (c + j)) i) w
  | [], _, _, j, q, e => by rw [List.getElem?_nil] at e; cases e
  | v :: l, c, h, 0, q, e => by
    unfold memB at h
    rw [Bool.and_eq_true, Bool.and_eq_true, Bool.and_eq_true] at h
    cases e
    refine ⟨Nat.eq_of_beq_eq_true h.1.1.1, Nat.eq_of_beq_eq_true h.1.1.2, fun i w e => ?_⟩
    have := slB_ok h.1.2 i w e
    rw [Nat.zero_add] at this
    exact this
  | v :: l, c, h, j + 1, q, e => by
    unfold memB at h
    rw [Bool.and_eq_true] at h
    have := memB_ok h.2 j q e
    rw [show c + (j + 1) = c + 1 + j by omega]
    exact this
set_option maxRecDepth 1000000 in
theorem mIxy_ok : memB 2 (mIx0 ++ mIy0) = true := by decide +kernel
set_option maxRecDepth 1000000 in
theorem mIxy_len : (mIx0 ++ mIy0).length = tEnd - 2 ∧ mIx0.length = 179 ∧ mSl (mIx0 ++ mIy0) ≤ 20000 := by decide +kernel
set_option maxRecDepth 1000000 in
theorem mIxy_at : (mIx0 ++ mIy0)[199]? = some (67, List.replicate 20 (.int 0)) ∧ (mIx0 ++ mIy0)[208]? = some (64, List.replicate 3 (.int 0)) ∧ ((mIx0 ++ mIy0)[179]?.bind (fun q => q.2[49]?)) = some (.int 0) ∧ ((mIx0 ++ mIy0)[179]?.bind (fun q => q.2[32]?)) = some (.int 0) := by decide +kernel
set_option maxRecDepth 1000000 in
theorem mInit1b : mRun 4000 61 108 0 [(0, .ref 2)] [] [mZz, (63, []), (10, mDef 10)] = some (none, mZz :: (63, []) :: mIx0) := by decide +kernel
set_option maxRecDepth 1000000 in
theorem mInit2b : mRun 1000 61 159 0 [(0, .ref 181)] [] (mZz :: (63, []) :: (mIx0 ++ [(11, mDef 11)])) = some (none, mZz :: (63, []) :: (mIx0 ++ mIy0)) := by decide +kernel
/-- the ghosts at the start -/
def gh0 : Gh := (gUp (gUp (gUp (gUp (gUp (gUp (gUp (gUp (gUp (gUp (gUp (gUp (gUp (gUp (gUp (gUp (fun _ _ => 0) 1003 0 20) 1003 1 (-1)) 1003 2 (-1)) 1004 0 (-1)) 1004 2 (-1)) 1004 4 (-1)) 1005 2 (-1)) 1006 2 (-1)) 1006 5 (-1)) 1006 6 (-1)) 1007 0 (-1)) 1001 7 (-1)) 1010 0 (-1)) 1036 3 1) 1037 1 13849) 1037 2 4)
section
variable (s : List Int32)
def mI0 : Mem := (64, s.map .int) :: (63, []) :: (mIx0 ++ mIy0)
theorem mI0_at {c : Nat} : (mI0 s)[c + 2]? = (mIx0 ++ mIy0)[c]? := rfl
theorem mI0_tp : aTp s (mI0 s) := by
  refine ⟨rfl, rfl, fun c h2 h3 => ?_⟩
  have hl := mIxy_len.1
  obtain ⟨q, hq⟩ : ∃ q, (mIx0 ++ mIy0)[c - 2]? = some q := ⟨_, List.getElem?_eq_getElem (by omega)⟩
  have h4 := memB_ok mIxy_ok (c - 2) q hq
  rw [show 2 + (c - 2) = c by omega] at h4
  have e3 : (mI0 s)[c]? = some q := by
    have e := mI0_at s (c := c - 2)
    rw [show c - 2 + 2 = c by omega] at e
    rw [e]
    exact hq
  exact ⟨q.2, by rw [e3, ← h4.1], h4.2.1, h4.2.2⟩
theorem mI0_slot {c i : Nat} {v : Value} (h : ((mIx0 ++ mIy0)[c]?.bind (fun q => q.2[i]?)) = some v) : mSlot (mI0 s) (c + 2) i = some v := by
  unfold mSlot
  rw [mI0_at]
  cases hq : (mIx0 ++ mIy0)[c]? with
  | none => rw [hq] at h; cases h
  | some q => rw [hq] at h; exact h
theorem mI0_201 {i : Nat} (hi : i < 20) : xI (xv (mI0 s)) 201 i = 0 := by
  have e : mSlot (mI0 s) 201 i = some (.int 0) := mI0_slot s (c := 199) (by
    rw [mIxy_at.1]
    show (List.replicate 20 (Value.int 0))[i]? = _
    rw [List.getElem?_replicate, if_pos hi])
  rw [xI_at rfl e]
  rfl
theorem mI0_210 {i : Nat} (hi : i < 3) : xI (xv (mI0 s)) 210 i = 0 := by
  have e : mSlot (mI0 s) 210 i = some (.int 0) := mI0_slot s (c := 208) (by
    rw [mIxy_at.2.1]
    show (List.replicate 3 (Value.int 0))[i]? = _
    rw [List.getElem?_replicate, if_pos hi])
  rw [xI_at rfl e]
  rfl
theorem xCnt_all {f : Nat → Int} : ∀ n, (∀ i, i < n → f i = 0) → xCnt f n = (n : Int)
  | 0, _ => rfl
  | n + 1, h => by
    unfold xCnt
    rw [xCnt_all n (fun i hi => h i (by omega)), if_pos (h n (by omega))]
    omega
theorem mI0_xi : tXI gh0 (mI0 s) := by
  have e49 : xI (xv (mI0 s)) 181 49 = 0 := by rw [xI_at rfl (mI0_slot s (c := 179) mIxy_at.2.2.1)]; rfl
  have e32 : xI (xv (mI0 s)) 181 32 = 0 := by rw [xI_at rfl (mI0_slot s (c := 179) mIxy_at.2.2.2)]; rfl
  refine ⟨⟨⟨by decide, by decide, by decide, by decide, by decide⟩, ⟨by decide, by decide, by decide, by decide, by decide⟩⟩, ⟨?_, fun c => absurd (show 0 ≤ (-1 : Int32).toInt from c) (by decide), fun c => absurd (show 0 ≤ (-1 : Int32).toInt from c) (by decide)⟩, ?_, ⟨rfl, ⟨Int.le_refl 0, Int.le_refl 0, Nat.zero_le _, Nat.zero_le _, Nat.le_refl 0, fun k _ hk => absurd hk (Nat.not_lt_zero k)⟩, fun c => absurd (show 0 ≤ (-1 : Int32).toInt from c) (by decide), ?_⟩, ⟨by decide, ⟨Int.le_refl 0, Int.le_refl 0, rfl⟩, Or.inl rfl, Or.inl rfl, Or.inl rfl⟩, fun c => absurd (show 0 ≤ (-1 : Int32).toInt from c) (by decide), xp_zero e32 rfl rfl rfl rfl⟩
  · rw [xCnt_all 20 (fun i hi => mI0_201 s hi)]
    rfl
  · unfold x4 xPl xEnd
    rw [e49]
    refine ⟨⟨by decide, by decide, fun c => absurd (show 0 ≤ (-1 : Int32).toInt from c) (by decide)⟩, ?_, ?_, fun c => absurd (show 0 ≤ (-1 : Int32).toInt from c) (by decide), fun c => absurd (show 0 ≤ (-1 : Int32).toInt from c) (by decide)⟩
    · intro i j _ hj
      have hj : (j : Int) < 0 := hj
      omega
    · intro i hi
      have hi : (i : Int) < 0 := hi
      omega
  · intro i j hi hj
    rw [mI0_210 s hi] at hj
    omega
end
section
variable {d mi pc len : Nat} {L : MLoc} {st : List Value} {M : Mem} {Q : Option Value → Mem → Prop}
theorem kNew {ci : Nat} (hat : mAt mi pc = some (len, .new ci)) (h : ci < 12) (k : Ok d mi (pc + len) L (.ref M.length :: st) (M ++ [(ci, mDef ci)]) Q) : Ok d mi pc L st M Q := Ok.pl hat (by unfold mStep; dsimp only; rw [if_pos h]) k
theorem kAstore {i a : Nat} (hat : mAt mi pc = some (len, .astore i)) (hi : i < (mIT mi).2.1) (k : Ok d mi (pc + len) (mSt1 L i (.ref a)) st M Q) : Ok d mi pc L (.ref a :: st) M Q := Ok.pl hat (by unfold mStep; dsimp only; rw [if_pos hi]) k
theorem mCall_in {j a t l : Nat} (hd : 1 ≤ d) (hj : j < 282) (hi : mIT j = (1, l, 0, t, 2)) (hl : 1 ≤ l) : mCall d j [.ref a, .ref a] M = some ([.ref a], [.ref a]) := by
  unfold mCall
  rw [hi]
  exact if_pos ⟨⟨hd, hj, by show 1 ≤ 2; decide, by show 1 + 0 ≤ 8; decide, hl⟩, Or.inr (Or.inr ⟨rfl, rfl⟩)⟩
end
theorem mSl_cons {q : MCell} {l : Mem} : mSl (q :: l) = q.2.length + mSl l := by
  unfold mSl
  rw [List.map_cons, List.sum_cons]
set_option maxRecDepth 1000000 in
theorem mI0_f2_11 : ((mIx0 ++ mIy0)[0]?.bind (fun q => q.2[11]?)) = some (.int 1) := by decide +kernel
set_option maxRecDepth 1000000 in
theorem mI0_f2_13 : ((mIx0 ++ mIy0)[0]?.bind (fun q => q.2[13]?)) = some (.int 0) := by decide +kernel
set_option maxRecDepth 1000000 in
theorem mI0_f7_2 : ((mIx0 ++ mIy0)[5]?.bind (fun q => q.2[2]?)) = some (.int 0) := by decide +kernel
set_option maxRecDepth 1000000 in
theorem mI0_f50_2 : ((mIx0 ++ mIy0)[48]?.bind (fun q => q.2[2]?)) = some (.int 0) := by decide +kernel
set_option maxRecDepth 1000000 in
theorem mI0_f93_3 : ((mIx0 ++ mIy0)[91]?.bind (fun q => q.2[3]?)) = some (.int 0) := by decide +kernel
set_option maxRecDepth 1000000 in
theorem mI0_f93_6 : ((mIx0 ++ mIy0)[91]?.bind (fun q => q.2[6]?)) = some (.int 0) := by decide +kernel
set_option maxRecDepth 1000000 in
theorem mI0_f110_3 : ((mIx0 ++ mIy0)[108]?.bind (fun q => q.2[3]?)) = some (.int 0) := by decide +kernel
set_option maxRecDepth 1000000 in
theorem mI0_f110_6 : ((mIx0 ++ mIy0)[108]?.bind (fun q => q.2[6]?)) = some (.int 0) := by decide +kernel
set_option maxRecDepth 1000000 in
theorem mI0_f127_1 : ((mIx0 ++ mIy0)[125]?.bind (fun q => q.2[1]?)) = some (.int 0) := by decide +kernel
set_option maxRecDepth 1000000 in
theorem mI0_f181_0 : ((mIx0 ++ mIy0)[179]?.bind (fun q => q.2[0]?)) = some (.int 0) := by decide +kernel
set_option maxRecDepth 1000000 in
theorem mI0_f181_1 : ((mIx0 ++ mIy0)[179]?.bind (fun q => q.2[1]?)) = some (.int 1) := by decide +kernel
set_option maxRecDepth 1000000 in
theorem mI0_f181_15 : ((mIx0 ++ mIy0)[179]?.bind (fun q => q.2[15]?)) = some (.int 0) := by decide +kernel
set_option maxRecDepth 1000000 in
theorem mI0_f181_16 : ((mIx0 ++ mIy0)[179]?.bind (fun q => q.2[16]?)) = some (.int 0) := by decide +kernel
set_option maxRecDepth 1000000 in
theorem mI0_f181_25 : ((mIx0 ++ mIy0)[179]?.bind (fun q => q.2[25]?)) = some (.int 0) := by decide +kernel
set_option maxRecDepth 1000000 in
theorem mI0_f181_64 : ((mIx0 ++ mIy0)[179]?.bind (fun q => q.2[64]?)) = some (.int 0) := by decide +kernel
set_option maxRecDepth 1000000 in
theorem mI0_f181_65 : ((mIx0 ++ mIy0)[179]?.bind (fun q => q.2[65]?)) = some (.int 0) := by decide +kernel
set_option maxRecDepth 1000000 in
theorem mI0_f181_66 : ((mIx0 ++ mIy0)[179]?.bind (fun q => q.2[66]?)) = some (.int 0) := by decide +kernel
set_option maxRecDepth 1000000 in
theorem mI0_f181_67 : ((mIx0 ++ mIy0)[179]?.bind (fun q => q.2[67]?)) = some (.int 0) := by decide +kernel
set_option maxRecDepth 1000000 in
theorem mI0_yT : ∀ d, d < 40 → ((mIx0 ++ mIy0)[6]?.bind (fun q => q.2[d]?)) = some (.ref (10 + d)) ∧ ((mIx0 ++ mIy0)[49]?.bind (fun q => q.2[d]?)) = some (.ref (53 + d)) := by decide +kernel
set_option maxRecDepth 1000000 in
theorem mI0_yE : ∀ p, p < 10 → ((mIx0 ++ mIy0)[2]?.bind (fun q => q.2[p]?)) = some (.int (-1)) ∧ ((mIx0 ++ mIy0)[180]?.bind (fun q => q.2[p]?)) = some (.int (-1)) := by decide +kernel
set_option maxRecDepth 1000000 in
theorem mI0_r129 : ∀ k, k < 3 → ((mIx0 ++ mIy0)[127]?.bind (fun q => q.2[k]?)) = some (.ref (152 + 6 * k)) := by decide +kernel
set_option maxRecDepth 1000000 in
theorem mI0_r99 : ∀ k, k < 10 → ((mIx0 ++ mIy0)[97]?.bind (fun q => q.2[k]?)) = some (.ref (100 + k)) := by decide +kernel
set_option maxRecDepth 1000000 in
theorem mI0_r142 : ∀ k, k < 8 → ((mIx0 ++ mIy0)[140]?.bind (fun q => q.2[k]?)) = some (.ref (143 + k)) := by decide +kernel
set_option maxRecDepth 1000000 in
theorem mI0_st : ∀ k, k < 8 → (((mIx0 ++ mIy0)[3]?.bind (fun q => q.2[k]?)) = some (.int 0) ∧ ((mIx0 ++ mIy0)[4]?.bind (fun q => q.2[k]?)) = some (.int 0)) ∧ ((mIx0 ++ mIy0)[181]?.bind (fun q => q.2[k]?)) = some (.int 0) ∧ ((mIx0 ++ mIy0)[182]?.bind (fun q => q.2[k]?)) = some (.int 0) := by decide +kernel
set_option maxRecDepth 1000000 in
theorem mI0_pr : ∀ k, k < 3 → ((mIx0 ++ mIy0)[150 + 6 * k]?.bind (fun q => q.2[5]?)) = some (.int 0) ∧ ((mIx0 ++ mIy0)[208]?.bind (fun q => q.2[k]?)) = some (.int 0) := by decide +kernel
set_option maxRecDepth 1000000 in
theorem mI0_m1 : ∀ i, i < 8 → (((mIx0 ++ mIy0)[221]?.bind (fun q => q.2[i]?)) = some (.int 0) ∧ ((mIx0 ++ mIy0)[222]?.bind (fun q => q.2[i]?)) = some (.int 0) ∧ ((mIx0 ++ mIy0)[223]?.bind (fun q => q.2[i]?)) = some (.int 0)) ∧ ((mIx0 ++ mIy0)[137]?.bind (fun q => q.2[i]?)) = some (.int 0) ∧ ((mIx0 ++ mIy0)[138]?.bind (fun q => q.2[i]?)) = some (.int 0) ∧ ((mIx0 ++ mIy0)[139]?.bind (fun q => q.2[i]?)) = some (.int 0) := by decide +kernel
set_option maxRecDepth 1000000 in
theorem mI0_m2 : ∀ i, i < 8 → ∀ j, j < 8 → ((mIx0 ++ mIy0)[224]?.bind (fun q => q.2[8 * i + j]?)) = some (.int 0) ∧ ((mIx0 ++ mIy0)[141 + i]?.bind (fun q => q.2[j]?)) = some (.int 100) := by decide +kernel
set_option maxRecDepth 1000000 in
theorem mI0_m3 : ((mIx0 ++ mIy0)[179]?.bind (fun q => q.2[59]?)) = some (.int 0) := by decide +kernel
theorem mI0_xM (s : List Int32) : xM (mI0 s) := by
  have e59 : iv (mI0 s) 181 59 = 0 := iv_of (mI0_slot s (c := 179) mI0_m3)
  refine ⟨fun i hi => ?_, ?_, fun i hi => ?_⟩
  · obtain ⟨⟨a, b, c⟩, d, e, f⟩ := mI0_m1 i hi
    refine ⟨(iv_of (mI0_slot s (c := 221) a)).trans (iv_of (mI0_slot s (c := 137) d)).symm, (iv_of (mI0_slot s (c := 222) b)).trans (iv_of (mI0_slot s (c := 138) e)).symm, (iv_of (mI0_slot s (c := 223) c)).trans (iv_of (mI0_slot s (c := 139) f)).symm, fun j hj => ?_⟩
    obtain ⟨g, h⟩ := mI0_m2 i hi j hj
    have h := mI0_slot s (c := 141 + i) h
    rw [show 141 + i + 2 = 143 + i by omega] at h
    rw [iv_of (mI0_slot s (c := 224) g), iv_of h]
    rfl
  · rw [e59]
    exact ⟨by decide, by decide⟩
  · obtain ⟨_, _, e, _⟩ := mI0_m1 i hi
    rw [e59, iv_of (mI0_slot s (c := 138) e), decide_eq_false (fun q => q rfl)]
    exact Nat.zero_testBit i
set_option maxRecDepth 1000000 in
theorem mI0_k1 : ((mIx0 ++ mIy0)[91]?.bind (fun q => q.2[3]?)) = some (.int 0) ∧ ((mIx0 ++ mIy0)[91]?.bind (fun q => q.2[6]?)) = some (.int 0) ∧ ((mIx0 ++ mIy0)[108]?.bind (fun q => q.2[3]?)) = some (.int 0) ∧ ((mIx0 ++ mIy0)[108]?.bind (fun q => q.2[6]?)) = some (.int 0) := by decide +kernel
theorem kA_none {M : Mem} {g b : Nat} (h3 : iv M g 3 = 0) (h6 : iv M g 6 = 0) : kHW M g b := by
  refine ⟨fun k hk => ?_, id, ?_, fun k hk => ?_⟩
  · rw [h3] at hk
    exact absurd (show (k : Int) < 0 from hk) (by omega)
  · rw [h6]
    exact knP_0
  · rw [h6] at hk
    exact absurd hk (Nat.not_lt_zero k)
theorem mI0_xK (s : List Int32) : xK gh0 (mI0 s) := by
  obtain ⟨a, b, c, d⟩ := mI0_k1
  have e0 : (gh0 1023 0).toInt = 0 := by decide
  refine ⟨⟨fun _ => ⟨kA_none (iv_of (mI0_slot s (c := 91) a)) (iv_of (mI0_slot s (c := 91) b)), kA_none (iv_of (mI0_slot s (c := 108) c)) (iv_of (mI0_slot s (c := 108) d))⟩, fun q => ?_, fun q => ?_⟩, fun d _ hd => ?_⟩
  · rw [e0] at q
    exact absurd q (by decide)
  · rw [e0] at q
    exact absurd q (by decide)
  · have e1 : (gh0 1022 0).toInt = 0 := by decide
    rw [e1] at hd
    omega
theorem mI0_x10 (s : List Int32) : x10 gh0 (mI0 s) := by
  refine ⟨⟨fun d hd => mI0_slot s (c := 6) (mI0_yT d hd).1, fun k hk => mI0_slot s (c := 127) (mI0_r129 k hk), fun k hk => mI0_slot s (c := 97) (mI0_r99 k hk), fun k hk => mI0_slot s (c := 140) (mI0_r142 k hk)⟩, fun k hk => ?_, fun k hk => absurd (show (k : Int) < 0 from hk) (by omega), fun _ k hk => ?_, mI0_xM s, mI0_xK s⟩
  obtain ⟨⟨a, b⟩, c, e⟩ := mI0_st k hk
  exact ⟨(mI0_slot s (c := 3) a).trans (mI0_slot s (c := 181) c).symm, (mI0_slot s (c := 4) b).trans (mI0_slot s (c := 182) e).symm⟩
  obtain ⟨a, b⟩ := mI0_pr k hk
  refine ⟨fun _ => 0, fun _ => 0, fun _ => 0, fun _ => 0, 0, by decide, ?_, ?_, fun q => absurd q (by decide), fun j hj => absurd hj (by omega)⟩
  · have e := mI0_slot s (c := 150 + 6 * k) a
    rw [show 150 + 6 * k + 2 = 152 + 6 * k by omega] at e
    rw [pR_at (qPk k hk).1, iv_of e]
    rfl
  · rw [pR_at rfl, iv_of (mI0_slot s (c := 208) b)]
    rfl
set_option maxRecDepth 1000000 in
theorem mI0_o1 : ((mIx0 ++ mIy0)[5]?.bind (fun q => q.2[2]?)) = some (.int 0) ∧ ((mIx0 ++ mIy0)[48]?.bind (fun q => q.2[2]?)) = some (.int 0) := by decide +kernel
theorem okL_none {M : Mem} {c b o : Nat} (h : iv M c 2 = 0) : okL M c b o := by
  unfold okL
  rw [h]
  exact ⟨Nat.zero_le _, knP_0⟩
theorem mI0_xO (s : List Int32) : xO gh0 (mI0 s) := fun _ => ⟨okL_none (iv_of (mI0_slot s (c := 5) mI0_o1.1)), okL_none (iv_of (mI0_slot s (c := 48) mI0_o1.2))⟩
theorem mI0_x9 (s : List Int32) : x9 gh0 (mI0 s) := by
  refine ⟨fun d hd => ⟨mI0_slot s (c := 6) (mI0_yT d hd).1, mI0_slot s (c := 49) (mI0_yT d hd).2⟩, ⟨⟨by decide, by decide⟩, by decide, by decide⟩, ⟨0, rfl, ?_⟩, ?_, ⟨by decide, by decide, by decide⟩, ?_, ?_, ?_⟩
  · intro d hd
    have hd : (d : Int) < 0 := hd
    omega
  · intro _ d hd
    have hd : (d : Int) < 0 := hd
    omega
  · intro h0
    exact absurd (show (0 : Int) = 1 from h0) (by decide)
  · intro p hp _
    rw [yV_get (t := 6) (f := 0) (d := p) (yOk_s hp rfl) (mI0_slot s (c := 2) (mI0_yE p hp).1), yV_get (t := 7) (f := 0) (d := p) (yOk_s hp rfl) (mI0_slot s (c := 180) (mI0_yE p hp).2)]
  · intro h0
    exact absurd (show (0 : Int) = 1 from h0) (by decide)
theorem law_go {s : List Int32} (hl : s.length ≤ 576) : Ok 62 282 0 [(0, .ref 0)] [] [(64, s.map .int), (63, [])] (fun r M1 => r = some (.int 1) ∧ M1.length ≤ 600002 ∧ mSl M1 ≤ 7302250) := by
  obtain ⟨M1, e1, f1⟩ := mRun_fr _ _ _ _ _ _ _ _ _ mInit1b
  cases e1
  obtain ⟨M2, e2, f2⟩ := mRun_fr _ _ _ _ _ _ _ _ _ mInit2b
  cases e2
  refine kNew (mi := 282) (pc := 0) (len := 3) (ci := 10) rfl (by decide) ?_
  refine kDupR (len := 1) rfl ?_
  refine Ok.call (j := 108) (len := 3) rfl (Or.inr (Or.inr rfl)) (by decide) (mCall_in (by decide) (by decide) rfl (by decide)) ?_
  refine ⟨4000, none, _, f1 (64, s.map .int), ?_⟩
  refine kAstore (mi := 282) (len := 1) (i := 1) rfl (by decide) ?_
  refine kNew (len := 3) (ci := 11) rfl (by decide) ?_
  have el : ((64, s.map Value.int) :: (63, []) :: mIx0).length = 181 := by
    show mIx0.length + 1 + 1 = 181
    rw [mIxy_len.2.1]
  rw [el]
  refine kDupR (len := 1) rfl ?_
  refine Ok.call (j := 159) (len := 3) rfl (Or.inr (Or.inr rfl)) (by decide) (mCall_in (by decide) (by decide) rfl (by decide)) ?_
  refine ⟨1000, none, _, f2 (64, s.map .int), ?_⟩
  refine kAstore (mi := 282) (len := 1) (i := 2) rfl (by decide) ?_
  refine kIconst (len := 1) (v := 0) rfl ?_
  refine kIstore (len := 1) (i := 3) rfl (by decide) ?_
  have hm9 : aMem9 (s, gh0) (mI0 s) := aMem_9 (aMem_mk ⟨fun c => absurd (show 0 ≤ (-1 : Int32).toInt from c) (by decide), (show (gh0 1012 1).toInt = (gh0 1012 0).toInt / 4 by decide), (show gh0 1013 1 = bcI (gh0 1013 0) by decide)⟩ (mI0_tp s) (mI0_xi s)) (mI0_x9 s)
  have hm : aMem (s, gh0) (mI0 s) := aMem_of9 hm9 (mI0_x10 s) (mI0_xO s)
  have hH : aHold (s, gh0) (fun i => if i = 1 then (s.length : Int) else 0) ct_196.2.2.2.1 (mSt1 (mSt1 (mSt1 [(0, .ref 0)] 1 (.ref 2)) 2 (.ref 181)) 3 (.int 0)) [] (mI0 s) := by
    have hk := mkHold9 (scr := (s, gh0)) (σ := (fun i => if i = 1 then (s.length : Int) else 0)) (B := [(.ofNat 0, .ofNat 0), (.ofNat 0, .ofNat 576), (.ofNat 0, .ofNat 0)]) (Z := []) (F := [(2, 11, (1, 0, .ofNat 1)), (2, 13, (1, 0, .ofNat 0)), (7, 2, (1, 0, .ofNat 0)), (50, 2, (1, 0, .ofNat 0)), (93, 3, (1, 0, .ofNat 0)), (93, 6, (1, 0, .ofNat 0)), (110, 3, (1, 0, .ofNat 0)), (110, 6, (1, 0, .ofNat 0)), (127, 1, (1, 0, .ofNat 0)), (181, 0, (1, 0, .ofNat 0)), (181, 1, (1, 0, .ofNat 1)), (181, 15, (1, 0, .ofNat 0)), (181, 16, (1, 0, .ofNat 0)), (181, 25, (1, 0, .ofNat 0)), (181, 64, (1, 0, .ofNat 0)), (181, 65, (1, 0, .ofNat 0)), (181, 66, (1, 0, .ofNat 0)), (181, 67, (1, 0, .ofNat 0)), (1020, 0, (1, 0, .ofNat 0)), (1021, 0, (1, 0, .ofNat 0)), (1022, 0, (1, 0, .ofNat 0)), (1023, 0, (1, 0, .ofNat 0)), (1023, 1, (1, 0, .ofNat 0)), (1024, 0, (1, 0, .ofNat 0)), (1030, 0, (1, 0, .ofNat 0)), (1030, 2, (1, 0, .ofNat 0)), (1038, 1, (1, 0, .ofNat 0)), (1039, 0, (1, 0, .ofNat 0)), (1045, 0, (1, 0, .ofNat 0))]) (T := []) (st := []) (M := mI0 s) (by decide) rfl ⟨b00 rfl, ⟨by show (0 : Int) ≤ (s.length : Int); omega, by show (s.length : Int) ≤ 576; omega⟩, b00 rfl, True.intro⟩ True.intro ⟨hF1_re rfl (by decide) (by decide) (mI0_slot s (c := 0) mI0_f2_11) rfl, hF1_re rfl (by decide) (by decide) (mI0_slot s (c := 0) mI0_f2_13) rfl, hF1_re rfl (by decide) (by decide) (mI0_slot s (c := 5) mI0_f7_2) rfl, hF1_re rfl (by decide) (by decide) (mI0_slot s (c := 48) mI0_f50_2) rfl, hF1_re rfl (by decide) (by decide) (mI0_slot s (c := 91) mI0_f93_3) rfl, hF1_re rfl (by decide) (by decide) (mI0_slot s (c := 91) mI0_f93_6) rfl, hF1_re rfl (by decide) (by decide) (mI0_slot s (c := 108) mI0_f110_3) rfl, hF1_re rfl (by decide) (by decide) (mI0_slot s (c := 108) mI0_f110_6) rfl, hF1_re rfl (by decide) (by decide) (mI0_slot s (c := 125) mI0_f127_1) rfl, hF1_re rfl (by decide) (by decide) (mI0_slot s (c := 179) mI0_f181_0) rfl, hF1_re rfl (by decide) (by decide) (mI0_slot s (c := 179) mI0_f181_1) rfl, hF1_re rfl (by decide) (by decide) (mI0_slot s (c := 179) mI0_f181_15) rfl, hF1_re rfl (by decide) (by decide) (mI0_slot s (c := 179) mI0_f181_16) rfl, hF1_re rfl (by decide) (by decide) (mI0_slot s (c := 179) mI0_f181_25) rfl, hF1_re rfl (by decide) (by decide) (mI0_slot s (c := 179) mI0_f181_64) rfl, hF1_re rfl (by decide) (by decide) (mI0_slot s (c := 179) mI0_f181_65) rfl, hF1_re rfl (by decide) (by decide) (mI0_slot s (c := 179) mI0_f181_66) rfl, hF1_re rfl (by decide) (by decide) (mI0_slot s (c := 179) mI0_f181_67) rfl, hF1_gh (by decide) (by decide) rfl, hF1_gh (by decide) (by decide) rfl, hF1_gh (by decide) (by decide) rfl, hF1_gh (by decide) (by decide) rfl, hF1_gh (by decide) (by decide) rfl, hF1_gh (by decide) (by decide) rfl, hF1_gh (by decide) (by decide) rfl, hF1_gh (by decide) (by decide) rfl, hF1_gh (by decide) (by decide) rfl, hF1_gh (by decide) (by decide) rfl, hF1_gh (by decide) (by decide) rfl, True.intro⟩ True.intro hm9
    refine ⟨hk.1, ?_, True.intro, hm⟩
    intro i v e
    match i, e with
    | 0, e => cases e; exact Or.inr ⟨.ref 0, rfl, by decide, rfl, rfl⟩
    | 1, e => cases e; exact Or.inr ⟨.ref 2, rfl, 2, rfl, by decide, by decide, rfl, fun hc => absurd hc (by decide)⟩
    | 2, e => cases e; exact Or.inr ⟨.ref 181, rfl, 181, rfl, by decide, by decide, rfl, fun hc => absurd hc (by decide)⟩
    | 3, e => cases e; exact Or.inr ⟨.int 0, rfl, by decide, 0, rfl, rfl⟩
    | i + 4, e => cases e
  refine Ok.mono (cs_196 cs_luO cs_ab (cLiftK rfl (cLift9 rfl (cLift rfl cs_bc))) (cLiftK rfl (cLift9 rfl (cLift rfl cs_bc1))) (cLiftK rfl (cLift9 rfl (cLift rfl cs_bt2))) (cLiftK rfl (cLift9 rfl cs_ck0)) (cLiftK rfl (cLift9 rfl cs_ck1)) (cLiftK rfl (cLift9 rfl cs_ck2)) (cLiftK rfl (cLift9 rfl cs_ck3)) (cLiftK rfl (cLift9 rfl cs_ck4)) (cLiftK rfl (cLift9 rfl cs_ck5)) (cLiftK rfl (cLift9 rfl cs_ck7)) (cLiftK rfl (cLift9 rfl cs_ck8)) (cLiftK rfl (cLift9 rfl cs_ck9)) (cLiftK rfl (cLift9 rfl cs_cu0)) (cLiftK rfl (cLift9 rfl cs_cu1)) (cLiftK rfl (cLift9 rfl cs_cu2)) (cLiftK rfl (cLift9 rfl cs_cu3)) (cLiftK rfl (cLift9 rfl cs_cu4)) (cLiftK rfl (cLift9 rfl cs_cu5)) (cLiftK rfl (cLift9 rfl cs_cu7)) (cLiftK rfl (cLift9 rfl cs_cu8)) (cLiftK rfl (cLift9 rfl cs_cu9)) cs_dl (cLiftK rfl cs_gk) (cLiftK rfl cs_gu) (cLiftK rfl cs_hk0) (cLiftK rfl cs_hk1) (cLiftK rfl cs_hk2) (cLiftK rfl cs_hk3) (cLiftK rfl cs_hk4) (cLiftK rfl cs_hu0) (cLiftK rfl cs_hu1) (cLiftK rfl cs_hu2) (cLiftK rfl cs_hu3) (cLiftK rfl cs_hu4) cs_lkO (cLiftK rfl (cLift9 rfl cs_ms)) (cLiftK rfl cs_sa) (cLiftK rfl cs_sp) (gLiftK rfl (gLift9 rfl (gLift rfl gs_aq0))) (gLiftK rfl (gLift9 rfl (gLift rfl gs_aq1))) (gLiftK rfl (gLift9 rfl (gLift rfl gs_aq2))) (gLiftK rfl (gLift9 rfl (gLift rfl gs_bo1))) (gLiftK rfl (gLift9 rfl (gLift rfl gs_bo2))) gs_c1 gs_c10 gs_c11 gs_c15 gs_c27 gs_c28 gs_c8 gs_c9 (gLiftK rfl (gLift9 rfl gs_ca112_34)) (gLiftK rfl (gLift9 rfl gs_ca113_24)) (gLiftK rfl (gLift9 rfl gs_ca114_56)) (gLiftK rfl (gLift9 rfl gs_ca115_38)) (gLiftK rfl (gLift9 rfl gs_ca115_56)) (gLiftK rfl (gLift9 rfl gs_ca116_33)) (gLiftK rfl (gLift9 rfl gs_ca132_93)) (gLiftK rfl (gLift9 rfl gs_ca133_67)) (gLiftK rfl (gLift9 rfl gs_ca157_68)) (gLiftK rfl (gLift9 rfl gs_cg112_17)) (gLiftK rfl (gLift9 rfl gs_cg115_39)) (gLiftK rfl (gLift9 rfl gs_cg157_54)) (gLiftK rfl (gLift9 rfl gs_cg26_1)) (gLiftK rfl (gLift9 rfl gs_cg27_1)) (gLiftK rfl (gLift9 rfl gs_cg29_7)) (gLiftK rfl (gLift9 rfl gs_cg34_107)) (gLiftK rfl (gLift9 rfl gs_cg34_39)) (gLiftK rfl (gLift9 rfl gs_cg34_58)) (gLiftK rfl (gLift9 rfl gs_cg35_48)) (gLiftK rfl (gLift9 rfl gs_cg35_57)) (gLiftK rfl (gLift9 rfl gs_cg35_64)) (gLiftK rfl (gLift9 rfl gs_cg35_71)) (gLiftK rfl (gLift9 rfl (gLift rfl gs_cmp))) (gLiftK rfl (gLift9 rfl gs_co112_16)) (gLiftK rfl (gLift9 rfl gs_co115_23)) (gLiftK rfl (gLift9 rfl gs_co116_16)) (gLiftK rfl (gLift9 rfl gs_co157_53)) (gLiftK rfl (gLift9 rfl gs_co34_34)) (gLiftK rfl (gLift9 rfl gs_co35_34)) (gLiftK rfl (gLift9 rfl gs_cp112_36)) (gLiftK rfl (gLift9 rfl gs_cp115_58)) (gLiftK rfl (gLift9 rfl gs_cp158_26)) (gLiftK rfl (gLift9 rfl gs_cp158_33)) (gLiftK rfl (gLift9 rfl gs_cp158_40)) (gLiftK rfl (gLift9 rfl gs_cp29_10)) (gLiftK rfl (gLift9 rfl gs_cp29_15)) (gLiftK rfl (gLift9 rfl gs_cp29_2)) (gLiftK rfl (gLift9 rfl gs_cp30_13)) (gLiftK rfl (gLift9 rfl gs_cp30_3)) (gLiftK rfl (gLift9 rfl gs_cp30_8)) (gLiftK rfl (gLift9 rfl gs_cp34_118)) (gLiftK rfl (gLift9 rfl gs_cp34_69)) (gLiftK rfl (gLift9 rfl gs_cp35_118)) (gLiftK rfl gs_cpk158_14) (gLiftK rfl gs_cpk158_20) (gLiftK rfl (gLift9 rfl gs_cs0)) (gLiftK rfl (gLift9 rfl gs_csf109)) (gLiftK rfl (gLift9 rfl gs_csf51)) (gLiftK rfl (gLift9 rfl gs_csl)) (gLiftK rfl (gLift9 rfl gs_css)) (gLiftK rfl (gLift9 rfl (gLift rfl gs_ct0))) (gLiftK rfl (gLift9 rfl (gLift rfl gs_ct1))) (gLiftK rfl (gLift9 rfl (gLift rfl gs_ct2))) (gLiftK rfl (gLift9 rfl (gLift rfl gs_ct3a))) (gLiftK rfl (gLift9 rfl (gLift rfl gs_ct3b))) (gLiftK rfl (gLift9 rfl (gLift rfl gs_ct3c))) (gLiftK rfl (gLift9 rfl (gLift rfl gs_ct3d))) (gLiftK rfl (gLift9 rfl (gLift rfl gs_ct3e))) (gLiftK rfl (gLift9 rfl (gLift rfl gs_ct4))) (gLiftK rfl (gLift9 rfl (gLift rfl gs_ct50))) (gLiftK rfl (gLift9 rfl (gLift rfl gs_ct51))) (gLiftK rfl (gLift9 rfl (gLift rfl gs_ct52))) (gLiftK rfl (gLift9 rfl (gLift rfl gs_ct6))) (gLiftK rfl (gLift9 rfl (gLift rfl gs_ct7))) (gLiftK rfl (gLift9 rfl gs_cw0)) (gLiftK rfl (gLift9 rfl gs_dk230)) (gLiftK rfl (gLift9 rfl gs_dms)) (gLiftK rfl (gLift9 rfl (gLift rfl gs_dvm))) (gLiftK rfl (gLift9 rfl (gLift rfl gs_dvx))) (gLiftK rfl (gLift9 rfl gs_dxs)) (gLiftK rfl (gLift9 rfl gs_fk)) (gLiftK rfl (gLift9 rfl gs_fq272)) (gLiftK rfl (gLift9 rfl gs_fq273)) (gLiftK rfl (gLift9 rfl gs_fs272)) (gLiftK rfl (gLift9 rfl gs_fs273)) (gLiftK rfl (gLift9 rfl gs_fu)) (gLiftK rfl (gLift9 rfl (gLift rfl gs_gb1))) (gLiftK rfl (gLift9 rfl gs_ka247_126)) (gLiftK rfl (gLift9 rfl gs_ka248_111)) (gLiftK rfl (gLift9 rfl gs_ka282_1887)) (gLiftK rfl (gLift9 rfl gs_ka34_124)) (gLiftK rfl (gLift9 rfl gs_ka35_124)) (gLiftK rfl (gLift9 rfl gs_kb247_126)) (gLiftK rfl (gLift9 rfl gs_kb248_111)) (gLiftK rfl (gLift9 rfl gs_kb282_1887)) (gLiftK rfl (gLift9 rfl gs_kb34_124)) (gLiftK rfl (gLift9 rfl gs_kb35_124)) (gLiftK rfl (gLift9 rfl gs_kc132_140)) (gLiftK rfl (gLift9 rfl gs_kc133_82)) (gLiftK rfl (gLift9 rfl gs_kc249_152)) (gLiftK rfl (gLift9 rfl gs_kg282_1887)) (gLiftK rfl (gLift9 rfl gs_ks1)) (gLiftK rfl (gLift9 rfl gs_ks2)) (gLiftK rfl (gLift9 rfl gs_ks3)) (gLiftK rfl (gLift9 rfl gs_kz272)) (gLiftK rfl (gLift9 rfl gs_kz273)) (gLiftK rfl (gLift9 rfl (gLift rfl gs_ld1747))) (gLiftK rfl (gLift9 rfl (gLift rfl gs_ld1757))) (gLiftK rfl (gLift9 rfl (gLift rfl gs_ld1796))) (gLiftK rfl (gLift9 rfl (gLift rfl gs_ld1801))) (gLiftK rfl (gLift9 rfl (gLift rfl gs_ld1811))) (gLiftK rfl (gLift9 rfl (gLift rfl gs_ld1816))) (gLiftK rfl (gLift9 rfl (gLift rfl gs_ld201))) (gLiftK rfl (gLift9 rfl (gLift rfl gs_ld206))) (gLiftK rfl (gLift9 rfl (gLift rfl gs_ld216))) (gLiftK rfl (gLift9 rfl (gLift rfl gs_ld221))) (gLiftK rfl (gLift9 rfl (gLift rfl gs_ld277))) (gLiftK rfl (gLift9 rfl (gLift rfl gs_ld282))) (gLiftK rfl (gLift9 rfl (gLift rfl gs_ld287))) (gLiftK rfl (gLift9 rfl (gLift rfl gs_ld292))) (gLiftK rfl (gLift9 rfl (gLift rfl gs_ld297))) (gLiftK rfl (gLift9 rfl (gLift rfl gs_ld302))) (gLiftK rfl (gLift9 rfl (gLift rfl gs_ld313))) (gLiftK rfl (gLift9 rfl (gLift rfl gs_ld318))) (gLiftK rfl (gLift9 rfl (gLift rfl gs_ld323))) (gLiftK rfl (gLift9 rfl (gLift rfl gs_ld328))) (gLiftK rfl (gLift9 rfl (gLift rfl gs_ld333))) (gLiftK rfl (gLift9 rfl (gLift rfl gs_ld338))) (gLiftK rfl (gLift9 rfl (gLift rfl gs_ld352))) (gLiftK rfl (gLift9 rfl (gLift rfl gs_ld357))) (gLiftK rfl (gLift9 rfl (gLift rfl gs_ld375))) (gLiftK rfl (gLift9 rfl (gLift rfl gs_ld380))) (gLiftK rfl (gLift9 rfl (gLift rfl gs_ld401))) (gLiftK rfl (gLift9 rfl (gLift rfl gs_ld406))) (gLiftK rfl (gLift9 rfl (gLift rfl gs_ld411))) (gLiftK rfl (gLift9 rfl (gLift rfl gs_ld416))) (gLiftK rfl (gLift9 rfl (gLift rfl gs_ld421))) (gLiftK rfl (gLift9 rfl (gLift rfl gs_ld431))) (gLiftK rfl (gLift9 rfl (gLift rfl gs_ld436))) (gLiftK rfl (gLift9 rfl (gLift rfl gs_ld441))) (gLiftK rfl (gLift9 rfl (gLift rfl gs_ld446))) (gLiftK rfl (gLift9 rfl (gLift rfl gs_ld451))) (gLiftK rfl (gLift9 rfl (gLift rfl gs_ld464))) (gLiftK rfl (gLift9 rfl (gLift rfl gs_ld469))) (gLiftK rfl (gLift9 rfl (gLift rfl gs_ld474))) (gLiftK rfl (gLift9 rfl (gLift rfl gs_ld479))) (gLiftK rfl (gLift9 rfl (gLift rfl gs_ld484))) (gLiftK rfl (gLift9 rfl (gLift rfl gs_ld494))) (gLiftK rfl (gLift9 rfl (gLift rfl gs_ld499))) (gLiftK rfl (gLift9 rfl (gLift rfl gs_ld504))) (gLiftK rfl (gLift9 rfl (gLift rfl gs_ld509))) (gLiftK rfl (gLift9 rfl (gLift rfl gs_ld514))) (gLiftK rfl (gLift9 rfl (gLift rfl gs_ld527))) (gLiftK rfl (gLift9 rfl (gLift rfl gs_ld532))) (gLiftK rfl (gLift9 rfl (gLift rfl gs_ld542))) (gLiftK rfl (gLift9 rfl (gLift rfl gs_ld547))) (gLiftK rfl (gLift9 rfl (gLift rfl gs_ld560))) (gLiftK rfl (gLift9 rfl (gLift rfl gs_ld570))) (gLiftK rfl (gLift9 rfl (gLift rfl gs_lk0))) (gLiftK rfl (gLift9 rfl (gLift rfl gs_lk1))) (gLiftK rfl (gLift9 rfl (gLift rfl gs_lk2))) (gLiftK rfl (gLift9 rfl (gLift rfl gs_lo1))) (gLiftK rfl (gLift9 rfl (gLift rfl gs_lo2))) (gLiftK rfl (gLift9 rfl (gLift rfl gs_lo3))) (gLiftK rfl (gLift9 rfl (gLift rfl gs_lo4))) (gLiftK rfl (gLift9 rfl (gLift rfl gs_lq0))) (gLiftK rfl (gLift9 rfl (gLift rfl gs_lq1))) (gLiftK rfl (gLift9 rfl (gLift rfl gs_lq2))) (gLiftK rfl (gLift9 rfl (gLift rfl gs_lq3))) (gLiftK rfl (gLift9 rfl (gLift rfl gs_lql))) (gLiftK rfl (gLift9 rfl (gLift rfl gs_me))) (gLiftK rfl (gLift9 rfl gs_mk0)) (gLiftK rfl (gLift9 rfl gs_mk1)) (gLiftK rfl (gLift9 rfl gs_mk2)) (gLiftK rfl (gLift9 rfl gs_ml0)) (gLiftK rfl (gLift9 rfl gs_ml1)) (gLiftK rfl (gLift9 rfl gs_ml2)) (gLiftK rfl (gLift9 rfl gs_mn114)) (gLiftK rfl (gLift9 rfl gs_mr0)) (gLiftK rfl (gLift9 rfl gs_mr1)) (gLiftK rfl (gLift9 rfl gs_mr2)) (gLiftK rfl (gLift9 rfl gs_ms0)) (gLiftK rfl (gLift9 rfl gs_ms1)) (gLiftK rfl (gLift9 rfl gs_ms2)) (gLiftK rfl (gLift9 rfl gs_mx173)) (gLiftK rfl (gLift9 rfl gs_my173)) (gLiftK rfl (gLift9 rfl gs_mz114)) (gLiftK rfl (gLift9 rfl (gLift rfl gs_nb1))) (gLiftK rfl (gLift9 rfl (gLift rfl gs_nb2))) (gLiftK rfl (gLift9 rfl (gLift rfl gs_nw1))) (gLiftK rfl (gLift9 rfl (gLift rfl gs_nw2))) (gLiftK rfl (gLift9 rfl gs_pgm172)) (gLiftK rfl (gLift9 rfl gs_pgm173)) (gLiftK rfl (gLift9 rfl gs_pgx)) (gLiftK rfl (gLift9 rfl (gLift rfl gs_po1))) (gLiftK rfl (gLift9 rfl gs_ra168_13)) (gLiftK rfl (gLift9 rfl gs_ra170_21)) (gLiftK rfl (gLift9 rfl gs_ra170_30)) (gLiftK rfl (gLift9 rfl gs_ra171_17)) (gLiftK rfl (gLift9 rfl gs_ra173_69)) (gLiftK rfl (gLift9 rfl gs_ra174_20)) (gLiftK rfl (gLift9 rfl gs_ra174_30)) (gLiftK rfl (gLift9 rfl gs_ra175_13)) (gLiftK rfl (gLift9 rfl gs_ra177_15)) (gLiftK rfl (gLift9 rfl gs_ra177_21)) (gLiftK rfl (gLift9 rfl gs_ra177_5)) (gLiftK rfl (gLift9 rfl gs_ra247_91)) (gLiftK rfl (gLift9 rfl gs_rn249_13)) (gLiftK rfl (gLift9 rfl gs_ro170_21)) (gLiftK rfl (gLift9 rfl gs_ro247_62)) (gLiftK rfl (gLift9 rfl gs_ro248_59)) (gLiftK rfl (gLift9 rfl gs_rs167_100)) (gLiftK rfl (gLift9 rfl gs_rs167_111)) (gLiftK rfl (gLift9 rfl gs_rs167_122)) (gLiftK rfl (gLift9 rfl gs_rs167_133)) (gLiftK rfl (gLift9 rfl gs_rs167_143)) (gLiftK rfl (gLift9 rfl gs_rs167_153)) (gLiftK rfl (gLift9 rfl gs_rs167_163)) (gLiftK rfl (gLift9 rfl gs_rs167_173)) (gLiftK rfl (gLift9 rfl gs_rs167_80)) (gLiftK rfl (gLift9 rfl gs_rs167_90)) (gLiftK rfl (gLift9 rfl gs_rs168_26)) (gLiftK rfl (gLift9 rfl gs_rs171_18)) (gLiftK rfl (gLift9 rfl gs_rs171_25)) (gLiftK rfl (gLift9 rfl gs_rs171_6)) (gLiftK rfl (gLift9 rfl gs_rs174_43)) (gLiftK rfl (gLift9 rfl gs_rs175_26)) (gLiftK rfl (gLift9 rfl gs_rs175_33)) (gLiftK rfl (gLift9 rfl gs_rs175_40)) (gLiftK rfl (gLift9 rfl gs_rs247_100)) (gLiftK rfl (gLift9 rfl gs_rs247_71)) (gLiftK rfl (gLift9 rfl gs_rs248_69)) (gLiftK rfl (gLift9 rfl gs_rs248_85)) (gLiftK rfl (gLift9 rfl gs_rs249_102)) (gLiftK rfl (gLift9 rfl gs_rs249_110)) (gLiftK rfl (gLift9 rfl gs_rs249_21)) (gLiftK rfl (gLift9 rfl gs_rs249_31)) (gLiftK rfl (gLift9 rfl gs_rs249_40)) (gLiftK rfl (gLift9 rfl gs_rs249_48)) (gLiftK rfl (gLift9 rfl gs_rs249_57)) (gLiftK rfl (gLift9 rfl gs_rs249_66)) (gLiftK rfl (gLift9 rfl gs_rs249_84)) (gLiftK rfl (gLift9 rfl (gLift rfl gs_tq))) (gLiftK rfl (gLift9 rfl gs_va43)) (gLiftK rfl (gLift9 rfl gs_va44)) (gLiftK rfl (gLift9 rfl gs_ve)) (gLiftK rfl (gLift9 rfl gs_vl43)) (gLiftK rfl (gLift9 rfl gs_vl44)) (gLiftK rfl (gLift9 rfl gs_vt7)) (gLiftK rfl (gLift9 rfl gs_vt8)) (gLiftK rfl (gLift9 rfl gs_vt9)) (gLiftK rfl (gLift9 rfl gs_vw7)) (gLiftK rfl (gLift9 rfl gs_vw8)) (gLiftK rfl (gLift9 rfl gs_vw9)) (gLiftK rfl (gLift9 rfl gs_we)) (gLiftK rfl (gLift9 rfl gs_wl136)) (gLiftK rfl (gLift9 rfl gs_wl149)) (gLiftK rfl (gLift9 rfl gs_wl39)) (gLiftK rfl (gLift9 rfl gs_wl60)) (gLiftK rfl (gLift9 rfl gs_wr1)) (gLiftK rfl (gLift9 rfl gs_wr2)) (gLiftK rfl (gLift9 rfl gs_ww49)) (gLiftK rfl (gLift9 rfl gs_ww73)) (gLiftK rfl (gLift9 rfl gs_wy0)) gh0 62 _ _ (mI0 s) (Nat.le_refl _) hH) ?_
  intro r M3 h3
  obtain ⟨fr, γ', _, o, ho, σ', _, hO⟩ := h3
  have ho : o = _ := List.mem_singleton.mp ho
  subst ho
  refine ⟨?_, ?_, ?_⟩
  · have hs := hO.2.2.1
    have s0 := hO.1.2.1.1
    cases r with
    | none => exact hs.elim
    | some w =>
      obtain ⟨_, x, hx, hx2⟩ := hs.1
      subst hx
      have : x.toInt = 1 := by
        have hx2 : x.toInt = σ' 0 + 1 := hx2
        omega
      rw [Int32.toInt_inj.mp (this.trans (show (1 : Int) = (1 : Int32).toInt from rfl))]
  · rw [fr.1]
    show (mIx0 ++ mIy0).length + 1 + 1 ≤ 600002
    rw [mIxy_len.1]
    decide
  · rw [fr.2.1]
    have e : mSl (mI0 s) = (s.map Value.int).length + (([] : List Value).length + mSl (mIx0 ++ mIy0)) := by
      unfold mI0
      rw [mSl_cons, mSl_cons]
    rw [e, List.length_map, List.length_nil]
    have := mIxy_len.2.2
    omega
theorem hRun_all (scr : List Int32) (hl : scr.length ≤ 576) : ∃ n d M1, d ≤ 1300 ∧ mRun n d 282 0 [(0, .ref 0)] [] [(64, scr.map .int), (63, [])] = some (some (.int 1), M1) ∧ M1.length ≤ 600002 ∧ mSl M1 ≤ 7302250 := by
  obtain ⟨n, r, M1, h1, h4, h2, h3⟩ := law_go hl
  subst h4
  exact ⟨n, 62, M1, by decide, h1, h2, h3⟩
