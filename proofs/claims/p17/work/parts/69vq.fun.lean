/-! the reference's reader against the machine: comparisons, conditions (printed by fn19.py) -/
theorem rem_20 {x : Int32} (h0 : 0 ≤ x.toInt) (h1 : x.toInt < 16777216) : (x - x / (1048576 : Int32) * (1048576 : Int32)).toInt = x.toInt % 1048576 := by
  have q1 : (x / (1048576 : Int32)).toInt = x.toInt / 1048576 := i32_div h0 (by decide)
  have q2 : (x / (1048576 : Int32) * (1048576 : Int32)).toInt = x.toInt / 1048576 * 1048576 := by
    rw [i32_mul (by rw [q1]; show -2147483648 ≤ x.toInt / 1048576 * 1048576; omega) (by rw [q1]; show x.toInt / 1048576 * 1048576 ≤ 2147483647; omega), q1]
    rfl
  rw [i32_sub (by omega) (by omega), q2]
  omega
section
variable {t : Int → Int} {P : PS}
theorem sQ_bd (h11 : ¬ pTop P = 11) (h12 : ¬ (pTop P = 12 ∧ ¬ t P.1.1 = 38)) (h1 : ¬ t P.1.1 = 41) (h2 : ¬ t P.1.1 = 38) (h3 : ¬ t P.1.1 = 124) : sm t (4, 0, 0, P) = cBad 1 P := by
  show sQ t P = _
  unfold sQ
  rw [if_neg h11, if_neg h12, if_neg h1, if_neg h2, if_neg h3]
theorem sQ_sh3 (h11 : ¬ pTop P = 11) (h12 : ¬ (pTop P = 12 ∧ ¬ t P.1.1 = 38)) (h1 : t P.1.1 = 41) (hw : ¬ P.1.2.2.2 = 1) : sm t (4, 0, 0, P) = (3, 0, 0, pAdv (pOpn (pPop P) (-1))) := by
  show sQ t P = _
  unfold sQ
  rw [if_neg h11, if_neg h12, if_pos h1, if_neg hw]
theorem sQ_sh7 (h11 : ¬ pTop P = 11) (h12 : ¬ (pTop P = 12 ∧ ¬ t P.1.1 = 38)) (h1 : t P.1.1 = 41) (hw : P.1.2.2.2 = 1) : sm t (4, 0, 0, P) = (7, 0, 0, pAdv (pOpn (pPop P) (-1))) := by
  show sQ t P = _
  unfold sQ
  rw [if_neg h11, if_neg h12, if_pos h1, if_pos hw]
theorem sQ_j38 (h11 : ¬ pTop P = 11) (h12 : ¬ (pTop P = 12 ∧ ¬ t P.1.1 = 38)) (h1 : t P.1.1 = 38) : sm t (4, 0, 0, P) = (2, 0, 0, pAdv (pEm (pPush P (11534336 + (P.1.2.2.1 : Int))) 11534336)) := by
  show sQ t P = _
  unfold sQ
  rw [if_neg h11, if_neg h12, if_neg (by omega), if_pos h1]
theorem sQ_j124 (h11 : ¬ pTop P = 11) (h12 : ¬ (pTop P = 12 ∧ ¬ t P.1.1 = 38)) (h1 : t P.1.1 = 124) : sm t (4, 0, 0, P) = (2, 0, 0, pAdv (pEm (pPush P (12582912 + (P.1.2.2.1 : Int))) 12582912)) := by
  show sQ t P = _
  unfold sQ
  rw [if_neg h11, if_neg h12, if_neg (by omega), if_neg (by omega), if_pos h1]
end
theorem nte_v {op v : Int32} (o0 : 0 ≤ op.toInt) (o1 : op.toInt ≤ 15) (v0 : 0 ≤ v.toInt) (v1 : v.toInt < 1048576) : ((1048576 : Int32) * op + v).toInt = 1048576 * op.toInt + v.toInt := note_v o0 o1 v0 v1
/-- what waits of a condition lands -/
def LAN (t : Int → Int) (P P' : PS) : Prop := Rch t (4, 0, 0, P) (4, 0, 0, P') ∧ P'.1.1 = P.1.1 ∧ ¬ pTop P' = 11 ∧ ¬ (pTop P' = 12 ∧ ¬ t P'.1.1 = 38)
theorem LAN.st {t : Int → Int} {P : PS} {op : Int} (ho : op = 11 ∨ op = 12) (hp : pTop P = op) (h38 : op = 12 → ¬ t P.1.1 = 38) : sm t (4, 0, 0, P) = (4, 0, 0, pPop (pLand P op)) := by
  rcases ho with rfl | rfl
  · exact sQ_and hp
  · exact sQ_or hp (h38 rfl)
theorem LAN.go {t : Int → Int} {P P' : PS} {op : Int} (ho : op = 11 ∨ op = 12) (hp : pTop P = op) (h38 : op = 12 → ¬ t P.1.1 = 38) (h : LAN t (pPop (pLand P op)) P') : LAN t P P' :=
  ⟨Rch.go (LAN.st ho hp h38) h.1, h.2.1, h.2.2.1, h.2.2.2⟩
theorem lan_ex {t : Int → Int} : ∀ (w : Nat) (P : PS), P.1.2.2.2 = w → ∃ P', LAN t P P'
  | 0, P, e => by
    have z := pTop_z e
    exact ⟨P, Rch.rf, rfl, by omega, by omega⟩
  | w + 1, P, e => by
    by_cases h11 : pTop P = 11
    · obtain ⟨P', h⟩ := lan_ex w (pPop (pLand P 11)) (show P.1.2.2.2 - 1 = w by omega)
      exact ⟨P', h.go (op := 11) (Or.inl rfl) h11 (fun q => absurd q (by decide))⟩
    · by_cases h12 : pTop P = 12 ∧ ¬ t P.1.1 = 38
      · obtain ⟨P', h⟩ := lan_ex w (pPop (pLand P 12)) (show P.1.2.2.2 - 1 = w by omega)
        exact ⟨P', h.go (op := 12) (Or.inr rfl) h12.1 (fun _ => h12.2)⟩
      · exact ⟨P, Rch.rf, rfl, h11, h12⟩
theorem ep_lp {t : Int → Int} {N : Int} (hn : N ≤ 160) : ∀ (n d : Nat) (L : MLoc) (M : Mem) (r : Option Value) (M1 : Mem) (P : PS), mLd L 0 = some (.ref 181) → RR M P → RT M t N → MI N (3, 0, 0, P) → En n d 206 0 L [] M r M1 → r = none ∧ RX M M1 ∧ ∃ P', Rch t (3, 0, 0, P) (4, 0, 0, P') ∧ RR M1 P' := by
  intro n
  induction n with
  | zero => intro d L M r M1 P _ _ _ _ h; exact (En.zero (mi := 206) (pc := 0) (len := 1) rfl h).elim
  | succ n ih =>
    intro d L M r M1 P l0 hR hT hM h
    obtain ⟨p0, pN0, o6, ow, hW⟩ := hM.f
    have wb := hR.2.2.2.2.2.1
    have tt := top_t hR hW
    replace h := eAloadS (mi := 206) (pc := 0) (len := 1) (i := 0) rfl l0 h
    replace h := eCallP (mi := 206) (pc := 1) (len := 3) (j := 199) (as := [.ref 181]) (rest := []) rfl (Or.inr (Or.inl rfl)) (by decide) rfl rfl (fun _ _ _ _ g => topV_en hR.1 g) h
    replace h := eConst (mi := 206) (pc := 4) (len := 2) (v := 10) rfl h
    rcases eIc (mi := 206) (pc := 6) (len := 3) (t := 39) rfl rfl h with ⟨c1, h⟩ | ⟨c1, h⟩
    · replace c1 : ¬ (topV M).toInt = 10 := mC_ne.1 c1
      obtain ⟨e1, e2⟩ := eRetV (mi := 206) (pc := 39) (len := 1) rfl h
      rw [e2]
      have h10 : ¬ pTop P = 10 := by rw [← tt]; exact c1
      exact ⟨e1, RX.rf, P, Rch.go (sE_on h10) Rch.rf, hR⟩
    · replace c1 : (topV M).toInt = 10 := mC_ne.2 c1
      have h10 : pTop P = 10 := by rw [← tt]; exact c1
      obtain ⟨w1, w2⟩ := pTop_w h10 (by decide)
      replace h := eAload (mi := 206) (pc := 9) (len := 1) (i := 0) rfl l0 h
      replace h := eConst (mi := 206) (pc := 10) (len := 2) (v := 10) rfl h
      replace h := eConst (mi := 206) (pc := 12) (len := 1) (v := 0) rfl h
      obtain ⟨r2, N3, g4, h⟩ := eCall (mi := 206) (pc := 13) (len := 3) (j := 197) (as := [.ref 181, .int (10 : Int32), .int (0 : Int32)]) (rest := []) rfl (Or.inr (Or.inl rfl)) (by decide) rfl rfl h
      obtain ⟨q8, R5, X6⟩ := nte_ok (val := 10485760) hR (by decide) (by decide) (by decide) (by decide) (rfl) g4
      rw [q8] at h
      have X7 := RX.rf.tr X6
      replace h := eAload (mi := 206) (pc := 16) (len := 1) (i := 0) rfl l0 h
      replace h := eAload (mi := 206) (pc := 17) (len := 1) (i := 0) rfl l0 h
      replace h := eGetI (a := 181) (j := 1131) R5.1 (by decide) (by decide) rfl (mi := 206) (pc := 18) (len := 3) rfl h
      replace h := eConst (mi := 206) (pc := 21) (len := 1) (v := 1) rfl h
      replace h := eSub (mi := 206) (pc := 22) (len := 1) rfl h
      obtain ⟨N9, eN9⟩ : ∃ X_, X_ = mPut N3 181 31 (.int ((iv N3 181 31) - (1 : Int32))) := ⟨_, rfl⟩
      replace h := ePutE (a := 181) (f := 31) (N := N9) rfl eN9 (mi := 206) (pc := 23) (len := 3) (j := 1131) rfl h
      have hS10 : Sh N9 := by rw [eN9]; exact R5.1.put (by decide) (by decide) rfl
      have R11 : RR N9 (pPop (pEm P 10485760)) := by rw [eN9]; exact R5.p31 (w := P.1.2.2.2 - 1) (by have q := dc1 R5.2.2.2.2.1 (by show -1000 ≤ (P.1.2.2.2 : Int); omega) (by show (P.1.2.2.2 : Int) ≤ 1000; omega); rw [q]; show (P.1.2.2.2 : Int) - 1 = ((P.1.2.2.2 - 1 : Nat) : Int); omega) (by omega)
      have X12 : RX M N9 := X7.tr (by rw [eN9]; exact RX.put (Or.inl ⟨rfl, by decide⟩))
      replace h := eAload (mi := 206) (pc := 26) (len := 1) (i := 0) rfl l0 h
      replace h := eAload (mi := 206) (pc := 27) (len := 1) (i := 0) rfl l0 h
      replace h := eGetI (a := 181) (j := 1129) R11.1 (by decide) (by decide) rfl (mi := 206) (pc := 28) (len := 3) rfl h
      replace h := eConst (mi := 206) (pc := 31) (len := 1) (v := 1) rfl h
      replace h := eSub (mi := 206) (pc := 32) (len := 1) rfl h
      obtain ⟨N13, eN13⟩ : ∃ X_, X_ = mPut N9 181 29 (.int ((iv N9 181 29) - (1 : Int32))) := ⟨_, rfl⟩
      replace h := ePutE (a := 181) (f := 29) (N := N13) rfl eN13 (mi := 206) (pc := 33) (len := 3) (j := 1129) rfl h
      have hS14 : Sh N13 := by rw [eN13]; exact R11.1.put (by decide) (by decide) rfl
      have R15 : RR N13 (pOpn (pPop (pEm P 10485760)) (-1)) := by rw [eN13]; exact R11.p29 (o := P.1.2.1 + -1) (by have q := dc1 R11.2.2.1 (by show -1000 ≤ P.1.2.1; omega) (by show P.1.2.1 ≤ 1000; omega); rw [q]; rfl)
      have X16 : RX M N13 := X12.tr (by rw [eN13]; exact RX.put (Or.inl ⟨rfl, by decide⟩))
      replace h := eGoto (mi := 206) (pc := 36) (len := 3) (t := 0) rfl rfl h
      have sx : sm t (3, 0, 0, P) = (3, 0, 0, (pOpn (pPop (pEm P 10485760)) (-1))) := sE_neg h10
      have hM2 := sm_mi hn hT.tl hM
      rw [sx] at hM2
      obtain ⟨i1, i2, P3, i3, i4⟩ := ih _ _ _ _ _ (pOpn (pPop (pEm P 10485760)) (-1)) l0 R15 (hT.x X16) hM2 h
      exact ⟨i1, X16.tr i2, P3, Rch.go sx i3, i4⟩
theorem la_lp {t : Int → Int} {N : Int} {x : Int32} (hn : N ≤ 160) : ∀ (n d : Nat) (L : MLoc) (M : Mem) (r : Option Value) (M1 : Mem) (P : PS), mLd L 0 = some (.ref 181) → mLd L 1 = some (.int x) → RR M P → RT M t N → MI N (4, 0, 0, P) → (x.toInt = 0 ∨ ¬ t P.1.1 = 38) → (¬ x.toInt = 0 ∨ t P.1.1 = 38) → En n d 207 0 L [] M r M1 → r = none ∧ RX M M1 ∧ ∃ P', LAN t P P' ∧ RR M1 P' := by
  intro n
  induction n with
  | zero => intro d L M r M1 P _ _ _ _ _ _ _ h; exact (En.zero (mi := 207) (pc := 0) (len := 1) rfl h).elim
  | succ n ih =>
    intro d L M r M1 P l0 l1 hR hT hM hx1 hx2 h
    obtain ⟨p0, pN0, o6, ow, hW⟩ := hM.f
    have wb := hR.2.2.2.2.2.1
    have tt := top_t hR hW
    have key : ∀ op : Int, (op = 11 ∨ op = 12) → pTop P = op → (op = 12 → ¬ t P.1.1 = 38) → En n d 207 22 L [] M r M1 → r = none ∧ RX M M1 ∧ ∃ P', LAN t P P' ∧ RR M1 P' := by
      intro op ho hp h38 h
      obtain ⟨w1, w2⟩ := pTop_w hp (by omega)
      have aw := hW.1 (P.1.2.2.2 - 1) (by omega)
      obtain ⟨d1, d2⟩ := hW.2.2 (P.1.2.2.2 - 1) (by omega) (by omega)
      replace h := eAload (mi := 207) (pc := 22) (len := 1) (i := 0) rfl l0 h
      replace h := eGetR (a := 181) (j := 1135) (g := 204) hR.1 (by decide) (by decide) rfl rfl rfl (mi := 207) (pc := 23) (len := 3) rfl h
      replace h := eAload (mi := 207) (pc := 26) (len := 1) (i := 0) rfl l0 h
      replace h := eGetI (a := 181) (j := 1131) hR.1 (by decide) (by decide) rfl (mi := 207) (pc := 27) (len := 3) rfl h
      replace h := eConst (mi := 207) (pc := 30) (len := 1) (v := 1) rfl h
      replace h := eSub (mi := 207) (pc := 31) (len := 1) rfl h
      obtain ⟨b1, h⟩ := eIald (x := ((iv M 181 31) - (1 : Int32))) hR.1 (a := 204) (by decide) (by decide) rfl (mi := 207) (pc := 32) (len := 1) rfl h
      replace h := eConst (mi := 207) (pc := 33) (len := 3) (v := 1048576) rfl h
      replace h := eRem (mi := 207) (pc := 36) (len := 1) rfl (by decide) h
      replace h := eIstore (mi := 207) (pc := 37) (len := 1) (i := 2) rfl (by decide) h
      replace h := eAload (mi := 207) (pc := 38) (len := 1) (i := 0) rfl (mLd_st1_ref (by decide) l0) h
      replace h := eGetR (a := 181) (j := 1134) (g := 203) hR.1 (by decide) (by decide) rfl rfl rfl (mi := 207) (pc := 39) (len := 3) rfl h
      replace h := eIload (mi := 207) (pc := 42) (len := 1) (i := 2) rfl mLd_st1_i h
      replace h := eConst (mi := 207) (pc := 43) (len := 3) (v := 1048576) rfl h
      replace h := eAload (mi := 207) (pc := 46) (len := 1) (i := 0) rfl (mLd_st1_ref (by decide) l0) h
      replace h := eGetR (a := 181) (j := 1134) (g := 203) hR.1 (by decide) (by decide) rfl rfl rfl (mi := 207) (pc := 47) (len := 3) rfl h
      replace h := eIload (mi := 207) (pc := 50) (len := 1) (i := 2) rfl mLd_st1_i h
      obtain ⟨b2, h⟩ := eIald (x := ((iv M 204 ((iv M 181 31) - (1 : Int32)).toInt.toNat) - (iv M 204 ((iv M 181 31) - (1 : Int32)).toInt.toNat) / (1048576 : Int32) * (1048576 : Int32))) hR.1 (a := 203) (by decide) (by decide) rfl (mi := 207) (pc := 51) (len := 1) rfl h
      replace h := eConst (mi := 207) (pc := 52) (len := 3) (v := 1048576) rfl h
      replace h := eDiv (mi := 207) (pc := 55) (len := 1) rfl (by decide) h
      replace h := eMul (mi := 207) (pc := 56) (len := 1) rfl h
      replace h := eAload (mi := 207) (pc := 57) (len := 1) (i := 0) rfl (mLd_st1_ref (by decide) l0) h
      replace h := eGetI (a := 181) (j := 1130) hR.1 (by decide) (by decide) rfl (mi := 207) (pc := 58) (len := 3) rfl h
      replace h := eAdd (mi := 207) (pc := 61) (len := 1) rfl h
      obtain ⟨N4, eN4⟩ : ∃ X_, X_ = mPut M 203 ((iv M 204 ((iv M 181 31) - (1 : Int32)).toInt.toNat) - (iv M 204 ((iv M 181 31) - (1 : Int32)).toInt.toNat) / (1048576 : Int32) * (1048576 : Int32)).toInt.toNat (.int (((1048576 : Int32) * ((iv M 203 ((iv M 204 ((iv M 181 31) - (1 : Int32)).toInt.toNat) - (iv M 204 ((iv M 181 31) - (1 : Int32)).toInt.toNat) / (1048576 : Int32) * (1048576 : Int32)).toInt.toNat) / (1048576 : Int32))) + (iv M 181 30))) := ⟨_, rfl⟩
      obtain ⟨b3, h⟩ := eIast (x := ((iv M 204 ((iv M 181 31) - (1 : Int32)).toInt.toNat) - (iv M 204 ((iv M 181 31) - (1 : Int32)).toInt.toNat) / (1048576 : Int32) * (1048576 : Int32))) (N := N4) hR.1 (a := 203) (by decide) (by decide) eN4 (mi := 207) (pc := 62) (len := 1) rfl h
      have hS5 : Sh N4 := by rw [eN4]; exact hR.1.put (by decide) (by decide) rfl
      have ewi : ((iv M 181 31) - (1 : Int32)).toInt.toNat = P.1.2.2.2 - 1 := by rw [dc1 hR.2.2.2.2.1 (by omega) (by omega)]; omega
      have ewx : (iv M 204 ((iv M 181 31) - (1 : Int32)).toInt.toNat).toInt = P.2.2 (P.1.2.2.2 - 1) := by rw [ewi]; exact hR.2.2.2.2.2.2.2 _ (by omega)
      obtain ⟨xw, hxw⟩ : ∃ x, x = iv M 204 ((iv M 181 31) - (1 : Int32)).toInt.toNat := ⟨_, rfl⟩
      rw [← hxw] at ewx
      have erm := rem_20 (x := xw) (by rw [ewx]; exact aw.1) (by rw [ewx]; exact aw.2)
      obtain ⟨fj, hfj⟩ : ∃ f, f = xw - xw / (1048576 : Int32) * (1048576 : Int32) := ⟨_, rfl⟩
      rw [← hfj] at erm
      have ej : fj.toInt.toNat = (P.2.2 (P.1.2.2.2 - 1) - op * 1048576).toNat := by rw [erm, ewx]; omega
      have ej2 : fj.toInt.toNat = (P.2.2 (P.1.2.2.2 - 1) % 1048576).toNat := by rw [erm, ewx]
      have esd : (iv M 203 fj.toInt.toNat).toInt = P.2.1 (P.2.2 (P.1.2.2.2 - 1) % 1048576).toNat := by rw [ej2]; exact hR.2.2.2.2.2.2.1 _ (by omega)
      have rgd := hW.2.1 (P.2.2 (P.1.2.2.2 - 1) % 1048576).toNat d1
      have edv : ((iv M 203 fj.toInt.toNat) / (1048576 : Int32)).toInt = op := by rw [i32_div (by rw [esd]; exact rgd.1) (by decide), esd]; show P.2.1 _ / 1048576 = op; omega
      have ev : ((1048576 : Int32) * ((iv M 203 fj.toInt.toNat) / (1048576 : Int32)) + (iv M 181 30)).toInt = op * 1048576 + (P.1.2.2.1 : Int) := by rw [nte_v (by rw [edv]; omega) (by rw [edv]; omega) (by rw [hR.2.2.2.1]; omega) (by rw [hR.2.2.2.1]; omega), edv, hR.2.2.2.1]; omega
      have R6 : RR N4 (pLand P op) := by rw [eN4, ← hxw, ← hfj, ej]; exact hR.p203 (j := (P.2.2 (P.1.2.2.2 - 1) - op * 1048576).toNat) (by rw [ej] at ev; exact ev)
      have X7 : RX M N4 := RX.rf.tr (by rw [eN4]; exact RX.put (Or.inr (Or.inl rfl)))
      replace h := eAload (mi := 207) (pc := 63) (len := 1) (i := 0) rfl (mLd_st1_ref (by decide) l0) h
      replace h := eAload (mi := 207) (pc := 64) (len := 1) (i := 0) rfl (mLd_st1_ref (by decide) l0) h
      replace h := eGetI (a := 181) (j := 1131) R6.1 (by decide) (by decide) rfl (mi := 207) (pc := 65) (len := 3) rfl h
      replace h := eConst (mi := 207) (pc := 68) (len := 1) (v := 1) rfl h
      replace h := eSub (mi := 207) (pc := 69) (len := 1) rfl h
      obtain ⟨N8, eN8⟩ : ∃ X_, X_ = mPut N4 181 31 (.int ((iv N4 181 31) - (1 : Int32))) := ⟨_, rfl⟩
      replace h := ePutE (a := 181) (f := 31) (N := N8) rfl eN8 (mi := 207) (pc := 70) (len := 3) (j := 1131) rfl h
      have hS9 : Sh N8 := by rw [eN8]; exact R6.1.put (by decide) (by decide) rfl
      have R10 : RR N8 (pPop (pLand P op)) := by rw [eN8]; exact R6.p31 (w := P.1.2.2.2 - 1) (by have q := dc1 R6.2.2.2.2.1 (by show -1000 ≤ (P.1.2.2.2 : Int); omega) (by show (P.1.2.2.2 : Int) ≤ 1000; omega); rw [q]; show (P.1.2.2.2 : Int) - 1 = ((P.1.2.2.2 - 1 : Nat) : Int); omega) (by omega)
      have X11 : RX M N8 := X7.tr (by rw [eN8]; exact RX.put (Or.inl ⟨rfl, by decide⟩))
      replace h := eGoto (mi := 207) (pc := 73) (len := 3) (t := 0) rfl rfl h
      have hM2 := sm_mi hn hT.tl hM
      rw [LAN.st ho hp h38] at hM2
      obtain ⟨i1, i2, P3, i3, i4⟩ := ih _ _ _ _ _ (pPop (pLand P op)) (mLd_st1_ref (by decide) l0) (mLd_st1_int (by decide) l1) R10 (hT.x X11) hM2 hx1 hx2 h
      exact ⟨i1, X11.tr i2, P3, i3.go ho hp h38, i4⟩
    replace h := eAloadS (mi := 207) (pc := 0) (len := 1) (i := 0) rfl l0 h
    replace h := eCallP (mi := 207) (pc := 1) (len := 3) (j := 199) (as := [.ref 181]) (rest := []) rfl (Or.inr (Or.inl rfl)) (by decide) rfl rfl (fun _ _ _ _ g => topV_en hR.1 g) h
    replace h := eConst (mi := 207) (pc := 4) (len := 2) (v := 11) rfl h
    rcases eIc (mi := 207) (pc := 6) (len := 3) (t := 22) rfl rfl h with ⟨c1, h⟩ | ⟨c1, h⟩
    · replace c1 : (topV M).toInt = 11 := mC_eq.1 c1
      exact key 11 (Or.inl rfl) (by rw [← tt]; exact c1) (fun q => absurd q (by decide)) h
    · replace c1 : ¬ (topV M).toInt = 11 := mC_eq.2 c1
      replace h := eIload (mi := 207) (pc := 9) (len := 1) (i := 1) rfl l1 h
      rcases eIf (mi := 207) (pc := 10) (len := 3) (t := 76) rfl rfl h with ⟨c2, h⟩ | ⟨c2, h⟩
      · replace c2 : x.toInt = 0 := mC_eq.1 c2
        obtain ⟨e1, e2⟩ := eRetV (mi := 207) (pc := 76) (len := 1) rfl h
        rw [e2]
        exact ⟨e1, RX.rf, P, ⟨Rch.rf, rfl, by omega, by omega⟩, hR⟩
      · replace c2 : ¬ x.toInt = 0 := mC_eq.2 c2
        replace h := eAload (mi := 207) (pc := 13) (len := 1) (i := 0) rfl l0 h
        replace h := eCallP (mi := 207) (pc := 14) (len := 3) (j := 199) (as := [.ref 181]) (rest := []) rfl (Or.inr (Or.inl rfl)) (by decide) rfl rfl (fun _ _ _ _ g => topV_en hR.1 g) h
        replace h := eConst (mi := 207) (pc := 17) (len := 2) (v := 12) rfl h
        rcases eIc (mi := 207) (pc := 19) (len := 3) (t := 76) rfl rfl h with ⟨c3, h⟩ | ⟨c3, h⟩
        · replace c3 : ¬ (topV M).toInt = 12 := mC_ne.1 c3
          obtain ⟨e1, e2⟩ := eRetV (mi := 207) (pc := 76) (len := 1) rfl h
          rw [e2]
          exact ⟨e1, RX.rf, P, ⟨Rch.rf, rfl, by omega, by omega⟩, hR⟩
        · replace c3 : (topV M).toInt = 12 := mC_ne.2 c3
          exact key 12 (Or.inr rfl) (by rw [← tt]; exact c3) (fun _ => by omega) h
theorem ju_ok {op : Int32} {w : Int} {n d : Nat} {M : Mem} {r : Option Value} {M1 : Mem} {P : PS} (hR : RR M P) (p0 : 0 ≤ P.1.1) (p1 : P.1.1 ≤ 160) (o0 : 0 ≤ op.toInt) (o1 : op.toInt ≤ 15) (hw : 1048576 * op.toInt = w) (h : En n d 208 0 (lv_args 0 [.ref 181, .int op]) [] M r M1) : r = none ∧ RR M1 (pAdv (pEm (pPush P (w + (P.1.2.2.1 : Int))) w)) ∧ RX M M1 := by
  have wb := hR.2.2.2.2.2.1
  replace h := eAload (mi := 208) (pc := 0) (len := 1) (i := 0) rfl rfl h
  replace h := eGetR (a := 181) (j := 1135) (g := 204) hR.1 (by decide) (by decide) rfl rfl rfl (mi := 208) (pc := 1) (len := 3) rfl h
  replace h := eAload (mi := 208) (pc := 4) (len := 1) (i := 0) rfl rfl h
  replace h := eGetI (a := 181) (j := 1131) hR.1 (by decide) (by decide) rfl (mi := 208) (pc := 5) (len := 3) rfl h
  replace h := eConst (mi := 208) (pc := 8) (len := 3) (v := 1048576) rfl h
  replace h := eIload (mi := 208) (pc := 11) (len := 1) (i := 1) rfl rfl h
  replace h := eMul (mi := 208) (pc := 12) (len := 1) rfl h
  replace h := eAload (mi := 208) (pc := 13) (len := 1) (i := 0) rfl rfl h
  replace h := eGetI (a := 181) (j := 1130) hR.1 (by decide) (by decide) rfl (mi := 208) (pc := 14) (len := 3) rfl h
  replace h := eAdd (mi := 208) (pc := 17) (len := 1) rfl h
  obtain ⟨N2, eN2⟩ : ∃ X_, X_ = mPut M 204 (iv M 181 31).toInt.toNat (.int (((1048576 : Int32) * op) + (iv M 181 30))) := ⟨_, rfl⟩
  obtain ⟨b1, h⟩ := eIast (x := (iv M 181 31)) (N := N2) hR.1 (a := 204) (by decide) (by decide) eN2 (mi := 208) (pc := 18) (len := 1) rfl h
  have hS3 : Sh N2 := by rw [eN2]; exact hR.1.put (by decide) (by decide) rfl
  have ew : (iv M 181 31).toInt.toNat = P.1.2.2.2 := by rw [hR.2.2.2.2.1]; rfl
  have k9 : P.1.2.2.2 < 180 := by have q := b1.2; rw [ew] at q; exact q
  have wv : ((1048576 : Int32) * op + (iv M 181 30)).toInt = w + (P.1.2.2.1 : Int) := by rw [note_v o0 o1 (by rw [hR.2.2.2.1]; omega) (by rw [hR.2.2.2.1]; omega), hw, hR.2.2.2.1]
  have R4 : RR N2 (P.1, P.2.1, pUp P.2.2 P.1.2.2.2 (w + (P.1.2.2.1 : Int))) := by rw [eN2, ew]; exact hR.p204 (j := P.1.2.2.2) wv
  have X5 : RX M N2 := RX.rf.tr (by rw [eN2]; exact RX.put (Or.inr (Or.inr rfl)))
  replace h := eAload (mi := 208) (pc := 19) (len := 1) (i := 0) rfl rfl h
  replace h := eAload (mi := 208) (pc := 20) (len := 1) (i := 0) rfl rfl h
  replace h := eGetI (a := 181) (j := 1131) R4.1 (by decide) (by decide) rfl (mi := 208) (pc := 21) (len := 3) rfl h
  replace h := eConst (mi := 208) (pc := 24) (len := 1) (v := 1) rfl h
  replace h := eAdd (mi := 208) (pc := 25) (len := 1) rfl h
  obtain ⟨N6, eN6⟩ : ∃ X_, X_ = mPut N2 181 31 (.int ((iv N2 181 31) + (1 : Int32))) := ⟨_, rfl⟩
  replace h := ePutE (a := 181) (f := 31) (N := N6) rfl eN6 (mi := 208) (pc := 26) (len := 3) (j := 1131) rfl h
  have hS7 : Sh N6 := by rw [eN6]; exact R4.1.put (by decide) (by decide) rfl
  have R8 : RR N6 (pPush P (w + (P.1.2.2.1 : Int))) := by rw [eN6]; exact R4.p31 (w := P.1.2.2.2 + 1) (by have q := ic1 R4.2.2.2.2.1 (by show -1000 ≤ (P.1.2.2.2 : Int); omega) (by show (P.1.2.2.2 : Int) ≤ 1000; omega); rw [q]; rfl) (by omega)
  have X9 : RX M N6 := X5.tr (by rw [eN6]; exact RX.put (Or.inl ⟨rfl, by decide⟩))
  replace h := eAload (mi := 208) (pc := 29) (len := 1) (i := 0) rfl rfl h
  replace h := eIload (mi := 208) (pc := 30) (len := 1) (i := 1) rfl rfl h
  replace h := eConst (mi := 208) (pc := 31) (len := 1) (v := 0) rfl h
  obtain ⟨r10, N11, g12, h⟩ := eCall (mi := 208) (pc := 32) (len := 3) (j := 197) (as := [.ref 181, .int op, .int (0 : Int32)]) (rest := []) rfl (Or.inr (Or.inl rfl)) (by decide) rfl rfl h
  obtain ⟨q16, R13, X14⟩ := nte_ok (val := w) R8 (o0) (o1) (by decide) (by decide) (by show 1048576 * op.toInt + 0 = w; omega) g12
  rw [q16] at h
  have X15 := X9.tr X14
  replace h := eAload (mi := 208) (pc := 35) (len := 1) (i := 0) rfl rfl h
  replace h := eAload (mi := 208) (pc := 36) (len := 1) (i := 0) rfl rfl h
  replace h := eGetI (a := 181) (j := 1126) R13.1 (by decide) (by decide) rfl (mi := 208) (pc := 37) (len := 3) rfl h
  replace h := eConst (mi := 208) (pc := 40) (len := 1) (v := 1) rfl h
  replace h := eAdd (mi := 208) (pc := 41) (len := 1) rfl h
  obtain ⟨N17, eN17⟩ : ∃ X_, X_ = mPut N11 181 26 (.int ((iv N11 181 26) + (1 : Int32))) := ⟨_, rfl⟩
  replace h := ePutE (a := 181) (f := 26) (N := N17) rfl eN17 (mi := 208) (pc := 42) (len := 3) (j := 1126) rfl h
  have hS18 : Sh N17 := by rw [eN17]; exact R13.1.put (by decide) (by decide) rfl
  have R19 : RR N17 (pAdv (pEm (pPush P (w + (P.1.2.2.1 : Int))) w)) := by rw [eN17]; exact R13.p26 (p := P.1.1 + 1) (ic1 R13.2.1 (by show -1000 ≤ P.1.1; omega) (by show P.1.1 ≤ 1000; omega))
  have X20 : RX M N17 := X15.tr (by rw [eN17]; exact RX.put (Or.inl ⟨rfl, by decide⟩))
  obtain ⟨e1, e2⟩ := eRetV (mi := 208) (pc := 45) (len := 1) rfl h
  rw [e2]
  exact ⟨e1, R19, X20⟩
theorem cmpr_ok {t : Int → Int} {N : Int} {P : PS} (hn : N ≤ 160) {n d : Nat} {M : Mem} {r : Option Value} {M1 : Mem} (hR : RR M P) (hT : RT M t N) (hM : MI N (2, 0, 0, P)) (n33 : ¬ t P.1.1 = 33) (n40 : ¬ t P.1.1 = 40) (h : En n d 209 0 (lv_args 0 [.ref 181]) [] M r M1) : RK t (2, 0, 0, P) (fun P' => Rch t (2, 0, 0, P) (4, 0, 0, P')) M r M1 := by
  have s1 : sm t (2, 0, 0, P) = (0, P.1.2.2.2, 1, P) := sP_cmp n33 n40
  have hM1 := sm_mi hn hT.tl hM
  rw [s1] at hM1
  replace h := eAload (mi := 209) (pc := 0) (len := 1) (i := 0) rfl rfl h
  obtain ⟨r1, N2, g3, h⟩ := eCall (mi := 209) (pc := 1) (len := 3) (j := 205) (as := [.ref 181]) (rest := []) rfl (Or.inr (Or.inl rfl)) (by decide) rfl rfl h
  obtain ⟨XF, hF⟩ := rsum_ok (b := P.1.2.2.2) (h0 := 1) hn hR hT hM1 rfl g3
  rcases hF with ⟨P4, q4, ⟨hr4, k41, k42, k43⟩, R4⟩ | ⟨q4, B4⟩
  · rw [q4] at h
    rcases eIf (mi := 209) (pc := 4) (len := 3) (t := 9) rfl rfl h with ⟨c4, h⟩ | ⟨c4, h⟩
    · skip
      have hM4 := hr4.mi hn hT.tl hM1
      obtain ⟨p04, pN4, o64, ow4, hW4⟩ := hM4.f
      have wb4 := R4.2.2.2.2.2.1
      have th4 : (hereV N2).toInt = t P4.1.1 := here_t R4 (hT.x XF) p04
      replace h := eAload (mi := 209) (pc := 9) (len := 1) (i := 0) rfl rfl h
      replace h := eCallP (mi := 209) (pc := 10) (len := 3) (j := 192) (as := [.ref 181]) (rest := []) rfl (Or.inr (Or.inl rfl)) (by decide) rfl rfl (fun _ _ _ _ g => hereV_en R4.1 g) h
      replace h := eConst (mi := 209) (pc := 13) (len := 2) (v := 60) rfl h
      rcases eIc (mi := 209) (pc := 15) (len := 3) (t := 23) rfl rfl h with ⟨c5, h⟩ | ⟨c5, h⟩
      · replace c5 : ¬ (hereV N2).toInt = 60 := mC_ne.1 c5
        replace h := eAload (mi := 209) (pc := 23) (len := 1) (i := 0) rfl rfl h
        replace h := eCallP (mi := 209) (pc := 24) (len := 3) (j := 192) (as := [.ref 181]) (rest := []) rfl (Or.inr (Or.inl rfl)) (by decide) rfl rfl (fun _ _ _ _ g => hereV_en R4.1 g) h
        replace h := eConst (mi := 209) (pc := 27) (len := 2) (v := 62) rfl h
        rcases eIc (mi := 209) (pc := 29) (len := 3) (t := 37) rfl rfl h with ⟨c6, h⟩ | ⟨c6, h⟩
        · replace c6 : ¬ (hereV N2).toInt = 62 := mC_ne.1 c6
          replace h := eAload (mi := 209) (pc := 37) (len := 1) (i := 0) rfl rfl h
          replace h := eCallP (mi := 209) (pc := 38) (len := 3) (j := 192) (as := [.ref 181]) (rest := []) rfl (Or.inr (Or.inl rfl)) (by decide) rfl rfl (fun _ _ _ _ g => hereV_en R4.1 g) h
          replace h := eConst (mi := 209) (pc := 41) (len := 2) (v := 61) rfl h
          rcases eIc (mi := 209) (pc := 43) (len := 3) (t := 51) rfl rfl h with ⟨c7, h⟩ | ⟨c7, h⟩
          · replace c7 : ¬ (hereV N2).toInt = 61 := mC_ne.1 c7
            replace h := eConst (mi := 209) (pc := 51) (len := 1) (v := (-1)) rfl h
            replace h := eIstore (mi := 209) (pc := 52) (len := 1) (i := 1) rfl (by decide) h
            replace h := eIload (mi := 209) (pc := 53) (len := 1) (i := 1) rfl rfl h
            replace h := eConst (mi := 209) (pc := 54) (len := 1) (v := (-1)) rfl h
            rcases eIc (mi := 209) (pc := 55) (len := 3) (t := 68) rfl rfl h with ⟨c8, h⟩ | ⟨c8, h⟩
            · exact absurd c8 (by decide)
            · skip
              replace h := eAload (mi := 209) (pc := 58) (len := 1) (i := 0) rfl rfl h
              replace h := eConst (mi := 209) (pc := 59) (len := 1) (v := 1) rfl h
              replace h := eAload (mi := 209) (pc := 60) (len := 1) (i := 0) rfl rfl h
              replace h := eGetI (a := 181) (j := 1126) R4.1 (by decide) (by decide) rfl (mi := 209) (pc := 61) (len := 3) rfl h
              obtain ⟨r9, N10, g11, h⟩ := eCall (mi := 209) (pc := 64) (len := 3) (j := 194) (as := [.ref 181, .int (1 : Int32), .int (iv N2 181 26)]) (rest := []) rfl (Or.inr (Or.inl rfl)) (by decide) rfl rfl h
              obtain ⟨q5, XW, BW, _⟩ := wr_ok (k := 1) (c := (2, 0, 0, P)) R4 p04 (by omega) (by decide) (by decide) (Rch.go s1 (hr4.tr (Rch.go (sA_cmx k42 k41 k43 (fun q => c5 (th4.trans q)) (fun q => c6 (th4.trans q)) (fun q => c7 (th4.trans q))) Rch.rf))) g11
              rw [q5] at h
              obtain ⟨e1, e2⟩ := eRetI (mi := 209) (pc := 67) (len := 1) rfl h
              rw [e2]
              exact ⟨XF.tr XW, Or.inr ⟨e1, BW⟩⟩
          · replace c7 : (hereV N2).toInt = 61 := mC_ne.2 c7
            replace h := eConst (mi := 209) (pc := 46) (len := 2) (v := 9) rfl h
            replace h := eGoto (mi := 209) (pc := 48) (len := 3) (t := 52) rfl rfl h
            replace h := eIstore (mi := 209) (pc := 52) (len := 1) (i := 1) rfl (by decide) h
            replace h := eIload (mi := 209) (pc := 53) (len := 1) (i := 1) rfl rfl h
            replace h := eConst (mi := 209) (pc := 54) (len := 1) (v := (-1)) rfl h
            rcases eIc (mi := 209) (pc := 55) (len := 3) (t := 68) rfl rfl h with ⟨c12, h⟩ | ⟨c12, h⟩
            · skip
              have tc : t P4.1.1 = 61 := th4.symm.trans c7
              replace h := eAload (mi := 209) (pc := 68) (len := 1) (i := 0) rfl rfl h
              replace h := eAload (mi := 209) (pc := 69) (len := 1) (i := 0) rfl rfl h
              replace h := eGetI (a := 181) (j := 1126) R4.1 (by decide) (by decide) rfl (mi := 209) (pc := 70) (len := 3) rfl h
              replace h := eConst (mi := 209) (pc := 73) (len := 1) (v := 1) rfl h
              replace h := eAdd (mi := 209) (pc := 74) (len := 1) rfl h
              obtain ⟨N13, eN13⟩ : ∃ X_, X_ = mPut N2 181 26 (.int ((iv N2 181 26) + (1 : Int32))) := ⟨_, rfl⟩
              replace h := ePutE (a := 181) (f := 26) (N := N13) rfl eN13 (mi := 209) (pc := 75) (len := 3) (j := 1126) rfl h
              have hS14 : Sh N13 := by rw [eN13]; exact R4.1.put (by decide) (by decide) rfl
              have R15 : RR N13 (pAdv P4) := by rw [eN13]; exact R4.p26 (p := P4.1.1 + 1) (ic1 R4.2.1 (by show -1000 ≤ P4.1.1; omega) (by show P4.1.1 ≤ 1000; omega))
              have X16 : RX M N13 := XF.tr (by rw [eN13]; exact RX.put (Or.inl ⟨rfl, by decide⟩))
              replace h := eAload (mi := 209) (pc := 78) (len := 1) (i := 0) rfl rfl h
              obtain ⟨r17, N18, g19, h⟩ := eCall (mi := 209) (pc := 79) (len := 3) (j := 205) (as := [.ref 181]) (rest := []) rfl (Or.inr (Or.inl rfl)) (by decide) rfl rfl h
              have sx : sm t (1, P.1.2.2.2, 1, P4) = (0, P4.1.2.2.2, cCmp (t P4.1.1), pAdv P4) := sA_cmp k42 k41 k43 (by omega)
              have ec : cCmp (t P4.1.1) = 9 := by rw [tc]; rfl
              have hM5 := sm_mi hn hT.tl hM4
              rw [sx, ec] at hM5
              have hr5 := (Rch.go s1 hr4).tr (Rch.go sx Rch.rf)
              rw [ec] at hr5
              obtain ⟨XG, hG⟩ := rsum_ok (b := P4.1.2.2.2) (h0 := 9) hn R15 (hT.x X16) hM5 rfl g19
              rcases hG with ⟨P5, q5, ⟨hr6, k51, k52, k53⟩, R5⟩ | ⟨q5, B5⟩
              · rw [q5] at h
                rcases eIf (mi := 209) (pc := 82) (len := 3) (t := 87) rfl rfl h with ⟨c20, h⟩ | ⟨c20, h⟩
                · skip
                  replace h := eAload (mi := 209) (pc := 87) (len := 1) (i := 0) rfl rfl h
                  replace h := eIload (mi := 209) (pc := 88) (len := 1) (i := 1) rfl rfl h
                  replace h := eConst (mi := 209) (pc := 89) (len := 1) (v := 0) rfl h
                  obtain ⟨r21, N22, g23, h⟩ := eCall (mi := 209) (pc := 90) (len := 3) (j := 197) (as := [.ref 181, .int (9 : Int32), .int (0 : Int32)]) (rest := []) rfl (Or.inr (Or.inl rfl)) (by decide) rfl rfl h
                  have sy : sm t (1, P4.1.2.2.2, 9, P5) = (3, 0, 0, pEm P5 (9 * 1048576)) := sA_end k52 k51 k53 (by decide)
                  have hM6 := sm_mi hn hT.tl (hr6.mi hn hT.tl hM5)
                  rw [sy] at hM6
                  obtain ⟨q27, R24, X25⟩ := nte_ok (val := 9 * 1048576) R5 (by decide) (by decide) (by decide) (by decide) (rfl) g23
                  rw [q27] at h
                  have X26 := (X16.tr XG).tr X25
                  replace h := eAload (mi := 209) (pc := 93) (len := 1) (i := 0) rfl rfl h
                  obtain ⟨r28, N29, g30, h⟩ := eCall (mi := 209) (pc := 94) (len := 3) (j := 206) (as := [.ref 181]) (rest := []) rfl (Or.inr (Or.inl rfl)) (by decide) rfl rfl h
                  obtain ⟨q7, X7, P7, hr7, R7⟩ := ep_lp hn _ _ _ _ _ _ _ rfl R24 (hT.x X26) hM6 g30
                  rw [q7] at h
                  replace h := eConst (mi := 209) (pc := 97) (len := 1) (v := 1) rfl h
                  obtain ⟨e1, e2⟩ := eRetI (mi := 209) (pc := 98) (len := 1) rfl h
                  rw [e2]
                  exact ⟨X26.tr X7, Or.inl ⟨P7, e1, hr5.tr (hr6.tr (Rch.go sy hr7)), R7⟩⟩
                · exact absurd c20 (by decide)
              · rw [q5] at h
                rcases eIf (mi := 209) (pc := 82) (len := 3) (t := 87) rfl rfl h with ⟨c31, h⟩ | ⟨c31, h⟩
                · exact absurd c31 (by decide)
                · skip
                  replace h := eConst (mi := 209) (pc := 85) (len := 1) (v := 0) rfl h
                  obtain ⟨e1, e2⟩ := eRetI (mi := 209) (pc := 86) (len := 1) rfl h
                  rw [e2]
                  exact ⟨X16.tr XG, Or.inr ⟨e1, B5.pre hr5⟩⟩
            · exact absurd c12 (by decide)
        · replace c6 : (hereV N2).toInt = 62 := mC_ne.2 c6
          replace h := eConst (mi := 209) (pc := 32) (len := 2) (v := 8) rfl h
          replace h := eGoto (mi := 209) (pc := 34) (len := 3) (t := 52) rfl rfl h
          replace h := eIstore (mi := 209) (pc := 52) (len := 1) (i := 1) rfl (by decide) h
          replace h := eIload (mi := 209) (pc := 53) (len := 1) (i := 1) rfl rfl h
          replace h := eConst (mi := 209) (pc := 54) (len := 1) (v := (-1)) rfl h
          rcases eIc (mi := 209) (pc := 55) (len := 3) (t := 68) rfl rfl h with ⟨c32, h⟩ | ⟨c32, h⟩
          · skip
            have tc : t P4.1.1 = 62 := th4.symm.trans c6
            replace h := eAload (mi := 209) (pc := 68) (len := 1) (i := 0) rfl rfl h
            replace h := eAload (mi := 209) (pc := 69) (len := 1) (i := 0) rfl rfl h
            replace h := eGetI (a := 181) (j := 1126) R4.1 (by decide) (by decide) rfl (mi := 209) (pc := 70) (len := 3) rfl h
            replace h := eConst (mi := 209) (pc := 73) (len := 1) (v := 1) rfl h
            replace h := eAdd (mi := 209) (pc := 74) (len := 1) rfl h
            obtain ⟨N33, eN33⟩ : ∃ X_, X_ = mPut N2 181 26 (.int ((iv N2 181 26) + (1 : Int32))) := ⟨_, rfl⟩
            replace h := ePutE (a := 181) (f := 26) (N := N33) rfl eN33 (mi := 209) (pc := 75) (len := 3) (j := 1126) rfl h
            have hS34 : Sh N33 := by rw [eN33]; exact R4.1.put (by decide) (by decide) rfl
            have R35 : RR N33 (pAdv P4) := by rw [eN33]; exact R4.p26 (p := P4.1.1 + 1) (ic1 R4.2.1 (by show -1000 ≤ P4.1.1; omega) (by show P4.1.1 ≤ 1000; omega))
            have X36 : RX M N33 := XF.tr (by rw [eN33]; exact RX.put (Or.inl ⟨rfl, by decide⟩))
            replace h := eAload (mi := 209) (pc := 78) (len := 1) (i := 0) rfl rfl h
            obtain ⟨r37, N38, g39, h⟩ := eCall (mi := 209) (pc := 79) (len := 3) (j := 205) (as := [.ref 181]) (rest := []) rfl (Or.inr (Or.inl rfl)) (by decide) rfl rfl h
            have sx : sm t (1, P.1.2.2.2, 1, P4) = (0, P4.1.2.2.2, cCmp (t P4.1.1), pAdv P4) := sA_cmp k42 k41 k43 (by omega)
            have ec : cCmp (t P4.1.1) = 8 := by rw [tc]; rfl
            have hM5 := sm_mi hn hT.tl hM4
            rw [sx, ec] at hM5
            have hr5 := (Rch.go s1 hr4).tr (Rch.go sx Rch.rf)
            rw [ec] at hr5
            obtain ⟨XG, hG⟩ := rsum_ok (b := P4.1.2.2.2) (h0 := 8) hn R35 (hT.x X36) hM5 rfl g39
            rcases hG with ⟨P5, q5, ⟨hr6, k51, k52, k53⟩, R5⟩ | ⟨q5, B5⟩
            · rw [q5] at h
              rcases eIf (mi := 209) (pc := 82) (len := 3) (t := 87) rfl rfl h with ⟨c40, h⟩ | ⟨c40, h⟩
              · skip
                replace h := eAload (mi := 209) (pc := 87) (len := 1) (i := 0) rfl rfl h
                replace h := eIload (mi := 209) (pc := 88) (len := 1) (i := 1) rfl rfl h
                replace h := eConst (mi := 209) (pc := 89) (len := 1) (v := 0) rfl h
                obtain ⟨r41, N42, g43, h⟩ := eCall (mi := 209) (pc := 90) (len := 3) (j := 197) (as := [.ref 181, .int (8 : Int32), .int (0 : Int32)]) (rest := []) rfl (Or.inr (Or.inl rfl)) (by decide) rfl rfl h
                have sy : sm t (1, P4.1.2.2.2, 8, P5) = (3, 0, 0, pEm P5 (8 * 1048576)) := sA_end k52 k51 k53 (by decide)
                have hM6 := sm_mi hn hT.tl (hr6.mi hn hT.tl hM5)
                rw [sy] at hM6
                obtain ⟨q47, R44, X45⟩ := nte_ok (val := 8 * 1048576) R5 (by decide) (by decide) (by decide) (by decide) (rfl) g43
                rw [q47] at h
                have X46 := (X36.tr XG).tr X45
                replace h := eAload (mi := 209) (pc := 93) (len := 1) (i := 0) rfl rfl h
                obtain ⟨r48, N49, g50, h⟩ := eCall (mi := 209) (pc := 94) (len := 3) (j := 206) (as := [.ref 181]) (rest := []) rfl (Or.inr (Or.inl rfl)) (by decide) rfl rfl h
                obtain ⟨q7, X7, P7, hr7, R7⟩ := ep_lp hn _ _ _ _ _ _ _ rfl R44 (hT.x X46) hM6 g50
                rw [q7] at h
                replace h := eConst (mi := 209) (pc := 97) (len := 1) (v := 1) rfl h
                obtain ⟨e1, e2⟩ := eRetI (mi := 209) (pc := 98) (len := 1) rfl h
                rw [e2]
                exact ⟨X46.tr X7, Or.inl ⟨P7, e1, hr5.tr (hr6.tr (Rch.go sy hr7)), R7⟩⟩
              · exact absurd c40 (by decide)
            · rw [q5] at h
              rcases eIf (mi := 209) (pc := 82) (len := 3) (t := 87) rfl rfl h with ⟨c51, h⟩ | ⟨c51, h⟩
              · exact absurd c51 (by decide)
              · skip
                replace h := eConst (mi := 209) (pc := 85) (len := 1) (v := 0) rfl h
                obtain ⟨e1, e2⟩ := eRetI (mi := 209) (pc := 86) (len := 1) rfl h
                rw [e2]
                exact ⟨X36.tr XG, Or.inr ⟨e1, B5.pre hr5⟩⟩
          · exact absurd c32 (by decide)
      · replace c5 : (hereV N2).toInt = 60 := mC_ne.2 c5
        replace h := eConst (mi := 209) (pc := 18) (len := 2) (v := 7) rfl h
        replace h := eGoto (mi := 209) (pc := 20) (len := 3) (t := 52) rfl rfl h
        replace h := eIstore (mi := 209) (pc := 52) (len := 1) (i := 1) rfl (by decide) h
        replace h := eIload (mi := 209) (pc := 53) (len := 1) (i := 1) rfl rfl h
        replace h := eConst (mi := 209) (pc := 54) (len := 1) (v := (-1)) rfl h
        rcases eIc (mi := 209) (pc := 55) (len := 3) (t := 68) rfl rfl h with ⟨c52, h⟩ | ⟨c52, h⟩
        · skip
          have tc : t P4.1.1 = 60 := th4.symm.trans c5
          replace h := eAload (mi := 209) (pc := 68) (len := 1) (i := 0) rfl rfl h
          replace h := eAload (mi := 209) (pc := 69) (len := 1) (i := 0) rfl rfl h
          replace h := eGetI (a := 181) (j := 1126) R4.1 (by decide) (by decide) rfl (mi := 209) (pc := 70) (len := 3) rfl h
          replace h := eConst (mi := 209) (pc := 73) (len := 1) (v := 1) rfl h
          replace h := eAdd (mi := 209) (pc := 74) (len := 1) rfl h
          obtain ⟨N53, eN53⟩ : ∃ X_, X_ = mPut N2 181 26 (.int ((iv N2 181 26) + (1 : Int32))) := ⟨_, rfl⟩
          replace h := ePutE (a := 181) (f := 26) (N := N53) rfl eN53 (mi := 209) (pc := 75) (len := 3) (j := 1126) rfl h
          have hS54 : Sh N53 := by rw [eN53]; exact R4.1.put (by decide) (by decide) rfl
          have R55 : RR N53 (pAdv P4) := by rw [eN53]; exact R4.p26 (p := P4.1.1 + 1) (ic1 R4.2.1 (by show -1000 ≤ P4.1.1; omega) (by show P4.1.1 ≤ 1000; omega))
          have X56 : RX M N53 := XF.tr (by rw [eN53]; exact RX.put (Or.inl ⟨rfl, by decide⟩))
          replace h := eAload (mi := 209) (pc := 78) (len := 1) (i := 0) rfl rfl h
          obtain ⟨r57, N58, g59, h⟩ := eCall (mi := 209) (pc := 79) (len := 3) (j := 205) (as := [.ref 181]) (rest := []) rfl (Or.inr (Or.inl rfl)) (by decide) rfl rfl h
          have sx : sm t (1, P.1.2.2.2, 1, P4) = (0, P4.1.2.2.2, cCmp (t P4.1.1), pAdv P4) := sA_cmp k42 k41 k43 (by omega)
          have ec : cCmp (t P4.1.1) = 7 := by rw [tc]; rfl
          have hM5 := sm_mi hn hT.tl hM4
          rw [sx, ec] at hM5
          have hr5 := (Rch.go s1 hr4).tr (Rch.go sx Rch.rf)
          rw [ec] at hr5
          obtain ⟨XG, hG⟩ := rsum_ok (b := P4.1.2.2.2) (h0 := 7) hn R55 (hT.x X56) hM5 rfl g59
          rcases hG with ⟨P5, q5, ⟨hr6, k51, k52, k53⟩, R5⟩ | ⟨q5, B5⟩
          · rw [q5] at h
            rcases eIf (mi := 209) (pc := 82) (len := 3) (t := 87) rfl rfl h with ⟨c60, h⟩ | ⟨c60, h⟩
            · skip
              replace h := eAload (mi := 209) (pc := 87) (len := 1) (i := 0) rfl rfl h
              replace h := eIload (mi := 209) (pc := 88) (len := 1) (i := 1) rfl rfl h
              replace h := eConst (mi := 209) (pc := 89) (len := 1) (v := 0) rfl h
              obtain ⟨r61, N62, g63, h⟩ := eCall (mi := 209) (pc := 90) (len := 3) (j := 197) (as := [.ref 181, .int (7 : Int32), .int (0 : Int32)]) (rest := []) rfl (Or.inr (Or.inl rfl)) (by decide) rfl rfl h
              have sy : sm t (1, P4.1.2.2.2, 7, P5) = (3, 0, 0, pEm P5 (7 * 1048576)) := sA_end k52 k51 k53 (by decide)
              have hM6 := sm_mi hn hT.tl (hr6.mi hn hT.tl hM5)
              rw [sy] at hM6
              obtain ⟨q67, R64, X65⟩ := nte_ok (val := 7 * 1048576) R5 (by decide) (by decide) (by decide) (by decide) (rfl) g63
              rw [q67] at h
              have X66 := (X56.tr XG).tr X65
              replace h := eAload (mi := 209) (pc := 93) (len := 1) (i := 0) rfl rfl h
              obtain ⟨r68, N69, g70, h⟩ := eCall (mi := 209) (pc := 94) (len := 3) (j := 206) (as := [.ref 181]) (rest := []) rfl (Or.inr (Or.inl rfl)) (by decide) rfl rfl h
              obtain ⟨q7, X7, P7, hr7, R7⟩ := ep_lp hn _ _ _ _ _ _ _ rfl R64 (hT.x X66) hM6 g70
              rw [q7] at h
              replace h := eConst (mi := 209) (pc := 97) (len := 1) (v := 1) rfl h
              obtain ⟨e1, e2⟩ := eRetI (mi := 209) (pc := 98) (len := 1) rfl h
              rw [e2]
              exact ⟨X66.tr X7, Or.inl ⟨P7, e1, hr5.tr (hr6.tr (Rch.go sy hr7)), R7⟩⟩
            · exact absurd c60 (by decide)
          · rw [q5] at h
            rcases eIf (mi := 209) (pc := 82) (len := 3) (t := 87) rfl rfl h with ⟨c71, h⟩ | ⟨c71, h⟩
            · exact absurd c71 (by decide)
            · skip
              replace h := eConst (mi := 209) (pc := 85) (len := 1) (v := 0) rfl h
              obtain ⟨e1, e2⟩ := eRetI (mi := 209) (pc := 86) (len := 1) rfl h
              rw [e2]
              exact ⟨X56.tr XG, Or.inr ⟨e1, B5.pre hr5⟩⟩
        · exact absurd c52 (by decide)
    · exact absurd c4 (by decide)
  · rw [q4] at h
    rcases eIf (mi := 209) (pc := 4) (len := 3) (t := 9) rfl rfl h with ⟨c72, h⟩ | ⟨c72, h⟩
    · exact absurd c72 (by decide)
    · skip
      replace h := eConst (mi := 209) (pc := 7) (len := 1) (v := 0) rfl h
      obtain ⟨e1, e2⟩ := eRetI (mi := 209) (pc := 8) (len := 1) rfl h
      rw [e2]
      exact ⟨XF, Or.inr ⟨e1, B4.pre (Rch.go s1 Rch.rf)⟩⟩
theorem rc_lp {t : Int → Int} {N : Int} {c0 : CF} (hn : N ≤ 160) : ∀ n : Nat, (∀ (d : Nat) (L : MLoc) (M : Mem) (r : Option Value) (M1 : Mem) (P : PS), mLd L 0 = some (.ref 181) → RR M P → RT M t N → MI N (2, 0, 0, P) → Rch t c0 (2, 0, 0, P) → En n d 210 40 L [] M r M1 → RK t c0 (fun P' => Rch t c0 (7, 0, 0, P')) M r M1) ∧ (∀ (d : Nat) (L : MLoc) (M : Mem) (r : Option Value) (M1 : Mem) (P : PS), mLd L 0 = some (.ref 181) → RR M P → RT M t N → MI N (4, 0, 0, P) → Rch t c0 (4, 0, 0, P) → En n d 210 92 L [] M r M1 → RK t c0 (fun P' => Rch t c0 (7, 0, 0, P')) M r M1) := by
  intro n
  induction n with
  | zero => exact ⟨fun d L M r M1 P _ _ _ _ _ h => (En.zero (mi := 210) (pc := 40) (len := 1) rfl h).elim, fun d L M r M1 P _ _ _ _ _ h => (En.zero (mi := 210) (pc := 92) (len := 1) rfl h).elim⟩
  | succ n ih =>
    constructor
    · intro d L M r M1 P l0 hR hT hM hr h
      obtain ⟨p0, pN0, o6, ow, hW⟩ := hM.f
      have wb := hR.2.2.2.2.2.1
      have th : (hereV M).toInt = t P.1.1 := here_t hR hT p0
      replace h := eAloadS (mi := 210) (pc := 40) (len := 1) (i := 0) rfl l0 h
      replace h := eCallP (mi := 210) (pc := 41) (len := 3) (j := 192) (as := [.ref 181]) (rest := []) rfl (Or.inr (Or.inl rfl)) (by decide) rfl rfl (fun _ _ _ _ g => hereV_en hR.1 g) h
      replace h := eConst (mi := 210) (pc := 44) (len := 2) (v := 33) rfl h
      rcases eIc (mi := 210) (pc := 46) (len := 3) (t := 58) rfl rfl h with ⟨c1, h⟩ | ⟨c1, h⟩
      · replace c1 : (hereV M).toInt = 33 := mC_eq.1 c1
        replace h := eAload (mi := 210) (pc := 58) (len := 1) (i := 0) rfl l0 h
        replace h := eAload (mi := 210) (pc := 59) (len := 1) (i := 0) rfl l0 h
        replace h := eCallP (mi := 210) (pc := 60) (len := 3) (j := 192) (as := [.ref 181]) (rest := [.ref 181]) rfl (Or.inr (Or.inl rfl)) (by decide) rfl rfl (fun _ _ _ _ g => hereV_en hR.1 g) h
        replace h := eConst (mi := 210) (pc := 63) (len := 2) (v := 33) rfl h
        rcases eIc (mi := 210) (pc := 65) (len := 3) (t := 73) rfl rfl h with ⟨c2, h⟩ | ⟨c2, h⟩
        · replace c2 : ¬ (hereV M).toInt = 33 := mC_ne.1 c2
          exfalso
          omega
        · replace c2 : (hereV M).toInt = 33 := mC_ne.2 c2
          replace h := eConst (mi := 210) (pc := 68) (len := 2) (v := 10) rfl h
          replace h := eGoto (mi := 210) (pc := 70) (len := 3) (t := 75) rfl rfl h
          obtain ⟨r3, N4, g5, h⟩ := eCall (mi := 210) (pc := 75) (len := 3) (j := 198) (as := [.ref 181, .int (10 : Int32)]) (rest := []) rfl (Or.inr (Or.inl rfl)) (by decide) rfl rfl h
          have tb : t P.1.1 = 33 := by omega
          rcases opn_ok (val := 10485760) hR p0 (by omega) (by omega) o6 (by decide) (by decide) (by decide) g5 with ⟨q1, q2, q3⟩ | ⟨q1, q2, R3, X3⟩
          · rw [q2] at h
            rcases eIf (mi := 210) (pc := 78) (len := 3) (t := 40) rfl rfl h with ⟨c6, h⟩ | ⟨c6, h⟩
            · exact absurd c6 (by decide)
            · skip
              replace h := eConst (mi := 210) (pc := 81) (len := 1) (v := 0) rfl h
              obtain ⟨e1, e2⟩ := eRetI (mi := 210) (pc := 82) (len := 1) rfl h
              rw [e2]
              have f := wr_fin (k := 5) (c := (2, 0, 0, P)) hR p0 (by omega) (by decide) (by decide) (Rch.go (sP_ng6 tb q1) Rch.rf) q3
              exact ⟨f.1, Or.inr ⟨e1, f.2.1.pre hr⟩⟩
          · rw [q2] at h
            rcases eIf (mi := 210) (pc := 78) (len := 3) (t := 40) rfl rfl h with ⟨c7, h⟩ | ⟨c7, h⟩
            · skip
              have sx : sm t (2, 0, 0, P) = (2, 0, 0, (pAdv (pOpn (pPush P 10485760) 1))) := sP_neg tb q1
              have hM2 := sm_mi hn hT.tl hM
              rw [sx] at hM2
              exact RK.pre X3 Rch.rf (ih.1 _ _ _ _ _ _ l0 R3 (hT.x X3) hM2 (hr.tr (Rch.go sx Rch.rf)) h) (fun _ q => q)
            · exact absurd c7 (by decide)
      · replace c1 : ¬ (hereV M).toInt = 33 := mC_eq.2 c1
        replace h := eAload (mi := 210) (pc := 49) (len := 1) (i := 0) rfl l0 h
        replace h := eCallP (mi := 210) (pc := 50) (len := 3) (j := 192) (as := [.ref 181]) (rest := []) rfl (Or.inr (Or.inl rfl)) (by decide) rfl rfl (fun _ _ _ _ g => hereV_en hR.1 g) h
        replace h := eConst (mi := 210) (pc := 53) (len := 2) (v := 40) rfl h
        rcases eIc (mi := 210) (pc := 55) (len := 3) (t := 83) rfl rfl h with ⟨c8, h⟩ | ⟨c8, h⟩
        · replace c8 : ¬ (hereV M).toInt = 40 := mC_ne.1 c8
          replace h := eAload (mi := 210) (pc := 83) (len := 1) (i := 0) rfl l0 h
          obtain ⟨r9, N10, g11, h⟩ := eCall (mi := 210) (pc := 84) (len := 3) (j := 209) (as := [.ref 181]) (rest := []) rfl (Or.inr (Or.inl rfl)) (by decide) rfl rfl h
          obtain ⟨XF, hF⟩ := cmpr_ok hn hR hT hM (by omega) (by omega) g11
          rcases hF with ⟨P4, q4, hr4, R4⟩ | ⟨q4, B4⟩
          · rw [q4] at h
            rcases eIf (mi := 210) (pc := 87) (len := 3) (t := 92) rfl rfl h with ⟨c12, h⟩ | ⟨c12, h⟩
            · skip
              exact RK.pre XF Rch.rf (ih.2 _ _ _ _ _ P4 l0 R4 (hT.x XF) (hr4.mi hn hT.tl hM) (hr.tr hr4) h) (fun _ q => q)
            · exact absurd c12 (by decide)
          · rw [q4] at h
            rcases eIf (mi := 210) (pc := 87) (len := 3) (t := 92) rfl rfl h with ⟨c13, h⟩ | ⟨c13, h⟩
            · exact absurd c13 (by decide)
            · skip
              replace h := eConst (mi := 210) (pc := 90) (len := 1) (v := 0) rfl h
              obtain ⟨e1, e2⟩ := eRetI (mi := 210) (pc := 91) (len := 1) rfl h
              rw [e2]
              exact ⟨XF, Or.inr ⟨e1, B4.pre hr⟩⟩
        · replace c8 : (hereV M).toInt = 40 := mC_ne.2 c8
          replace h := eAload (mi := 210) (pc := 58) (len := 1) (i := 0) rfl l0 h
          replace h := eAload (mi := 210) (pc := 59) (len := 1) (i := 0) rfl l0 h
          replace h := eCallP (mi := 210) (pc := 60) (len := 3) (j := 192) (as := [.ref 181]) (rest := [.ref 181]) rfl (Or.inr (Or.inl rfl)) (by decide) rfl rfl (fun _ _ _ _ g => hereV_en hR.1 g) h
          replace h := eConst (mi := 210) (pc := 63) (len := 2) (v := 33) rfl h
          rcases eIc (mi := 210) (pc := 65) (len := 3) (t := 73) rfl rfl h with ⟨c14, h⟩ | ⟨c14, h⟩
          · replace c14 : ¬ (hereV M).toInt = 33 := mC_ne.1 c14
            replace h := eConst (mi := 210) (pc := 73) (len := 2) (v := 13) rfl h
            obtain ⟨r15, N16, g17, h⟩ := eCall (mi := 210) (pc := 75) (len := 3) (j := 198) (as := [.ref 181, .int (13 : Int32)]) (rest := []) rfl (Or.inr (Or.inl rfl)) (by decide) rfl rfl h
            have tb : t P.1.1 = 40 := by omega
            rcases opn_ok (val := 13631488) hR p0 (by omega) (by omega) o6 (by decide) (by decide) (by decide) g17 with ⟨q1, q2, q3⟩ | ⟨q1, q2, R3, X3⟩
            · rw [q2] at h
              rcases eIf (mi := 210) (pc := 78) (len := 3) (t := 40) rfl rfl h with ⟨c18, h⟩ | ⟨c18, h⟩
              · exact absurd c18 (by decide)
              · skip
                replace h := eConst (mi := 210) (pc := 81) (len := 1) (v := 0) rfl h
                obtain ⟨e1, e2⟩ := eRetI (mi := 210) (pc := 82) (len := 1) rfl h
                rw [e2]
                have f := wr_fin (k := 5) (c := (2, 0, 0, P)) hR p0 (by omega) (by decide) (by decide) (Rch.go (sP_br6 tb q1) Rch.rf) q3
                exact ⟨f.1, Or.inr ⟨e1, f.2.1.pre hr⟩⟩
            · rw [q2] at h
              rcases eIf (mi := 210) (pc := 78) (len := 3) (t := 40) rfl rfl h with ⟨c19, h⟩ | ⟨c19, h⟩
              · skip
                have sx : sm t (2, 0, 0, P) = (2, 0, 0, (pAdv (pOpn (pPush P 13631488) 1))) := sP_brk tb q1
                have hM2 := sm_mi hn hT.tl hM
                rw [sx] at hM2
                exact RK.pre X3 Rch.rf (ih.1 _ _ _ _ _ _ l0 R3 (hT.x X3) hM2 (hr.tr (Rch.go sx Rch.rf)) h) (fun _ q => q)
              · exact absurd c19 (by decide)
          · replace c14 : (hereV M).toInt = 33 := mC_ne.2 c14
            exfalso
            omega
    · intro d L M r M1 P l0 hR hT hM hr h
      obtain ⟨p0, pN0, o6, ow, hW⟩ := hM.f
      have wb := hR.2.2.2.2.2.1
      have th : (hereV M).toInt = t P.1.1 := here_t hR hT p0
      replace h := eAloadS (mi := 210) (pc := 92) (len := 1) (i := 0) rfl l0 h
      replace h := eCallP (mi := 210) (pc := 93) (len := 3) (j := 192) (as := [.ref 181]) (rest := []) rfl (Or.inr (Or.inl rfl)) (by decide) rfl rfl (fun _ _ _ _ g => hereV_en hR.1 g) h
      replace h := eConst (mi := 210) (pc := 96) (len := 2) (v := 41) rfl h
      rcases eIc (mi := 210) (pc := 98) (len := 3) (t := 152) rfl rfl h with ⟨c1, h⟩ | ⟨c1, h⟩
      · replace c1 : ¬ (hereV M).toInt = 41 := mC_ne.1 c1
        replace h := eAload (mi := 210) (pc := 152) (len := 1) (i := 0) rfl l0 h
        replace h := eCallP (mi := 210) (pc := 153) (len := 3) (j := 192) (as := [.ref 181]) (rest := []) rfl (Or.inr (Or.inl rfl)) (by decide) rfl rfl (fun _ _ _ _ g => hereV_en hR.1 g) h
        replace h := eConst (mi := 210) (pc := 156) (len := 2) (v := 38) rfl h
        rcases eIc (mi := 210) (pc := 158) (len := 3) (t := 180) rfl rfl h with ⟨c2, h⟩ | ⟨c2, h⟩
        · replace c2 : (hereV M).toInt = 38 := mC_eq.1 c2
          replace h := eAload (mi := 210) (pc := 180) (len := 1) (i := 0) rfl l0 h
          replace h := eAload (mi := 210) (pc := 181) (len := 1) (i := 0) rfl l0 h
          replace h := eCallP (mi := 210) (pc := 182) (len := 3) (j := 192) (as := [.ref 181]) (rest := [.ref 181]) rfl (Or.inr (Or.inl rfl)) (by decide) rfl rfl (fun _ _ _ _ g => hereV_en hR.1 g) h
          replace h := eConst (mi := 210) (pc := 185) (len := 2) (v := 124) rfl h
          rcases eIc (mi := 210) (pc := 187) (len := 3) (t := 194) rfl rfl h with ⟨c3, h⟩ | ⟨c3, h⟩
          · replace c3 : ¬ (hereV M).toInt = 124 := mC_ne.1 c3
            replace h := eConst (mi := 210) (pc := 194) (len := 1) (v := 0) rfl h
            obtain ⟨r4, N5, g6, h⟩ := eCall (mi := 210) (pc := 195) (len := 3) (j := 207) (as := [.ref 181, .int (0 : Int32)]) (rest := []) rfl (Or.inr (Or.inl rfl)) (by decide) rfl rfl h
            obtain ⟨q2, X2, P2, kl, R2⟩ := la_lp (x := (0 : Int32)) hn _ _ _ _ _ _ _ rfl rfl hR hT hM (Or.inl rfl) (Or.inr (by omega)) g6
            rw [q2] at h
            have hM2 := kl.1.mi hn hT.tl hM
            obtain ⟨p02, pN2, o62, ow2, hW2⟩ := hM2.f
            have wb2 := R2.2.2.2.2.2.1
            have w12 : 1 ≤ P2.1.2.2.2 := (hM2.2.2.2.2.2 (Or.inl ⟨(by decide : 2 ≤ 4), (by decide : 4 ≤ 4)⟩)).1
            have th2 : (hereV N5).toInt = t P2.1.1 := here_t R2 (hT.x X2) p02
            have tp2 : t P2.1.1 = t P.1.1 := by rw [kl.2.1]
            replace h := eAload (mi := 210) (pc := 198) (len := 1) (i := 0) rfl l0 h
            replace h := eAload (mi := 210) (pc := 199) (len := 1) (i := 0) rfl l0 h
            replace h := eCallP (mi := 210) (pc := 200) (len := 3) (j := 192) (as := [.ref 181]) (rest := [.ref 181]) rfl (Or.inr (Or.inl rfl)) (by decide) rfl rfl (fun _ _ _ _ g => hereV_en R2.1 g) h
            replace h := eConst (mi := 210) (pc := 203) (len := 2) (v := 38) rfl h
            rcases eIc (mi := 210) (pc := 205) (len := 3) (t := 213) rfl rfl h with ⟨c7, h⟩ | ⟨c7, h⟩
            · replace c7 : ¬ (hereV N5).toInt = 38 := mC_ne.1 c7
              exfalso
              omega
            · replace c7 : (hereV N5).toInt = 38 := mC_ne.2 c7
              replace h := eConst (mi := 210) (pc := 208) (len := 2) (v := 11) rfl h
              replace h := eGoto (mi := 210) (pc := 210) (len := 3) (t := 215) rfl rfl h
              obtain ⟨r8, N9, g10, h⟩ := eCall (mi := 210) (pc := 215) (len := 3) (j := 208) (as := [.ref 181, .int (11 : Int32)]) (rest := []) rfl (Or.inr (Or.inl rfl)) (by decide) rfl rfl h
              obtain ⟨q3, R3, X3⟩ := ju_ok (w := 11534336) R2 p02 (by omega) (by decide) (by decide) (by decide) g10
              rw [q3] at h
              have sx : sm t (4, 0, 0, P2) = (2, 0, 0, pAdv (pEm (pPush P2 (11534336 + (P2.1.2.2.1 : Int))) 11534336)) := sQ_j38 kl.2.2.1 kl.2.2.2 (by omega)
              replace h := eGoto (mi := 210) (pc := 218) (len := 3) (t := 40) rfl rfl h
              have hM3 := sm_mi hn hT.tl hM2
              rw [sx] at hM3
              exact RK.pre (X2.tr X3) Rch.rf (ih.1 _ _ _ _ _ _ l0 R3 (hT.x (X2.tr X3)) hM3 ((hr.tr kl.1).tr (Rch.go sx Rch.rf)) h) (fun _ q => q)
          · replace c3 : (hereV M).toInt = 124 := mC_ne.2 c3
            exfalso
            omega
        · replace c2 : ¬ (hereV M).toInt = 38 := mC_eq.2 c2
          replace h := eAload (mi := 210) (pc := 161) (len := 1) (i := 0) rfl l0 h
          replace h := eCallP (mi := 210) (pc := 162) (len := 3) (j := 192) (as := [.ref 181]) (rest := []) rfl (Or.inr (Or.inl rfl)) (by decide) rfl rfl (fun _ _ _ _ g => hereV_en hR.1 g) h
          replace h := eConst (mi := 210) (pc := 165) (len := 2) (v := 124) rfl h
          rcases eIc (mi := 210) (pc := 167) (len := 3) (t := 180) rfl rfl h with ⟨c11, h⟩ | ⟨c11, h⟩
          · replace c11 : (hereV M).toInt = 124 := mC_eq.1 c11
            replace h := eAload (mi := 210) (pc := 180) (len := 1) (i := 0) rfl l0 h
            replace h := eAload (mi := 210) (pc := 181) (len := 1) (i := 0) rfl l0 h
            replace h := eCallP (mi := 210) (pc := 182) (len := 3) (j := 192) (as := [.ref 181]) (rest := [.ref 181]) rfl (Or.inr (Or.inl rfl)) (by decide) rfl rfl (fun _ _ _ _ g => hereV_en hR.1 g) h
            replace h := eConst (mi := 210) (pc := 185) (len := 2) (v := 124) rfl h
            rcases eIc (mi := 210) (pc := 187) (len := 3) (t := 194) rfl rfl h with ⟨c12, h⟩ | ⟨c12, h⟩
            · replace c12 : ¬ (hereV M).toInt = 124 := mC_ne.1 c12
              exfalso
              omega
            · replace c12 : (hereV M).toInt = 124 := mC_ne.2 c12
              replace h := eConst (mi := 210) (pc := 190) (len := 1) (v := 1) rfl h
              replace h := eGoto (mi := 210) (pc := 191) (len := 3) (t := 195) rfl rfl h
              obtain ⟨r13, N14, g15, h⟩ := eCall (mi := 210) (pc := 195) (len := 3) (j := 207) (as := [.ref 181, .int (1 : Int32)]) (rest := []) rfl (Or.inr (Or.inl rfl)) (by decide) rfl rfl h
              obtain ⟨q2, X2, P2, kl, R2⟩ := la_lp (x := (1 : Int32)) hn _ _ _ _ _ _ _ rfl rfl hR hT hM (Or.inr (by omega)) (Or.inl (by decide)) g15
              rw [q2] at h
              have hM2 := kl.1.mi hn hT.tl hM
              obtain ⟨p02, pN2, o62, ow2, hW2⟩ := hM2.f
              have wb2 := R2.2.2.2.2.2.1
              have w12 : 1 ≤ P2.1.2.2.2 := (hM2.2.2.2.2.2 (Or.inl ⟨(by decide : 2 ≤ 4), (by decide : 4 ≤ 4)⟩)).1
              have th2 : (hereV N14).toInt = t P2.1.1 := here_t R2 (hT.x X2) p02
              have tp2 : t P2.1.1 = t P.1.1 := by rw [kl.2.1]
              replace h := eAload (mi := 210) (pc := 198) (len := 1) (i := 0) rfl l0 h
              replace h := eAload (mi := 210) (pc := 199) (len := 1) (i := 0) rfl l0 h
              replace h := eCallP (mi := 210) (pc := 200) (len := 3) (j := 192) (as := [.ref 181]) (rest := [.ref 181]) rfl (Or.inr (Or.inl rfl)) (by decide) rfl rfl (fun _ _ _ _ g => hereV_en R2.1 g) h
              replace h := eConst (mi := 210) (pc := 203) (len := 2) (v := 38) rfl h
              rcases eIc (mi := 210) (pc := 205) (len := 3) (t := 213) rfl rfl h with ⟨c16, h⟩ | ⟨c16, h⟩
              · replace c16 : ¬ (hereV N14).toInt = 38 := mC_ne.1 c16
                replace h := eConst (mi := 210) (pc := 213) (len := 2) (v := 12) rfl h
                obtain ⟨r17, N18, g19, h⟩ := eCall (mi := 210) (pc := 215) (len := 3) (j := 208) (as := [.ref 181, .int (12 : Int32)]) (rest := []) rfl (Or.inr (Or.inl rfl)) (by decide) rfl rfl h
                obtain ⟨q3, R3, X3⟩ := ju_ok (w := 12582912) R2 p02 (by omega) (by decide) (by decide) (by decide) g19
                rw [q3] at h
                have sx : sm t (4, 0, 0, P2) = (2, 0, 0, pAdv (pEm (pPush P2 (12582912 + (P2.1.2.2.1 : Int))) 12582912)) := sQ_j124 kl.2.2.1 kl.2.2.2 (by omega)
                replace h := eGoto (mi := 210) (pc := 218) (len := 3) (t := 40) rfl rfl h
                have hM3 := sm_mi hn hT.tl hM2
                rw [sx] at hM3
                exact RK.pre (X2.tr X3) Rch.rf (ih.1 _ _ _ _ _ _ l0 R3 (hT.x (X2.tr X3)) hM3 ((hr.tr kl.1).tr (Rch.go sx Rch.rf)) h) (fun _ q => q)
              · replace c16 : (hereV N14).toInt = 38 := mC_ne.2 c16
                exfalso
                omega
          · replace c11 : ¬ (hereV M).toInt = 124 := mC_eq.2 c11
            replace h := eAload (mi := 210) (pc := 170) (len := 1) (i := 0) rfl l0 h
            replace h := eConst (mi := 210) (pc := 171) (len := 1) (v := 1) rfl h
            replace h := eAload (mi := 210) (pc := 172) (len := 1) (i := 0) rfl l0 h
            replace h := eGetI (a := 181) (j := 1126) hR.1 (by decide) (by decide) rfl (mi := 210) (pc := 173) (len := 3) rfl h
            obtain ⟨r20, N21, g22, h⟩ := eCall (mi := 210) (pc := 176) (len := 3) (j := 194) (as := [.ref 181, .int (1 : Int32), .int (iv M 181 26)]) (rest := []) rfl (Or.inr (Or.inl rfl)) (by decide) rfl rfl h
            obtain ⟨P2, kl⟩ := lan_ex (t := t) _ P rfl
            have sx : sm t (4, 0, 0, P2) = cBad 1 P2 := sQ_bd kl.2.2.1 kl.2.2.2 (by rw [kl.2.1]; omega) (by rw [kl.2.1]; omega) (by rw [kl.2.1]; omega)
            have eP : cBad 1 P2 = (8, 0, -1000 * 1 - P.1.1, P2) := by show (8, 0, -1000 * 1 - P2.1.1, P2) = _; rw [kl.2.1]
            obtain ⟨q1, q2⟩ := wr_en hR.1 g22
            rw [q1] at h
            obtain ⟨XW, ⟨SW, c9, w1, w2, w3⟩, _⟩ := wr_fin (k := 1) (c := cBad 1 P) (t := t) hR p0 (by omega) (by decide) (by decide) Rch.rf q2
            have e9 := Rch.one w1 Rch.rf (by omega) (show 7 ≤ (cBad 1 P).1 from (by decide : 7 ≤ 8))
            have v9 : -1000 * 1 - P.1.1 = (iv N21 181 28).toInt := by rw [← w3, e9]; rfl
            obtain ⟨e1, e2⟩ := eRetI (mi := 210) (pc := 179) (len := 1) rfl h
            rw [e2]
            exact ⟨XW, Or.inr ⟨e1, SW, _, (hr.tr kl.1).tr (Rch.go (sx.trans eP) Rch.rf), rfl, v9⟩⟩
      · replace c1 : (hereV M).toInt = 41 := mC_ne.2 c1
        replace h := eAload (mi := 210) (pc := 101) (len := 1) (i := 0) rfl l0 h
        replace h := eConst (mi := 210) (pc := 102) (len := 1) (v := 1) rfl h
        obtain ⟨r23, N24, g25, h⟩ := eCall (mi := 210) (pc := 103) (len := 3) (j := 207) (as := [.ref 181, .int (1 : Int32)]) (rest := []) rfl (Or.inr (Or.inl rfl)) (by decide) rfl rfl h
        obtain ⟨q2, X2, P2, kl, R2⟩ := la_lp (x := (1 : Int32)) hn _ _ _ _ _ _ _ rfl rfl hR hT hM (Or.inr (by omega)) (Or.inl (by decide)) g25
        rw [q2] at h
        have hM2 := kl.1.mi hn hT.tl hM
        obtain ⟨p02, pN2, o62, ow2, hW2⟩ := hM2.f
        have wb2 := R2.2.2.2.2.2.1
        have w12 : 1 ≤ P2.1.2.2.2 := (hM2.2.2.2.2.2 (Or.inl ⟨(by decide : 2 ≤ 4), (by decide : 4 ≤ 4)⟩)).1
        have th2 : (hereV N24).toInt = t P2.1.1 := here_t R2 (hT.x X2) p02
        have tp2 : t P2.1.1 = t P.1.1 := by rw [kl.2.1]
        replace h := eAload (mi := 210) (pc := 106) (len := 1) (i := 0) rfl l0 h
        replace h := eAload (mi := 210) (pc := 107) (len := 1) (i := 0) rfl l0 h
        replace h := eGetI (a := 181) (j := 1131) R2.1 (by decide) (by decide) rfl (mi := 210) (pc := 108) (len := 3) rfl h
        replace h := eConst (mi := 210) (pc := 111) (len := 1) (v := 1) rfl h
        replace h := eSub (mi := 210) (pc := 112) (len := 1) rfl h
        obtain ⟨N26, eN26⟩ : ∃ X_, X_ = mPut N24 181 31 (.int ((iv N24 181 31) - (1 : Int32))) := ⟨_, rfl⟩
        replace h := ePutE (a := 181) (f := 31) (N := N26) rfl eN26 (mi := 210) (pc := 113) (len := 3) (j := 1131) rfl h
        have hS27 : Sh N26 := by rw [eN26]; exact R2.1.put (by decide) (by decide) rfl
        have R28 : RR N26 (pPop P2) := by rw [eN26]; exact R2.p31 (w := P2.1.2.2.2 - 1) (by have q := dc1 R2.2.2.2.2.1 (by show -1000 ≤ (P2.1.2.2.2 : Int); omega) (by show (P2.1.2.2.2 : Int) ≤ 1000; omega); rw [q]; show (P2.1.2.2.2 : Int) - 1 = ((P2.1.2.2.2 - 1 : Nat) : Int); omega) (by omega)
        have X29 : RX M N26 := X2.tr (by rw [eN26]; exact RX.put (Or.inl ⟨rfl, by decide⟩))
        replace h := eAload (mi := 210) (pc := 116) (len := 1) (i := 0) rfl l0 h
        replace h := eAload (mi := 210) (pc := 117) (len := 1) (i := 0) rfl l0 h
        replace h := eGetI (a := 181) (j := 1129) R28.1 (by decide) (by decide) rfl (mi := 210) (pc := 118) (len := 3) rfl h
        replace h := eConst (mi := 210) (pc := 121) (len := 1) (v := 1) rfl h
        replace h := eSub (mi := 210) (pc := 122) (len := 1) rfl h
        obtain ⟨N30, eN30⟩ : ∃ X_, X_ = mPut N26 181 29 (.int ((iv N26 181 29) - (1 : Int32))) := ⟨_, rfl⟩
        replace h := ePutE (a := 181) (f := 29) (N := N30) rfl eN30 (mi := 210) (pc := 123) (len := 3) (j := 1129) rfl h
        have hS31 : Sh N30 := by rw [eN30]; exact R28.1.put (by decide) (by decide) rfl
        have R32 : RR N30 (pOpn (pPop P2) (-1)) := by rw [eN30]; exact R28.p29 (o := P2.1.2.1 + -1) (by have q := dc1 R28.2.2.1 (by show -1000 ≤ P2.1.2.1; omega) (by show P2.1.2.1 ≤ 1000; omega); rw [q]; rfl)
        have X33 : RX M N30 := X29.tr (by rw [eN30]; exact RX.put (Or.inl ⟨rfl, by decide⟩))
        replace h := eAload (mi := 210) (pc := 126) (len := 1) (i := 0) rfl l0 h
        replace h := eAload (mi := 210) (pc := 127) (len := 1) (i := 0) rfl l0 h
        replace h := eGetI (a := 181) (j := 1126) R32.1 (by decide) (by decide) rfl (mi := 210) (pc := 128) (len := 3) rfl h
        replace h := eConst (mi := 210) (pc := 131) (len := 1) (v := 1) rfl h
        replace h := eAdd (mi := 210) (pc := 132) (len := 1) rfl h
        obtain ⟨N34, eN34⟩ : ∃ X_, X_ = mPut N30 181 26 (.int ((iv N30 181 26) + (1 : Int32))) := ⟨_, rfl⟩
        replace h := ePutE (a := 181) (f := 26) (N := N34) rfl eN34 (mi := 210) (pc := 133) (len := 3) (j := 1126) rfl h
        have hS35 : Sh N34 := by rw [eN34]; exact R32.1.put (by decide) (by decide) rfl
        have R36 : RR N34 (pAdv (pOpn (pPop P2) (-1))) := by rw [eN34]; exact R32.p26 (p := P2.1.1 + 1) (ic1 R32.2.1 (by show -1000 ≤ P2.1.1; omega) (by show P2.1.1 ≤ 1000; omega))
        have X37 : RX M N34 := X33.tr (by rw [eN34]; exact RX.put (Or.inl ⟨rfl, by decide⟩))
        replace h := eAload (mi := 210) (pc := 136) (len := 1) (i := 0) rfl l0 h
        replace h := eGetI (a := 181) (j := 1131) R36.1 (by decide) (by decide) rfl (mi := 210) (pc := 137) (len := 3) rfl h
        rcases eIf (mi := 210) (pc := 140) (len := 3) (t := 145) rfl rfl h with ⟨c38, h⟩ | ⟨c38, h⟩
        · replace c38 : ¬ (iv N34 181 31).toInt = 0 := mC_ne.1 c38
          replace h := eAload (mi := 210) (pc := 145) (len := 1) (i := 0) rfl l0 h
          obtain ⟨r39, N40, g41, h⟩ := eCall (mi := 210) (pc := 146) (len := 3) (j := 206) (as := [.ref 181]) (rest := []) rfl (Or.inr (Or.inl rfl)) (by decide) rfl rfl h
          have wq : ¬ P2.1.2.2.2 = 1 := fun q => c38 (by rw [R36.2.2.2.2.1]; show ((P2.1.2.2.2 - 1 : Nat) : Int) = 0; omega)
          have sx : sm t (4, 0, 0, P2) = (3, 0, 0, (pAdv (pOpn (pPop P2) (-1)))) := sQ_sh3 kl.2.2.1 kl.2.2.2 (by omega) wq
          have hM3 := sm_mi hn hT.tl hM2
          rw [sx] at hM3
          obtain ⟨q7, X7, P7, hr7, R7⟩ := ep_lp hn _ _ _ _ _ _ _ rfl R36 (hT.x X37) hM3 g41
          rw [q7] at h
          replace h := eGoto (mi := 210) (pc := 149) (len := 3) (t := 92) rfl rfl h
          exact RK.pre (X37.tr X7) Rch.rf (ih.2 _ _ _ _ _ P7 l0 R7 (hT.x (X37.tr X7)) (hr7.mi hn hT.tl hM3) ((hr.tr kl.1).tr (Rch.go sx hr7)) h) (fun _ q => q)
        · replace c38 : (iv N34 181 31).toInt = 0 := mC_ne.2 c38
          replace h := eConst (mi := 210) (pc := 143) (len := 1) (v := 1) rfl h
          obtain ⟨e1, e2⟩ := eRetI (mi := 210) (pc := 144) (len := 1) rfl h
          rw [e2]
          have wq : P2.1.2.2.2 = 1 := by have q := c38; rw [R36.2.2.2.2.1] at q; have q : ((P2.1.2.2.2 - 1 : Nat) : Int) = 0 := q; omega
          have sx : sm t (4, 0, 0, P2) = (7, 0, 0, pAdv (pOpn (pPop P2) (-1))) := sQ_sh7 kl.2.2.1 kl.2.2.2 (by omega) wq
          exact ⟨X37, Or.inl ⟨_, e1, (hr.tr kl.1).tr (Rch.go sx Rch.rf), R36⟩⟩
theorem cnd_mi {N : Int} {P : PS} (lt : P.1.1 < N) (p0 : 0 ≤ P.1.1) (hc : (P.1.2.2.1 : Int) ≤ 2 * P.1.1) (hW : ∀ k, k < P.1.2.2.1 → 0 ≤ P.2.1 k ∧ P.2.1 k < 16777216) : MI N (2, 0, 0, pAdv (pOpn (pPush (pZ P) 13631488) 1)) := by
  have w0 : WS (pZ P) := ⟨fun k hk => absurd (show k < 0 from hk) (Nat.not_lt_zero k), hW, fun k hk => absurd (show k < 0 from hk) (Nat.not_lt_zero k)⟩
  refine ⟨⟨?_, ?_⟩, ⟨?_, ?_⟩, ⟨?_, ?_⟩, w0.push (by decide) (by decide) (by decide), ?_, ?_⟩
  · show 0 ≤ P.1.1 + 1
    omega
  · show P.1.1 + 1 ≤ N
    omega
  · show (0 : Int) + 1 ≤ 6
    decide
  · show (((0 : Nat) + 1 : Nat) : Int) ≤ 0 + 1 + (P.1.1 + 1)
    omega
  · show (P.1.2.2.1 : Int) + (((0 : Nat) + 1 : Nat) : Int) ≤ 2 * (P.1.1 + 1)
    omega
  · exact fun q => absurd (show 2 ≤ 1 from q.1) (by decide)
  · exact fun q => absurd (show 2 ≤ 1 from q) (by decide)
  · intro _
    refine ⟨(by decide : 1 ≤ 0 + 1), ?_, fun q => absurd (show 2 ≤ 1 from q) (by decide)⟩
    show pUp P.2.2 0 13631488 0 / 1048576 = 13
    rw [pUp_at]
    rfl
theorem cndr_ok {t : Int → Int} {N : Int} {P : PS} (hn : N ≤ 160) {n d : Nat} {M : Mem} {r : Option Value} {M1 : Mem} (hR : RR M P) (hT : RT M t N) (p0 : 0 ≤ P.1.1) (p1 : P.1.1 ≤ N) (hc : (P.1.2.2.1 : Int) ≤ 2 * P.1.1) (hW : ∀ k, k < P.1.2.2.1 → 0 ≤ P.2.1 k ∧ P.2.1 k < 16777216) (h : En n d 210 0 (lv_args 0 [.ref 181]) [] M r M1) : RX M M1 ∧ ((∃ R, r = some (.int 1) ∧ t P.1.1 = 40 ∧ Rch t (2, 0, 0, pZ P) (7, 0, 0, R) ∧ RR M1 R) ∨ (r = some (.int 0) ∧ Sh M1 ∧ ((¬ t P.1.1 = 40 ∧ (iv M1 181 28).toInt = -1000 * 1 - P.1.1) ∨ (t P.1.1 = 40 ∧ ∃ c', Rch t (2, 0, 0, pZ P) c' ∧ c'.1 = 8 ∧ c'.2.2.1 = (iv M1 181 28).toInt)))) := by
  have th : (hereV M).toInt = t P.1.1 := here_t hR hT p0
  replace h := eAload (mi := 210) (pc := 0) (len := 1) (i := 0) rfl rfl h
  replace h := eCallP (mi := 210) (pc := 1) (len := 3) (j := 192) (as := [.ref 181]) (rest := []) rfl (Or.inr (Or.inl rfl)) (by decide) rfl rfl (fun _ _ _ _ g => hereV_en hR.1 g) h
  replace h := eConst (mi := 210) (pc := 4) (len := 2) (v := 40) rfl h
  rcases eIc (mi := 210) (pc := 6) (len := 3) (t := 19) rfl rfl h with ⟨c1, h⟩ | ⟨c1, h⟩
  · replace c1 : (hereV M).toInt = 40 := mC_eq.1 c1
    replace h := eAload (mi := 210) (pc := 19) (len := 1) (i := 0) rfl rfl h
    replace h := eConst (mi := 210) (pc := 20) (len := 1) (v := 0) rfl h
    obtain ⟨N2, eN2⟩ : ∃ X_, X_ = mPut M 181 29 (.int (0 : Int32)) := ⟨_, rfl⟩
    replace h := ePutE (a := 181) (f := 29) (N := N2) rfl eN2 (mi := 210) (pc := 21) (len := 3) (j := 1129) rfl h
    have hS3 : Sh N2 := by rw [eN2]; exact hR.1.put (by decide) (by decide) rfl
    have R4 : RR N2 ((P.1.1, 0, P.1.2.2), P.2) := by rw [eN2]; exact hR.p29 (o := 0) rfl
    have X5 : RX M N2 := RX.rf.tr (by rw [eN2]; exact RX.put (Or.inl ⟨rfl, by decide⟩))
    replace h := eAload (mi := 210) (pc := 24) (len := 1) (i := 0) rfl rfl h
    replace h := eConst (mi := 210) (pc := 25) (len := 1) (v := 0) rfl h
    obtain ⟨N6, eN6⟩ : ∃ X_, X_ = mPut N2 181 31 (.int (0 : Int32)) := ⟨_, rfl⟩
    replace h := ePutE (a := 181) (f := 31) (N := N6) rfl eN6 (mi := 210) (pc := 26) (len := 3) (j := 1131) rfl h
    have hS7 : Sh N6 := by rw [eN6]; exact R4.1.put (by decide) (by decide) rfl
    have R8 : RR N6 (pZ P) := by rw [eN6]; exact R4.p31 (w := 0) rfl (by decide)
    have X9 : RX M N6 := X5.tr (by rw [eN6]; exact RX.put (Or.inl ⟨rfl, by decide⟩))
    replace h := eAload (mi := 210) (pc := 29) (len := 1) (i := 0) rfl rfl h
    replace h := eConst (mi := 210) (pc := 30) (len := 2) (v := 13) rfl h
    obtain ⟨r10, N11, g12, h⟩ := eCall (mi := 210) (pc := 32) (len := 3) (j := 198) (as := [.ref 181, .int (13 : Int32)]) (rest := []) rfl (Or.inr (Or.inl rfl)) (by decide) rfl rfl h
    have t40 : t P.1.1 = 40 := th.symm.trans c1
    rcases opn_ok (val := 13631488) R8 p0 (by show P.1.1 ≤ 160; omega) (by show -1000 ≤ (0 : Int); decide) (by show (0 : Int) ≤ 6; decide) (by decide) (by decide) (by decide) g12 with ⟨q1, q2, q3⟩ | ⟨q1, q2, R3, X3⟩
    · rw [q2] at h
      rcases eIf (mi := 210) (pc := 35) (len := 3) (t := 40) rfl rfl h with ⟨c13, h⟩ | ⟨c13, h⟩
      · exact absurd c13 (by decide)
      · skip
        replace h := eConst (mi := 210) (pc := 38) (len := 1) (v := 0) rfl h
        obtain ⟨e1, e2⟩ := eRetI (mi := 210) (pc := 39) (len := 1) rfl h
        rw [e2]
        exact absurd (show (0 : Int) = 6 from q1) (by decide)
    · rw [q2] at h
      rcases eIf (mi := 210) (pc := 35) (len := 3) (t := 40) rfl rfl h with ⟨c14, h⟩ | ⟨c14, h⟩
      · skip
        have sx : sm t (2, 0, 0, pZ P) = (2, 0, 0, (pAdv (pOpn (pPush (pZ P) 13631488) 1))) := sP_brk t40 (by show ¬ (0 : Int) = 6; decide)
        have lt : P.1.1 < N := hT.tl _ (by omega)
        have k180 := hR.2.2.2.2.2.1
        have hM2 : MI N (2, 0, 0, (pAdv (pOpn (pPush (pZ P) 13631488) 1))) := cnd_mi lt p0 (by omega) hW
        obtain ⟨XF, hF⟩ := (rc_lp hn (c0 := (2, 0, 0, pZ P)) _).1 _ _ _ _ _ _ rfl R3 (hT.x (X9.tr X3)) hM2 (Rch.go sx Rch.rf) h
        refine ⟨(X9.tr X3).tr XF, ?_⟩
        rcases hF with ⟨P4, q4, hg4, R4⟩ | ⟨q4, B4⟩
        · exact Or.inl ⟨P4, q4, t40, hg4, R4⟩
        · exact Or.inr ⟨q4, B4.1, Or.inr ⟨t40, B4.2⟩⟩
      · exact absurd c14 (by decide)
  · replace c1 : ¬ (hereV M).toInt = 40 := mC_eq.2 c1
    replace h := eAload (mi := 210) (pc := 9) (len := 1) (i := 0) rfl rfl h
    replace h := eConst (mi := 210) (pc := 10) (len := 1) (v := 1) rfl h
    replace h := eAload (mi := 210) (pc := 11) (len := 1) (i := 0) rfl rfl h
    replace h := eGetI (a := 181) (j := 1126) hR.1 (by decide) (by decide) rfl (mi := 210) (pc := 12) (len := 3) rfl h
    obtain ⟨r15, N16, g17, h⟩ := eCall (mi := 210) (pc := 15) (len := 3) (j := 194) (as := [.ref 181, .int (1 : Int32), .int (iv M 181 26)]) (rest := []) rfl (Or.inr (Or.inl rfl)) (by decide) rfl rfl h
    have n40 : ¬ t P.1.1 = 40 := fun q => c1 (th.trans q)
    obtain ⟨q1, XW, ⟨SW, c9, w1, w2, w3⟩, _⟩ := wr_ok (k := 1) (c := cBad 1 P) (t := t) hR p0 (by omega) (by decide) (by decide) Rch.rf g17
    rw [q1] at h
    have e9 := Rch.one w1 Rch.rf (by omega) (show 7 ≤ (cBad 1 P).1 from (by decide : 7 ≤ 8))
    have v9 : (iv N16 181 28).toInt = -1000 * 1 - P.1.1 := by rw [← w3, e9]; rfl
    obtain ⟨e1, e2⟩ := eRetI (mi := 210) (pc := 18) (len := 1) rfl h
    rw [e2]
    exact ⟨XW, Or.inr ⟨e1, SW, Or.inl ⟨n40, v9⟩⟩⟩
