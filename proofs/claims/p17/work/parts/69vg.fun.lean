/-! the class's reader against the machine: comparisons, pieces, parts, conditions (printed by fn9.py) -/
/-- what a reading method of conditions does, held against the machine -/
def KD (j mode : Nat) (pre : (Int → Int) → PS → Prop) (post : Int → Prop) (n : Nat) : Prop := ∀ (d : Nat) (M : Mem) (r : Option Value) (M1 : Mem) (t : Int → Int) (N sh z : Int) (P : PS), Sh M → CT0 M t N → CR M P sh N z → 1 ≤ P.1.2.2.2 → pre t P → En n d j 0 (lv_args 0 [.ref 130]) [] M r M1 → CQ M M1 ∧ CT0 M1 t N ∧ ((∃ P', r = some (.int 1) ∧ Rch t (2, 0, 0, P) (mode, 0, 0, P') ∧ CR M1 P' sh N z ∧ FR M P M1 P' sh ∧ P'.1.2.1 = P.1.2.1 ∧ P'.1.2.2.2 = P.1.2.2.2 ∧ post (t P'.1.1)) ∨ (r = some (.int 0) ∧ CB t (2, 0, 0, P) M1))
def KCm (n : Nat) : Prop := KD 82 3 (fun t P => (¬ t P.1.1 = 33 ∧ ¬ t P.1.1 = 40) ∧ 10 ≤ pTop P) (fun _ => True) n
def KNg (n : Nat) : Prop := KD 81 3 (fun t P => t P.1.1 = 33 ∧ 10 ≤ pTop P) (fun _ => True) n
def KBr (n : Nat) : Prop := KD 77 3 (fun t P => t P.1.1 = 40 ∧ 10 ≤ pTop P) (fun _ => True) n
def KPi (n : Nat) : Prop := KD 80 3 (fun _ P => 10 ≤ pTop P) (fun _ => True) n
def KPa (n : Nat) : Prop := KD 79 4 (fun _ P => pTop P = 12 ∨ pTop P = 13) (fun c => ¬ c = 38) n
def KCo (n : Nat) : Prop := KD 78 4 (fun _ P => pTop P = 13) (fun c => ¬ c = 38 ∧ ¬ c = 124) n
def cCmp (c : Int) : Int := if c = 60 then 7 else if c = 62 then 8 else 9
theorem pHas_no {P : PS} {b : Nat} : ∀ n, n ≤ b → pHas P b n = false
  | 0, _ => rfl
  | n + 1, h => by
    show (pHas P b n || (decide (b ≤ n) && decide (P.2.2 n / 1048576 = 14))) = false
    rw [pHas_no n (by omega), decide_eq_false (show ¬ b ≤ n by omega)]
    rfl
section
variable {t : Int → Int} {b : Nat} {h : Int} {P : PS}
theorem sA_cmp (h1 : ¬ (2 ≤ pTop P ∧ pTop P ≤ 6)) (h2 : cSum (t P.1.1) = -1) (hh : pHas P b P.1.2.2.2 = false) (hc : t P.1.1 = 60 ∨ t P.1.1 = 62 ∨ t P.1.1 = 61) : sm t (1, b, 1, P) = (0, P.1.2.2.2, cCmp (t P.1.1), pAdv P) := by
  show sA t b 1 P = _
  unfold sA
  rw [if_neg (by omega), if_neg (by omega), if_neg (by omega), if_neg (by rw [hh]; intro q; cases q.2), if_neg (by rw [hh]; decide), if_neg (by decide), if_pos rfl]
  unfold cCmp
  rcases hc with q | q | q <;> rw [q] <;> rfl
theorem sA_cmx (h1 : ¬ (2 ≤ pTop P ∧ pTop P ≤ 6)) (h2 : cSum (t P.1.1) = -1) (hh : pHas P b P.1.2.2.2 = false) (h60 : ¬ t P.1.1 = 60) (h62 : ¬ t P.1.1 = 62) (h61 : ¬ t P.1.1 = 61) : sm t (1, b, 1, P) = cBad 1 P := by
  show sA t b 1 P = _
  unfold sA
  rw [if_neg (by omega), if_neg (by omega), if_neg (by omega), if_neg (by rw [hh]; intro q; cases q.2), if_neg (by rw [hh]; decide), if_neg (by decide), if_pos rfl, if_neg h60, if_neg h62, if_neg h61]
theorem sA_end (h1 : ¬ (2 ≤ pTop P ∧ pTop P ≤ 6)) (h2 : cSum (t P.1.1) = -1) (hh : pHas P b P.1.2.2.2 = false) (h7 : 7 ≤ h) : sm t (1, b, h, P) = (3, 0, 0, pEm P (h * 1048576)) := by
  show sA t b h P = _
  unfold sA
  rw [if_neg (by omega), if_neg (by omega), if_neg (by omega), if_neg (by rw [hh]; intro q; cases q.2), if_neg (by rw [hh]; decide), if_neg (by omega), if_neg (by omega)]
theorem sP_cmp (h1 : ¬ t P.1.1 = 33) (h2 : ¬ t P.1.1 = 40) : sm t (2, 0, 0, P) = (0, P.1.2.2.2, 1, P) := by
  show sP t P = _
  unfold sP
  rw [if_neg h1, if_neg h2]
theorem sP_neg (h1 : t P.1.1 = 33) (h6 : ¬ P.1.2.1 = 6) : sm t (2, 0, 0, P) = (2, 0, 0, pAdv (pOpn (pPush P 10485760) 1)) := by
  show sP t P = _
  unfold sP
  rw [if_pos h1, if_neg h6]
theorem sP_ng6 (h1 : t P.1.1 = 33) (h6 : P.1.2.1 = 6) : sm t (2, 0, 0, P) = cBad 5 P := by
  show sP t P = _
  unfold sP
  rw [if_pos h1, if_pos h6]
theorem sP_brk (h1 : t P.1.1 = 40) (h6 : ¬ P.1.2.1 = 6) : sm t (2, 0, 0, P) = (2, 0, 0, pAdv (pOpn (pPush P 13631488) 1)) := by
  show sP t P = _
  unfold sP
  rw [if_neg (by rw [h1]; decide), if_pos h1, if_neg h6]
theorem sP_br6 (h1 : t P.1.1 = 40) (h6 : P.1.2.1 = 6) : sm t (2, 0, 0, P) = cBad 5 P := by
  show sP t P = _
  unfold sP
  rw [if_neg (by rw [h1]; decide), if_pos h1, if_pos h6]
theorem sE_neg (h1 : pTop P = 10) : sm t (3, 0, 0, P) = (3, 0, 0, pOpn (pPop (pEm P 10485760)) (-1)) := by
  show sE P = _
  unfold sE
  rw [if_pos h1]
theorem sE_on (h1 : ¬ pTop P = 10) : sm t (3, 0, 0, P) = (4, 0, 0, P) := by
  show sE P = _
  unfold sE
  rw [if_neg h1]
theorem sQ_and (h1 : pTop P = 11) : sm t (4, 0, 0, P) = (4, 0, 0, pPop (pLand P 11)) := by
  show sQ t P = _
  unfold sQ
  rw [if_pos h1]
theorem sQ_or (h1 : pTop P = 12) (h2 : ¬ t P.1.1 = 38) : sm t (4, 0, 0, P) = (4, 0, 0, pPop (pLand P 12)) := by
  show sQ t P = _
  unfold sQ
  rw [if_neg (by omega), if_pos ⟨h1, h2⟩]
theorem sQ_shut (h1 : pTop P = 13) (h2 : t P.1.1 = 41) (h3 : ¬ P.1.2.2.2 = 1) : sm t (4, 0, 0, P) = (3, 0, 0, pAdv (pOpn (pPop P) (-1))) := by
  show sQ t P = _
  unfold sQ
  rw [if_neg (by omega), if_neg (by omega), if_pos h2, if_neg h3]
theorem sQ_all (h1 : pTop P = 13) (h2 : t P.1.1 = 41) (h3 : P.1.2.2.2 = 1) : sm t (4, 0, 0, P) = (7, 0, 0, pAdv (pOpn (pPop P) (-1))) := by
  show sQ t P = _
  unfold sQ
  rw [if_neg (by omega), if_neg (by omega), if_pos h2, if_pos h3]
theorem sQ_bad (h1 : pTop P = 13) (h2 : ¬ t P.1.1 = 41) (h3 : ¬ t P.1.1 = 38) (h4 : ¬ t P.1.1 = 124) : sm t (4, 0, 0, P) = cBad 1 P := by
  show sQ t P = _
  unfold sQ
  rw [if_neg (by omega), if_neg (by omega), if_neg h2, if_neg h3, if_neg h4]
theorem sQ_38 (h1 : pTop P = 12 ∨ pTop P = 13) (h2 : t P.1.1 = 38) : sm t (4, 0, 0, P) = (2, 0, 0, pAdv (pEm (pPush P (11534336 + (P.1.2.2.1 : Int))) 11534336)) := by
  show sQ t P = _
  unfold sQ
  rw [if_neg (by omega), if_neg (fun q => q.2 h2), if_neg (by omega), if_pos h2]
theorem sQ_124 (h1 : pTop P = 13) (h2 : t P.1.1 = 124) : sm t (4, 0, 0, P) = (2, 0, 0, pAdv (pEm (pPush P (12582912 + (P.1.2.2.1 : Int))) 12582912)) := by
  show sQ t P = _
  unfold sQ
  rw [if_neg (by omega), if_neg (by omega), if_neg (by omega), if_neg (by omega), if_pos h2]
end
theorem stepV_cmp {ch : Int32} {c sh : Int} (hc : c = 60 ∨ c = 62 ∨ c = 61) (ec : ch.toInt = c) : (stepV (ch.toUInt32 % 65536).toInt32 0).toInt = encC sh (cCmp c * 1048576) := by
  rw [i2c_lo (by omega) (by omega)]
  have e : ∀ k : Int32, ch.toInt = k.toInt → ch = k := fun k q => i32_eq.mpr q
  rcases hc with rfl | rfl | rfl
  · rw [e 60 ec]; rfl
  · rw [e 62 ec]; rfl
  · rw [e 61 ec]; rfl
theorem cmp_two {n d : Nat} {L : MLoc} {M : Mem} {x : Int32} {r : Option Value} {M1 : Mem} {t : Int → Int} {N sh z : Int} {P : PS} (l0 : mLd L 0 = some (.ref 130)) (l1 : mLd L 1 = some (.int x)) (hS : Sh M) (hT : CT0 M t N) (hC : CR M P sh N z) (ht : ¬ (2 ≤ pTop P ∧ pTop P ≤ 6)) (hn : cSum (t P.1.1) = -1) (ex : x.toInt = t P.1.1) (hx : t P.1.1 = 60 ∨ t P.1.1 = 62 ∨ t P.1.1 = 61) (h : En n d 82 38 L [] M r M1) : CQ M M1 ∧ CT0 M1 t N ∧ ((∃ P', r = some (.int 1) ∧ Rch t (1, P.1.2.2.2, 1, P) (3, 0, 0, P') ∧ CR M1 P' sh N z ∧ FR M P M1 P' sh ∧ P'.1.2.1 = P.1.2.1 ∧ P'.1.2.2.2 = P.1.2.2.2 ∧ True) ∨ (r = some (.int 0) ∧ CB t (1, P.1.2.2.2, 1, P) M1)) := by
  replace h := eAload (mi := 82) (pc := 38) (len := 1) (i := 0) rfl l0 h
  replace h := eDupR (mi := 82) (pc := 39) (len := 1) rfl h
  replace h := eGetI (a := 130) (j := 503) hS (by decide) (by decide) rfl (mi := 82) (pc := 40) (len := 3) rfl h
  replace h := eConst (mi := 82) (pc := 43) (len := 1) (v := 1) rfl h
  replace h := eAdd (mi := 82) (pc := 44) (len := 1) rfl h
  obtain ⟨N1, eN1⟩ : ∃ X_, X_ = mPut M 130 3 (.int ((iv M 130 3) + (1 : Int32))) := ⟨_, rfl⟩
  replace h := ePutE (a := 130) (f := 3) (N := N1) rfl eN1 (mi := 82) (pc := 45) (len := 3) (j := 503) rfl h
  have hS2 : Sh N1 := by rw [eN1]; exact hS.put (by decide) (by decide) rfl
  have ad := adv_ok hS hT hC (by rcases hx with q | q | q <;> rw [q] <;> decide)
  rw [← eN1] at ad
  have hF1 := (FR.rf (M := M) (P := P) (sh := sh)).st (R := pAdv P) ad.2.2.2 rfl rfl (Nat.le_refl _) (fun _ _ => rfl)
  replace h := eAload (mi := 82) (pc := 48) (len := 1) (i := 0) rfl l0 h
  obtain ⟨r3, N4, g5, h⟩ := eCall (mi := 82) (pc := 49) (len := 3) (j := 83) (as := [.ref 130]) (rest := []) rfl (Or.inr (Or.inl rfl)) (by decide) rfl rfl h
  have s1 : sm t (1, P.1.2.2.2, 1, P) = (0, P.1.2.2.2, cCmp (t P.1.1), pAdv P) := sA_cmp ht hn (pHas_no _ (Nat.le_refl _)) hx
  obtain ⟨hQ3, hT3, hR3⟩ := sum_all n _ _ _ _ t N sh (z + 1) P.1.2.2.2 (cCmp (t P.1.1)) (pAdv P) ad.1.1 ad.2.1 ad.2.2.1 (Nat.le_refl _) ht g5
  rcases hR3 with ⟨P3, er, hr3, hC3, hF3, eO3, eW3, hk3⟩ | ⟨er, hB3⟩
  · rw [er] at h
    rcases eIf (mi := 82) (pc := 52) (len := 3) (t := 57) rfl rfl h with ⟨c6, h⟩ | ⟨c6, h⟩
    · skip
      replace h := eAload (mi := 82) (pc := 57) (len := 1) (i := 0) rfl l0 h
      replace h := eGetR (a := 130) (j := 500) (g := 131) hQ3.1 (by decide) (by decide) rfl rfl rfl (mi := 82) (pc := 58) (len := 3) rfl h
      replace h := eIload (mi := 82) (pc := 61) (len := 1) (i := 1) rfl l1 h
      replace h := eI2c (mi := 82) (pc := 62) (len := 1) rfl h
      replace h := eConst (mi := 82) (pc := 63) (len := 1) (v := 0) rfl h
      obtain ⟨r7, N8, g9, h⟩ := eCall (mi := 82) (pc := 64) (len := 3) (j := 60) (as := [.ref 131, .int ((x).toUInt32 % 65536).toInt32, .int (0 : Int32)]) (rest := []) rfl (Or.inr (Or.inl rfl)) (by decide) rfl rfl h
      have z0 := hC.2.2.2.1.2.2.2
      have ev : (stepV ((x).toUInt32 % 65536).toInt32 (0 : Int32)).toInt = encC sh (cCmp (t P.1.1) * 1048576) := stepV_cmp hx ex
      obtain ⟨l160, hQ4, hT4, hC4, hF4, ei4⟩ := emit_ok (z := z) hQ3.1 hT3 hC3 z0 ev
      obtain ⟨q4, eM4⟩ := step_en hQ3.1 l160 g9
      rw [q4, eM4] at h
      replace h := ePopI (mi := 82) (pc := 67) (len := 1) rfl h
      replace h := eConst (mi := 82) (pc := 68) (len := 1) (v := 1) rfl h
      obtain ⟨e1, e2⟩ := eRetI (mi := 82) (pc := 69) (len := 1) rfl h
      rw [e2]
      have W3 : P3.1.2.2.2 = P.1.2.2.2 := eW3
      have c7 : 7 ≤ cCmp (t P.1.1) := by rcases hx with q | q | q <;> rw [q] <;> decide
      have t3 : pTop P3 = pTop P := (pTop_eq hF3 eW3).trans rfl
      have s2 : sm t (1, P.1.2.2.2, cCmp (t P.1.1), P3) = (3, 0, 0, pEm P3 (cCmp (t P.1.1) * 1048576)) := sA_end (by rw [t3]; exact ht) hk3 (pHas_no _ (by omega)) c7
      have s0 : 0 ≤ sh := hC.2.2.2.1.1
      exact ⟨(ad.1.tr hQ3).tr hQ4, hT4, Or.inl ⟨_, e1, Rch.go s1 (hr3.tr (Rch.go s2 Rch.rf)), hC4, (hF1.tr s0 hF3).tr s0 hF4, eO3, eW3, True.intro⟩⟩
    · exact absurd c6 (by decide)
  · rw [er] at h
    rcases eIf (mi := 82) (pc := 52) (len := 3) (t := 57) rfl rfl h with ⟨c10, h⟩ | ⟨c10, h⟩
    · exact absurd c10 (by decide)
    · skip
      replace h := eConst (mi := 82) (pc := 55) (len := 1) (v := 0) rfl h
      obtain ⟨e1, e2⟩ := eRetI (mi := 82) (pc := 56) (len := 1) rfl h
      rw [e2]
      exact ⟨ad.1.tr hQ3, hT3, Or.inr ⟨e1, CB.pre (Rch.go s1 Rch.rf) hB3⟩⟩
theorem cmp_ok (n : Nat) : KCm n := by
  intro d M r M1 t N sh z P hS hT hC hb0 hp h
  replace h := eAload (mi := 82) (pc := 0) (len := 1) (i := 0) rfl rfl h
  obtain ⟨r1, N2, g3, h⟩ := eCall (mi := 82) (pc := 1) (len := 3) (j := 83) (as := [.ref 130]) (rest := []) rfl (Or.inr (Or.inl rfl)) (by decide) rfl rfl h
  have s1 : sm t (2, 0, 0, P) = (0, P.1.2.2.2, 1, P) := sP_cmp hp.1.1 hp.1.2
  have ht : ¬ (2 ≤ pTop P ∧ pTop P ≤ 6) := by have := hp.2; omega
  obtain ⟨hQ3, hT3, hR3⟩ := sum_all n _ _ _ _ t N sh z P.1.2.2.2 1 P hS hT hC (Nat.le_refl _) ht g3
  rcases hR3 with ⟨P3, er, hr3, hC3, hF3, eO3, eW3, hk3⟩ | ⟨er, hB3⟩
  · rw [er] at h
    rcases eIf (mi := 82) (pc := 4) (len := 3) (t := 9) rfl rfl h with ⟨c4, h⟩ | ⟨c4, h⟩
    · skip
      replace h := eAload (mi := 82) (pc := 9) (len := 1) (i := 0) rfl rfl h
      replace h := eCallP (mi := 82) (pc := 10) (len := 3) (j := 73) (as := [.ref 130]) (rest := []) rfl (Or.inr (Or.inl rfl)) (by decide) rfl rfl (fun _ _ _ _ g => sgn_en hQ3.1 hT3.1 g) h
      have ts : (sgn N2).toInt = t P3.1.1 := sgn_t hT3 hC3
      have W3 : P3.1.2.2.2 = P.1.2.2.2 := eW3
      have t3 : ¬ (2 ≤ pTop P3 ∧ pTop P3 ≤ 6) := by rw [pTop_eq hF3 eW3]; exact ht
      have hr4 : Rch t (2, 0, 0, P) (1, P3.1.2.2.2, 1, P3) := Rch.go s1 (by rw [W3]; exact hr3)
      have s0 : 0 ≤ sh := hC.2.2.2.1.1
      replace h := eIstore (mi := 82) (pc := 13) (len := 1) (i := 1) rfl (by decide) h
      replace h := eIload (mi := 82) (pc := 14) (len := 1) (i := 1) rfl rfl h
      replace h := eConst (mi := 82) (pc := 15) (len := 2) (v := 60) rfl h
      rcases eIc (mi := 82) (pc := 17) (len := 3) (t := 38) rfl rfl h with ⟨c5, h⟩ | ⟨c5, h⟩
      · replace c5 : (sgn N2).toInt = 60 := mC_eq.1 c5
        obtain ⟨hQ5, hT5, hR5⟩ := cmp_two rfl rfl hQ3.1 hT3 hC3 t3 hk3 ts (Or.inl (ts.symm.trans c5)) h
        refine ⟨hQ3.tr hQ5, hT5, ?_⟩
        rcases hR5 with ⟨P5, e5, hr5, hC5, hF5, eO5, eW5, _⟩ | ⟨e5, hB5⟩
        · exact Or.inl ⟨P5, e5, hr4.tr hr5, hC5, hF3.tr s0 hF5, eO5.trans eO3, eW5.trans eW3, True.intro⟩
        · exact Or.inr ⟨e5, CB.pre hr4 hB5⟩
      · replace c5 : ¬ (sgn N2).toInt = 60 := mC_eq.2 c5
        replace h := eIload (mi := 82) (pc := 20) (len := 1) (i := 1) rfl rfl h
        replace h := eConst (mi := 82) (pc := 21) (len := 2) (v := 62) rfl h
        rcases eIc (mi := 82) (pc := 23) (len := 3) (t := 38) rfl rfl h with ⟨c6, h⟩ | ⟨c6, h⟩
        · replace c6 : (sgn N2).toInt = 62 := mC_eq.1 c6
          obtain ⟨hQ5, hT5, hR5⟩ := cmp_two rfl rfl hQ3.1 hT3 hC3 t3 hk3 ts (Or.inr (Or.inl (ts.symm.trans c6))) h
          refine ⟨hQ3.tr hQ5, hT5, ?_⟩
          rcases hR5 with ⟨P5, e5, hr5, hC5, hF5, eO5, eW5, _⟩ | ⟨e5, hB5⟩
          · exact Or.inl ⟨P5, e5, hr4.tr hr5, hC5, hF3.tr s0 hF5, eO5.trans eO3, eW5.trans eW3, True.intro⟩
          · exact Or.inr ⟨e5, CB.pre hr4 hB5⟩
        · replace c6 : ¬ (sgn N2).toInt = 62 := mC_eq.2 c6
          replace h := eIload (mi := 82) (pc := 26) (len := 1) (i := 1) rfl rfl h
          replace h := eConst (mi := 82) (pc := 27) (len := 2) (v := 61) rfl h
          rcases eIc (mi := 82) (pc := 29) (len := 3) (t := 38) rfl rfl h with ⟨c7, h⟩ | ⟨c7, h⟩
          · replace c7 : (sgn N2).toInt = 61 := mC_eq.1 c7
            obtain ⟨hQ5, hT5, hR5⟩ := cmp_two rfl rfl hQ3.1 hT3 hC3 t3 hk3 ts (Or.inr (Or.inr (ts.symm.trans c7))) h
            refine ⟨hQ3.tr hQ5, hT5, ?_⟩
            rcases hR5 with ⟨P5, e5, hr5, hC5, hF5, eO5, eW5, _⟩ | ⟨e5, hB5⟩
            · exact Or.inl ⟨P5, e5, hr4.tr hr5, hC5, hF3.tr s0 hF5, eO5.trans eO3, eW5.trans eW3, True.intro⟩
            · exact Or.inr ⟨e5, CB.pre hr4 hB5⟩
          · replace c7 : ¬ (sgn N2).toInt = 61 := mC_eq.2 c7
            replace h := eAload (mi := 82) (pc := 32) (len := 1) (i := 0) rfl rfl h
            replace h := eConst (mi := 82) (pc := 33) (len := 1) (v := 1) rfl h
            obtain ⟨r8, N9, g10, h⟩ := eCall (mi := 82) (pc := 34) (len := 3) (j := 72) (as := [.ref 130, .int (1 : Int32)]) (rest := []) rfl (Or.inr (Or.inl rfl)) (by decide) rfl rfl h
            obtain ⟨q11, q12⟩ := fail_en hQ3.1 g10
            rw [q11] at h
            have eN9 := q12
            have hS13 : Sh N9 := by rw [eN9]; exact hQ3.1.put (by decide) (by decide) rfl
            obtain ⟨e1, e2⟩ := eRetI (mi := 82) (pc := 37) (len := 1) rfl h
            have f := fail_ok (k := 1) (c := (2, 0, 0, P)) hQ3.1 hT3 hC3 (by decide) (by decide) (hr4.tr (Rch.go (sA_cmx t3 hk3 (pHas_no _ (Nat.le_refl _)) (fun q => c5 (ts.trans q)) (fun q => c6 (ts.trans q)) (fun q => c7 (ts.trans q))) Rch.rf))
            rw [e2, eN9]
            exact ⟨hQ3.tr f.1, f.2.1, Or.inr ⟨e1, f.2.2⟩⟩
    · exact absurd c4 (by decide)
  · rw [er] at h
    rcases eIf (mi := 82) (pc := 4) (len := 3) (t := 9) rfl rfl h with ⟨c14, h⟩ | ⟨c14, h⟩
    · exact absurd c14 (by decide)
    · skip
      replace h := eConst (mi := 82) (pc := 7) (len := 1) (v := 0) rfl h
      obtain ⟨e1, e2⟩ := eRetI (mi := 82) (pc := 8) (len := 1) rfl h
      rw [e2]
      exact ⟨hQ3, hT3, Or.inr ⟨e1, CB.pre (Rch.go s1 Rch.rf) hB3⟩⟩
