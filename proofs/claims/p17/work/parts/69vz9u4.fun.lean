/-! programs: the class runs them (printed by fn28.py) -/
/-! law 152 -/
theorem push152_en {v : Int32} {m : Nat} {s : Nat → Int32} {n d : Nat} {M : Mem} {r : Option Value} {M1 : Mem} (hS : Sh M) (hT : HT 152 157 M m s) (hm : m < 40) (h : En n d 68 0 (lv_args 0 [.ref 152, .int v]) [] M r M1) : r = none ∧ Sh M1 ∧ HT 152 157 M1 (m + 1) (sUp s m v) ∧ FrA 152 157 M M1 := by
  have h0 := hT.1
  replace h := eAload (mi := 68) (pc := 0) (len := 1) (i := 0) rfl rfl h
  replace h := eGetI (a := 152) (j := 407) hS (by decide) (by decide) rfl (mi := 68) (pc := 1) (len := 3) rfl h
  replace h := eConst (mi := 68) (pc := 4) (len := 2) (v := 40) rfl h
  rcases eIc (mi := 68) (pc := 6) (len := 3) (t := 29) rfl rfl h with ⟨c1, h⟩ | ⟨c1, h⟩
  · replace c1 : ¬ (iv M 152 7).toInt < 40 := mC_ge.1 c1
    omega
  · replace c1 : (iv M 152 7).toInt < 40 := mC_ge.2 c1
    replace h := eAload (mi := 68) (pc := 9) (len := 1) (i := 0) rfl rfl h
    replace h := eGetR (a := 152) (j := 406) (g := 157) hS (by decide) (by decide) rfl rfl rfl (mi := 68) (pc := 10) (len := 3) rfl h
    replace h := eAload (mi := 68) (pc := 13) (len := 1) (i := 0) rfl rfl h
    replace h := eGetI (a := 152) (j := 407) hS (by decide) (by decide) rfl (mi := 68) (pc := 14) (len := 3) rfl h
    replace h := eIload (mi := 68) (pc := 17) (len := 1) (i := 1) rfl rfl h
    obtain ⟨N3, eN3⟩ : ∃ X_, X_ = mPut M 157 (iv M 152 7).toInt.toNat (.int v) := ⟨_, rfl⟩
    obtain ⟨b2, h⟩ := eIast (x := (iv M 152 7)) (N := N3) hS (a := 157) (by decide) (by decide) eN3 (mi := 68) (pc := 18) (len := 1) rfl h
    have hS4 : Sh N3 := by rw [eN3]; exact hS.put (by decide) (by decide) rfl
    replace h := eAload (mi := 68) (pc := 19) (len := 1) (i := 0) rfl rfl h
    replace h := eDupR (mi := 68) (pc := 20) (len := 1) rfl h
    replace h := eGetI (a := 152) (j := 407) hS4 (by decide) (by decide) rfl (mi := 68) (pc := 21) (len := 3) rfl h
    replace h := eConst (mi := 68) (pc := 24) (len := 1) (v := 1) rfl h
    replace h := eAdd (mi := 68) (pc := 25) (len := 1) rfl h
    obtain ⟨N5, eN5⟩ : ∃ X_, X_ = mPut N3 152 7 (.int ((iv N3 152 7) + (1 : Int32))) := ⟨_, rfl⟩
    replace h := ePutE (a := 152) (f := 7) (N := N5) rfl eN5 (mi := 68) (pc := 26) (len := 3) (j := 407) rfl h
    have hS6 : Sh N5 := by rw [eN5]; exact hS4.put (by decide) (by decide) rfl
    obtain ⟨e1, e2⟩ := eRetV (mi := 68) (pc := 29) (len := 1) rfl h
    have i1 : (iv M 152 7).toInt.toNat = m := by omega
    rw [i1] at eN3
    have a1 : iv N3 152 7 = iv M 152 7 := by rw [eN3, iv_put_ne (Or.inl (by decide))]
    rw [a1] at eN5
    rw [e2]
    refine ⟨e1, hS6, ⟨?_, fun k hk => ?_⟩, fun c i h1 h2 => ?_⟩
    · rw [eN5, iv_put_eq hS4 (by decide) (by decide) (by decide)]
      exact (ic1 h0 (by omega) (by omega)).trans (by omega)
    · rw [eN5, iv_put_ne (Or.inl (by decide)), eN3]
      by_cases c : k = m
      · rw [c, iv_put_eq hS (by decide) (by decide) (show m < tSiz (tGrp 157) from hm), sUp_eq]
      · rw [iv_put_ne (Or.inr c), sUp_ne c]
        exact hT.2 k (by omega)
    · rw [eN5, mSlot_put_ne (by omega), eN3, mSlot_put_ne (Or.inl h2)]
theorem pop152_en {m : Nat} {s : Nat → Int32} {n d : Nat} {M : Mem} {r : Option Value} {M1 : Mem} (hS : Sh M) (hm : m < 40) (hT : HT 152 157 M (m + 1) s) (h : En n d 69 0 (lv_args 0 [.ref 152]) [] M r M1) : r = some (.int (s m)) ∧ Sh M1 ∧ HT 152 157 M1 m s ∧ FrA 152 157 M M1 := by
  have h0 := hT.1
  replace h := eAload (mi := 69) (pc := 0) (len := 1) (i := 0) rfl rfl h
  replace h := eGetI (a := 152) (j := 407) hS (by decide) (by decide) rfl (mi := 69) (pc := 1) (len := 3) rfl h
  rcases eIf (mi := 69) (pc := 4) (len := 3) (t := 9) rfl rfl h with ⟨c1, h⟩ | ⟨c1, h⟩
  · replace c1 : ¬ (iv M 152 7).toInt = 0 := mC_ne.1 c1
    replace h := eAload (mi := 69) (pc := 9) (len := 1) (i := 0) rfl rfl h
    replace h := eDupR (mi := 69) (pc := 10) (len := 1) rfl h
    replace h := eGetI (a := 152) (j := 407) hS (by decide) (by decide) rfl (mi := 69) (pc := 11) (len := 3) rfl h
    replace h := eConst (mi := 69) (pc := 14) (len := 1) (v := 1) rfl h
    replace h := eSub (mi := 69) (pc := 15) (len := 1) rfl h
    obtain ⟨N2, eN2⟩ : ∃ X_, X_ = mPut M 152 7 (.int ((iv M 152 7) - (1 : Int32))) := ⟨_, rfl⟩
    replace h := ePutE (a := 152) (f := 7) (N := N2) rfl eN2 (mi := 69) (pc := 16) (len := 3) (j := 407) rfl h
    have hS3 : Sh N2 := by rw [eN2]; exact hS.put (by decide) (by decide) rfl
    replace h := eAload (mi := 69) (pc := 19) (len := 1) (i := 0) rfl rfl h
    replace h := eGetR (a := 152) (j := 406) (g := 157) hS3 (by decide) (by decide) rfl rfl rfl (mi := 69) (pc := 20) (len := 3) rfl h
    replace h := eAload (mi := 69) (pc := 23) (len := 1) (i := 0) rfl rfl h
    replace h := eGetI (a := 152) (j := 407) hS3 (by decide) (by decide) rfl (mi := 69) (pc := 24) (len := 3) rfl h
    obtain ⟨b4, h⟩ := eIald (x := (iv N2 152 7)) hS3 (a := 157) (by decide) (by decide) rfl (mi := 69) (pc := 27) (len := 1) rfl h
    obtain ⟨e1, e2⟩ := eRetI (mi := 69) (pc := 28) (len := 1) rfl h
    have a1 : (iv N2 152 7).toInt = (m : Int) := by
      rw [eN2, iv_put_eq hS (by decide) (by decide) (by decide)]
      exact (dc1 h0 (by omega) (by omega)).trans (by omega)
    have a2 : (iv N2 152 7).toInt.toNat = m := by omega
    rw [a2] at e1
    have a3 : iv N2 157 m = s m := by rw [eN2, iv_put_ne (Or.inl (by decide))]; exact hT.2 m (by omega)
    rw [a3] at e1
    rw [e2]
    exact ⟨e1, hS3, ⟨a1, fun k hk => by rw [eN2, iv_put_ne (Or.inl (by decide))]; exact hT.2 k (by omega)⟩, fun c i h1 h2 => by rw [eN2, mSlot_put_ne (by omega)]⟩
  · replace c1 : (iv M 152 7).toInt = 0 := mC_ne.2 c1
    replace h := eConst (mi := 69) (pc := 7) (len := 1) (v := 0) rfl h
    omega
theorem ru_nu152 {n d : Nat} {L : MLoc} {M : Mem} {r : Option Value} {M1 : Mem} {x3 x4 x5 : Int32} {y : Int} {m : Nat} {s : Nat → Int32} (l0 : mLd L 0 = some (.ref 152)) (l2 : mLd L 2 = some (.ref 172)) (l3 : mLd L 3 = some (.int x3)) (l4 : mLd L 4 = some (.int x4)) (l5 : mLd L 5 = some (.int x5)) (h3 : x3.toInt = y) (hy : 0 ≤ y ∧ y ≤ 1000) (hS : Sh M) (hm : m < 40) (hT : HT 152 157 M m s) (h : En n d 66 101 L [] M r M1) : RN 152 157 n d M r M1 (y + 1) (m + 1) (sUp s m x5) := by
  replace h := eAload (mi := 66) (pc := 101) (len := 1) (i := 0) rfl l0 h
  replace h := eIload (mi := 66) (pc := 102) (len := 2) (i := 5) rfl l5 h
  obtain ⟨r1, N2, g3, h⟩ := eCall (mi := 66) (pc := 104) (len := 3) (j := 68) (as := [.ref 152, .int x5]) (rest := []) rfl (Or.inr (Or.inl rfl)) (by decide) rfl rfl h
  obtain ⟨qN2, hSN2, hTN2, hFN2⟩ := push152_en (m := m) hS hT (by omega) g3
  rw [qN2] at h
  replace h := eGoto (mi := 66) (pc := 107) (len := 3) (t := 236) rfl rfl h
  replace h := eIinc (mi := 66) (pc := 236) (len := 3) (i := 3) (k := 1) rfl l3 (by decide) h
  replace h := eGoto (mi := 66) (pc := 239) (len := 3) (t := 7) rfl rfl h
  exact ⟨_, N2, _, ⟨(mLd_st1_ref (by decide) l0), (mLd_st1_ref (by decide) l2), mLd_st1_i, ic1 h3 (by omega) (by omega)⟩, hSN2, hTN2, hFN2, h⟩
theorem ru_le152 {n d : Nat} {L : MLoc} {M : Mem} {r : Option Value} {M1 : Mem} {x3 x4 x5 : Int32} {y : Int} {m : Nat} {s : Nat → Int32} (l0 : mLd L 0 = some (.ref 152)) (l2 : mLd L 2 = some (.ref 172)) (l3 : mLd L 3 = some (.int x3)) (l4 : mLd L 4 = some (.int x4)) (l5 : mLd L 5 = some (.int x5)) (h3 : x3.toInt = y) (hy : 0 ≤ y ∧ y ≤ 1000) (hS : Sh M) (hm : m < 40) (h5 : 0 ≤ x5.toInt ∧ x5.toInt < 26) (hT : HT 152 157 M m s) (h : En n d 66 110 L [] M r M1) : RN 152 157 n d M r M1 (y + 1) (m + 1) (sUp s m (iv M 172 x5.toInt.toNat)) := by
  replace h := eAload (mi := 66) (pc := 110) (len := 1) (i := 0) rfl l0 h
  replace h := eIload (mi := 66) (pc := 111) (len := 2) (i := 5) rfl l5 h
  replace h := eConst (mi := 66) (pc := 113) (len := 2) (v := 26) rfl h
  rcases eIc (mi := 66) (pc := 115) (len := 3) (t := 125) rfl rfl h with ⟨c1, h⟩ | ⟨c1, h⟩
  · replace c1 : ¬ x5.toInt < 26 := mC_ge.1 c1
    replace h := eConst (mi := 66) (pc := 125) (len := 1) (v := 0) rfl h
    obtain ⟨r2, N3, g4, h⟩ := eCall (mi := 66) (pc := 126) (len := 3) (j := 68) (as := [.ref 152, .int (0 : Int32)]) (rest := []) rfl (Or.inr (Or.inl rfl)) (by decide) rfl rfl h
    obtain ⟨qN3, hSN3, hTN3, hFN3⟩ := push152_en (m := m) hS hT (by omega) g4
    rw [qN3] at h
    replace h := eGoto (mi := 66) (pc := 129) (len := 3) (t := 236) rfl rfl h
    replace h := eIinc (mi := 66) (pc := 236) (len := 3) (i := 3) (k := 1) rfl l3 (by decide) h
    replace h := eGoto (mi := 66) (pc := 239) (len := 3) (t := 7) rfl rfl h
    omega
  · replace c1 : x5.toInt < 26 := mC_ge.2 c1
    replace h := eAload (mi := 66) (pc := 118) (len := 1) (i := 2) rfl l2 h
    replace h := eIload (mi := 66) (pc := 119) (len := 2) (i := 5) rfl l5 h
    obtain ⟨b5, h⟩ := eIald (x := x5) hS (a := 172) (by decide) (by decide) rfl (mi := 66) (pc := 121) (len := 1) rfl h
    replace h := eGoto (mi := 66) (pc := 122) (len := 3) (t := 126) rfl rfl h
    obtain ⟨r6, N7, g8, h⟩ := eCall (mi := 66) (pc := 126) (len := 3) (j := 68) (as := [.ref 152, .int (iv M 172 x5.toInt.toNat)]) (rest := []) rfl (Or.inr (Or.inl rfl)) (by decide) rfl rfl h
    obtain ⟨qN7, hSN7, hTN7, hFN7⟩ := push152_en (m := m) hS hT (by omega) g8
    rw [qN7] at h
    replace h := eGoto (mi := 66) (pc := 129) (len := 3) (t := 236) rfl rfl h
    replace h := eIinc (mi := 66) (pc := 236) (len := 3) (i := 3) (k := 1) rfl l3 (by decide) h
    replace h := eGoto (mi := 66) (pc := 239) (len := 3) (t := 7) rfl rfl h
    exact ⟨_, N7, _, ⟨(mLd_st1_ref (by decide) l0), (mLd_st1_ref (by decide) l2), mLd_st1_i, ic1 h3 (by omega) (by omega)⟩, hSN7, hTN7, hFN7, h⟩
theorem ru_no152 {n d : Nat} {L : MLoc} {M : Mem} {r : Option Value} {M1 : Mem} {x3 x4 x5 : Int32} {y : Int} {m : Nat} {s : Nat → Int32} (l0 : mLd L 0 = some (.ref 152)) (l2 : mLd L 2 = some (.ref 172)) (l3 : mLd L 3 = some (.int x3)) (l4 : mLd L 4 = some (.int x4)) (l5 : mLd L 5 = some (.int x5)) (h3 : x3.toInt = y) (hy : 0 ≤ y ∧ y ≤ 1000) (hS : Sh M) (hT : HT 152 157 M 1 s) (h : En n d 66 132 L [] M r M1) : RN 152 157 n d M r M1 (y + 1) 1 (sUp s 0 (1 - s 0)) := by
  replace h := eAload (mi := 66) (pc := 132) (len := 1) (i := 0) rfl l0 h
  replace h := eConst (mi := 66) (pc := 133) (len := 1) (v := 1) rfl h
  replace h := eAload (mi := 66) (pc := 134) (len := 1) (i := 0) rfl l0 h
  obtain ⟨r1, N2, g3, h⟩ := eCall (mi := 66) (pc := 135) (len := 3) (j := 69) (as := [.ref 152]) (rest := [.int (1 : Int32), .ref 152]) rfl (Or.inr (Or.inl rfl)) (by decide) rfl rfl h
  obtain ⟨qN2, hSN2, hTN2, hFN2⟩ := pop152_en (m := 0) hS (by omega) hT g3
  rw [qN2] at h
  replace h := eSub (mi := 66) (pc := 138) (len := 1) rfl h
  obtain ⟨r4, N5, g6, h⟩ := eCall (mi := 66) (pc := 139) (len := 3) (j := 68) (as := [.ref 152, .int ((1 : Int32) - (s (0)))]) (rest := []) rfl (Or.inr (Or.inl rfl)) (by decide) rfl rfl h
  obtain ⟨qN5, hSN5, hTN5, hFN5⟩ := push152_en (m := 0) hSN2 hTN2 (by omega) g6
  rw [qN5] at h
  replace h := eGoto (mi := 66) (pc := 142) (len := 3) (t := 236) rfl rfl h
  replace h := eIinc (mi := 66) (pc := 236) (len := 3) (i := 3) (k := 1) rfl l3 (by decide) h
  replace h := eGoto (mi := 66) (pc := 239) (len := 3) (t := 7) rfl rfl h
  exact ⟨_, N5, _, ⟨(mLd_st1_ref (by decide) l0), (mLd_st1_ref (by decide) l2), mLd_st1_i, ic1 h3 (by omega) (by omega)⟩, hSN5, hTN5, (hFN2.tr hFN5), h⟩
theorem ru_ju152 {n d : Nat} {L : MLoc} {M : Mem} {r : Option Value} {M1 : Mem} {x3 x4 x5 : Int32} {y : Int} {m : Nat} {s : Nat → Int32} {b : Int} (l0 : mLd L 0 = some (.ref 152)) (l2 : mLd L 2 = some (.ref 172)) (l3 : mLd L 3 = some (.int x3)) (l4 : mLd L 4 = some (.int x4)) (l5 : mLd L 5 = some (.int x5)) (h3 : x3.toInt = y) (hy : 0 ≤ y ∧ y ≤ 1000) (hS : Sh M) (h4 : x4.toInt = 38 ∨ x4.toInt = 124) (h5 : x5.toInt = b) (hyb : y < b) (hb : b ≤ 1000) (h01 : (s 0).toInt = 0 ∨ (s 0).toInt = 1) (hT : HT 152 157 M 1 s) (h : En n d 66 145 L [] M r M1) : if (s 0).toInt = (if x4.toInt = 124 then 1 else 0) then RN 152 157 n d M r M1 b 1 s else RN 152 157 n d M r M1 (y + 1) 0 s := by
  replace h := eAload (mi := 66) (pc := 145) (len := 1) (i := 0) rfl l0 h
  obtain ⟨r1, N2, g3, h⟩ := eCall (mi := 66) (pc := 146) (len := 3) (j := 69) (as := [.ref 152]) (rest := []) rfl (Or.inr (Or.inl rfl)) (by decide) rfl rfl h
  obtain ⟨qN2, hSN2, hTN2, hFN2⟩ := pop152_en (m := 0) hS (by omega) hT g3
  rw [qN2] at h
  replace h := eIstore (mi := 66) (pc := 149) (len := 2) (i := 6) rfl (by decide) h
  replace h := eIload (mi := 66) (pc := 151) (len := 2) (i := 6) rfl mLd_st1_i h
  rcases eIf (mi := 66) (pc := 153) (len := 3) (t := 160) rfl rfl h with ⟨c4, h⟩ | ⟨c4, h⟩
  · replace c4 : (s (0)).toInt = 0 := mC_eq.1 c4
    replace h := eConst (mi := 66) (pc := 160) (len := 1) (v := 0) rfl h
    replace h := eIload (mi := 66) (pc := 161) (len := 2) (i := 4) rfl (mLd_st1_int (by decide) l4) h
    replace h := eConst (mi := 66) (pc := 163) (len := 2) (v := 124) rfl h
    rcases eIc (mi := 66) (pc := 165) (len := 3) (t := 172) rfl rfl h with ⟨c5, h⟩ | ⟨c5, h⟩
    · replace c5 : ¬ x4.toInt = 124 := mC_ne.1 c5
      replace h := eConst (mi := 66) (pc := 172) (len := 1) (v := 0) rfl h
      rcases eIc (mi := 66) (pc := 173) (len := 3) (t := 236) rfl rfl h with ⟨c6, h⟩ | ⟨c6, h⟩
      · exact absurd c6 (by decide)
      · skip
        replace h := eAload (mi := 66) (pc := 176) (len := 1) (i := 0) rfl (mLd_st1_ref (by decide) l0) h
        replace h := eIload (mi := 66) (pc := 177) (len := 2) (i := 6) rfl mLd_st1_i h
        obtain ⟨r7, N8, g9, h⟩ := eCall (mi := 66) (pc := 179) (len := 3) (j := 68) (as := [.ref 152, .int (s (0))]) (rest := []) rfl (Or.inr (Or.inl rfl)) (by decide) rfl rfl h
        obtain ⟨qN8, hSN8, hTN8, hFN8⟩ := push152_en (m := 0) hSN2 hTN2 (by omega) g9
        rw [qN8] at h
        replace h := eIload (mi := 66) (pc := 182) (len := 1) (i := 3) rfl (mLd_st1_int (by decide) l3) h
        replace h := eIload (mi := 66) (pc := 183) (len := 2) (i := 5) rfl (mLd_st1_int (by decide) l5) h
        replace h := eConst (mi := 66) (pc := 185) (len := 1) (v := 1) rfl h
        replace h := eSub (mi := 66) (pc := 186) (len := 1) rfl h
        replace h := eMax (mi := 66) (pc := 187) (len := 3) rfl h
        replace h := eIstore (mi := 66) (pc := 190) (len := 1) (i := 3) rfl (by decide) h
        replace h := eGoto (mi := 66) (pc := 191) (len := 3) (t := 236) rfl rfl h
        replace h := eIinc (mi := 66) (pc := 236) (len := 3) (i := 3) (k := 1) rfl mLd_st1_i (by decide) h
        replace h := eGoto (mi := 66) (pc := 239) (len := 3) (t := 7) rfl rfl h
        rw [if_pos (by rcases h4 with h4 | h4 <;> (first | (rw [if_neg (by omega)]; omega) | (rw [if_pos h4]; omega)))]
        exact ⟨_, N8, _, ⟨(mLd_st1_ref (by decide) (mLd_st1_ref (by decide) (mLd_st1_ref (by decide) l0))), (mLd_st1_ref (by decide) (mLd_st1_ref (by decide) (mLd_st1_ref (by decide) l2))), mLd_st1_i, mx_jump h3 h5 hy.1 hyb (by omega)⟩, hSN8, hTN8.cg (fun k hk => by rw [show k = 0 by omega, sUp_eq]), (hFN2.tr hFN8), h⟩
    · replace c5 : x4.toInt = 124 := mC_ne.2 c5
      replace h := eConst (mi := 66) (pc := 168) (len := 1) (v := 1) rfl h
      replace h := eGoto (mi := 66) (pc := 169) (len := 3) (t := 173) rfl rfl h
      rcases eIc (mi := 66) (pc := 173) (len := 3) (t := 236) rfl rfl h with ⟨c10, h⟩ | ⟨c10, h⟩
      · skip
        replace h := eIinc (mi := 66) (pc := 236) (len := 3) (i := 3) (k := 1) rfl (mLd_st1_int (by decide) l3) (by decide) h
        replace h := eGoto (mi := 66) (pc := 239) (len := 3) (t := 7) rfl rfl h
        rw [if_neg (by rcases h4 with h4 | h4 <;> (first | (rw [if_neg (by omega)]; omega) | (rw [if_pos h4]; omega)))]
        exact ⟨_, N2, _, ⟨(mLd_st1_ref (by decide) (mLd_st1_ref (by decide) l0)), (mLd_st1_ref (by decide) (mLd_st1_ref (by decide) l2)), mLd_st1_i, ic1 h3 (by omega) (by omega)⟩, hSN2, hTN2, hFN2, h⟩
      · exact absurd c10 (by decide)
  · replace c4 : ¬ (s (0)).toInt = 0 := mC_eq.2 c4
    replace h := eConst (mi := 66) (pc := 156) (len := 1) (v := 1) rfl h
    replace h := eGoto (mi := 66) (pc := 157) (len := 3) (t := 161) rfl rfl h
    replace h := eIload (mi := 66) (pc := 161) (len := 2) (i := 4) rfl (mLd_st1_int (by decide) l4) h
    replace h := eConst (mi := 66) (pc := 163) (len := 2) (v := 124) rfl h
    rcases eIc (mi := 66) (pc := 165) (len := 3) (t := 172) rfl rfl h with ⟨c11, h⟩ | ⟨c11, h⟩
    · replace c11 : ¬ x4.toInt = 124 := mC_ne.1 c11
      replace h := eConst (mi := 66) (pc := 172) (len := 1) (v := 0) rfl h
      rcases eIc (mi := 66) (pc := 173) (len := 3) (t := 236) rfl rfl h with ⟨c12, h⟩ | ⟨c12, h⟩
      · skip
        replace h := eIinc (mi := 66) (pc := 236) (len := 3) (i := 3) (k := 1) rfl (mLd_st1_int (by decide) l3) (by decide) h
        replace h := eGoto (mi := 66) (pc := 239) (len := 3) (t := 7) rfl rfl h
        rw [if_neg (by rcases h4 with h4 | h4 <;> (first | (rw [if_neg (by omega)]; omega) | (rw [if_pos h4]; omega)))]
        exact ⟨_, N2, _, ⟨(mLd_st1_ref (by decide) (mLd_st1_ref (by decide) l0)), (mLd_st1_ref (by decide) (mLd_st1_ref (by decide) l2)), mLd_st1_i, ic1 h3 (by omega) (by omega)⟩, hSN2, hTN2, hFN2, h⟩
      · exact absurd c12 (by decide)
    · replace c11 : x4.toInt = 124 := mC_ne.2 c11
      replace h := eConst (mi := 66) (pc := 168) (len := 1) (v := 1) rfl h
      replace h := eGoto (mi := 66) (pc := 169) (len := 3) (t := 173) rfl rfl h
      rcases eIc (mi := 66) (pc := 173) (len := 3) (t := 236) rfl rfl h with ⟨c13, h⟩ | ⟨c13, h⟩
      · exact absurd c13 (by decide)
      · skip
        replace h := eAload (mi := 66) (pc := 176) (len := 1) (i := 0) rfl (mLd_st1_ref (by decide) l0) h
        replace h := eIload (mi := 66) (pc := 177) (len := 2) (i := 6) rfl mLd_st1_i h
        obtain ⟨r14, N15, g16, h⟩ := eCall (mi := 66) (pc := 179) (len := 3) (j := 68) (as := [.ref 152, .int (s (0))]) (rest := []) rfl (Or.inr (Or.inl rfl)) (by decide) rfl rfl h
        obtain ⟨qN15, hSN15, hTN15, hFN15⟩ := push152_en (m := 0) hSN2 hTN2 (by omega) g16
        rw [qN15] at h
        replace h := eIload (mi := 66) (pc := 182) (len := 1) (i := 3) rfl (mLd_st1_int (by decide) l3) h
        replace h := eIload (mi := 66) (pc := 183) (len := 2) (i := 5) rfl (mLd_st1_int (by decide) l5) h
        replace h := eConst (mi := 66) (pc := 185) (len := 1) (v := 1) rfl h
        replace h := eSub (mi := 66) (pc := 186) (len := 1) rfl h
        replace h := eMax (mi := 66) (pc := 187) (len := 3) rfl h
        replace h := eIstore (mi := 66) (pc := 190) (len := 1) (i := 3) rfl (by decide) h
        replace h := eGoto (mi := 66) (pc := 191) (len := 3) (t := 236) rfl rfl h
        replace h := eIinc (mi := 66) (pc := 236) (len := 3) (i := 3) (k := 1) rfl mLd_st1_i (by decide) h
        replace h := eGoto (mi := 66) (pc := 239) (len := 3) (t := 7) rfl rfl h
        rw [if_pos (by rcases h4 with h4 | h4 <;> (first | (rw [if_neg (by omega)]; omega) | (rw [if_pos h4]; omega)))]
        exact ⟨_, N15, _, ⟨(mLd_st1_ref (by decide) (mLd_st1_ref (by decide) (mLd_st1_ref (by decide) l0))), (mLd_st1_ref (by decide) (mLd_st1_ref (by decide) (mLd_st1_ref (by decide) l2))), mLd_st1_i, mx_jump h3 h5 hy.1 hyb (by omega)⟩, hSN15, hTN15.cg (fun k hk => by rw [show k = 0 by omega, sUp_eq]), (hFN2.tr hFN15), h⟩
theorem ru_rk152 {n d : Nat} {L : MLoc} {M : Mem} {r : Option Value} {M1 : Mem} {x3 x4 x5 : Int32} {y : Int} {m : Nat} {s : Nat → Int32} {op : Int} (l0 : mLd L 0 = some (.ref 152)) (l2 : mLd L 2 = some (.ref 172)) (l3 : mLd L 3 = some (.int x3)) (l4 : mLd L 4 = some (.int x4)) (l5 : mLd L 5 = some (.int x5)) (h3 : x3.toInt = y) (hy : 0 ≤ y ∧ y ≤ 1000) (hS : Sh M) (hm : m + 2 < 40) (ho : 2 ≤ op ∧ op ≤ 9) (h4 : x4.toInt = sgC op) (hT : HT 152 157 M (m + 2) s) (h : En n d 66 194 L [] M r M1) : if (op = 5 ∨ op = 6) ∧ s (m + 1) = 0 then (r = some (.int 0) ∧ Sh M1 ∧ FrA 152 157 M M1) else RN 152 157 n d M r M1 (y + 1) (m + 1) (sUp s m (rkO op (s m) (s (m + 1)))) := by
  have hop : op = 2 ∨ op = 3 ∨ op = 4 ∨ op = 5 ∨ op = 6 ∨ op = 7 ∨ op = 8 ∨ op = 9 := by omega
  replace h := eAload (mi := 66) (pc := 194) (len := 1) (i := 0) rfl l0 h
  obtain ⟨r1, N2, g3, h⟩ := eCall (mi := 66) (pc := 195) (len := 3) (j := 69) (as := [.ref 152]) (rest := []) rfl (Or.inr (Or.inl rfl)) (by decide) rfl rfl h
  obtain ⟨qN2, hSN2, hTN2, hFN2⟩ := pop152_en (m := m + 1) hS (by omega) hT g3
  rw [qN2] at h
  replace h := eIstore (mi := 66) (pc := 198) (len := 2) (i := 7) rfl (by decide) h
  replace h := eIload (mi := 66) (pc := 200) (len := 2) (i := 7) rfl mLd_st1_i h
  rcases eIf (mi := 66) (pc := 202) (len := 3) (t := 221) rfl rfl h with ⟨c4, h⟩ | ⟨c4, h⟩
  · replace c4 : ¬ (s (m + 1)).toInt = 0 := mC_ne.1 c4
    have hyz : op = 5 ∨ op = 6 → ¬ s (m + 1) = 0 := fun _ q => c4 (by rw [q]; rfl)
    replace h := eAload (mi := 66) (pc := 221) (len := 1) (i := 0) rfl (mLd_st1_ref (by decide) l0) h
    replace h := eIload (mi := 66) (pc := 222) (len := 2) (i := 4) rfl (mLd_st1_int (by decide) l4) h
    replace h := eAload (mi := 66) (pc := 224) (len := 1) (i := 0) rfl (mLd_st1_ref (by decide) l0) h
    obtain ⟨r5, N6, g7, h⟩ := eCall (mi := 66) (pc := 225) (len := 3) (j := 69) (as := [.ref 152]) (rest := [.int x4, .ref 152]) rfl (Or.inr (Or.inl rfl)) (by decide) rfl rfl h
    obtain ⟨qN6, hSN6, hTN6, hFN6⟩ := pop152_en (m := m) hSN2 (by omega) hTN2 g7
    rw [qN6] at h
    replace h := eIload (mi := 66) (pc := 228) (len := 2) (i := 7) rfl mLd_st1_i h
    obtain ⟨r8, N9, g10, h⟩ := eCall (mi := 66) (pc := 230) (len := 3) (j := 67) (as := [.int x4, .int (s (m)), .int (s (m + 1))]) (rest := [.ref 152]) rfl (Or.inl rfl) (by decide) rfl rfl h
    obtain ⟨qN9, wN9⟩ := rkC_en (op := op) ho h4 hyz g10
    rw [qN9, wN9] at h
    obtain ⟨r11, N12, g13, h⟩ := eCall (mi := 66) (pc := 233) (len := 3) (j := 68) (as := [.ref 152, .int (rkO op (s (m)) (s (m + 1)))]) (rest := []) rfl (Or.inr (Or.inl rfl)) (by decide) rfl rfl h
    obtain ⟨qN12, hSN12, hTN12, hFN12⟩ := push152_en (m := m) hSN6 hTN6 (by omega) g13
    rw [qN12] at h
    replace h := eIinc (mi := 66) (pc := 236) (len := 3) (i := 3) (k := 1) rfl (mLd_st1_int (by decide) l3) (by decide) h
    replace h := eGoto (mi := 66) (pc := 239) (len := 3) (t := 7) rfl rfl h
    rw [if_neg (fun q => hyz q.1 q.2)]
    exact ⟨_, N12, _, ⟨(mLd_st1_ref (by decide) (mLd_st1_ref (by decide) l0)), (mLd_st1_ref (by decide) (mLd_st1_ref (by decide) l2)), mLd_st1_i, ic1 h3 (by omega) (by omega)⟩, hSN12, hTN12, ((hFN2.tr hFN6).tr hFN12), h⟩
  · replace c4 : (s (m + 1)).toInt = 0 := mC_ne.2 c4
    replace h := eIload (mi := 66) (pc := 205) (len := 2) (i := 4) rfl (mLd_st1_int (by decide) l4) h
    replace h := eConst (mi := 66) (pc := 207) (len := 2) (v := 47) rfl h
    rcases eIc (mi := 66) (pc := 209) (len := 3) (t := 219) rfl rfl h with ⟨c14, h⟩ | ⟨c14, h⟩
    · replace c14 : x4.toInt = 47 := mC_eq.1 c14
      replace h := eConst (mi := 66) (pc := 219) (len := 1) (v := 0) rfl h
      obtain ⟨e1, e2⟩ := eRetI (mi := 66) (pc := 220) (len := 1) rfl h
      rw [if_pos ⟨by rcases hop with q | q | q | q | q | q | q | q <;> (subst q; first | exact Or.inl rfl | exact Or.inr rfl | (exfalso; have q : x4.toInt = _ := h4; simp only [sgC] at q; omega)), i0_of c4⟩]
      rw [e2]
      exact ⟨e1, hSN2, hFN2⟩
    · replace c14 : ¬ x4.toInt = 47 := mC_eq.2 c14
      replace h := eIload (mi := 66) (pc := 212) (len := 2) (i := 4) rfl (mLd_st1_int (by decide) l4) h
      replace h := eConst (mi := 66) (pc := 214) (len := 2) (v := 37) rfl h
      rcases eIc (mi := 66) (pc := 216) (len := 3) (t := 221) rfl rfl h with ⟨c15, h⟩ | ⟨c15, h⟩
      · replace c15 : ¬ x4.toInt = 37 := mC_ne.1 c15
        have hyz : op = 5 ∨ op = 6 → ¬ s (m + 1) = 0 := fun q => by rcases q with q | q <;> (rw [q] at h4; first | exact absurd h4 c14 | exact absurd h4 c15)
        replace h := eAload (mi := 66) (pc := 221) (len := 1) (i := 0) rfl (mLd_st1_ref (by decide) l0) h
        replace h := eIload (mi := 66) (pc := 222) (len := 2) (i := 4) rfl (mLd_st1_int (by decide) l4) h
        replace h := eAload (mi := 66) (pc := 224) (len := 1) (i := 0) rfl (mLd_st1_ref (by decide) l0) h
        obtain ⟨r16, N17, g18, h⟩ := eCall (mi := 66) (pc := 225) (len := 3) (j := 69) (as := [.ref 152]) (rest := [.int x4, .ref 152]) rfl (Or.inr (Or.inl rfl)) (by decide) rfl rfl h
        obtain ⟨qN17, hSN17, hTN17, hFN17⟩ := pop152_en (m := m) hSN2 (by omega) hTN2 g18
        rw [qN17] at h
        replace h := eIload (mi := 66) (pc := 228) (len := 2) (i := 7) rfl mLd_st1_i h
        obtain ⟨r19, N20, g21, h⟩ := eCall (mi := 66) (pc := 230) (len := 3) (j := 67) (as := [.int x4, .int (s (m)), .int (s (m + 1))]) (rest := [.ref 152]) rfl (Or.inl rfl) (by decide) rfl rfl h
        obtain ⟨qN20, wN20⟩ := rkC_en (op := op) ho h4 hyz g21
        rw [qN20, wN20] at h
        obtain ⟨r22, N23, g24, h⟩ := eCall (mi := 66) (pc := 233) (len := 3) (j := 68) (as := [.ref 152, .int (rkO op (s (m)) (s (m + 1)))]) (rest := []) rfl (Or.inr (Or.inl rfl)) (by decide) rfl rfl h
        obtain ⟨qN23, hSN23, hTN23, hFN23⟩ := push152_en (m := m) hSN17 hTN17 (by omega) g24
        rw [qN23] at h
        replace h := eIinc (mi := 66) (pc := 236) (len := 3) (i := 3) (k := 1) rfl (mLd_st1_int (by decide) l3) (by decide) h
        replace h := eGoto (mi := 66) (pc := 239) (len := 3) (t := 7) rfl rfl h
        rw [if_neg (fun q => hyz q.1 q.2)]
        exact ⟨_, N23, _, ⟨(mLd_st1_ref (by decide) (mLd_st1_ref (by decide) l0)), (mLd_st1_ref (by decide) (mLd_st1_ref (by decide) l2)), mLd_st1_i, ic1 h3 (by omega) (by omega)⟩, hSN23, hTN23, ((hFN2.tr hFN17).tr hFN23), h⟩
      · replace c15 : x4.toInt = 37 := mC_ne.2 c15
        replace h := eConst (mi := 66) (pc := 219) (len := 1) (v := 0) rfl h
        obtain ⟨e1, e2⟩ := eRetI (mi := 66) (pc := 220) (len := 1) rfl h
        rw [if_pos ⟨by rcases hop with q | q | q | q | q | q | q | q <;> (subst q; first | exact Or.inl rfl | exact Or.inr rfl | (exfalso; have q : x4.toInt = _ := h4; simp only [sgC] at q; omega)), i0_of c4⟩]
        rw [e2]
        exact ⟨e1, hSN2, hFN2⟩
theorem ru_en152 {n d : Nat} {L : MLoc} {M : Mem} {r : Option Value} {M1 : Mem} {x3 x4 x5 : Int32} {y : Int} {m : Nat} {s : Nat → Int32} (l0 : mLd L 0 = some (.ref 152)) (l2 : mLd L 2 = some (.ref 172)) (l3 : mLd L 3 = some (.int x3)) (l4 : mLd L 4 = some (.int x4)) (l5 : mLd L 5 = some (.int x5)) (h3 : x3.toInt = y) (hy : 0 ≤ y ∧ y ≤ 1000) (hS : Sh M) (hT : HT 152 157 M 1 s) (h : En n d 66 96 L [] M r M1) : r = some (.int (s 0)) ∧ Sh M1 ∧ FrA 152 157 M M1 := by
  replace h := eAload (mi := 66) (pc := 96) (len := 1) (i := 0) rfl l0 h
  obtain ⟨r1, N2, g3, h⟩ := eCall (mi := 66) (pc := 97) (len := 3) (j := 69) (as := [.ref 152]) (rest := []) rfl (Or.inr (Or.inl rfl)) (by decide) rfl rfl h
  obtain ⟨qN2, hSN2, hTN2, hFN2⟩ := pop152_en (m := 0) hS (by omega) hT g3
  rw [qN2] at h
  obtain ⟨e1, e2⟩ := eRetI (mi := 66) (pc := 100) (len := 1) rfl h
  rw [e2]
  exact ⟨e1, hSN2, hFN2⟩
theorem run152_lp {F ty : Nat → Int} {fc : Nat → Int32} {b0 C : Nat} {sh : Int} (hty : ∀ i, b0 ≤ i → i < C → tyOk F ty (fun _ => False) C i ∧ ty i ≤ 16) (hC : ty C = 1 ∨ ty C = -1) : ∀ (n d : Nat) (L : MLoc) (M : Mem) (r : Option Value) (M1 : Mem) (x3 : Int32) (i m : Nat) (s : Nat → Int32), mLd L 0 = some (.ref 152) → mLd L 2 = some (.ref 172) → mLd L 3 = some (.int x3) → x3.toInt = (i : Int) + sh → Sh M → RS 152 153 F fc b0 C sh M → HT 152 157 M m s → b0 ≤ i → i ≤ C → TI ty i m s → En n d 66 7 L [] M r M1 → ∃ k v, ev F fc C k (i, m, s) = some v ∧ r = some (.int v) ∧ Sh M1 ∧ FrA 152 157 M M1 := by
  intro n
  induction n with
  | zero => intro d L M r M1 x3 i m s _ _ _ _ _ _ _ _ _ _ h; exact (En.zero (mi := 66) (pc := 7) (len := 1) rfl h).elim
  | succ n ih =>
    intro d L M r M1 x3 i m s l0 l2 l3 h3 hS hR hT hi hiC0 hI h
    replace h := eIloadS (mi := 66) (pc := 7) (len := 1) (i := 3) rfl l3 h
    replace h := eAload (mi := 66) (pc := 8) (len := 1) (i := 0) rfl l0 h
    replace h := eGetI (a := 152) (j := 401) hS (by decide) (by decide) rfl (mi := 66) (pc := 9) (len := 3) rfl h
    rcases eIc (mi := 66) (pc := 12) (len := 3) (t := 242) rfl rfl h with ⟨c1, h⟩ | ⟨c1, h⟩
    · replace c1 : ¬ x3.toInt < (iv M 152 1).toInt := mC_ge.1 c1
      replace h := eConst (mi := 66) (pc := 242) (len := 1) (v := 0) rfl h
      have := hR.1.2.2.1
      omega
    · replace c1 : x3.toInt < (iv M 152 1).toInt := mC_ge.2 c1
      replace h := eAload (mi := 66) (pc := 15) (len := 1) (i := 0) rfl l0 h
      replace h := eGetR (a := 152) (j := 400) (g := 153) hS (by decide) (by decide) rfl rfl rfl (mi := 66) (pc := 16) (len := 3) rfl h
      replace h := eIload (mi := 66) (pc := 19) (len := 1) (i := 3) rfl l3 h
      obtain ⟨b2, h⟩ := eIald (x := x3) hS (a := 153) (by decide) (by decide) rfl (mi := 66) (pc := 20) (len := 1) rfl h
      replace h := eConst (mi := 66) (pc := 21) (len := 2) (v := 20) rfl h
      replace h := eShr (mi := 66) (pc := 23) (len := 1) rfl h
      replace h := eIstore (mi := 66) (pc := 24) (len := 2) (i := 4) rfl (by decide) h
      replace h := eAload (mi := 66) (pc := 26) (len := 1) (i := 0) rfl (mLd_st1_ref (by decide) l0) h
      replace h := eGetR (a := 152) (j := 400) (g := 153) hS (by decide) (by decide) rfl rfl rfl (mi := 66) (pc := 27) (len := 3) rfl h
      replace h := eIload (mi := 66) (pc := 30) (len := 1) (i := 3) rfl (mLd_st1_int (by decide) l3) h
      obtain ⟨b3, h⟩ := eIald (x := x3) hS (a := 153) (by decide) (by decide) rfl (mi := 66) (pc := 31) (len := 1) rfl h
      replace h := eConst (mi := 66) (pc := 32) (len := 2) (v := 1048575) rfl h
      replace h := eAnd (mi := 66) (pc := 34) (len := 1) rfl h
      replace h := eIstore (mi := 66) (pc := 35) (len := 2) (i := 5) rfl (by decide) h
      replace h := eIload (mi := 66) (pc := 37) (len := 2) (i := 4) rfl (mLd_st1_int (by decide) mLd_st1_i) h
      have ix : x3.toInt.toNat = ((i : Int) + sh).toNat := by rw [h3]
      by_cases hiC : i < C
      · have ew := hR.1.1 i hi hiC
        rw [← ix] at ew
        obtain ⟨hok, h16⟩ := hty i hi hiC
        obtain ⟨_, _, _, sh0, shC⟩ := hR.1
        have fin : ∀ {i2 m2 : Nat} {s2 : Nat → Int32}, RN 152 157 n d M r M1 ((i2 : Int) + sh) m2 s2 → b0 ≤ i2 → i2 ≤ C → TI ty i2 m2 s2 → ∃ k v, ev F fc C k (i2, m2, s2) = some v ∧ r = some (.int v) ∧ Sh M1 ∧ FrA 152 157 M M1 := fun z a1 a2 a3 => by
          obtain ⟨L2, N2, x2, ⟨z0, z2, z3, z4⟩, zS, zT, zF, zh⟩ := z
          obtain ⟨k, v, w1, w2, w3, w4⟩ := ih _ _ _ _ _ _ _ _ _ z0 z2 z3 z4 zS (hR.fr zF (show 153 ≠ 152 ∧ 153 ≠ 157 ∧ 152 ≠ 157 ∧ 172 ≠ 152 ∧ 172 ≠ 157 by decide)) zT a1 a2 a3 zh
          exact ⟨k, v, w1, w2, w3, zF.tr w4⟩
        rcases hok with ⟨a, b, c⟩ | ⟨a, b, c⟩ | ⟨a, b, c⟩ | ⟨a, b, c⟩ | ⟨a, b, c, q⟩
        · have hm := hI.pos b
          rcases a with a | a
          · have ea : encA sh (F i) = cAr (F i) := by unfold encA; rw [if_neg (by omega), if_neg (by omega)]
            obtain ⟨g4, g5⟩ := enc_rd ew (by rw [ea]; unfold cAr; omega) (by rw [ea]; unfold cAr; omega)
            rw [a] at g4
            have g4 : (iv M 153 x3.toInt.toNat >>> (Int32.ofInt 20 &&& 31)).toInt = 48 := g4
            replace h := eLsw (o := 62) (t := 101) (mi := 66) (pc := 39) (len := 57) rfl (by rw [g4]; rfl) rfl h
            have z := ru_nu152 (mLd_st1_ref (by decide) (mLd_st1_ref (by decide) l0)) (mLd_st1_ref (by decide) (mLd_st1_ref (by decide) l2)) (mLd_st1_int (by decide) (mLd_st1_int (by decide) l3)) (mLd_st1_int (by decide) mLd_st1_i) mLd_st1_i h3 (by omega) hS (by omega) hT h
            have ev5 : (iv M 153 x3.toInt.toNat &&& Int32.ofInt 1048575) = Int32.ofInt (cAr (F i)) := by rw [← ea, ← g5, Int32.ofInt_toInt]
            rw [ev5, show ((i : Int) + sh + 1) = (((i + 1 : Nat) : Int) + sh) by omega] at z
            obtain ⟨k, v, w1, w2⟩ := fin z (by omega) (by omega) (TI.mk (by omega) (by omega))
            exact ⟨k + 1, v, by rw [ev_num hiC a]; exact w1, w2⟩
          · have ea : encA sh (F i) = clF (cAr (F i)) := by unfold encA; rw [if_pos a.1]
            have rg := clF_rg (a := cAr (F i))
            obtain ⟨g4, g5⟩ := enc_rd ew (by omega) (by omega)
            rw [a.1] at g4
            have g4 : (iv M 153 x3.toInt.toNat >>> (Int32.ofInt 20 &&& 31)).toInt = 97 := g4
            replace h := eLsw (o := 71) (t := 110) (mi := 66) (pc := 39) (len := 57) rfl (by rw [g4]; rfl) rfl h
            have z := ru_le152 (mLd_st1_ref (by decide) (mLd_st1_ref (by decide) l0)) (mLd_st1_ref (by decide) (mLd_st1_ref (by decide) l2)) (mLd_st1_int (by decide) (mLd_st1_int (by decide) l3)) (mLd_st1_int (by decide) mLd_st1_i) mLd_st1_i h3 (by omega) hS (by omega) (by omega) hT h
            have c0 : 0 ≤ cAr (F i) := by unfold cAr; omega
            have ev5 : iv M 172 (iv M 153 x3.toInt.toNat &&& Int32.ofInt 1048575).toInt.toNat = fc (cAr (F i)).toNat := by
              rw [g5, ea, ← hR.2 (cAr (F i)).toNat (by omega)]
              congr 3
              omega
            rw [ev5, show ((i : Int) + sh + 1) = (((i + 1 : Nat) : Int) + sh) by omega] at z
            obtain ⟨k, v, w1, w2⟩ := fin z (by omega) (by omega) (TI.mk (by omega) (by omega))
            exact ⟨k + 1, v, by rw [ev_let hiC a.1]; exact w1, w2⟩
        · have hm := hI.pos (by omega)
          have ea : encA sh (F i) = cAr (F i) := by unfold encA; rw [if_neg (by omega), if_neg (by omega)]
          obtain ⟨g4, g5⟩ := enc_rd ew (by rw [ea]; unfold cAr; omega) (by rw [ea]; unfold cAr; omega)
          obtain ⟨m, rfl⟩ : ∃ m2, m = m2 + 2 := ⟨m - 2, by omega⟩
          replace h := eLsw (o := 155) (t := 194) (mi := 66) (pc := 39) (len := 57) rfl (by rw [g4]; rcases (show cOp (F i) = 2 ∨ cOp (F i) = 3 ∨ cOp (F i) = 4 ∨ cOp (F i) = 5 ∨ cOp (F i) = 6 by omega) with q | q | q | q | q <;> (rw [q]; rfl)) rfl h
          have z := ru_rk152 (op := cOp (F i)) (mLd_st1_ref (by decide) (mLd_st1_ref (by decide) l0)) (mLd_st1_ref (by decide) (mLd_st1_ref (by decide) l2)) (mLd_st1_int (by decide) (mLd_st1_int (by decide) l3)) (mLd_st1_int (by decide) mLd_st1_i) mLd_st1_i h3 (by omega) hS (by omega) (by omega) g4 hT h
          by_cases dz : (cOp (F i) = 5 ∨ cOp (F i) = 6) ∧ s (m + 1) = 0
          · rw [if_pos dz] at z
            exact ⟨1, 0, by rw [ev_rk hiC (by omega)]; exact if_pos dz, z⟩
          · rw [if_neg dz, show ((i : Int) + sh + 1) = (((i + 1 : Nat) : Int) + sh) by omega] at z
            obtain ⟨k, v, w1, w2⟩ := fin z (by omega) (by omega) (TI.mk (by omega) (by omega))
            exact ⟨k + 1, v, by rw [ev_rk hiC (by omega)]; exact (if_neg dz).trans w1, w2⟩
        · have hm := hI.pos (by omega)
          have ea : encA sh (F i) = cAr (F i) := by unfold encA; rw [if_neg (by omega), if_neg (by omega)]
          obtain ⟨g4, g5⟩ := enc_rd ew (by rw [ea]; unfold cAr; omega) (by rw [ea]; unfold cAr; omega)
          obtain ⟨m, rfl⟩ : ∃ m2, m = m2 + 2 := ⟨m - 2, by omega⟩
          replace h := eLsw (o := 155) (t := 194) (mi := 66) (pc := 39) (len := 57) rfl (by rw [g4]; rcases (show cOp (F i) = 7 ∨ cOp (F i) = 8 ∨ cOp (F i) = 9 by omega) with q | q | q <;> (rw [q]; rfl)) rfl h
          have z := ru_rk152 (op := cOp (F i)) (mLd_st1_ref (by decide) (mLd_st1_ref (by decide) l0)) (mLd_st1_ref (by decide) (mLd_st1_ref (by decide) l2)) (mLd_st1_int (by decide) (mLd_st1_int (by decide) l3)) (mLd_st1_int (by decide) mLd_st1_i) mLd_st1_i h3 (by omega) hS (by omega) (by omega) g4 hT h
          have m0 : m = 0 := by omega
          subst m0
          rw [if_neg (by omega), show ((i : Int) + sh + 1) = (((i + 1 : Nat) : Int) + sh) by omega] at z
          obtain ⟨k, v, w1, w2⟩ := fin z (by omega) (by omega) (TI.mk1 c (by rw [sUp_eq]; exact rkO_01 a))
          exact ⟨k + 1, v, by rw [ev_rk hiC (by omega)]; exact (if_neg (by omega)).trans w1, w2⟩
        · obtain ⟨m1, h01⟩ := hI.one b
          subst m1
          have ea : encA sh (F i) = cAr (F i) := by unfold encA; rw [if_neg (by omega), if_neg (by omega)]
          obtain ⟨g4, g5⟩ := enc_rd ew (by rw [ea]; unfold cAr; omega) (by rw [ea]; unfold cAr; omega)
          rw [a] at g4
          have g4 : (iv M 153 x3.toInt.toNat >>> (Int32.ofInt 20 &&& 31)).toInt = 33 := g4
          replace h := eLsw (o := 93) (t := 132) (mi := 66) (pc := 39) (len := 57) rfl (by rw [g4]; rfl) rfl h
          have z := ru_no152 (m := 0) (mLd_st1_ref (by decide) (mLd_st1_ref (by decide) l0)) (mLd_st1_ref (by decide) (mLd_st1_ref (by decide) l2)) (mLd_st1_int (by decide) (mLd_st1_int (by decide) l3)) (mLd_st1_int (by decide) mLd_st1_i) mLd_st1_i h3 (by omega) hS hT h
          rw [show ((i : Int) + sh + 1) = (((i + 1 : Nat) : Int) + sh) by omega] at z
          obtain ⟨k, v, w1, w2⟩ := fin z (by omega) (by omega) (TI.mk1 c (by rw [sUp_eq]; exact not_01 h01))
          exact ⟨k + 1, v, by rw [ev_not hiC a]; exact w1, w2⟩
        · obtain ⟨m1, h01⟩ := hI.one b
          subst m1
          obtain ⟨v0, v1, v2, v3, v4⟩ := q.resolve_left id
          have ea : encA sh (F i) = (v0 : Int) + sh := by unfold encA; rw [if_neg (by omega), if_pos a, if_neg (by omega), v1]
          obtain ⟨g4, g5⟩ := enc_rd ew (by omega) (by omega)
          have t0 : (cAr (F i)).toNat = v0 := by omega
          have done : ∀ x : Int, (x = if cOp (F i) = 12 then 1 else 0) → (if (s 0).toInt = x then RN 152 157 n d M r M1 ((v0 : Int) + sh) 1 s else RN 152 157 n d M r M1 ((i : Int) + sh + 1) 0 s) → ∃ k v, ev F fc C k (i, 1, s) = some v ∧ r = some (.int v) ∧ Sh M1 ∧ FrA 152 157 M M1 := fun x hx z => by
            by_cases dz : (s 0).toInt = x
            · rw [if_pos dz] at z
              obtain ⟨k, v, w1, w2⟩ := fin z (by omega) v3 (TI.mk1 v4 h01)
              exact ⟨k + 1, v, by rw [ev_jmp hiC a, t0]; exact (if_pos (dz.trans hx)).trans w1, w2⟩
            · rw [if_neg dz, show ((i : Int) + sh + 1) = (((i + 1 : Nat) : Int) + sh) by omega] at z
              obtain ⟨k, v, w1, w2⟩ := fin z (by omega) (by omega) (TI.mk (by omega) (by omega))
              exact ⟨k + 1, v, by rw [ev_jmp hiC a]; exact (if_neg (fun q => dz (q.trans hx.symm))).trans w1, w2⟩
          rcases a with a | a
          · rw [a] at g4
            have g4 : (iv M 153 x3.toInt.toNat >>> (Int32.ofInt 20 &&& 31)).toInt = 38 := g4
            replace h := eLsw (o := 106) (t := 145) (mi := 66) (pc := 39) (len := 57) rfl (by rw [g4]; rfl) rfl h
            have z := ru_ju152 (m := 0) (b := (v0 : Int) + sh) (mLd_st1_ref (by decide) (mLd_st1_ref (by decide) l0)) (mLd_st1_ref (by decide) (mLd_st1_ref (by decide) l2)) (mLd_st1_int (by decide) (mLd_st1_int (by decide) l3)) (mLd_st1_int (by decide) mLd_st1_i) mLd_st1_i h3 (by omega) hS (Or.inl g4) (by rw [g5, ea]) (by omega) (by omega) (i01 h01) hT h
            refine done 0 (by rw [a]; rfl) ?_
            rw [g4] at z
            exact z
          · rw [a] at g4
            have g4 : (iv M 153 x3.toInt.toNat >>> (Int32.ofInt 20 &&& 31)).toInt = 124 := g4
            replace h := eLsw (o := 106) (t := 145) (mi := 66) (pc := 39) (len := 57) rfl (by rw [g4]; rfl) rfl h
            have z := ru_ju152 (m := 0) (b := (v0 : Int) + sh) (mLd_st1_ref (by decide) (mLd_st1_ref (by decide) l0)) (mLd_st1_ref (by decide) (mLd_st1_ref (by decide) l2)) (mLd_st1_int (by decide) (mLd_st1_int (by decide) l3)) (mLd_st1_int (by decide) mLd_st1_i) mLd_st1_i h3 (by omega) hS (Or.inr g4) (by rw [g5, ea]) (by omega) (by omega) (i01 h01) hT h
            refine done 1 (by rw [a]; rfl) ?_
            rw [g4] at z
            exact z
      · have eC : i = C := by omega
        subst eC
        have ew := hR.1.2.1
        rw [← ix] at ew
        have g4 : (iv M 153 x3.toInt.toNat >>> (Int32.ofInt 20 &&& 31)).toInt = 59 := by rw [shr_20, ew]; decide
        replace h := eLsw (o := 57) (t := 96) (mi := 66) (pc := 39) (len := 57) rfl (by rw [g4]; rfl) rfl h
        have m1 : m = 1 := by
          rcases hC with q | q
          · have := hI.pos (by omega)
            omega
          · exact (hI.one q).1
        subst m1
        have z := ru_en152 (m := 0) (mLd_st1_ref (by decide) (mLd_st1_ref (by decide) l0)) (mLd_st1_ref (by decide) (mLd_st1_ref (by decide) l2)) (mLd_st1_int (by decide) (mLd_st1_int (by decide) l3)) (mLd_st1_int (by decide) mLd_st1_i) mLd_st1_i h3 (by have := hR.1; omega) hS hT h
        exact ⟨1, _, ev_end (Nat.le_refl _), z⟩
theorem run152_en {F ty : Nat → Int} {fc : Nat → Int32} {b0 C : Nat} {sh : Int} (hty : ∀ i, b0 ≤ i → i < C → tyOk F ty (fun _ => False) C i ∧ ty i ≤ 16) (hC : ty C = 1 ∨ ty C = -1) (h0 : ty b0 = 0) (hbC : b0 ≤ C) {n d : Nat} {M : Mem} {r : Option Value} {M1 : Mem} {x3 : Int32} (h3 : x3.toInt = (b0 : Int) + sh) (hS : Sh M) (hR : RS 152 153 F fc b0 C sh M) (h : En n d 66 0 (lv_args 0 [.ref 152, .int x3, .ref 172]) [] M r M1) : ∃ k v, ev F fc C k (b0, 0, fun _ => 0) = some v ∧ r = some (.int v) ∧ Sh M1 ∧ FrA 152 157 M M1 := by
  replace h := eAload (mi := 66) (pc := 0) (len := 1) (i := 0) rfl rfl h
  replace h := eConst (mi := 66) (pc := 1) (len := 1) (v := 0) rfl h
  obtain ⟨N1, eN1⟩ : ∃ X_, X_ = mPut M 152 7 (.int (0 : Int32)) := ⟨_, rfl⟩
  replace h := ePutE (a := 152) (f := 7) (N := N1) rfl eN1 (mi := 66) (pc := 2) (len := 3) (j := 407) rfl h
  have hS2 : Sh N1 := by rw [eN1]; exact hS.put (by decide) (by decide) rfl
  replace h := eIload (mi := 66) (pc := 5) (len := 1) (i := 1) rfl rfl h
  replace h := eIstore (mi := 66) (pc := 6) (len := 1) (i := 3) rfl (by decide) h
  have f1 : FrA 152 157 M N1 := fun c i h1 h2 => by rw [eN1, mSlot_put_ne (by omega)]
  obtain ⟨k, v, w1, w2, w3, w4⟩ := run152_lp hty hC _ _ _ _ _ _ _ b0 0 (fun _ => 0) rfl rfl rfl h3 hS2 (hR.fr f1 (show 153 ≠ 152 ∧ 153 ≠ 157 ∧ 152 ≠ 157 ∧ 172 ≠ 152 ∧ 172 ≠ 157 by decide)) ⟨by rw [eN1, iv_put_eq hS (by decide) (by decide) (by decide)]; rfl, fun k hk => absurd hk (by omega)⟩ (Nat.le_refl _) hbC (TI.mk (by omega) (by omega)) h
  exact ⟨k, v, w1, w2, w3, f1.tr w4⟩

/-! law 158 -/
theorem push158_en {v : Int32} {m : Nat} {s : Nat → Int32} {n d : Nat} {M : Mem} {r : Option Value} {M1 : Mem} (hS : Sh M) (hT : HT 158 163 M m s) (hm : m < 40) (h : En n d 68 0 (lv_args 0 [.ref 158, .int v]) [] M r M1) : r = none ∧ Sh M1 ∧ HT 158 163 M1 (m + 1) (sUp s m v) ∧ FrA 158 163 M M1 := by
  have h0 := hT.1
  replace h := eAload (mi := 68) (pc := 0) (len := 1) (i := 0) rfl rfl h
  replace h := eGetI (a := 158) (j := 407) hS (by decide) (by decide) rfl (mi := 68) (pc := 1) (len := 3) rfl h
  replace h := eConst (mi := 68) (pc := 4) (len := 2) (v := 40) rfl h
  rcases eIc (mi := 68) (pc := 6) (len := 3) (t := 29) rfl rfl h with ⟨c1, h⟩ | ⟨c1, h⟩
  · replace c1 : ¬ (iv M 158 7).toInt < 40 := mC_ge.1 c1
    omega
  · replace c1 : (iv M 158 7).toInt < 40 := mC_ge.2 c1
    replace h := eAload (mi := 68) (pc := 9) (len := 1) (i := 0) rfl rfl h
    replace h := eGetR (a := 158) (j := 406) (g := 163) hS (by decide) (by decide) rfl rfl rfl (mi := 68) (pc := 10) (len := 3) rfl h
    replace h := eAload (mi := 68) (pc := 13) (len := 1) (i := 0) rfl rfl h
    replace h := eGetI (a := 158) (j := 407) hS (by decide) (by decide) rfl (mi := 68) (pc := 14) (len := 3) rfl h
    replace h := eIload (mi := 68) (pc := 17) (len := 1) (i := 1) rfl rfl h
    obtain ⟨N3, eN3⟩ : ∃ X_, X_ = mPut M 163 (iv M 158 7).toInt.toNat (.int v) := ⟨_, rfl⟩
    obtain ⟨b2, h⟩ := eIast (x := (iv M 158 7)) (N := N3) hS (a := 163) (by decide) (by decide) eN3 (mi := 68) (pc := 18) (len := 1) rfl h
    have hS4 : Sh N3 := by rw [eN3]; exact hS.put (by decide) (by decide) rfl
    replace h := eAload (mi := 68) (pc := 19) (len := 1) (i := 0) rfl rfl h
    replace h := eDupR (mi := 68) (pc := 20) (len := 1) rfl h
    replace h := eGetI (a := 158) (j := 407) hS4 (by decide) (by decide) rfl (mi := 68) (pc := 21) (len := 3) rfl h
    replace h := eConst (mi := 68) (pc := 24) (len := 1) (v := 1) rfl h
    replace h := eAdd (mi := 68) (pc := 25) (len := 1) rfl h
    obtain ⟨N5, eN5⟩ : ∃ X_, X_ = mPut N3 158 7 (.int ((iv N3 158 7) + (1 : Int32))) := ⟨_, rfl⟩
    replace h := ePutE (a := 158) (f := 7) (N := N5) rfl eN5 (mi := 68) (pc := 26) (len := 3) (j := 407) rfl h
    have hS6 : Sh N5 := by rw [eN5]; exact hS4.put (by decide) (by decide) rfl
    obtain ⟨e1, e2⟩ := eRetV (mi := 68) (pc := 29) (len := 1) rfl h
    have i1 : (iv M 158 7).toInt.toNat = m := by omega
    rw [i1] at eN3
    have a1 : iv N3 158 7 = iv M 158 7 := by rw [eN3, iv_put_ne (Or.inl (by decide))]
    rw [a1] at eN5
    rw [e2]
    refine ⟨e1, hS6, ⟨?_, fun k hk => ?_⟩, fun c i h1 h2 => ?_⟩
    · rw [eN5, iv_put_eq hS4 (by decide) (by decide) (by decide)]
      exact (ic1 h0 (by omega) (by omega)).trans (by omega)
    · rw [eN5, iv_put_ne (Or.inl (by decide)), eN3]
      by_cases c : k = m
      · rw [c, iv_put_eq hS (by decide) (by decide) (show m < tSiz (tGrp 163) from hm), sUp_eq]
      · rw [iv_put_ne (Or.inr c), sUp_ne c]
        exact hT.2 k (by omega)
    · rw [eN5, mSlot_put_ne (by omega), eN3, mSlot_put_ne (Or.inl h2)]
theorem pop158_en {m : Nat} {s : Nat → Int32} {n d : Nat} {M : Mem} {r : Option Value} {M1 : Mem} (hS : Sh M) (hm : m < 40) (hT : HT 158 163 M (m + 1) s) (h : En n d 69 0 (lv_args 0 [.ref 158]) [] M r M1) : r = some (.int (s m)) ∧ Sh M1 ∧ HT 158 163 M1 m s ∧ FrA 158 163 M M1 := by
  have h0 := hT.1
  replace h := eAload (mi := 69) (pc := 0) (len := 1) (i := 0) rfl rfl h
  replace h := eGetI (a := 158) (j := 407) hS (by decide) (by decide) rfl (mi := 69) (pc := 1) (len := 3) rfl h
  rcases eIf (mi := 69) (pc := 4) (len := 3) (t := 9) rfl rfl h with ⟨c1, h⟩ | ⟨c1, h⟩
  · replace c1 : ¬ (iv M 158 7).toInt = 0 := mC_ne.1 c1
    replace h := eAload (mi := 69) (pc := 9) (len := 1) (i := 0) rfl rfl h
    replace h := eDupR (mi := 69) (pc := 10) (len := 1) rfl h
    replace h := eGetI (a := 158) (j := 407) hS (by decide) (by decide) rfl (mi := 69) (pc := 11) (len := 3) rfl h
    replace h := eConst (mi := 69) (pc := 14) (len := 1) (v := 1) rfl h
    replace h := eSub (mi := 69) (pc := 15) (len := 1) rfl h
    obtain ⟨N2, eN2⟩ : ∃ X_, X_ = mPut M 158 7 (.int ((iv M 158 7) - (1 : Int32))) := ⟨_, rfl⟩
    replace h := ePutE (a := 158) (f := 7) (N := N2) rfl eN2 (mi := 69) (pc := 16) (len := 3) (j := 407) rfl h
    have hS3 : Sh N2 := by rw [eN2]; exact hS.put (by decide) (by decide) rfl
    replace h := eAload (mi := 69) (pc := 19) (len := 1) (i := 0) rfl rfl h
    replace h := eGetR (a := 158) (j := 406) (g := 163) hS3 (by decide) (by decide) rfl rfl rfl (mi := 69) (pc := 20) (len := 3) rfl h
    replace h := eAload (mi := 69) (pc := 23) (len := 1) (i := 0) rfl rfl h
    replace h := eGetI (a := 158) (j := 407) hS3 (by decide) (by decide) rfl (mi := 69) (pc := 24) (len := 3) rfl h
    obtain ⟨b4, h⟩ := eIald (x := (iv N2 158 7)) hS3 (a := 163) (by decide) (by decide) rfl (mi := 69) (pc := 27) (len := 1) rfl h
    obtain ⟨e1, e2⟩ := eRetI (mi := 69) (pc := 28) (len := 1) rfl h
    have a1 : (iv N2 158 7).toInt = (m : Int) := by
      rw [eN2, iv_put_eq hS (by decide) (by decide) (by decide)]
      exact (dc1 h0 (by omega) (by omega)).trans (by omega)
    have a2 : (iv N2 158 7).toInt.toNat = m := by omega
    rw [a2] at e1
    have a3 : iv N2 163 m = s m := by rw [eN2, iv_put_ne (Or.inl (by decide))]; exact hT.2 m (by omega)
    rw [a3] at e1
    rw [e2]
    exact ⟨e1, hS3, ⟨a1, fun k hk => by rw [eN2, iv_put_ne (Or.inl (by decide))]; exact hT.2 k (by omega)⟩, fun c i h1 h2 => by rw [eN2, mSlot_put_ne (by omega)]⟩
  · replace c1 : (iv M 158 7).toInt = 0 := mC_ne.2 c1
    replace h := eConst (mi := 69) (pc := 7) (len := 1) (v := 0) rfl h
    omega
theorem ru_nu158 {n d : Nat} {L : MLoc} {M : Mem} {r : Option Value} {M1 : Mem} {x3 x4 x5 : Int32} {y : Int} {m : Nat} {s : Nat → Int32} (l0 : mLd L 0 = some (.ref 158)) (l2 : mLd L 2 = some (.ref 172)) (l3 : mLd L 3 = some (.int x3)) (l4 : mLd L 4 = some (.int x4)) (l5 : mLd L 5 = some (.int x5)) (h3 : x3.toInt = y) (hy : 0 ≤ y ∧ y ≤ 1000) (hS : Sh M) (hm : m < 40) (hT : HT 158 163 M m s) (h : En n d 66 101 L [] M r M1) : RN 158 163 n d M r M1 (y + 1) (m + 1) (sUp s m x5) := by
  replace h := eAload (mi := 66) (pc := 101) (len := 1) (i := 0) rfl l0 h
  replace h := eIload (mi := 66) (pc := 102) (len := 2) (i := 5) rfl l5 h
  obtain ⟨r1, N2, g3, h⟩ := eCall (mi := 66) (pc := 104) (len := 3) (j := 68) (as := [.ref 158, .int x5]) (rest := []) rfl (Or.inr (Or.inl rfl)) (by decide) rfl rfl h
  obtain ⟨qN2, hSN2, hTN2, hFN2⟩ := push158_en (m := m) hS hT (by omega) g3
  rw [qN2] at h
  replace h := eGoto (mi := 66) (pc := 107) (len := 3) (t := 236) rfl rfl h
  replace h := eIinc (mi := 66) (pc := 236) (len := 3) (i := 3) (k := 1) rfl l3 (by decide) h
  replace h := eGoto (mi := 66) (pc := 239) (len := 3) (t := 7) rfl rfl h
  exact ⟨_, N2, _, ⟨(mLd_st1_ref (by decide) l0), (mLd_st1_ref (by decide) l2), mLd_st1_i, ic1 h3 (by omega) (by omega)⟩, hSN2, hTN2, hFN2, h⟩
theorem ru_le158 {n d : Nat} {L : MLoc} {M : Mem} {r : Option Value} {M1 : Mem} {x3 x4 x5 : Int32} {y : Int} {m : Nat} {s : Nat → Int32} (l0 : mLd L 0 = some (.ref 158)) (l2 : mLd L 2 = some (.ref 172)) (l3 : mLd L 3 = some (.int x3)) (l4 : mLd L 4 = some (.int x4)) (l5 : mLd L 5 = some (.int x5)) (h3 : x3.toInt = y) (hy : 0 ≤ y ∧ y ≤ 1000) (hS : Sh M) (hm : m < 40) (h5 : 0 ≤ x5.toInt ∧ x5.toInt < 26) (hT : HT 158 163 M m s) (h : En n d 66 110 L [] M r M1) : RN 158 163 n d M r M1 (y + 1) (m + 1) (sUp s m (iv M 172 x5.toInt.toNat)) := by
  replace h := eAload (mi := 66) (pc := 110) (len := 1) (i := 0) rfl l0 h
  replace h := eIload (mi := 66) (pc := 111) (len := 2) (i := 5) rfl l5 h
  replace h := eConst (mi := 66) (pc := 113) (len := 2) (v := 26) rfl h
  rcases eIc (mi := 66) (pc := 115) (len := 3) (t := 125) rfl rfl h with ⟨c1, h⟩ | ⟨c1, h⟩
  · replace c1 : ¬ x5.toInt < 26 := mC_ge.1 c1
    replace h := eConst (mi := 66) (pc := 125) (len := 1) (v := 0) rfl h
    obtain ⟨r2, N3, g4, h⟩ := eCall (mi := 66) (pc := 126) (len := 3) (j := 68) (as := [.ref 158, .int (0 : Int32)]) (rest := []) rfl (Or.inr (Or.inl rfl)) (by decide) rfl rfl h
    obtain ⟨qN3, hSN3, hTN3, hFN3⟩ := push158_en (m := m) hS hT (by omega) g4
    rw [qN3] at h
    replace h := eGoto (mi := 66) (pc := 129) (len := 3) (t := 236) rfl rfl h
    replace h := eIinc (mi := 66) (pc := 236) (len := 3) (i := 3) (k := 1) rfl l3 (by decide) h
    replace h := eGoto (mi := 66) (pc := 239) (len := 3) (t := 7) rfl rfl h
    omega
  · replace c1 : x5.toInt < 26 := mC_ge.2 c1
    replace h := eAload (mi := 66) (pc := 118) (len := 1) (i := 2) rfl l2 h
    replace h := eIload (mi := 66) (pc := 119) (len := 2) (i := 5) rfl l5 h
    obtain ⟨b5, h⟩ := eIald (x := x5) hS (a := 172) (by decide) (by decide) rfl (mi := 66) (pc := 121) (len := 1) rfl h
    replace h := eGoto (mi := 66) (pc := 122) (len := 3) (t := 126) rfl rfl h
    obtain ⟨r6, N7, g8, h⟩ := eCall (mi := 66) (pc := 126) (len := 3) (j := 68) (as := [.ref 158, .int (iv M 172 x5.toInt.toNat)]) (rest := []) rfl (Or.inr (Or.inl rfl)) (by decide) rfl rfl h
    obtain ⟨qN7, hSN7, hTN7, hFN7⟩ := push158_en (m := m) hS hT (by omega) g8
    rw [qN7] at h
    replace h := eGoto (mi := 66) (pc := 129) (len := 3) (t := 236) rfl rfl h
    replace h := eIinc (mi := 66) (pc := 236) (len := 3) (i := 3) (k := 1) rfl l3 (by decide) h
    replace h := eGoto (mi := 66) (pc := 239) (len := 3) (t := 7) rfl rfl h
    exact ⟨_, N7, _, ⟨(mLd_st1_ref (by decide) l0), (mLd_st1_ref (by decide) l2), mLd_st1_i, ic1 h3 (by omega) (by omega)⟩, hSN7, hTN7, hFN7, h⟩
theorem ru_no158 {n d : Nat} {L : MLoc} {M : Mem} {r : Option Value} {M1 : Mem} {x3 x4 x5 : Int32} {y : Int} {m : Nat} {s : Nat → Int32} (l0 : mLd L 0 = some (.ref 158)) (l2 : mLd L 2 = some (.ref 172)) (l3 : mLd L 3 = some (.int x3)) (l4 : mLd L 4 = some (.int x4)) (l5 : mLd L 5 = some (.int x5)) (h3 : x3.toInt = y) (hy : 0 ≤ y ∧ y ≤ 1000) (hS : Sh M) (hT : HT 158 163 M 1 s) (h : En n d 66 132 L [] M r M1) : RN 158 163 n d M r M1 (y + 1) 1 (sUp s 0 (1 - s 0)) := by
  replace h := eAload (mi := 66) (pc := 132) (len := 1) (i := 0) rfl l0 h
  replace h := eConst (mi := 66) (pc := 133) (len := 1) (v := 1) rfl h
  replace h := eAload (mi := 66) (pc := 134) (len := 1) (i := 0) rfl l0 h
  obtain ⟨r1, N2, g3, h⟩ := eCall (mi := 66) (pc := 135) (len := 3) (j := 69) (as := [.ref 158]) (rest := [.int (1 : Int32), .ref 158]) rfl (Or.inr (Or.inl rfl)) (by decide) rfl rfl h
  obtain ⟨qN2, hSN2, hTN2, hFN2⟩ := pop158_en (m := 0) hS (by omega) hT g3
  rw [qN2] at h
  replace h := eSub (mi := 66) (pc := 138) (len := 1) rfl h
  obtain ⟨r4, N5, g6, h⟩ := eCall (mi := 66) (pc := 139) (len := 3) (j := 68) (as := [.ref 158, .int ((1 : Int32) - (s (0)))]) (rest := []) rfl (Or.inr (Or.inl rfl)) (by decide) rfl rfl h
  obtain ⟨qN5, hSN5, hTN5, hFN5⟩ := push158_en (m := 0) hSN2 hTN2 (by omega) g6
  rw [qN5] at h
  replace h := eGoto (mi := 66) (pc := 142) (len := 3) (t := 236) rfl rfl h
  replace h := eIinc (mi := 66) (pc := 236) (len := 3) (i := 3) (k := 1) rfl l3 (by decide) h
  replace h := eGoto (mi := 66) (pc := 239) (len := 3) (t := 7) rfl rfl h
  exact ⟨_, N5, _, ⟨(mLd_st1_ref (by decide) l0), (mLd_st1_ref (by decide) l2), mLd_st1_i, ic1 h3 (by omega) (by omega)⟩, hSN5, hTN5, (hFN2.tr hFN5), h⟩
theorem ru_ju158 {n d : Nat} {L : MLoc} {M : Mem} {r : Option Value} {M1 : Mem} {x3 x4 x5 : Int32} {y : Int} {m : Nat} {s : Nat → Int32} {b : Int} (l0 : mLd L 0 = some (.ref 158)) (l2 : mLd L 2 = some (.ref 172)) (l3 : mLd L 3 = some (.int x3)) (l4 : mLd L 4 = some (.int x4)) (l5 : mLd L 5 = some (.int x5)) (h3 : x3.toInt = y) (hy : 0 ≤ y ∧ y ≤ 1000) (hS : Sh M) (h4 : x4.toInt = 38 ∨ x4.toInt = 124) (h5 : x5.toInt = b) (hyb : y < b) (hb : b ≤ 1000) (h01 : (s 0).toInt = 0 ∨ (s 0).toInt = 1) (hT : HT 158 163 M 1 s) (h : En n d 66 145 L [] M r M1) : if (s 0).toInt = (if x4.toInt = 124 then 1 else 0) then RN 158 163 n d M r M1 b 1 s else RN 158 163 n d M r M1 (y + 1) 0 s := by
  replace h := eAload (mi := 66) (pc := 145) (len := 1) (i := 0) rfl l0 h
  obtain ⟨r1, N2, g3, h⟩ := eCall (mi := 66) (pc := 146) (len := 3) (j := 69) (as := [.ref 158]) (rest := []) rfl (Or.inr (Or.inl rfl)) (by decide) rfl rfl h
  obtain ⟨qN2, hSN2, hTN2, hFN2⟩ := pop158_en (m := 0) hS (by omega) hT g3
  rw [qN2] at h
  replace h := eIstore (mi := 66) (pc := 149) (len := 2) (i := 6) rfl (by decide) h
  replace h := eIload (mi := 66) (pc := 151) (len := 2) (i := 6) rfl mLd_st1_i h
  rcases eIf (mi := 66) (pc := 153) (len := 3) (t := 160) rfl rfl h with ⟨c4, h⟩ | ⟨c4, h⟩
  · replace c4 : (s (0)).toInt = 0 := mC_eq.1 c4
    replace h := eConst (mi := 66) (pc := 160) (len := 1) (v := 0) rfl h
    replace h := eIload (mi := 66) (pc := 161) (len := 2) (i := 4) rfl (mLd_st1_int (by decide) l4) h
    replace h := eConst (mi := 66) (pc := 163) (len := 2) (v := 124) rfl h
    rcases eIc (mi := 66) (pc := 165) (len := 3) (t := 172) rfl rfl h with ⟨c5, h⟩ | ⟨c5, h⟩
    · replace c5 : ¬ x4.toInt = 124 := mC_ne.1 c5
      replace h := eConst (mi := 66) (pc := 172) (len := 1) (v := 0) rfl h
      rcases eIc (mi := 66) (pc := 173) (len := 3) (t := 236) rfl rfl h with ⟨c6, h⟩ | ⟨c6, h⟩
      · exact absurd c6 (by decide)
      · skip
        replace h := eAload (mi := 66) (pc := 176) (len := 1) (i := 0) rfl (mLd_st1_ref (by decide) l0) h
        replace h := eIload (mi := 66) (pc := 177) (len := 2) (i := 6) rfl mLd_st1_i h
        obtain ⟨r7, N8, g9, h⟩ := eCall (mi := 66) (pc := 179) (len := 3) (j := 68) (as := [.ref 158, .int (s (0))]) (rest := []) rfl (Or.inr (Or.inl rfl)) (by decide) rfl rfl h
        obtain ⟨qN8, hSN8, hTN8, hFN8⟩ := push158_en (m := 0) hSN2 hTN2 (by omega) g9
        rw [qN8] at h
        replace h := eIload (mi := 66) (pc := 182) (len := 1) (i := 3) rfl (mLd_st1_int (by decide) l3) h
        replace h := eIload (mi := 66) (pc := 183) (len := 2) (i := 5) rfl (mLd_st1_int (by decide) l5) h
        replace h := eConst (mi := 66) (pc := 185) (len := 1) (v := 1) rfl h
        replace h := eSub (mi := 66) (pc := 186) (len := 1) rfl h
        replace h := eMax (mi := 66) (pc := 187) (len := 3) rfl h
        replace h := eIstore (mi := 66) (pc := 190) (len := 1) (i := 3) rfl (by decide) h
        replace h := eGoto (mi := 66) (pc := 191) (len := 3) (t := 236) rfl rfl h
        replace h := eIinc (mi := 66) (pc := 236) (len := 3) (i := 3) (k := 1) rfl mLd_st1_i (by decide) h
        replace h := eGoto (mi := 66) (pc := 239) (len := 3) (t := 7) rfl rfl h
        rw [if_pos (by rcases h4 with h4 | h4 <;> (first | (rw [if_neg (by omega)]; omega) | (rw [if_pos h4]; omega)))]
        exact ⟨_, N8, _, ⟨(mLd_st1_ref (by decide) (mLd_st1_ref (by decide) (mLd_st1_ref (by decide) l0))), (mLd_st1_ref (by decide) (mLd_st1_ref (by decide) (mLd_st1_ref (by decide) l2))), mLd_st1_i, mx_jump h3 h5 hy.1 hyb (by omega)⟩, hSN8, hTN8.cg (fun k hk => by rw [show k = 0 by omega, sUp_eq]), (hFN2.tr hFN8), h⟩
    · replace c5 : x4.toInt = 124 := mC_ne.2 c5
      replace h := eConst (mi := 66) (pc := 168) (len := 1) (v := 1) rfl h
      replace h := eGoto (mi := 66) (pc := 169) (len := 3) (t := 173) rfl rfl h
      rcases eIc (mi := 66) (pc := 173) (len := 3) (t := 236) rfl rfl h with ⟨c10, h⟩ | ⟨c10, h⟩
      · skip
        replace h := eIinc (mi := 66) (pc := 236) (len := 3) (i := 3) (k := 1) rfl (mLd_st1_int (by decide) l3) (by decide) h
        replace h := eGoto (mi := 66) (pc := 239) (len := 3) (t := 7) rfl rfl h
        rw [if_neg (by rcases h4 with h4 | h4 <;> (first | (rw [if_neg (by omega)]; omega) | (rw [if_pos h4]; omega)))]
        exact ⟨_, N2, _, ⟨(mLd_st1_ref (by decide) (mLd_st1_ref (by decide) l0)), (mLd_st1_ref (by decide) (mLd_st1_ref (by decide) l2)), mLd_st1_i, ic1 h3 (by omega) (by omega)⟩, hSN2, hTN2, hFN2, h⟩
      · exact absurd c10 (by decide)
  · replace c4 : ¬ (s (0)).toInt = 0 := mC_eq.2 c4
    replace h := eConst (mi := 66) (pc := 156) (len := 1) (v := 1) rfl h
    replace h := eGoto (mi := 66) (pc := 157) (len := 3) (t := 161) rfl rfl h
    replace h := eIload (mi := 66) (pc := 161) (len := 2) (i := 4) rfl (mLd_st1_int (by decide) l4) h
    replace h := eConst (mi := 66) (pc := 163) (len := 2) (v := 124) rfl h
    rcases eIc (mi := 66) (pc := 165) (len := 3) (t := 172) rfl rfl h with ⟨c11, h⟩ | ⟨c11, h⟩
    · replace c11 : ¬ x4.toInt = 124 := mC_ne.1 c11
      replace h := eConst (mi := 66) (pc := 172) (len := 1) (v := 0) rfl h
      rcases eIc (mi := 66) (pc := 173) (len := 3) (t := 236) rfl rfl h with ⟨c12, h⟩ | ⟨c12, h⟩
      · skip
        replace h := eIinc (mi := 66) (pc := 236) (len := 3) (i := 3) (k := 1) rfl (mLd_st1_int (by decide) l3) (by decide) h
        replace h := eGoto (mi := 66) (pc := 239) (len := 3) (t := 7) rfl rfl h
        rw [if_neg (by rcases h4 with h4 | h4 <;> (first | (rw [if_neg (by omega)]; omega) | (rw [if_pos h4]; omega)))]
        exact ⟨_, N2, _, ⟨(mLd_st1_ref (by decide) (mLd_st1_ref (by decide) l0)), (mLd_st1_ref (by decide) (mLd_st1_ref (by decide) l2)), mLd_st1_i, ic1 h3 (by omega) (by omega)⟩, hSN2, hTN2, hFN2, h⟩
      · exact absurd c12 (by decide)
    · replace c11 : x4.toInt = 124 := mC_ne.2 c11
      replace h := eConst (mi := 66) (pc := 168) (len := 1) (v := 1) rfl h
      replace h := eGoto (mi := 66) (pc := 169) (len := 3) (t := 173) rfl rfl h
      rcases eIc (mi := 66) (pc := 173) (len := 3) (t := 236) rfl rfl h with ⟨c13, h⟩ | ⟨c13, h⟩
      · exact absurd c13 (by decide)
      · skip
        replace h := eAload (mi := 66) (pc := 176) (len := 1) (i := 0) rfl (mLd_st1_ref (by decide) l0) h
        replace h := eIload (mi := 66) (pc := 177) (len := 2) (i := 6) rfl mLd_st1_i h
        obtain ⟨r14, N15, g16, h⟩ := eCall (mi := 66) (pc := 179) (len := 3) (j := 68) (as := [.ref 158, .int (s (0))]) (rest := []) rfl (Or.inr (Or.inl rfl)) (by decide) rfl rfl h
        obtain ⟨qN15, hSN15, hTN15, hFN15⟩ := push158_en (m := 0) hSN2 hTN2 (by omega) g16
        rw [qN15] at h
        replace h := eIload (mi := 66) (pc := 182) (len := 1) (i := 3) rfl (mLd_st1_int (by decide) l3) h
        replace h := eIload (mi := 66) (pc := 183) (len := 2) (i := 5) rfl (mLd_st1_int (by decide) l5) h
        replace h := eConst (mi := 66) (pc := 185) (len := 1) (v := 1) rfl h
        replace h := eSub (mi := 66) (pc := 186) (len := 1) rfl h
        replace h := eMax (mi := 66) (pc := 187) (len := 3) rfl h
        replace h := eIstore (mi := 66) (pc := 190) (len := 1) (i := 3) rfl (by decide) h
        replace h := eGoto (mi := 66) (pc := 191) (len := 3) (t := 236) rfl rfl h
        replace h := eIinc (mi := 66) (pc := 236) (len := 3) (i := 3) (k := 1) rfl mLd_st1_i (by decide) h
        replace h := eGoto (mi := 66) (pc := 239) (len := 3) (t := 7) rfl rfl h
        rw [if_pos (by rcases h4 with h4 | h4 <;> (first | (rw [if_neg (by omega)]; omega) | (rw [if_pos h4]; omega)))]
        exact ⟨_, N15, _, ⟨(mLd_st1_ref (by decide) (mLd_st1_ref (by decide) (mLd_st1_ref (by decide) l0))), (mLd_st1_ref (by decide) (mLd_st1_ref (by decide) (mLd_st1_ref (by decide) l2))), mLd_st1_i, mx_jump h3 h5 hy.1 hyb (by omega)⟩, hSN15, hTN15.cg (fun k hk => by rw [show k = 0 by omega, sUp_eq]), (hFN2.tr hFN15), h⟩
theorem ru_rk158 {n d : Nat} {L : MLoc} {M : Mem} {r : Option Value} {M1 : Mem} {x3 x4 x5 : Int32} {y : Int} {m : Nat} {s : Nat → Int32} {op : Int} (l0 : mLd L 0 = some (.ref 158)) (l2 : mLd L 2 = some (.ref 172)) (l3 : mLd L 3 = some (.int x3)) (l4 : mLd L 4 = some (.int x4)) (l5 : mLd L 5 = some (.int x5)) (h3 : x3.toInt = y) (hy : 0 ≤ y ∧ y ≤ 1000) (hS : Sh M) (hm : m + 2 < 40) (ho : 2 ≤ op ∧ op ≤ 9) (h4 : x4.toInt = sgC op) (hT : HT 158 163 M (m + 2) s) (h : En n d 66 194 L [] M r M1) : if (op = 5 ∨ op = 6) ∧ s (m + 1) = 0 then (r = some (.int 0) ∧ Sh M1 ∧ FrA 158 163 M M1) else RN 158 163 n d M r M1 (y + 1) (m + 1) (sUp s m (rkO op (s m) (s (m + 1)))) := by
  have hop : op = 2 ∨ op = 3 ∨ op = 4 ∨ op = 5 ∨ op = 6 ∨ op = 7 ∨ op = 8 ∨ op = 9 := by omega
  replace h := eAload (mi := 66) (pc := 194) (len := 1) (i := 0) rfl l0 h
  obtain ⟨r1, N2, g3, h⟩ := eCall (mi := 66) (pc := 195) (len := 3) (j := 69) (as := [.ref 158]) (rest := []) rfl (Or.inr (Or.inl rfl)) (by decide) rfl rfl h
  obtain ⟨qN2, hSN2, hTN2, hFN2⟩ := pop158_en (m := m + 1) hS (by omega) hT g3
  rw [qN2] at h
  replace h := eIstore (mi := 66) (pc := 198) (len := 2) (i := 7) rfl (by decide) h
  replace h := eIload (mi := 66) (pc := 200) (len := 2) (i := 7) rfl mLd_st1_i h
  rcases eIf (mi := 66) (pc := 202) (len := 3) (t := 221) rfl rfl h with ⟨c4, h⟩ | ⟨c4, h⟩
  · replace c4 : ¬ (s (m + 1)).toInt = 0 := mC_ne.1 c4
    have hyz : op = 5 ∨ op = 6 → ¬ s (m + 1) = 0 := fun _ q => c4 (by rw [q]; rfl)
    replace h := eAload (mi := 66) (pc := 221) (len := 1) (i := 0) rfl (mLd_st1_ref (by decide) l0) h
    replace h := eIload (mi := 66) (pc := 222) (len := 2) (i := 4) rfl (mLd_st1_int (by decide) l4) h
    replace h := eAload (mi := 66) (pc := 224) (len := 1) (i := 0) rfl (mLd_st1_ref (by decide) l0) h
    obtain ⟨r5, N6, g7, h⟩ := eCall (mi := 66) (pc := 225) (len := 3) (j := 69) (as := [.ref 158]) (rest := [.int x4, .ref 158]) rfl (Or.inr (Or.inl rfl)) (by decide) rfl rfl h
    obtain ⟨qN6, hSN6, hTN6, hFN6⟩ := pop158_en (m := m) hSN2 (by omega) hTN2 g7
    rw [qN6] at h
    replace h := eIload (mi := 66) (pc := 228) (len := 2) (i := 7) rfl mLd_st1_i h
    obtain ⟨r8, N9, g10, h⟩ := eCall (mi := 66) (pc := 230) (len := 3) (j := 67) (as := [.int x4, .int (s (m)), .int (s (m + 1))]) (rest := [.ref 158]) rfl (Or.inl rfl) (by decide) rfl rfl h
    obtain ⟨qN9, wN9⟩ := rkC_en (op := op) ho h4 hyz g10
    rw [qN9, wN9] at h
    obtain ⟨r11, N12, g13, h⟩ := eCall (mi := 66) (pc := 233) (len := 3) (j := 68) (as := [.ref 158, .int (rkO op (s (m)) (s (m + 1)))]) (rest := []) rfl (Or.inr (Or.inl rfl)) (by decide) rfl rfl h
    obtain ⟨qN12, hSN12, hTN12, hFN12⟩ := push158_en (m := m) hSN6 hTN6 (by omega) g13
    rw [qN12] at h
    replace h := eIinc (mi := 66) (pc := 236) (len := 3) (i := 3) (k := 1) rfl (mLd_st1_int (by decide) l3) (by decide) h
    replace h := eGoto (mi := 66) (pc := 239) (len := 3) (t := 7) rfl rfl h
    rw [if_neg (fun q => hyz q.1 q.2)]
    exact ⟨_, N12, _, ⟨(mLd_st1_ref (by decide) (mLd_st1_ref (by decide) l0)), (mLd_st1_ref (by decide) (mLd_st1_ref (by decide) l2)), mLd_st1_i, ic1 h3 (by omega) (by omega)⟩, hSN12, hTN12, ((hFN2.tr hFN6).tr hFN12), h⟩
  · replace c4 : (s (m + 1)).toInt = 0 := mC_ne.2 c4
    replace h := eIload (mi := 66) (pc := 205) (len := 2) (i := 4) rfl (mLd_st1_int (by decide) l4) h
    replace h := eConst (mi := 66) (pc := 207) (len := 2) (v := 47) rfl h
    rcases eIc (mi := 66) (pc := 209) (len := 3) (t := 219) rfl rfl h with ⟨c14, h⟩ | ⟨c14, h⟩
    · replace c14 : x4.toInt = 47 := mC_eq.1 c14
      replace h := eConst (mi := 66) (pc := 219) (len := 1) (v := 0) rfl h
      obtain ⟨e1, e2⟩ := eRetI (mi := 66) (pc := 220) (len := 1) rfl h
      rw [if_pos ⟨by rcases hop with q | q | q | q | q | q | q | q <;> (subst q; first | exact Or.inl rfl | exact Or.inr rfl | (exfalso; have q : x4.toInt = _ := h4; simp only [sgC] at q; omega)), i0_of c4⟩]
      rw [e2]
      exact ⟨e1, hSN2, hFN2⟩
    · replace c14 : ¬ x4.toInt = 47 := mC_eq.2 c14
      replace h := eIload (mi := 66) (pc := 212) (len := 2) (i := 4) rfl (mLd_st1_int (by decide) l4) h
      replace h := eConst (mi := 66) (pc := 214) (len := 2) (v := 37) rfl h
      rcases eIc (mi := 66) (pc := 216) (len := 3) (t := 221) rfl rfl h with ⟨c15, h⟩ | ⟨c15, h⟩
      · replace c15 : ¬ x4.toInt = 37 := mC_ne.1 c15
        have hyz : op = 5 ∨ op = 6 → ¬ s (m + 1) = 0 := fun q => by rcases q with q | q <;> (rw [q] at h4; first | exact absurd h4 c14 | exact absurd h4 c15)
        replace h := eAload (mi := 66) (pc := 221) (len := 1) (i := 0) rfl (mLd_st1_ref (by decide) l0) h
        replace h := eIload (mi := 66) (pc := 222) (len := 2) (i := 4) rfl (mLd_st1_int (by decide) l4) h
        replace h := eAload (mi := 66) (pc := 224) (len := 1) (i := 0) rfl (mLd_st1_ref (by decide) l0) h
        obtain ⟨r16, N17, g18, h⟩ := eCall (mi := 66) (pc := 225) (len := 3) (j := 69) (as := [.ref 158]) (rest := [.int x4, .ref 158]) rfl (Or.inr (Or.inl rfl)) (by decide) rfl rfl h
        obtain ⟨qN17, hSN17, hTN17, hFN17⟩ := pop158_en (m := m) hSN2 (by omega) hTN2 g18
        rw [qN17] at h
        replace h := eIload (mi := 66) (pc := 228) (len := 2) (i := 7) rfl mLd_st1_i h
        obtain ⟨r19, N20, g21, h⟩ := eCall (mi := 66) (pc := 230) (len := 3) (j := 67) (as := [.int x4, .int (s (m)), .int (s (m + 1))]) (rest := [.ref 158]) rfl (Or.inl rfl) (by decide) rfl rfl h
        obtain ⟨qN20, wN20⟩ := rkC_en (op := op) ho h4 hyz g21
        rw [qN20, wN20] at h
        obtain ⟨r22, N23, g24, h⟩ := eCall (mi := 66) (pc := 233) (len := 3) (j := 68) (as := [.ref 158, .int (rkO op (s (m)) (s (m + 1)))]) (rest := []) rfl (Or.inr (Or.inl rfl)) (by decide) rfl rfl h
        obtain ⟨qN23, hSN23, hTN23, hFN23⟩ := push158_en (m := m) hSN17 hTN17 (by omega) g24
        rw [qN23] at h
        replace h := eIinc (mi := 66) (pc := 236) (len := 3) (i := 3) (k := 1) rfl (mLd_st1_int (by decide) l3) (by decide) h
        replace h := eGoto (mi := 66) (pc := 239) (len := 3) (t := 7) rfl rfl h
        rw [if_neg (fun q => hyz q.1 q.2)]
        exact ⟨_, N23, _, ⟨(mLd_st1_ref (by decide) (mLd_st1_ref (by decide) l0)), (mLd_st1_ref (by decide) (mLd_st1_ref (by decide) l2)), mLd_st1_i, ic1 h3 (by omega) (by omega)⟩, hSN23, hTN23, ((hFN2.tr hFN17).tr hFN23), h⟩
      · replace c15 : x4.toInt = 37 := mC_ne.2 c15
        replace h := eConst (mi := 66) (pc := 219) (len := 1) (v := 0) rfl h
        obtain ⟨e1, e2⟩ := eRetI (mi := 66) (pc := 220) (len := 1) rfl h
        rw [if_pos ⟨by rcases hop with q | q | q | q | q | q | q | q <;> (subst q; first | exact Or.inl rfl | exact Or.inr rfl | (exfalso; have q : x4.toInt = _ := h4; simp only [sgC] at q; omega)), i0_of c4⟩]
        rw [e2]
        exact ⟨e1, hSN2, hFN2⟩
theorem ru_en158 {n d : Nat} {L : MLoc} {M : Mem} {r : Option Value} {M1 : Mem} {x3 x4 x5 : Int32} {y : Int} {m : Nat} {s : Nat → Int32} (l0 : mLd L 0 = some (.ref 158)) (l2 : mLd L 2 = some (.ref 172)) (l3 : mLd L 3 = some (.int x3)) (l4 : mLd L 4 = some (.int x4)) (l5 : mLd L 5 = some (.int x5)) (h3 : x3.toInt = y) (hy : 0 ≤ y ∧ y ≤ 1000) (hS : Sh M) (hT : HT 158 163 M 1 s) (h : En n d 66 96 L [] M r M1) : r = some (.int (s 0)) ∧ Sh M1 ∧ FrA 158 163 M M1 := by
  replace h := eAload (mi := 66) (pc := 96) (len := 1) (i := 0) rfl l0 h
  obtain ⟨r1, N2, g3, h⟩ := eCall (mi := 66) (pc := 97) (len := 3) (j := 69) (as := [.ref 158]) (rest := []) rfl (Or.inr (Or.inl rfl)) (by decide) rfl rfl h
  obtain ⟨qN2, hSN2, hTN2, hFN2⟩ := pop158_en (m := 0) hS (by omega) hT g3
  rw [qN2] at h
  obtain ⟨e1, e2⟩ := eRetI (mi := 66) (pc := 100) (len := 1) rfl h
  rw [e2]
  exact ⟨e1, hSN2, hFN2⟩
theorem run158_lp {F ty : Nat → Int} {fc : Nat → Int32} {b0 C : Nat} {sh : Int} (hty : ∀ i, b0 ≤ i → i < C → tyOk F ty (fun _ => False) C i ∧ ty i ≤ 16) (hC : ty C = 1 ∨ ty C = -1) : ∀ (n d : Nat) (L : MLoc) (M : Mem) (r : Option Value) (M1 : Mem) (x3 : Int32) (i m : Nat) (s : Nat → Int32), mLd L 0 = some (.ref 158) → mLd L 2 = some (.ref 172) → mLd L 3 = some (.int x3) → x3.toInt = (i : Int) + sh → Sh M → RS 158 159 F fc b0 C sh M → HT 158 163 M m s → b0 ≤ i → i ≤ C → TI ty i m s → En n d 66 7 L [] M r M1 → ∃ k v, ev F fc C k (i, m, s) = some v ∧ r = some (.int v) ∧ Sh M1 ∧ FrA 158 163 M M1 := by
  intro n
  induction n with
  | zero => intro d L M r M1 x3 i m s _ _ _ _ _ _ _ _ _ _ h; exact (En.zero (mi := 66) (pc := 7) (len := 1) rfl h).elim
  | succ n ih =>
    intro d L M r M1 x3 i m s l0 l2 l3 h3 hS hR hT hi hiC0 hI h
    replace h := eIloadS (mi := 66) (pc := 7) (len := 1) (i := 3) rfl l3 h
    replace h := eAload (mi := 66) (pc := 8) (len := 1) (i := 0) rfl l0 h
    replace h := eGetI (a := 158) (j := 401) hS (by decide) (by decide) rfl (mi := 66) (pc := 9) (len := 3) rfl h
    rcases eIc (mi := 66) (pc := 12) (len := 3) (t := 242) rfl rfl h with ⟨c1, h⟩ | ⟨c1, h⟩
    · replace c1 : ¬ x3.toInt < (iv M 158 1).toInt := mC_ge.1 c1
      replace h := eConst (mi := 66) (pc := 242) (len := 1) (v := 0) rfl h
      have := hR.1.2.2.1
      omega
    · replace c1 : x3.toInt < (iv M 158 1).toInt := mC_ge.2 c1
      replace h := eAload (mi := 66) (pc := 15) (len := 1) (i := 0) rfl l0 h
      replace h := eGetR (a := 158) (j := 400) (g := 159) hS (by decide) (by decide) rfl rfl rfl (mi := 66) (pc := 16) (len := 3) rfl h
      replace h := eIload (mi := 66) (pc := 19) (len := 1) (i := 3) rfl l3 h
      obtain ⟨b2, h⟩ := eIald (x := x3) hS (a := 159) (by decide) (by decide) rfl (mi := 66) (pc := 20) (len := 1) rfl h
      replace h := eConst (mi := 66) (pc := 21) (len := 2) (v := 20) rfl h
      replace h := eShr (mi := 66) (pc := 23) (len := 1) rfl h
      replace h := eIstore (mi := 66) (pc := 24) (len := 2) (i := 4) rfl (by decide) h
      replace h := eAload (mi := 66) (pc := 26) (len := 1) (i := 0) rfl (mLd_st1_ref (by decide) l0) h
      replace h := eGetR (a := 158) (j := 400) (g := 159) hS (by decide) (by decide) rfl rfl rfl (mi := 66) (pc := 27) (len := 3) rfl h
      replace h := eIload (mi := 66) (pc := 30) (len := 1) (i := 3) rfl (mLd_st1_int (by decide) l3) h
      obtain ⟨b3, h⟩ := eIald (x := x3) hS (a := 159) (by decide) (by decide) rfl (mi := 66) (pc := 31) (len := 1) rfl h
      replace h := eConst (mi := 66) (pc := 32) (len := 2) (v := 1048575) rfl h
      replace h := eAnd (mi := 66) (pc := 34) (len := 1) rfl h
      replace h := eIstore (mi := 66) (pc := 35) (len := 2) (i := 5) rfl (by decide) h
      replace h := eIload (mi := 66) (pc := 37) (len := 2) (i := 4) rfl (mLd_st1_int (by decide) mLd_st1_i) h
      have ix : x3.toInt.toNat = ((i : Int) + sh).toNat := by rw [h3]
      by_cases hiC : i < C
      · have ew := hR.1.1 i hi hiC
        rw [← ix] at ew
        obtain ⟨hok, h16⟩ := hty i hi hiC
        obtain ⟨_, _, _, sh0, shC⟩ := hR.1
        have fin : ∀ {i2 m2 : Nat} {s2 : Nat → Int32}, RN 158 163 n d M r M1 ((i2 : Int) + sh) m2 s2 → b0 ≤ i2 → i2 ≤ C → TI ty i2 m2 s2 → ∃ k v, ev F fc C k (i2, m2, s2) = some v ∧ r = some (.int v) ∧ Sh M1 ∧ FrA 158 163 M M1 := fun z a1 a2 a3 => by
          obtain ⟨L2, N2, x2, ⟨z0, z2, z3, z4⟩, zS, zT, zF, zh⟩ := z
          obtain ⟨k, v, w1, w2, w3, w4⟩ := ih _ _ _ _ _ _ _ _ _ z0 z2 z3 z4 zS (hR.fr zF (show 159 ≠ 158 ∧ 159 ≠ 163 ∧ 158 ≠ 163 ∧ 172 ≠ 158 ∧ 172 ≠ 163 by decide)) zT a1 a2 a3 zh
          exact ⟨k, v, w1, w2, w3, zF.tr w4⟩
        rcases hok with ⟨a, b, c⟩ | ⟨a, b, c⟩ | ⟨a, b, c⟩ | ⟨a, b, c⟩ | ⟨a, b, c, q⟩
        · have hm := hI.pos b
          rcases a with a | a
          · have ea : encA sh (F i) = cAr (F i) := by unfold encA; rw [if_neg (by omega), if_neg (by omega)]
            obtain ⟨g4, g5⟩ := enc_rd ew (by rw [ea]; unfold cAr; omega) (by rw [ea]; unfold cAr; omega)
            rw [a] at g4
            have g4 : (iv M 159 x3.toInt.toNat >>> (Int32.ofInt 20 &&& 31)).toInt = 48 := g4
            replace h := eLsw (o := 62) (t := 101) (mi := 66) (pc := 39) (len := 57) rfl (by rw [g4]; rfl) rfl h
            have z := ru_nu158 (mLd_st1_ref (by decide) (mLd_st1_ref (by decide) l0)) (mLd_st1_ref (by decide) (mLd_st1_ref (by decide) l2)) (mLd_st1_int (by decide) (mLd_st1_int (by decide) l3)) (mLd_st1_int (by decide) mLd_st1_i) mLd_st1_i h3 (by omega) hS (by omega) hT h
            have ev5 : (iv M 159 x3.toInt.toNat &&& Int32.ofInt 1048575) = Int32.ofInt (cAr (F i)) := by rw [← ea, ← g5, Int32.ofInt_toInt]
            rw [ev5, show ((i : Int) + sh + 1) = (((i + 1 : Nat) : Int) + sh) by omega] at z
            obtain ⟨k, v, w1, w2⟩ := fin z (by omega) (by omega) (TI.mk (by omega) (by omega))
            exact ⟨k + 1, v, by rw [ev_num hiC a]; exact w1, w2⟩
          · have ea : encA sh (F i) = clF (cAr (F i)) := by unfold encA; rw [if_pos a.1]
            have rg := clF_rg (a := cAr (F i))
            obtain ⟨g4, g5⟩ := enc_rd ew (by omega) (by omega)
            rw [a.1] at g4
            have g4 : (iv M 159 x3.toInt.toNat >>> (Int32.ofInt 20 &&& 31)).toInt = 97 := g4
            replace h := eLsw (o := 71) (t := 110) (mi := 66) (pc := 39) (len := 57) rfl (by rw [g4]; rfl) rfl h
            have z := ru_le158 (mLd_st1_ref (by decide) (mLd_st1_ref (by decide) l0)) (mLd_st1_ref (by decide) (mLd_st1_ref (by decide) l2)) (mLd_st1_int (by decide) (mLd_st1_int (by decide) l3)) (mLd_st1_int (by decide) mLd_st1_i) mLd_st1_i h3 (by omega) hS (by omega) (by omega) hT h
            have c0 : 0 ≤ cAr (F i) := by unfold cAr; omega
            have ev5 : iv M 172 (iv M 159 x3.toInt.toNat &&& Int32.ofInt 1048575).toInt.toNat = fc (cAr (F i)).toNat := by
              rw [g5, ea, ← hR.2 (cAr (F i)).toNat (by omega)]
              congr 3
              omega
            rw [ev5, show ((i : Int) + sh + 1) = (((i + 1 : Nat) : Int) + sh) by omega] at z
            obtain ⟨k, v, w1, w2⟩ := fin z (by omega) (by omega) (TI.mk (by omega) (by omega))
            exact ⟨k + 1, v, by rw [ev_let hiC a.1]; exact w1, w2⟩
        · have hm := hI.pos (by omega)
          have ea : encA sh (F i) = cAr (F i) := by unfold encA; rw [if_neg (by omega), if_neg (by omega)]
          obtain ⟨g4, g5⟩ := enc_rd ew (by rw [ea]; unfold cAr; omega) (by rw [ea]; unfold cAr; omega)
          obtain ⟨m, rfl⟩ : ∃ m2, m = m2 + 2 := ⟨m - 2, by omega⟩
          replace h := eLsw (o := 155) (t := 194) (mi := 66) (pc := 39) (len := 57) rfl (by rw [g4]; rcases (show cOp (F i) = 2 ∨ cOp (F i) = 3 ∨ cOp (F i) = 4 ∨ cOp (F i) = 5 ∨ cOp (F i) = 6 by omega) with q | q | q | q | q <;> (rw [q]; rfl)) rfl h
          have z := ru_rk158 (op := cOp (F i)) (mLd_st1_ref (by decide) (mLd_st1_ref (by decide) l0)) (mLd_st1_ref (by decide) (mLd_st1_ref (by decide) l2)) (mLd_st1_int (by decide) (mLd_st1_int (by decide) l3)) (mLd_st1_int (by decide) mLd_st1_i) mLd_st1_i h3 (by omega) hS (by omega) (by omega) g4 hT h
          by_cases dz : (cOp (F i) = 5 ∨ cOp (F i) = 6) ∧ s (m + 1) = 0
          · rw [if_pos dz] at z
            exact ⟨1, 0, by rw [ev_rk hiC (by omega)]; exact if_pos dz, z⟩
          · rw [if_neg dz, show ((i : Int) + sh + 1) = (((i + 1 : Nat) : Int) + sh) by omega] at z
            obtain ⟨k, v, w1, w2⟩ := fin z (by omega) (by omega) (TI.mk (by omega) (by omega))
            exact ⟨k + 1, v, by rw [ev_rk hiC (by omega)]; exact (if_neg dz).trans w1, w2⟩
        · have hm := hI.pos (by omega)
          have ea : encA sh (F i) = cAr (F i) := by unfold encA; rw [if_neg (by omega), if_neg (by omega)]
          obtain ⟨g4, g5⟩ := enc_rd ew (by rw [ea]; unfold cAr; omega) (by rw [ea]; unfold cAr; omega)
          obtain ⟨m, rfl⟩ : ∃ m2, m = m2 + 2 := ⟨m - 2, by omega⟩
          replace h := eLsw (o := 155) (t := 194) (mi := 66) (pc := 39) (len := 57) rfl (by rw [g4]; rcases (show cOp (F i) = 7 ∨ cOp (F i) = 8 ∨ cOp (F i) = 9 by omega) with q | q | q <;> (rw [q]; rfl)) rfl h
          have z := ru_rk158 (op := cOp (F i)) (mLd_st1_ref (by decide) (mLd_st1_ref (by decide) l0)) (mLd_st1_ref (by decide) (mLd_st1_ref (by decide) l2)) (mLd_st1_int (by decide) (mLd_st1_int (by decide) l3)) (mLd_st1_int (by decide) mLd_st1_i) mLd_st1_i h3 (by omega) hS (by omega) (by omega) g4 hT h
          have m0 : m = 0 := by omega
          subst m0
          rw [if_neg (by omega), show ((i : Int) + sh + 1) = (((i + 1 : Nat) : Int) + sh) by omega] at z
          obtain ⟨k, v, w1, w2⟩ := fin z (by omega) (by omega) (TI.mk1 c (by rw [sUp_eq]; exact rkO_01 a))
          exact ⟨k + 1, v, by rw [ev_rk hiC (by omega)]; exact (if_neg (by omega)).trans w1, w2⟩
        · obtain ⟨m1, h01⟩ := hI.one b
          subst m1
          have ea : encA sh (F i) = cAr (F i) := by unfold encA; rw [if_neg (by omega), if_neg (by omega)]
          obtain ⟨g4, g5⟩ := enc_rd ew (by rw [ea]; unfold cAr; omega) (by rw [ea]; unfold cAr; omega)
          rw [a] at g4
          have g4 : (iv M 159 x3.toInt.toNat >>> (Int32.ofInt 20 &&& 31)).toInt = 33 := g4
          replace h := eLsw (o := 93) (t := 132) (mi := 66) (pc := 39) (len := 57) rfl (by rw [g4]; rfl) rfl h
          have z := ru_no158 (m := 0) (mLd_st1_ref (by decide) (mLd_st1_ref (by decide) l0)) (mLd_st1_ref (by decide) (mLd_st1_ref (by decide) l2)) (mLd_st1_int (by decide) (mLd_st1_int (by decide) l3)) (mLd_st1_int (by decide) mLd_st1_i) mLd_st1_i h3 (by omega) hS hT h
          rw [show ((i : Int) + sh + 1) = (((i + 1 : Nat) : Int) + sh) by omega] at z
          obtain ⟨k, v, w1, w2⟩ := fin z (by omega) (by omega) (TI.mk1 c (by rw [sUp_eq]; exact not_01 h01))
          exact ⟨k + 1, v, by rw [ev_not hiC a]; exact w1, w2⟩
        · obtain ⟨m1, h01⟩ := hI.one b
          subst m1
          obtain ⟨v0, v1, v2, v3, v4⟩ := q.resolve_left id
          have ea : encA sh (F i) = (v0 : Int) + sh := by unfold encA; rw [if_neg (by omega), if_pos a, if_neg (by omega), v1]
          obtain ⟨g4, g5⟩ := enc_rd ew (by omega) (by omega)
          have t0 : (cAr (F i)).toNat = v0 := by omega
          have done : ∀ x : Int, (x = if cOp (F i) = 12 then 1 else 0) → (if (s 0).toInt = x then RN 158 163 n d M r M1 ((v0 : Int) + sh) 1 s else RN 158 163 n d M r M1 ((i : Int) + sh + 1) 0 s) → ∃ k v, ev F fc C k (i, 1, s) = some v ∧ r = some (.int v) ∧ Sh M1 ∧ FrA 158 163 M M1 := fun x hx z => by
            by_cases dz : (s 0).toInt = x
            · rw [if_pos dz] at z
              obtain ⟨k, v, w1, w2⟩ := fin z (by omega) v3 (TI.mk1 v4 h01)
              exact ⟨k + 1, v, by rw [ev_jmp hiC a, t0]; exact (if_pos (dz.trans hx)).trans w1, w2⟩
            · rw [if_neg dz, show ((i : Int) + sh + 1) = (((i + 1 : Nat) : Int) + sh) by omega] at z
              obtain ⟨k, v, w1, w2⟩ := fin z (by omega) (by omega) (TI.mk (by omega) (by omega))
              exact ⟨k + 1, v, by rw [ev_jmp hiC a]; exact (if_neg (fun q => dz (q.trans hx.symm))).trans w1, w2⟩
          rcases a with a | a
          · rw [a] at g4
            have g4 : (iv M 159 x3.toInt.toNat >>> (Int32.ofInt 20 &&& 31)).toInt = 38 := g4
            replace h := eLsw (o := 106) (t := 145) (mi := 66) (pc := 39) (len := 57) rfl (by rw [g4]; rfl) rfl h
            have z := ru_ju158 (m := 0) (b := (v0 : Int) + sh) (mLd_st1_ref (by decide) (mLd_st1_ref (by decide) l0)) (mLd_st1_ref (by decide) (mLd_st1_ref (by decide) l2)) (mLd_st1_int (by decide) (mLd_st1_int (by decide) l3)) (mLd_st1_int (by decide) mLd_st1_i) mLd_st1_i h3 (by omega) hS (Or.inl g4) (by rw [g5, ea]) (by omega) (by omega) (i01 h01) hT h
            refine done 0 (by rw [a]; rfl) ?_
            rw [g4] at z
            exact z
          · rw [a] at g4
            have g4 : (iv M 159 x3.toInt.toNat >>> (Int32.ofInt 20 &&& 31)).toInt = 124 := g4
            replace h := eLsw (o := 106) (t := 145) (mi := 66) (pc := 39) (len := 57) rfl (by rw [g4]; rfl) rfl h
            have z := ru_ju158 (m := 0) (b := (v0 : Int) + sh) (mLd_st1_ref (by decide) (mLd_st1_ref (by decide) l0)) (mLd_st1_ref (by decide) (mLd_st1_ref (by decide) l2)) (mLd_st1_int (by decide) (mLd_st1_int (by decide) l3)) (mLd_st1_int (by decide) mLd_st1_i) mLd_st1_i h3 (by omega) hS (Or.inr g4) (by rw [g5, ea]) (by omega) (by omega) (i01 h01) hT h
            refine done 1 (by rw [a]; rfl) ?_
            rw [g4] at z
            exact z
      · have eC : i = C := by omega
        subst eC
        have ew := hR.1.2.1
        rw [← ix] at ew
        have g4 : (iv M 159 x3.toInt.toNat >>> (Int32.ofInt 20 &&& 31)).toInt = 59 := by rw [shr_20, ew]; decide
        replace h := eLsw (o := 57) (t := 96) (mi := 66) (pc := 39) (len := 57) rfl (by rw [g4]; rfl) rfl h
        have m1 : m = 1 := by
          rcases hC with q | q
          · have := hI.pos (by omega)
            omega
          · exact (hI.one q).1
        subst m1
        have z := ru_en158 (m := 0) (mLd_st1_ref (by decide) (mLd_st1_ref (by decide) l0)) (mLd_st1_ref (by decide) (mLd_st1_ref (by decide) l2)) (mLd_st1_int (by decide) (mLd_st1_int (by decide) l3)) (mLd_st1_int (by decide) mLd_st1_i) mLd_st1_i h3 (by have := hR.1; omega) hS hT h
        exact ⟨1, _, ev_end (Nat.le_refl _), z⟩
theorem run158_en {F ty : Nat → Int} {fc : Nat → Int32} {b0 C : Nat} {sh : Int} (hty : ∀ i, b0 ≤ i → i < C → tyOk F ty (fun _ => False) C i ∧ ty i ≤ 16) (hC : ty C = 1 ∨ ty C = -1) (h0 : ty b0 = 0) (hbC : b0 ≤ C) {n d : Nat} {M : Mem} {r : Option Value} {M1 : Mem} {x3 : Int32} (h3 : x3.toInt = (b0 : Int) + sh) (hS : Sh M) (hR : RS 158 159 F fc b0 C sh M) (h : En n d 66 0 (lv_args 0 [.ref 158, .int x3, .ref 172]) [] M r M1) : ∃ k v, ev F fc C k (b0, 0, fun _ => 0) = some v ∧ r = some (.int v) ∧ Sh M1 ∧ FrA 158 163 M M1 := by
  replace h := eAload (mi := 66) (pc := 0) (len := 1) (i := 0) rfl rfl h
  replace h := eConst (mi := 66) (pc := 1) (len := 1) (v := 0) rfl h
  obtain ⟨N1, eN1⟩ : ∃ X_, X_ = mPut M 158 7 (.int (0 : Int32)) := ⟨_, rfl⟩
  replace h := ePutE (a := 158) (f := 7) (N := N1) rfl eN1 (mi := 66) (pc := 2) (len := 3) (j := 407) rfl h
  have hS2 : Sh N1 := by rw [eN1]; exact hS.put (by decide) (by decide) rfl
  replace h := eIload (mi := 66) (pc := 5) (len := 1) (i := 1) rfl rfl h
  replace h := eIstore (mi := 66) (pc := 6) (len := 1) (i := 3) rfl (by decide) h
  have f1 : FrA 158 163 M N1 := fun c i h1 h2 => by rw [eN1, mSlot_put_ne (by omega)]
  obtain ⟨k, v, w1, w2, w3, w4⟩ := run158_lp hty hC _ _ _ _ _ _ _ b0 0 (fun _ => 0) rfl rfl rfl h3 hS2 (hR.fr f1 (show 159 ≠ 158 ∧ 159 ≠ 163 ∧ 158 ≠ 163 ∧ 172 ≠ 158 ∧ 172 ≠ 163 by decide)) ⟨by rw [eN1, iv_put_eq hS (by decide) (by decide) (by decide)]; rfl, fun k hk => absurd hk (by omega)⟩ (Nat.le_refl _) hbC (TI.mk (by omega) (by omega)) h
  exact ⟨k, v, w1, w2, w3, f1.tr w4⟩

/-! law 164 -/
theorem push164_en {v : Int32} {m : Nat} {s : Nat → Int32} {n d : Nat} {M : Mem} {r : Option Value} {M1 : Mem} (hS : Sh M) (hT : HT 164 169 M m s) (hm : m < 40) (h : En n d 68 0 (lv_args 0 [.ref 164, .int v]) [] M r M1) : r = none ∧ Sh M1 ∧ HT 164 169 M1 (m + 1) (sUp s m v) ∧ FrA 164 169 M M1 := by
  have h0 := hT.1
  replace h := eAload (mi := 68) (pc := 0) (len := 1) (i := 0) rfl rfl h
  replace h := eGetI (a := 164) (j := 407) hS (by decide) (by decide) rfl (mi := 68) (pc := 1) (len := 3) rfl h
  replace h := eConst (mi := 68) (pc := 4) (len := 2) (v := 40) rfl h
  rcases eIc (mi := 68) (pc := 6) (len := 3) (t := 29) rfl rfl h with ⟨c1, h⟩ | ⟨c1, h⟩
  · replace c1 : ¬ (iv M 164 7).toInt < 40 := mC_ge.1 c1
    omega
  · replace c1 : (iv M 164 7).toInt < 40 := mC_ge.2 c1
    replace h := eAload (mi := 68) (pc := 9) (len := 1) (i := 0) rfl rfl h
    replace h := eGetR (a := 164) (j := 406) (g := 169) hS (by decide) (by decide) rfl rfl rfl (mi := 68) (pc := 10) (len := 3) rfl h
    replace h := eAload (mi := 68) (pc := 13) (len := 1) (i := 0) rfl rfl h
    replace h := eGetI (a := 164) (j := 407) hS (by decide) (by decide) rfl (mi := 68) (pc := 14) (len := 3) rfl h
    replace h := eIload (mi := 68) (pc := 17) (len := 1) (i := 1) rfl rfl h
    obtain ⟨N3, eN3⟩ : ∃ X_, X_ = mPut M 169 (iv M 164 7).toInt.toNat (.int v) := ⟨_, rfl⟩
    obtain ⟨b2, h⟩ := eIast (x := (iv M 164 7)) (N := N3) hS (a := 169) (by decide) (by decide) eN3 (mi := 68) (pc := 18) (len := 1) rfl h
    have hS4 : Sh N3 := by rw [eN3]; exact hS.put (by decide) (by decide) rfl
    replace h := eAload (mi := 68) (pc := 19) (len := 1) (i := 0) rfl rfl h
    replace h := eDupR (mi := 68) (pc := 20) (len := 1) rfl h
    replace h := eGetI (a := 164) (j := 407) hS4 (by decide) (by decide) rfl (mi := 68) (pc := 21) (len := 3) rfl h
    replace h := eConst (mi := 68) (pc := 24) (len := 1) (v := 1) rfl h
    replace h := eAdd (mi := 68) (pc := 25) (len := 1) rfl h
    obtain ⟨N5, eN5⟩ : ∃ X_, X_ = mPut N3 164 7 (.int ((iv N3 164 7) + (1 : Int32))) := ⟨_, rfl⟩
    replace h := ePutE (a := 164) (f := 7) (N := N5) rfl eN5 (mi := 68) (pc := 26) (len := 3) (j := 407) rfl h
    have hS6 : Sh N5 := by rw [eN5]; exact hS4.put (by decide) (by decide) rfl
    obtain ⟨e1, e2⟩ := eRetV (mi := 68) (pc := 29) (len := 1) rfl h
    have i1 : (iv M 164 7).toInt.toNat = m := by omega
    rw [i1] at eN3
    have a1 : iv N3 164 7 = iv M 164 7 := by rw [eN3, iv_put_ne (Or.inl (by decide))]
    rw [a1] at eN5
    rw [e2]
    refine ⟨e1, hS6, ⟨?_, fun k hk => ?_⟩, fun c i h1 h2 => ?_⟩
    · rw [eN5, iv_put_eq hS4 (by decide) (by decide) (by decide)]
      exact (ic1 h0 (by omega) (by omega)).trans (by omega)
    · rw [eN5, iv_put_ne (Or.inl (by decide)), eN3]
      by_cases c : k = m
      · rw [c, iv_put_eq hS (by decide) (by decide) (show m < tSiz (tGrp 169) from hm), sUp_eq]
      · rw [iv_put_ne (Or.inr c), sUp_ne c]
        exact hT.2 k (by omega)
    · rw [eN5, mSlot_put_ne (by omega), eN3, mSlot_put_ne (Or.inl h2)]
theorem pop164_en {m : Nat} {s : Nat → Int32} {n d : Nat} {M : Mem} {r : Option Value} {M1 : Mem} (hS : Sh M) (hm : m < 40) (hT : HT 164 169 M (m + 1) s) (h : En n d 69 0 (lv_args 0 [.ref 164]) [] M r M1) : r = some (.int (s m)) ∧ Sh M1 ∧ HT 164 169 M1 m s ∧ FrA 164 169 M M1 := by
  have h0 := hT.1
  replace h := eAload (mi := 69) (pc := 0) (len := 1) (i := 0) rfl rfl h
  replace h := eGetI (a := 164) (j := 407) hS (by decide) (by decide) rfl (mi := 69) (pc := 1) (len := 3) rfl h
  rcases eIf (mi := 69) (pc := 4) (len := 3) (t := 9) rfl rfl h with ⟨c1, h⟩ | ⟨c1, h⟩
  · replace c1 : ¬ (iv M 164 7).toInt = 0 := mC_ne.1 c1
    replace h := eAload (mi := 69) (pc := 9) (len := 1) (i := 0) rfl rfl h
    replace h := eDupR (mi := 69) (pc := 10) (len := 1) rfl h
    replace h := eGetI (a := 164) (j := 407) hS (by decide) (by decide) rfl (mi := 69) (pc := 11) (len := 3) rfl h
    replace h := eConst (mi := 69) (pc := 14) (len := 1) (v := 1) rfl h
    replace h := eSub (mi := 69) (pc := 15) (len := 1) rfl h
    obtain ⟨N2, eN2⟩ : ∃ X_, X_ = mPut M 164 7 (.int ((iv M 164 7) - (1 : Int32))) := ⟨_, rfl⟩
    replace h := ePutE (a := 164) (f := 7) (N := N2) rfl eN2 (mi := 69) (pc := 16) (len := 3) (j := 407) rfl h
    have hS3 : Sh N2 := by rw [eN2]; exact hS.put (by decide) (by decide) rfl
    replace h := eAload (mi := 69) (pc := 19) (len := 1) (i := 0) rfl rfl h
    replace h := eGetR (a := 164) (j := 406) (g := 169) hS3 (by decide) (by decide) rfl rfl rfl (mi := 69) (pc := 20) (len := 3) rfl h
    replace h := eAload (mi := 69) (pc := 23) (len := 1) (i := 0) rfl rfl h
    replace h := eGetI (a := 164) (j := 407) hS3 (by decide) (by decide) rfl (mi := 69) (pc := 24) (len := 3) rfl h
    obtain ⟨b4, h⟩ := eIald (x := (iv N2 164 7)) hS3 (a := 169) (by decide) (by decide) rfl (mi := 69) (pc := 27) (len := 1) rfl h
    obtain ⟨e1, e2⟩ := eRetI (mi := 69) (pc := 28) (len := 1) rfl h
    have a1 : (iv N2 164 7).toInt = (m : Int) := by
      rw [eN2, iv_put_eq hS (by decide) (by decide) (by decide)]
      exact (dc1 h0 (by omega) (by omega)).trans (by omega)
    have a2 : (iv N2 164 7).toInt.toNat = m := by omega
    rw [a2] at e1
    have a3 : iv N2 169 m = s m := by rw [eN2, iv_put_ne (Or.inl (by decide))]; exact hT.2 m (by omega)
    rw [a3] at e1
    rw [e2]
    exact ⟨e1, hS3, ⟨a1, fun k hk => by rw [eN2, iv_put_ne (Or.inl (by decide))]; exact hT.2 k (by omega)⟩, fun c i h1 h2 => by rw [eN2, mSlot_put_ne (by omega)]⟩
  · replace c1 : (iv M 164 7).toInt = 0 := mC_ne.2 c1
    replace h := eConst (mi := 69) (pc := 7) (len := 1) (v := 0) rfl h
    omega
theorem ru_nu164 {n d : Nat} {L : MLoc} {M : Mem} {r : Option Value} {M1 : Mem} {x3 x4 x5 : Int32} {y : Int} {m : Nat} {s : Nat → Int32} (l0 : mLd L 0 = some (.ref 164)) (l2 : mLd L 2 = some (.ref 172)) (l3 : mLd L 3 = some (.int x3)) (l4 : mLd L 4 = some (.int x4)) (l5 : mLd L 5 = some (.int x5)) (h3 : x3.toInt = y) (hy : 0 ≤ y ∧ y ≤ 1000) (hS : Sh M) (hm : m < 40) (hT : HT 164 169 M m s) (h : En n d 66 101 L [] M r M1) : RN 164 169 n d M r M1 (y + 1) (m + 1) (sUp s m x5) := by
  replace h := eAload (mi := 66) (pc := 101) (len := 1) (i := 0) rfl l0 h
  replace h := eIload (mi := 66) (pc := 102) (len := 2) (i := 5) rfl l5 h
  obtain ⟨r1, N2, g3, h⟩ := eCall (mi := 66) (pc := 104) (len := 3) (j := 68) (as := [.ref 164, .int x5]) (rest := []) rfl (Or.inr (Or.inl rfl)) (by decide) rfl rfl h
  obtain ⟨qN2, hSN2, hTN2, hFN2⟩ := push164_en (m := m) hS hT (by omega) g3
  rw [qN2] at h
  replace h := eGoto (mi := 66) (pc := 107) (len := 3) (t := 236) rfl rfl h
  replace h := eIinc (mi := 66) (pc := 236) (len := 3) (i := 3) (k := 1) rfl l3 (by decide) h
  replace h := eGoto (mi := 66) (pc := 239) (len := 3) (t := 7) rfl rfl h
  exact ⟨_, N2, _, ⟨(mLd_st1_ref (by decide) l0), (mLd_st1_ref (by decide) l2), mLd_st1_i, ic1 h3 (by omega) (by omega)⟩, hSN2, hTN2, hFN2, h⟩
theorem ru_le164 {n d : Nat} {L : MLoc} {M : Mem} {r : Option Value} {M1 : Mem} {x3 x4 x5 : Int32} {y : Int} {m : Nat} {s : Nat → Int32} (l0 : mLd L 0 = some (.ref 164)) (l2 : mLd L 2 = some (.ref 172)) (l3 : mLd L 3 = some (.int x3)) (l4 : mLd L 4 = some (.int x4)) (l5 : mLd L 5 = some (.int x5)) (h3 : x3.toInt = y) (hy : 0 ≤ y ∧ y ≤ 1000) (hS : Sh M) (hm : m < 40) (h5 : 0 ≤ x5.toInt ∧ x5.toInt < 26) (hT : HT 164 169 M m s) (h : En n d 66 110 L [] M r M1) : RN 164 169 n d M r M1 (y + 1) (m + 1) (sUp s m (iv M 172 x5.toInt.toNat)) := by
  replace h := eAload (mi := 66) (pc := 110) (len := 1) (i := 0) rfl l0 h
  replace h := eIload (mi := 66) (pc := 111) (len := 2) (i := 5) rfl l5 h
  replace h := eConst (mi := 66) (pc := 113) (len := 2) (v := 26) rfl h
  rcases eIc (mi := 66) (pc := 115) (len := 3) (t := 125) rfl rfl h with ⟨c1, h⟩ | ⟨c1, h⟩
  · replace c1 : ¬ x5.toInt < 26 := mC_ge.1 c1
    replace h := eConst (mi := 66) (pc := 125) (len := 1) (v := 0) rfl h
    obtain ⟨r2, N3, g4, h⟩ := eCall (mi := 66) (pc := 126) (len := 3) (j := 68) (as := [.ref 164, .int (0 : Int32)]) (rest := []) rfl (Or.inr (Or.inl rfl)) (by decide) rfl rfl h
    obtain ⟨qN3, hSN3, hTN3, hFN3⟩ := push164_en (m := m) hS hT (by omega) g4
    rw [qN3] at h
    replace h := eGoto (mi := 66) (pc := 129) (len := 3) (t := 236) rfl rfl h
    replace h := eIinc (mi := 66) (pc := 236) (len := 3) (i := 3) (k := 1) rfl l3 (by decide) h
    replace h := eGoto (mi := 66) (pc := 239) (len := 3) (t := 7) rfl rfl h
    omega
  · replace c1 : x5.toInt < 26 := mC_ge.2 c1
    replace h := eAload (mi := 66) (pc := 118) (len := 1) (i := 2) rfl l2 h
    replace h := eIload (mi := 66) (pc := 119) (len := 2) (i := 5) rfl l5 h
    obtain ⟨b5, h⟩ := eIald (x := x5) hS (a := 172) (by decide) (by decide) rfl (mi := 66) (pc := 121) (len := 1) rfl h
    replace h := eGoto (mi := 66) (pc := 122) (len := 3) (t := 126) rfl rfl h
    obtain ⟨r6, N7, g8, h⟩ := eCall (mi := 66) (pc := 126) (len := 3) (j := 68) (as := [.ref 164, .int (iv M 172 x5.toInt.toNat)]) (rest := []) rfl (Or.inr (Or.inl rfl)) (by decide) rfl rfl h
    obtain ⟨qN7, hSN7, hTN7, hFN7⟩ := push164_en (m := m) hS hT (by omega) g8
    rw [qN7] at h
    replace h := eGoto (mi := 66) (pc := 129) (len := 3) (t := 236) rfl rfl h
    replace h := eIinc (mi := 66) (pc := 236) (len := 3) (i := 3) (k := 1) rfl l3 (by decide) h
    replace h := eGoto (mi := 66) (pc := 239) (len := 3) (t := 7) rfl rfl h
    exact ⟨_, N7, _, ⟨(mLd_st1_ref (by decide) l0), (mLd_st1_ref (by decide) l2), mLd_st1_i, ic1 h3 (by omega) (by omega)⟩, hSN7, hTN7, hFN7, h⟩
theorem ru_no164 {n d : Nat} {L : MLoc} {M : Mem} {r : Option Value} {M1 : Mem} {x3 x4 x5 : Int32} {y : Int} {m : Nat} {s : Nat → Int32} (l0 : mLd L 0 = some (.ref 164)) (l2 : mLd L 2 = some (.ref 172)) (l3 : mLd L 3 = some (.int x3)) (l4 : mLd L 4 = some (.int x4)) (l5 : mLd L 5 = some (.int x5)) (h3 : x3.toInt = y) (hy : 0 ≤ y ∧ y ≤ 1000) (hS : Sh M) (hT : HT 164 169 M 1 s) (h : En n d 66 132 L [] M r M1) : RN 164 169 n d M r M1 (y + 1) 1 (sUp s 0 (1 - s 0)) := by
  replace h := eAload (mi := 66) (pc := 132) (len := 1) (i := 0) rfl l0 h
  replace h := eConst (mi := 66) (pc := 133) (len := 1) (v := 1) rfl h
  replace h := eAload (mi := 66) (pc := 134) (len := 1) (i := 0) rfl l0 h
  obtain ⟨r1, N2, g3, h⟩ := eCall (mi := 66) (pc := 135) (len := 3) (j := 69) (as := [.ref 164]) (rest := [.int (1 : Int32), .ref 164]) rfl (Or.inr (Or.inl rfl)) (by decide) rfl rfl h
  obtain ⟨qN2, hSN2, hTN2, hFN2⟩ := pop164_en (m := 0) hS (by omega) hT g3
  rw [qN2] at h
  replace h := eSub (mi := 66) (pc := 138) (len := 1) rfl h
  obtain ⟨r4, N5, g6, h⟩ := eCall (mi := 66) (pc := 139) (len := 3) (j := 68) (as := [.ref 164, .int ((1 : Int32) - (s (0)))]) (rest := []) rfl (Or.inr (Or.inl rfl)) (by decide) rfl rfl h
  obtain ⟨qN5, hSN5, hTN5, hFN5⟩ := push164_en (m := 0) hSN2 hTN2 (by omega) g6
  rw [qN5] at h
  replace h := eGoto (mi := 66) (pc := 142) (len := 3) (t := 236) rfl rfl h
  replace h := eIinc (mi := 66) (pc := 236) (len := 3) (i := 3) (k := 1) rfl l3 (by decide) h
  replace h := eGoto (mi := 66) (pc := 239) (len := 3) (t := 7) rfl rfl h
  exact ⟨_, N5, _, ⟨(mLd_st1_ref (by decide) l0), (mLd_st1_ref (by decide) l2), mLd_st1_i, ic1 h3 (by omega) (by omega)⟩, hSN5, hTN5, (hFN2.tr hFN5), h⟩
theorem ru_ju164 {n d : Nat} {L : MLoc} {M : Mem} {r : Option Value} {M1 : Mem} {x3 x4 x5 : Int32} {y : Int} {m : Nat} {s : Nat → Int32} {b : Int} (l0 : mLd L 0 = some (.ref 164)) (l2 : mLd L 2 = some (.ref 172)) (l3 : mLd L 3 = some (.int x3)) (l4 : mLd L 4 = some (.int x4)) (l5 : mLd L 5 = some (.int x5)) (h3 : x3.toInt = y) (hy : 0 ≤ y ∧ y ≤ 1000) (hS : Sh M) (h4 : x4.toInt = 38 ∨ x4.toInt = 124) (h5 : x5.toInt = b) (hyb : y < b) (hb : b ≤ 1000) (h01 : (s 0).toInt = 0 ∨ (s 0).toInt = 1) (hT : HT 164 169 M 1 s) (h : En n d 66 145 L [] M r M1) : if (s 0).toInt = (if x4.toInt = 124 then 1 else 0) then RN 164 169 n d M r M1 b 1 s else RN 164 169 n d M r M1 (y + 1) 0 s := by
  replace h := eAload (mi := 66) (pc := 145) (len := 1) (i := 0) rfl l0 h
  obtain ⟨r1, N2, g3, h⟩ := eCall (mi := 66) (pc := 146) (len := 3) (j := 69) (as := [.ref 164]) (rest := []) rfl (Or.inr (Or.inl rfl)) (by decide) rfl rfl h
  obtain ⟨qN2, hSN2, hTN2, hFN2⟩ := pop164_en (m := 0) hS (by omega) hT g3
  rw [qN2] at h
  replace h := eIstore (mi := 66) (pc := 149) (len := 2) (i := 6) rfl (by decide) h
  replace h := eIload (mi := 66) (pc := 151) (len := 2) (i := 6) rfl mLd_st1_i h
  rcases eIf (mi := 66) (pc := 153) (len := 3) (t := 160) rfl rfl h with ⟨c4, h⟩ | ⟨c4, h⟩
  · replace c4 : (s (0)).toInt = 0 := mC_eq.1 c4
    replace h := eConst (mi := 66) (pc := 160) (len := 1) (v := 0) rfl h
    replace h := eIload (mi := 66) (pc := 161) (len := 2) (i := 4) rfl (mLd_st1_int (by decide) l4) h
    replace h := eConst (mi := 66) (pc := 163) (len := 2) (v := 124) rfl h
    rcases eIc (mi := 66) (pc := 165) (len := 3) (t := 172) rfl rfl h with ⟨c5, h⟩ | ⟨c5, h⟩
    · replace c5 : ¬ x4.toInt = 124 := mC_ne.1 c5
      replace h := eConst (mi := 66) (pc := 172) (len := 1) (v := 0) rfl h
      rcases eIc (mi := 66) (pc := 173) (len := 3) (t := 236) rfl rfl h with ⟨c6, h⟩ | ⟨c6, h⟩
      · exact absurd c6 (by decide)
      · skip
        replace h := eAload (mi := 66) (pc := 176) (len := 1) (i := 0) rfl (mLd_st1_ref (by decide) l0) h
        replace h := eIload (mi := 66) (pc := 177) (len := 2) (i := 6) rfl mLd_st1_i h
        obtain ⟨r7, N8, g9, h⟩ := eCall (mi := 66) (pc := 179) (len := 3) (j := 68) (as := [.ref 164, .int (s (0))]) (rest := []) rfl (Or.inr (Or.inl rfl)) (by decide) rfl rfl h
        obtain ⟨qN8, hSN8, hTN8, hFN8⟩ := push164_en (m := 0) hSN2 hTN2 (by omega) g9
        rw [qN8] at h
        replace h := eIload (mi := 66) (pc := 182) (len := 1) (i := 3) rfl (mLd_st1_int (by decide) l3) h
        replace h := eIload (mi := 66) (pc := 183) (len := 2) (i := 5) rfl (mLd_st1_int (by decide) l5) h
        replace h := eConst (mi := 66) (pc := 185) (len := 1) (v := 1) rfl h
        replace h := eSub (mi := 66) (pc := 186) (len := 1) rfl h
        replace h := eMax (mi := 66) (pc := 187) (len := 3) rfl h
        replace h := eIstore (mi := 66) (pc := 190) (len := 1) (i := 3) rfl (by decide) h
        replace h := eGoto (mi := 66) (pc := 191) (len := 3) (t := 236) rfl rfl h
        replace h := eIinc (mi := 66) (pc := 236) (len := 3) (i := 3) (k := 1) rfl mLd_st1_i (by decide) h
        replace h := eGoto (mi := 66) (pc := 239) (len := 3) (t := 7) rfl rfl h
        rw [if_pos (by rcases h4 with h4 | h4 <;> (first | (rw [if_neg (by omega)]; omega) | (rw [if_pos h4]; omega)))]
        exact ⟨_, N8, _, ⟨(mLd_st1_ref (by decide) (mLd_st1_ref (by decide) (mLd_st1_ref (by decide) l0))), (mLd_st1_ref (by decide) (mLd_st1_ref (by decide) (mLd_st1_ref (by decide) l2))), mLd_st1_i, mx_jump h3 h5 hy.1 hyb (by omega)⟩, hSN8, hTN8.cg (fun k hk => by rw [show k = 0 by omega, sUp_eq]), (hFN2.tr hFN8), h⟩
    · replace c5 : x4.toInt = 124 := mC_ne.2 c5
      replace h := eConst (mi := 66) (pc := 168) (len := 1) (v := 1) rfl h
      replace h := eGoto (mi := 66) (pc := 169) (len := 3) (t := 173) rfl rfl h
      rcases eIc (mi := 66) (pc := 173) (len := 3) (t := 236) rfl rfl h with ⟨c10, h⟩ | ⟨c10, h⟩
      · skip
        replace h := eIinc (mi := 66) (pc := 236) (len := 3) (i := 3) (k := 1) rfl (mLd_st1_int (by decide) l3) (by decide) h
        replace h := eGoto (mi := 66) (pc := 239) (len := 3) (t := 7) rfl rfl h
        rw [if_neg (by rcases h4 with h4 | h4 <;> (first | (rw [if_neg (by omega)]; omega) | (rw [if_pos h4]; omega)))]
        exact ⟨_, N2, _, ⟨(mLd_st1_ref (by decide) (mLd_st1_ref (by decide) l0)), (mLd_st1_ref (by decide) (mLd_st1_ref (by decide) l2)), mLd_st1_i, ic1 h3 (by omega) (by omega)⟩, hSN2, hTN2, hFN2, h⟩
      · exact absurd c10 (by decide)
  · replace c4 : ¬ (s (0)).toInt = 0 := mC_eq.2 c4
    replace h := eConst (mi := 66) (pc := 156) (len := 1) (v := 1) rfl h
    replace h := eGoto (mi := 66) (pc := 157) (len := 3) (t := 161) rfl rfl h
    replace h := eIload (mi := 66) (pc := 161) (len := 2) (i := 4) rfl (mLd_st1_int (by decide) l4) h
    replace h := eConst (mi := 66) (pc := 163) (len := 2) (v := 124) rfl h
    rcases eIc (mi := 66) (pc := 165) (len := 3) (t := 172) rfl rfl h with ⟨c11, h⟩ | ⟨c11, h⟩
    · replace c11 : ¬ x4.toInt = 124 := mC_ne.1 c11
      replace h := eConst (mi := 66) (pc := 172) (len := 1) (v := 0) rfl h
      rcases eIc (mi := 66) (pc := 173) (len := 3) (t := 236) rfl rfl h with ⟨c12, h⟩ | ⟨c12, h⟩
      · skip
        replace h := eIinc (mi := 66) (pc := 236) (len := 3) (i := 3) (k := 1) rfl (mLd_st1_int (by decide) l3) (by decide) h
        replace h := eGoto (mi := 66) (pc := 239) (len := 3) (t := 7) rfl rfl h
        rw [if_neg (by rcases h4 with h4 | h4 <;> (first | (rw [if_neg (by omega)]; omega) | (rw [if_pos h4]; omega)))]
        exact ⟨_, N2, _, ⟨(mLd_st1_ref (by decide) (mLd_st1_ref (by decide) l0)), (mLd_st1_ref (by decide) (mLd_st1_ref (by decide) l2)), mLd_st1_i, ic1 h3 (by omega) (by omega)⟩, hSN2, hTN2, hFN2, h⟩
      · exact absurd c12 (by decide)
    · replace c11 : x4.toInt = 124 := mC_ne.2 c11
      replace h := eConst (mi := 66) (pc := 168) (len := 1) (v := 1) rfl h
      replace h := eGoto (mi := 66) (pc := 169) (len := 3) (t := 173) rfl rfl h
      rcases eIc (mi := 66) (pc := 173) (len := 3) (t := 236) rfl rfl h with ⟨c13, h⟩ | ⟨c13, h⟩
      · exact absurd c13 (by decide)
      · skip
        replace h := eAload (mi := 66) (pc := 176) (len := 1) (i := 0) rfl (mLd_st1_ref (by decide) l0) h
        replace h := eIload (mi := 66) (pc := 177) (len := 2) (i := 6) rfl mLd_st1_i h
        obtain ⟨r14, N15, g16, h⟩ := eCall (mi := 66) (pc := 179) (len := 3) (j := 68) (as := [.ref 164, .int (s (0))]) (rest := []) rfl (Or.inr (Or.inl rfl)) (by decide) rfl rfl h
        obtain ⟨qN15, hSN15, hTN15, hFN15⟩ := push164_en (m := 0) hSN2 hTN2 (by omega) g16
        rw [qN15] at h
        replace h := eIload (mi := 66) (pc := 182) (len := 1) (i := 3) rfl (mLd_st1_int (by decide) l3) h
        replace h := eIload (mi := 66) (pc := 183) (len := 2) (i := 5) rfl (mLd_st1_int (by decide) l5) h
        replace h := eConst (mi := 66) (pc := 185) (len := 1) (v := 1) rfl h
        replace h := eSub (mi := 66) (pc := 186) (len := 1) rfl h
        replace h := eMax (mi := 66) (pc := 187) (len := 3) rfl h
        replace h := eIstore (mi := 66) (pc := 190) (len := 1) (i := 3) rfl (by decide) h
        replace h := eGoto (mi := 66) (pc := 191) (len := 3) (t := 236) rfl rfl h
        replace h := eIinc (mi := 66) (pc := 236) (len := 3) (i := 3) (k := 1) rfl mLd_st1_i (by decide) h
        replace h := eGoto (mi := 66) (pc := 239) (len := 3) (t := 7) rfl rfl h
        rw [if_pos (by rcases h4 with h4 | h4 <;> (first | (rw [if_neg (by omega)]; omega) | (rw [if_pos h4]; omega)))]
        exact ⟨_, N15, _, ⟨(mLd_st1_ref (by decide) (mLd_st1_ref (by decide) (mLd_st1_ref (by decide) l0))), (mLd_st1_ref (by decide) (mLd_st1_ref (by decide) (mLd_st1_ref (by decide) l2))), mLd_st1_i, mx_jump h3 h5 hy.1 hyb (by omega)⟩, hSN15, hTN15.cg (fun k hk => by rw [show k = 0 by omega, sUp_eq]), (hFN2.tr hFN15), h⟩
theorem ru_rk164 {n d : Nat} {L : MLoc} {M : Mem} {r : Option Value} {M1 : Mem} {x3 x4 x5 : Int32} {y : Int} {m : Nat} {s : Nat → Int32} {op : Int} (l0 : mLd L 0 = some (.ref 164)) (l2 : mLd L 2 = some (.ref 172)) (l3 : mLd L 3 = some (.int x3)) (l4 : mLd L 4 = some (.int x4)) (l5 : mLd L 5 = some (.int x5)) (h3 : x3.toInt = y) (hy : 0 ≤ y ∧ y ≤ 1000) (hS : Sh M) (hm : m + 2 < 40) (ho : 2 ≤ op ∧ op ≤ 9) (h4 : x4.toInt = sgC op) (hT : HT 164 169 M (m + 2) s) (h : En n d 66 194 L [] M r M1) : if (op = 5 ∨ op = 6) ∧ s (m + 1) = 0 then (r = some (.int 0) ∧ Sh M1 ∧ FrA 164 169 M M1) else RN 164 169 n d M r M1 (y + 1) (m + 1) (sUp s m (rkO op (s m) (s (m + 1)))) := by
  have hop : op = 2 ∨ op = 3 ∨ op = 4 ∨ op = 5 ∨ op = 6 ∨ op = 7 ∨ op = 8 ∨ op = 9 := by omega
  replace h := eAload (mi := 66) (pc := 194) (len := 1) (i := 0) rfl l0 h
  obtain ⟨r1, N2, g3, h⟩ := eCall (mi := 66) (pc := 195) (len := 3) (j := 69) (as := [.ref 164]) (rest := []) rfl (Or.inr (Or.inl rfl)) (by decide) rfl rfl h
  obtain ⟨qN2, hSN2, hTN2, hFN2⟩ := pop164_en (m := m + 1) hS (by omega) hT g3
  rw [qN2] at h
  replace h := eIstore (mi := 66) (pc := 198) (len := 2) (i := 7) rfl (by decide) h
  replace h := eIload (mi := 66) (pc := 200) (len := 2) (i := 7) rfl mLd_st1_i h
  rcases eIf (mi := 66) (pc := 202) (len := 3) (t := 221) rfl rfl h with ⟨c4, h⟩ | ⟨c4, h⟩
  · replace c4 : ¬ (s (m + 1)).toInt = 0 := mC_ne.1 c4
    have hyz : op = 5 ∨ op = 6 → ¬ s (m + 1) = 0 := fun _ q => c4 (by rw [q]; rfl)
    replace h := eAload (mi := 66) (pc := 221) (len := 1) (i := 0) rfl (mLd_st1_ref (by decide) l0) h
    replace h := eIload (mi := 66) (pc := 222) (len := 2) (i := 4) rfl (mLd_st1_int (by decide) l4) h
    replace h := eAload (mi := 66) (pc := 224) (len := 1) (i := 0) rfl (mLd_st1_ref (by decide) l0) h
    obtain ⟨r5, N6, g7, h⟩ := eCall (mi := 66) (pc := 225) (len := 3) (j := 69) (as := [.ref 164]) (rest := [.int x4, .ref 164]) rfl (Or.inr (Or.inl rfl)) (by decide) rfl rfl h
    obtain ⟨qN6, hSN6, hTN6, hFN6⟩ := pop164_en (m := m) hSN2 (by omega) hTN2 g7
    rw [qN6] at h
    replace h := eIload (mi := 66) (pc := 228) (len := 2) (i := 7) rfl mLd_st1_i h
    obtain ⟨r8, N9, g10, h⟩ := eCall (mi := 66) (pc := 230) (len := 3) (j := 67) (as := [.int x4, .int (s (m)), .int (s (m + 1))]) (rest := [.ref 164]) rfl (Or.inl rfl) (by decide) rfl rfl h
    obtain ⟨qN9, wN9⟩ := rkC_en (op := op) ho h4 hyz g10
    rw [qN9, wN9] at h
    obtain ⟨r11, N12, g13, h⟩ := eCall (mi := 66) (pc := 233) (len := 3) (j := 68) (as := [.ref 164, .int (rkO op (s (m)) (s (m + 1)))]) (rest := []) rfl (Or.inr (Or.inl rfl)) (by decide) rfl rfl h
    obtain ⟨qN12, hSN12, hTN12, hFN12⟩ := push164_en (m := m) hSN6 hTN6 (by omega) g13
    rw [qN12] at h
    replace h := eIinc (mi := 66) (pc := 236) (len := 3) (i := 3) (k := 1) rfl (mLd_st1_int (by decide) l3) (by decide) h
    replace h := eGoto (mi := 66) (pc := 239) (len := 3) (t := 7) rfl rfl h
    rw [if_neg (fun q => hyz q.1 q.2)]
    exact ⟨_, N12, _, ⟨(mLd_st1_ref (by decide) (mLd_st1_ref (by decide) l0)), (mLd_st1_ref (by decide) (mLd_st1_ref (by decide) l2)), mLd_st1_i, ic1 h3 (by omega) (by omega)⟩, hSN12, hTN12, ((hFN2.tr hFN6).tr hFN12), h⟩
  · replace c4 : (s (m + 1)).toInt = 0 := mC_ne.2 c4
    replace h := eIload (mi := 66) (pc := 205) (len := 2) (i := 4) rfl (mLd_st1_int (by decide) l4) h
    replace h := eConst (mi := 66) (pc := 207) (len := 2) (v := 47) rfl h
    rcases eIc (mi := 66) (pc := 209) (len := 3) (t := 219) rfl rfl h with ⟨c14, h⟩ | ⟨c14, h⟩
    · replace c14 : x4.toInt = 47 := mC_eq.1 c14
      replace h := eConst (mi := 66) (pc := 219) (len := 1) (v := 0) rfl h
      obtain ⟨e1, e2⟩ := eRetI (mi := 66) (pc := 220) (len := 1) rfl h
      rw [if_pos ⟨by rcases hop with q | q | q | q | q | q | q | q <;> (subst q; first | exact Or.inl rfl | exact Or.inr rfl | (exfalso; have q : x4.toInt = _ := h4; simp only [sgC] at q; omega)), i0_of c4⟩]
      rw [e2]
      exact ⟨e1, hSN2, hFN2⟩
    · replace c14 : ¬ x4.toInt = 47 := mC_eq.2 c14
      replace h := eIload (mi := 66) (pc := 212) (len := 2) (i := 4) rfl (mLd_st1_int (by decide) l4) h
      replace h := eConst (mi := 66) (pc := 214) (len := 2) (v := 37) rfl h
      rcases eIc (mi := 66) (pc := 216) (len := 3) (t := 221) rfl rfl h with ⟨c15, h⟩ | ⟨c15, h⟩
      · replace c15 : ¬ x4.toInt = 37 := mC_ne.1 c15
        have hyz : op = 5 ∨ op = 6 → ¬ s (m + 1) = 0 := fun q => by rcases q with q | q <;> (rw [q] at h4; first | exact absurd h4 c14 | exact absurd h4 c15)
        replace h := eAload (mi := 66) (pc := 221) (len := 1) (i := 0) rfl (mLd_st1_ref (by decide) l0) h
        replace h := eIload (mi := 66) (pc := 222) (len := 2) (i := 4) rfl (mLd_st1_int (by decide) l4) h
        replace h := eAload (mi := 66) (pc := 224) (len := 1) (i := 0) rfl (mLd_st1_ref (by decide) l0) h
        obtain ⟨r16, N17, g18, h⟩ := eCall (mi := 66) (pc := 225) (len := 3) (j := 69) (as := [.ref 164]) (rest := [.int x4, .ref 164]) rfl (Or.inr (Or.inl rfl)) (by decide) rfl rfl h
        obtain ⟨qN17, hSN17, hTN17, hFN17⟩ := pop164_en (m := m) hSN2 (by omega) hTN2 g18
        rw [qN17] at h
        replace h := eIload (mi := 66) (pc := 228) (len := 2) (i := 7) rfl mLd_st1_i h
        obtain ⟨r19, N20, g21, h⟩ := eCall (mi := 66) (pc := 230) (len := 3) (j := 67) (as := [.int x4, .int (s (m)), .int (s (m + 1))]) (rest := [.ref 164]) rfl (Or.inl rfl) (by decide) rfl rfl h
        obtain ⟨qN20, wN20⟩ := rkC_en (op := op) ho h4 hyz g21
        rw [qN20, wN20] at h
        obtain ⟨r22, N23, g24, h⟩ := eCall (mi := 66) (pc := 233) (len := 3) (j := 68) (as := [.ref 164, .int (rkO op (s (m)) (s (m + 1)))]) (rest := []) rfl (Or.inr (Or.inl rfl)) (by decide) rfl rfl h
        obtain ⟨qN23, hSN23, hTN23, hFN23⟩ := push164_en (m := m) hSN17 hTN17 (by omega) g24
        rw [qN23] at h
        replace h := eIinc (mi := 66) (pc := 236) (len := 3) (i := 3) (k := 1) rfl (mLd_st1_int (by decide) l3) (by decide) h
        replace h := eGoto (mi := 66) (pc := 239) (len := 3) (t := 7) rfl rfl h
        rw [if_neg (fun q => hyz q.1 q.2)]
        exact ⟨_, N23, _, ⟨(mLd_st1_ref (by decide) (mLd_st1_ref (by decide) l0)), (mLd_st1_ref (by decide) (mLd_st1_ref (by decide) l2)), mLd_st1_i, ic1 h3 (by omega) (by omega)⟩, hSN23, hTN23, ((hFN2.tr hFN17).tr hFN23), h⟩
      · replace c15 : x4.toInt = 37 := mC_ne.2 c15
        replace h := eConst (mi := 66) (pc := 219) (len := 1) (v := 0) rfl h
        obtain ⟨e1, e2⟩ := eRetI (mi := 66) (pc := 220) (len := 1) rfl h
        rw [if_pos ⟨by rcases hop with q | q | q | q | q | q | q | q <;> (subst q; first | exact Or.inl rfl | exact Or.inr rfl | (exfalso; have q : x4.toInt = _ := h4; simp only [sgC] at q; omega)), i0_of c4⟩]
        rw [e2]
        exact ⟨e1, hSN2, hFN2⟩
theorem ru_en164 {n d : Nat} {L : MLoc} {M : Mem} {r : Option Value} {M1 : Mem} {x3 x4 x5 : Int32} {y : Int} {m : Nat} {s : Nat → Int32} (l0 : mLd L 0 = some (.ref 164)) (l2 : mLd L 2 = some (.ref 172)) (l3 : mLd L 3 = some (.int x3)) (l4 : mLd L 4 = some (.int x4)) (l5 : mLd L 5 = some (.int x5)) (h3 : x3.toInt = y) (hy : 0 ≤ y ∧ y ≤ 1000) (hS : Sh M) (hT : HT 164 169 M 1 s) (h : En n d 66 96 L [] M r M1) : r = some (.int (s 0)) ∧ Sh M1 ∧ FrA 164 169 M M1 := by
  replace h := eAload (mi := 66) (pc := 96) (len := 1) (i := 0) rfl l0 h
  obtain ⟨r1, N2, g3, h⟩ := eCall (mi := 66) (pc := 97) (len := 3) (j := 69) (as := [.ref 164]) (rest := []) rfl (Or.inr (Or.inl rfl)) (by decide) rfl rfl h
  obtain ⟨qN2, hSN2, hTN2, hFN2⟩ := pop164_en (m := 0) hS (by omega) hT g3
  rw [qN2] at h
  obtain ⟨e1, e2⟩ := eRetI (mi := 66) (pc := 100) (len := 1) rfl h
  rw [e2]
  exact ⟨e1, hSN2, hFN2⟩
theorem run164_lp {F ty : Nat → Int} {fc : Nat → Int32} {b0 C : Nat} {sh : Int} (hty : ∀ i, b0 ≤ i → i < C → tyOk F ty (fun _ => False) C i ∧ ty i ≤ 16) (hC : ty C = 1 ∨ ty C = -1) : ∀ (n d : Nat) (L : MLoc) (M : Mem) (r : Option Value) (M1 : Mem) (x3 : Int32) (i m : Nat) (s : Nat → Int32), mLd L 0 = some (.ref 164) → mLd L 2 = some (.ref 172) → mLd L 3 = some (.int x3) → x3.toInt = (i : Int) + sh → Sh M → RS 164 165 F fc b0 C sh M → HT 164 169 M m s → b0 ≤ i → i ≤ C → TI ty i m s → En n d 66 7 L [] M r M1 → ∃ k v, ev F fc C k (i, m, s) = some v ∧ r = some (.int v) ∧ Sh M1 ∧ FrA 164 169 M M1 := by
  intro n
  induction n with
  | zero => intro d L M r M1 x3 i m s _ _ _ _ _ _ _ _ _ _ h; exact (En.zero (mi := 66) (pc := 7) (len := 1) rfl h).elim
  | succ n ih =>
    intro d L M r M1 x3 i m s l0 l2 l3 h3 hS hR hT hi hiC0 hI h
    replace h := eIloadS (mi := 66) (pc := 7) (len := 1) (i := 3) rfl l3 h
    replace h := eAload (mi := 66) (pc := 8) (len := 1) (i := 0) rfl l0 h
    replace h := eGetI (a := 164) (j := 401) hS (by decide) (by decide) rfl (mi := 66) (pc := 9) (len := 3) rfl h
    rcases eIc (mi := 66) (pc := 12) (len := 3) (t := 242) rfl rfl h with ⟨c1, h⟩ | ⟨c1, h⟩
    · replace c1 : ¬ x3.toInt < (iv M 164 1).toInt := mC_ge.1 c1
      replace h := eConst (mi := 66) (pc := 242) (len := 1) (v := 0) rfl h
      have := hR.1.2.2.1
      omega
    · replace c1 : x3.toInt < (iv M 164 1).toInt := mC_ge.2 c1
      replace h := eAload (mi := 66) (pc := 15) (len := 1) (i := 0) rfl l0 h
      replace h := eGetR (a := 164) (j := 400) (g := 165) hS (by decide) (by decide) rfl rfl rfl (mi := 66) (pc := 16) (len := 3) rfl h
      replace h := eIload (mi := 66) (pc := 19) (len := 1) (i := 3) rfl l3 h
      obtain ⟨b2, h⟩ := eIald (x := x3) hS (a := 165) (by decide) (by decide) rfl (mi := 66) (pc := 20) (len := 1) rfl h
      replace h := eConst (mi := 66) (pc := 21) (len := 2) (v := 20) rfl h
      replace h := eShr (mi := 66) (pc := 23) (len := 1) rfl h
      replace h := eIstore (mi := 66) (pc := 24) (len := 2) (i := 4) rfl (by decide) h
      replace h := eAload (mi := 66) (pc := 26) (len := 1) (i := 0) rfl (mLd_st1_ref (by decide) l0) h
      replace h := eGetR (a := 164) (j := 400) (g := 165) hS (by decide) (by decide) rfl rfl rfl (mi := 66) (pc := 27) (len := 3) rfl h
      replace h := eIload (mi := 66) (pc := 30) (len := 1) (i := 3) rfl (mLd_st1_int (by decide) l3) h
      obtain ⟨b3, h⟩ := eIald (x := x3) hS (a := 165) (by decide) (by decide) rfl (mi := 66) (pc := 31) (len := 1) rfl h
      replace h := eConst (mi := 66) (pc := 32) (len := 2) (v := 1048575) rfl h
      replace h := eAnd (mi := 66) (pc := 34) (len := 1) rfl h
      replace h := eIstore (mi := 66) (pc := 35) (len := 2) (i := 5) rfl (by decide) h
      replace h := eIload (mi := 66) (pc := 37) (len := 2) (i := 4) rfl (mLd_st1_int (by decide) mLd_st1_i) h
      have ix : x3.toInt.toNat = ((i : Int) + sh).toNat := by rw [h3]
      by_cases hiC : i < C
      · have ew := hR.1.1 i hi hiC
        rw [← ix] at ew
        obtain ⟨hok, h16⟩ := hty i hi hiC
        obtain ⟨_, _, _, sh0, shC⟩ := hR.1
        have fin : ∀ {i2 m2 : Nat} {s2 : Nat → Int32}, RN 164 169 n d M r M1 ((i2 : Int) + sh) m2 s2 → b0 ≤ i2 → i2 ≤ C → TI ty i2 m2 s2 → ∃ k v, ev F fc C k (i2, m2, s2) = some v ∧ r = some (.int v) ∧ Sh M1 ∧ FrA 164 169 M M1 := fun z a1 a2 a3 => by
          obtain ⟨L2, N2, x2, ⟨z0, z2, z3, z4⟩, zS, zT, zF, zh⟩ := z
          obtain ⟨k, v, w1, w2, w3, w4⟩ := ih _ _ _ _ _ _ _ _ _ z0 z2 z3 z4 zS (hR.fr zF (show 165 ≠ 164 ∧ 165 ≠ 169 ∧ 164 ≠ 169 ∧ 172 ≠ 164 ∧ 172 ≠ 169 by decide)) zT a1 a2 a3 zh
          exact ⟨k, v, w1, w2, w3, zF.tr w4⟩
        rcases hok with ⟨a, b, c⟩ | ⟨a, b, c⟩ | ⟨a, b, c⟩ | ⟨a, b, c⟩ | ⟨a, b, c, q⟩
        · have hm := hI.pos b
          rcases a with a | a
          · have ea : encA sh (F i) = cAr (F i) := by unfold encA; rw [if_neg (by omega), if_neg (by omega)]
            obtain ⟨g4, g5⟩ := enc_rd ew (by rw [ea]; unfold cAr; omega) (by rw [ea]; unfold cAr; omega)
            rw [a] at g4
            have g4 : (iv M 165 x3.toInt.toNat >>> (Int32.ofInt 20 &&& 31)).toInt = 48 := g4
            replace h := eLsw (o := 62) (t := 101) (mi := 66) (pc := 39) (len := 57) rfl (by rw [g4]; rfl) rfl h
            have z := ru_nu164 (mLd_st1_ref (by decide) (mLd_st1_ref (by decide) l0)) (mLd_st1_ref (by decide) (mLd_st1_ref (by decide) l2)) (mLd_st1_int (by decide) (mLd_st1_int (by decide) l3)) (mLd_st1_int (by decide) mLd_st1_i) mLd_st1_i h3 (by omega) hS (by omega) hT h
            have ev5 : (iv M 165 x3.toInt.toNat &&& Int32.ofInt 1048575) = Int32.ofInt (cAr (F i)) := by rw [← ea, ← g5, Int32.ofInt_toInt]
            rw [ev5, show ((i : Int) + sh + 1) = (((i + 1 : Nat) : Int) + sh) by omega] at z
            obtain ⟨k, v, w1, w2⟩ := fin z (by omega) (by omega) (TI.mk (by omega) (by omega))
            exact ⟨k + 1, v, by rw [ev_num hiC a]; exact w1, w2⟩
          · have ea : encA sh (F i) = clF (cAr (F i)) := by unfold encA; rw [if_pos a.1]
            have rg := clF_rg (a := cAr (F i))
            obtain ⟨g4, g5⟩ := enc_rd ew (by omega) (by omega)
            rw [a.1] at g4
            have g4 : (iv M 165 x3.toInt.toNat >>> (Int32.ofInt 20 &&& 31)).toInt = 97 := g4
            replace h := eLsw (o := 71) (t := 110) (mi := 66) (pc := 39) (len := 57) rfl (by rw [g4]; rfl) rfl h
            have z := ru_le164 (mLd_st1_ref (by decide) (mLd_st1_ref (by decide) l0)) (mLd_st1_ref (by decide) (mLd_st1_ref (by decide) l2)) (mLd_st1_int (by decide) (mLd_st1_int (by decide) l3)) (mLd_st1_int (by decide) mLd_st1_i) mLd_st1_i h3 (by omega) hS (by omega) (by omega) hT h
            have c0 : 0 ≤ cAr (F i) := by unfold cAr; omega
            have ev5 : iv M 172 (iv M 165 x3.toInt.toNat &&& Int32.ofInt 1048575).toInt.toNat = fc (cAr (F i)).toNat := by
              rw [g5, ea, ← hR.2 (cAr (F i)).toNat (by omega)]
              congr 3
              omega
            rw [ev5, show ((i : Int) + sh + 1) = (((i + 1 : Nat) : Int) + sh) by omega] at z
            obtain ⟨k, v, w1, w2⟩ := fin z (by omega) (by omega) (TI.mk (by omega) (by omega))
            exact ⟨k + 1, v, by rw [ev_let hiC a.1]; exact w1, w2⟩
        · have hm := hI.pos (by omega)
          have ea : encA sh (F i) = cAr (F i) := by unfold encA; rw [if_neg (by omega), if_neg (by omega)]
          obtain ⟨g4, g5⟩ := enc_rd ew (by rw [ea]; unfold cAr; omega) (by rw [ea]; unfold cAr; omega)
          obtain ⟨m, rfl⟩ : ∃ m2, m = m2 + 2 := ⟨m - 2, by omega⟩
          replace h := eLsw (o := 155) (t := 194) (mi := 66) (pc := 39) (len := 57) rfl (by rw [g4]; rcases (show cOp (F i) = 2 ∨ cOp (F i) = 3 ∨ cOp (F i) = 4 ∨ cOp (F i) = 5 ∨ cOp (F i) = 6 by omega) with q | q | q | q | q <;> (rw [q]; rfl)) rfl h
          have z := ru_rk164 (op := cOp (F i)) (mLd_st1_ref (by decide) (mLd_st1_ref (by decide) l0)) (mLd_st1_ref (by decide) (mLd_st1_ref (by decide) l2)) (mLd_st1_int (by decide) (mLd_st1_int (by decide) l3)) (mLd_st1_int (by decide) mLd_st1_i) mLd_st1_i h3 (by omega) hS (by omega) (by omega) g4 hT h
          by_cases dz : (cOp (F i) = 5 ∨ cOp (F i) = 6) ∧ s (m + 1) = 0
          · rw [if_pos dz] at z
            exact ⟨1, 0, by rw [ev_rk hiC (by omega)]; exact if_pos dz, z⟩
          · rw [if_neg dz, show ((i : Int) + sh + 1) = (((i + 1 : Nat) : Int) + sh) by omega] at z
            obtain ⟨k, v, w1, w2⟩ := fin z (by omega) (by omega) (TI.mk (by omega) (by omega))
            exact ⟨k + 1, v, by rw [ev_rk hiC (by omega)]; exact (if_neg dz).trans w1, w2⟩
        · have hm := hI.pos (by omega)
          have ea : encA sh (F i) = cAr (F i) := by unfold encA; rw [if_neg (by omega), if_neg (by omega)]
          obtain ⟨g4, g5⟩ := enc_rd ew (by rw [ea]; unfold cAr; omega) (by rw [ea]; unfold cAr; omega)
          obtain ⟨m, rfl⟩ : ∃ m2, m = m2 + 2 := ⟨m - 2, by omega⟩
          replace h := eLsw (o := 155) (t := 194) (mi := 66) (pc := 39) (len := 57) rfl (by rw [g4]; rcases (show cOp (F i) = 7 ∨ cOp (F i) = 8 ∨ cOp (F i) = 9 by omega) with q | q | q <;> (rw [q]; rfl)) rfl h
          have z := ru_rk164 (op := cOp (F i)) (mLd_st1_ref (by decide) (mLd_st1_ref (by decide) l0)) (mLd_st1_ref (by decide) (mLd_st1_ref (by decide) l2)) (mLd_st1_int (by decide) (mLd_st1_int (by decide) l3)) (mLd_st1_int (by decide) mLd_st1_i) mLd_st1_i h3 (by omega) hS (by omega) (by omega) g4 hT h
          have m0 : m = 0 := by omega
          subst m0
          rw [if_neg (by omega), show ((i : Int) + sh + 1) = (((i + 1 : Nat) : Int) + sh) by omega] at z
          obtain ⟨k, v, w1, w2⟩ := fin z (by omega) (by omega) (TI.mk1 c (by rw [sUp_eq]; exact rkO_01 a))
          exact ⟨k + 1, v, by rw [ev_rk hiC (by omega)]; exact (if_neg (by omega)).trans w1, w2⟩
        · obtain ⟨m1, h01⟩ := hI.one b
          subst m1
          have ea : encA sh (F i) = cAr (F i) := by unfold encA; rw [if_neg (by omega), if_neg (by omega)]
          obtain ⟨g4, g5⟩ := enc_rd ew (by rw [ea]; unfold cAr; omega) (by rw [ea]; unfold cAr; omega)
          rw [a] at g4
          have g4 : (iv M 165 x3.toInt.toNat >>> (Int32.ofInt 20 &&& 31)).toInt = 33 := g4
          replace h := eLsw (o := 93) (t := 132) (mi := 66) (pc := 39) (len := 57) rfl (by rw [g4]; rfl) rfl h
          have z := ru_no164 (m := 0) (mLd_st1_ref (by decide) (mLd_st1_ref (by decide) l0)) (mLd_st1_ref (by decide) (mLd_st1_ref (by decide) l2)) (mLd_st1_int (by decide) (mLd_st1_int (by decide) l3)) (mLd_st1_int (by decide) mLd_st1_i) mLd_st1_i h3 (by omega) hS hT h
          rw [show ((i : Int) + sh + 1) = (((i + 1 : Nat) : Int) + sh) by omega] at z
          obtain ⟨k, v, w1, w2⟩ := fin z (by omega) (by omega) (TI.mk1 c (by rw [sUp_eq]; exact not_01 h01))
          exact ⟨k + 1, v, by rw [ev_not hiC a]; exact w1, w2⟩
        · obtain ⟨m1, h01⟩ := hI.one b
          subst m1
          obtain ⟨v0, v1, v2, v3, v4⟩ := q.resolve_left id
          have ea : encA sh (F i) = (v0 : Int) + sh := by unfold encA; rw [if_neg (by omega), if_pos a, if_neg (by omega), v1]
          obtain ⟨g4, g5⟩ := enc_rd ew (by omega) (by omega)
          have t0 : (cAr (F i)).toNat = v0 := by omega
          have done : ∀ x : Int, (x = if cOp (F i) = 12 then 1 else 0) → (if (s 0).toInt = x then RN 164 169 n d M r M1 ((v0 : Int) + sh) 1 s else RN 164 169 n d M r M1 ((i : Int) + sh + 1) 0 s) → ∃ k v, ev F fc C k (i, 1, s) = some v ∧ r = some (.int v) ∧ Sh M1 ∧ FrA 164 169 M M1 := fun x hx z => by
            by_cases dz : (s 0).toInt = x
            · rw [if_pos dz] at z
              obtain ⟨k, v, w1, w2⟩ := fin z (by omega) v3 (TI.mk1 v4 h01)
              exact ⟨k + 1, v, by rw [ev_jmp hiC a, t0]; exact (if_pos (dz.trans hx)).trans w1, w2⟩
            · rw [if_neg dz, show ((i : Int) + sh + 1) = (((i + 1 : Nat) : Int) + sh) by omega] at z
              obtain ⟨k, v, w1, w2⟩ := fin z (by omega) (by omega) (TI.mk (by omega) (by omega))
              exact ⟨k + 1, v, by rw [ev_jmp hiC a]; exact (if_neg (fun q => dz (q.trans hx.symm))).trans w1, w2⟩
          rcases a with a | a
          · rw [a] at g4
            have g4 : (iv M 165 x3.toInt.toNat >>> (Int32.ofInt 20 &&& 31)).toInt = 38 := g4
            replace h := eLsw (o := 106) (t := 145) (mi := 66) (pc := 39) (len := 57) rfl (by rw [g4]; rfl) rfl h
            have z := ru_ju164 (m := 0) (b := (v0 : Int) + sh) (mLd_st1_ref (by decide) (mLd_st1_ref (by decide) l0)) (mLd_st1_ref (by decide) (mLd_st1_ref (by decide) l2)) (mLd_st1_int (by decide) (mLd_st1_int (by decide) l3)) (mLd_st1_int (by decide) mLd_st1_i) mLd_st1_i h3 (by omega) hS (Or.inl g4) (by rw [g5, ea]) (by omega) (by omega) (i01 h01) hT h
            refine done 0 (by rw [a]; rfl) ?_
            rw [g4] at z
            exact z
          · rw [a] at g4
            have g4 : (iv M 165 x3.toInt.toNat >>> (Int32.ofInt 20 &&& 31)).toInt = 124 := g4
            replace h := eLsw (o := 106) (t := 145) (mi := 66) (pc := 39) (len := 57) rfl (by rw [g4]; rfl) rfl h
            have z := ru_ju164 (m := 0) (b := (v0 : Int) + sh) (mLd_st1_ref (by decide) (mLd_st1_ref (by decide) l0)) (mLd_st1_ref (by decide) (mLd_st1_ref (by decide) l2)) (mLd_st1_int (by decide) (mLd_st1_int (by decide) l3)) (mLd_st1_int (by decide) mLd_st1_i) mLd_st1_i h3 (by omega) hS (Or.inr g4) (by rw [g5, ea]) (by omega) (by omega) (i01 h01) hT h
            refine done 1 (by rw [a]; rfl) ?_
            rw [g4] at z
            exact z
      · have eC : i = C := by omega
        subst eC
        have ew := hR.1.2.1
        rw [← ix] at ew
        have g4 : (iv M 165 x3.toInt.toNat >>> (Int32.ofInt 20 &&& 31)).toInt = 59 := by rw [shr_20, ew]; decide
        replace h := eLsw (o := 57) (t := 96) (mi := 66) (pc := 39) (len := 57) rfl (by rw [g4]; rfl) rfl h
        have m1 : m = 1 := by
          rcases hC with q | q
          · have := hI.pos (by omega)
            omega
          · exact (hI.one q).1
        subst m1
        have z := ru_en164 (m := 0) (mLd_st1_ref (by decide) (mLd_st1_ref (by decide) l0)) (mLd_st1_ref (by decide) (mLd_st1_ref (by decide) l2)) (mLd_st1_int (by decide) (mLd_st1_int (by decide) l3)) (mLd_st1_int (by decide) mLd_st1_i) mLd_st1_i h3 (by have := hR.1; omega) hS hT h
        exact ⟨1, _, ev_end (Nat.le_refl _), z⟩
theorem run164_en {F ty : Nat → Int} {fc : Nat → Int32} {b0 C : Nat} {sh : Int} (hty : ∀ i, b0 ≤ i → i < C → tyOk F ty (fun _ => False) C i ∧ ty i ≤ 16) (hC : ty C = 1 ∨ ty C = -1) (h0 : ty b0 = 0) (hbC : b0 ≤ C) {n d : Nat} {M : Mem} {r : Option Value} {M1 : Mem} {x3 : Int32} (h3 : x3.toInt = (b0 : Int) + sh) (hS : Sh M) (hR : RS 164 165 F fc b0 C sh M) (h : En n d 66 0 (lv_args 0 [.ref 164, .int x3, .ref 172]) [] M r M1) : ∃ k v, ev F fc C k (b0, 0, fun _ => 0) = some v ∧ r = some (.int v) ∧ Sh M1 ∧ FrA 164 169 M M1 := by
  replace h := eAload (mi := 66) (pc := 0) (len := 1) (i := 0) rfl rfl h
  replace h := eConst (mi := 66) (pc := 1) (len := 1) (v := 0) rfl h
  obtain ⟨N1, eN1⟩ : ∃ X_, X_ = mPut M 164 7 (.int (0 : Int32)) := ⟨_, rfl⟩
  replace h := ePutE (a := 164) (f := 7) (N := N1) rfl eN1 (mi := 66) (pc := 2) (len := 3) (j := 407) rfl h
  have hS2 : Sh N1 := by rw [eN1]; exact hS.put (by decide) (by decide) rfl
  replace h := eIload (mi := 66) (pc := 5) (len := 1) (i := 1) rfl rfl h
  replace h := eIstore (mi := 66) (pc := 6) (len := 1) (i := 3) rfl (by decide) h
  have f1 : FrA 164 169 M N1 := fun c i h1 h2 => by rw [eN1, mSlot_put_ne (by omega)]
  obtain ⟨k, v, w1, w2, w3, w4⟩ := run164_lp hty hC _ _ _ _ _ _ _ b0 0 (fun _ => 0) rfl rfl rfl h3 hS2 (hR.fr f1 (show 165 ≠ 164 ∧ 165 ≠ 169 ∧ 164 ≠ 169 ∧ 172 ≠ 164 ∧ 172 ≠ 169 by decide)) ⟨by rw [eN1, iv_put_eq hS (by decide) (by decide) (by decide)]; rfl, fun k hk => absurd hk (by omega)⟩ (Nat.le_refl _) hbC (TI.mk (by omega) (by omega)) h
  exact ⟨k, v, w1, w2, w3, f1.tr w4⟩
