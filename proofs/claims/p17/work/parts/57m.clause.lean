/-! clauses begun and ended -/
section
variable {γ γ' : Gh} {V V' : Vw}
theorem xp_lim (h : xp γ V) : (if (γ 1001 6).toInt = 1 then (γ 1001 10).toInt.toNat else (xI V 181 30).toNat) ≤ (xI V 181 30).toNat := by
  by_cases c : (γ 1001 6).toInt = 1
  · rw [if_pos c]
    exact (h.1 c).1.2.2.2
  · rw [if_neg c]
    exact Nat.le_refl _
theorem xp_new (h : xp γ V) (hs : ∀ j : Nat, (j : Int) < xI V 181 32 → xI V' 205 j = xI V 205 j ∧ xI V' 206 j = xI V 206 j ∧ xI V' 207 j = xI V 207 j ∧ xI V' 208 j = xI V 208 j) (h3 : xI V' 203 = xI V 203) (h30 : xI V' 181 30 = xI V 181 30) (h32 : xI V' 181 32 = xI V 181 32) (h31 : xI V' 181 31 = 0) (m0 : 0 ≤ xI V 181 30) (e0 : (γ' 1001 0).toInt = xI V 181 30) (e1 : γ' 1001 1 = 0) (e2 : γ' 1001 2 = 0) (e3 : γ' 1001 3 = -1) (e4 : γ' 1001 4 = 0) (e5 : γ' 1001 5 = 0) (e6 : γ' 1001 6 = 1) (eS : (γ' 1001 10).toInt = xI V 181 30)
    (hL : 0 ≤ (γ' 1001 7).toInt → xI V' 205 (xI V 181 32).toNat = (γ' 1001 7).toInt ∧ xI V' 206 (xI V 181 32).toNat = xI V 181 30)
    (h1 : (γ' 1001 8).toInt = 1 → xI V' 207 (xI V 181 32).toNat = xI V 181 30 ∧ (xI V' 205 (xI V 181 32).toNat = 121 → xPr (xI V 203) 0 (xI V' 206 (xI V 181 32).toNat).toNat (xI V 181 30).toNat))
    (h2 : (γ' 1001 9).toInt = 1 → xI V' 207 (xI V 181 32).toNat = xI V 181 30 ∧ (xI V' 205 (xI V 181 32).toNat = 121 → xPr (xI V 203) 0 (xI V' 206 (xI V 181 32).toNat).toNat (xI V 181 30).toNat)) : xp γ' V' := by
  have a1 : (γ' 1001 6).toInt = 1 := by rw [e6]; rfl
  have hl := xp_lim h
  unfold xp
  rw [h32, h30, h3, h31, eS, if_pos a1]
  refine ⟨fun _ => ?_, ?_, fun c => ⟨a1, (hL c).1, (hL c).2⟩, h1, fun c => ⟨a1, h2 c⟩⟩
  · rw [e5]
    refine xB_A (m := (xI V 181 30).toNat) (sg := (xI V 181 30).toNat) (w := 0) (p := 0) ?_ (by rw [e1]; rfl) (by rw [e2]; rfl) (by rw [e3]; rfl) (by rw [e4]; rfl) (by rw [e5]; rfl) ?_ (xB_new)
    · rw [e0]; omega
    · rw [eS]; omega
  · intro j hj
    obtain ⟨s5, s6, s7, s8⟩ := hs j hj
    exact xSc_c s5 s6 s7 s8 hl (fun k _ => by rw [h3]) (h.2.1 j hj)
/-- the codes since the piece began, once nothing waits -/
theorem xA_pr {f wa : Nat → Int} {m p sg : Nat} (h : xA γ f wa 0 m p sg) : xPr f 0 sg m := by
  obtain ⟨⟨_, hp, _, hm⟩, _, _, d, _⟩ := h
  refine ⟨hm, fun k h1 h2 => xOk_c rfl (fun _ _ => rfl) (Nat.le_refl _) h1 h2 ?_ (d k h1 h2)⟩
  intro o ⟨j, j1, _⟩
  omega
theorem xp_half (h : xp γ V) (hv : ∀ c, 203 ≤ c → c ≤ 208 → c ≠ 207 → V' c = V c) (hk : ∀ j : Nat, (j : Int) ≠ xI V 181 32 → xI V' 207 j = xI V 207 j) (h181 : ∀ i, xI V' 181 i = xI V 181 i) (n0 : 0 ≤ xI V 181 32) (hn : xI V' 207 (xI V 181 32).toNat = xI V 181 30) (hg : ∀ i, i ≠ 8 → i ≠ 9 → γ' 1001 i = γ 1001 i) (e2 : γ' 1001 9 = 0)
    (h1 : xI V 205 (xI V 181 32).toNat = 121 → xPr (xI V 203) 0 (xI V 206 (xI V 181 32).toNat).toNat (xI V 181 30).toNat) : xp γ' V' := by
  have e : ∀ c, 203 ≤ c → c ≤ 208 → c ≠ 207 → xI V' c = xI V c := by intro c c1 c2 c3; funext i; unfold xI; rw [hv c c1 c2 c3]
  have g : ∀ f wa w m p sg, xA γ' f wa w m p sg = xA γ f wa w m p sg := by
    intro f wa w m p sg
    unfold xA
    rw [hg 0 (by decide) (by decide), hg 1 (by decide) (by decide), hg 2 (by decide) (by decide), hg 3 (by decide) (by decide), hg 4 (by decide) (by decide), hg 5 (by decide) (by decide), hg 10 (by decide) (by decide)]
  obtain ⟨q1, q2, q3, _, _⟩ := h
  unfold xp
  rw [h181, h181, h181, e 203 (by decide) (by decide) (by decide), e 204 (by decide) (by decide) (by decide), e 205 (by decide) (by decide) (by decide), e 206 (by decide) (by decide) (by decide), hg 6 (by decide) (by decide), hg 5 (by decide) (by decide), hg 7 (by decide) (by decide), hg 10 (by decide) (by decide), e2]
  refine ⟨fun c => by rw [g]; exact q1 c, ?_, q3, fun _ => ⟨hn, h1⟩, fun c => absurd c (by decide)⟩
  intro j hj
  exact xSc_c (by rw [e 205 (by decide) (by decide) (by decide)]) (by rw [e 206 (by decide) (by decide) (by decide)]) (hk j (by omega)) (by rw [e 208 (by decide) (by decide) (by decide)]) (Nat.le_refl _) (fun k _ => by rw [e 203 (by decide) (by decide) (by decide)]) (q2 j hj)
theorem xp_to (h : xp γ V) (a1 : (γ 1001 6).toInt = 1) (c2 : (γ 1001 9).toInt = 1) (hw : xI V 181 31 = 0) (hv : ∀ c, 203 ≤ c → c ≤ 207 → V' c = V c) (hk : ∀ j : Nat, (j : Int) ≠ xI V 181 32 → xI V' 208 j = xI V 208 j) (n0 : 0 ≤ xI V 181 32) (hn : xI V' 208 (xI V 181 32).toNat = xI V 181 30) (h30 : xI V' 181 30 = xI V 181 30) (h32 : xI V' 181 32 = xI V 181 32 + 1) (e6 : γ' 1001 6 = 0) (e7 : γ' 1001 7 = -1) (e8 : γ' 1001 8 = 0) (e9 : γ' 1001 9 = 0) : xp γ' V' := by
  have e : ∀ c, 203 ≤ c → c ≤ 207 → xI V' c = xI V c := by intro c c1 c2; funext i; unfold xI; rw [hv c c1 c2]
  have hl := xp_lim h
  obtain ⟨q1, q2, q3, _, q5⟩ := h
  have hA := q1 a1
  rw [hw] at hA
  obtain ⟨_, r1, r2⟩ := q5 c2
  have hp := xA_pr hA
  have a0 : ¬ (γ' 1001 6).toInt = 1 := by rw [e6]; decide
  unfold xp
  rw [if_neg a0, h30, h32, e7, e8, e9]
  refine ⟨fun c => absurd c a0, ?_, fun c => absurd c (by decide), fun c => absurd c (by decide), fun c => absurd c (by decide)⟩
  intro j hj
  by_cases z : (j : Int) = xI V 181 32
  · have z2 : (xI V 181 32).toNat = j := by omega
    rw [z2] at hn r1 r2
    unfold xSc
    rw [e 203 (by decide) (by decide), e 205 (by decide) (by decide), e 206 (by decide) (by decide), e 207 (by decide) (by decide), hn, r1]
    exact ⟨Nat.le_refl _, hp, r2⟩
  · exact xSc_c (by rw [e 205 (by decide) (by decide)]) (by rw [e 206 (by decide) (by decide)]) (by rw [e 207 (by decide) (by decide)]) (hk j z) hl (fun k _ => by rw [e 203 (by decide) (by decide)]) (q2 j (by omega))
theorem xp_zero (h32 : xI V 181 32 = 0) (e6 : γ 1001 6 = 0) (e7 : γ 1001 7 = -1) (e8 : γ 1001 8 = 0) (e9 : γ 1001 9 = 0) : xp γ V := by
  unfold xp
  rw [h32, e6, e7, e8, e9]
  exact ⟨fun c => absurd c (by decide), fun j hj => by omega, fun c => absurd c (by decide), fun c => absurd c (by decide), fun c => absurd c (by decide)⟩
end
theorem gs_rcr {s : List Int32} : gSound0 s sg_rcr := by
  intro γ d σ L st0 st M Q _ h k
  have e0 := eNil h
  subst e0
  have hl0 := eR h (i := 0) (g := 181) (c := 0) rfl rfl
  have q1_8 : (γ 1001 8).toInt = σ 0 + 1 := eG h (g := 1001) (i := 8) (sy := 0) (c := 1) (by decide) (List.Mem.head _)
  obtain ⟨f30, hf30, ef30⟩ := eF h (g := 181) (i := 30) (sy := 1) (c := 0) (by decide) (by decide) rfl (List.Mem.tail _ (List.Mem.head _))
  have b1 := eB h (i := 1) (lo := 0) (hi := 178) rfl
  have s0 := h.1.2.1.1
  have h8 : x8 (s, γ) := h.2.2.2.1.2
  have hX : tXI γ M := h.2.2.2.2.2.2
  have hT := aTp_of h.2.2.2
  have hd := hT.hd (c := 181) (by decide) (by decide)
  obtain ⟨n, hn, n0, n1⟩ := hT.int (c := 181) (i := 32) (by decide) (by decide) (by decide) (lo := 0) (hi' := 12) (gs := []) rfl
  refine kAload (mi := 210) (pc := 24) (len := 1) (i := 0) rfl hl0 ?_
  refine kIconst (len := 1) (v := 0) rfl ?_
  refine kPutf (len := 3) (j := 1131) rfl hd (by decide) (by decide) rfl ?_
  have hp := hX.2.2.2.2.2.2
  have i30 : xI (xv M) 181 30 = f30.toInt := xI_at rfl hf30
  have c1 := hp.2.2.2.1 (by omega)
  have hv : ∀ c, c ≠ 181 → xv (mPut M 181 31 (.int 0)) c = xv M c := fun c h => xv_put h
  have hx : ∀ c, c ≠ 181 → xI (xv (mPut M 181 31 (.int 0))) c = xI (xv M) c := fun c h => xI_oth h
  have hY : tXI (gUp (gUp (gUp (gUp (gUp (gUp (gUp (gUp (gUp (gUp γ 1001 6 1) 1001 5 0) 1001 1 0) 1001 2 0) 1001 3 (-1)) 1001 4 0) 1001 0 f30) 1001 10 f30) 1001 9 1) 1001 7 (-1)) (mPut M 181 31 (.int 0)) := by
    refine tXI_par hX (gN_up (gN_up (gN_up (gN_up (gN_up (gN_up (gN_up (gN_up (gN_up (gN_up gN_rf)))))))))) (fun c c1 _ => hv c c1) (xI_ne (Or.inr (by decide))) ?_
    refine xp_new hp (fun j _ => ⟨by rw [hx 205 (by decide)], by rw [hx 206 (by decide)], by rw [hx 207 (by decide)], by rw [hx 208 (by decide)]⟩) (hx 203 (by decide)) (xI_ne (Or.inr (by decide))) (xI_ne (Or.inr (by decide))) (xI_put rfl hd (by decide)) (by omega) (by rw [i30]; rfl) rfl rfl rfl rfl rfl rfl (by rw [i30]; rfl) (fun c => absurd (show 0 ≤ (-1 : Int32).toInt from c) (by decide)) ?_ ?_
    · intro _
      rw [hx 205 (by decide), hx 206 (by decide), hx 207 (by decide)]
      exact c1
    · intro _
      rw [hx 205 (by decide), hx 206 (by decide), hx 207 (by decide)]
      exact c1
  refine k (gUp (gUp (gUp (gUp (gUp (gUp (gUp (gUp (gUp (gUp γ 1001 6 1) 1001 5 0) 1001 1 0) 1001 2 0) 1001 3 (-1)) 1001 4 0) 1001 0 f30) 1001 10 f30) 1001 9 1) 1001 7 (-1)) σ _ L [] _ (List.Mem.head _) (fun _ _ => rfl) (aFr_put rfl) (gFr_up rfl (gFr_up rfl (gFr_up rfl (gFr_up rfl (gFr_up rfl (gFr_up rfl (gFr_up rfl (gFr_up rfl (gFr_up rfl (gFr_up rfl gFr.rf)))))))))) aExt.rf ?_
  exact mkHold (by decide) s0 ⟨b00 s0, b1, True.intro⟩ True.intro ⟨hF1_gh (by decide) (by decide) (by show (1 : Int) = σ 0 + 1; omega), hF1_re rfl (by decide) (by decide) (mSlot_put_eq hd (by decide)) (by show (0 : Int) = σ 0 + 0; omega), hF1_gh (by decide) (by decide) (by show (0 : Int) = σ 0 + 0; omega), hF1_gh (by decide) (by decide) (by show (0 : Int) = σ 0 + 0; omega), hF1_gh (by decide) (by decide) (by show (0 : Int) = σ 0 + 0; omega), hF1_gh (by decide) (by decide) (by show (-1 : Int) = σ 0 + (-1); omega), hF1_gh (by decide) (by decide) (by show (0 : Int) = σ 0 + 0; omega), hF1_gh (by decide) (by decide) (by show (f30 : Int32).toInt = σ 1 + 0; omega), hF1_gh (by decide) (by decide) (by show (1 : Int) = σ 0 + 1; omega), True.intro⟩ True.intro (aMem_mk h8 (hT.put (a := 181) (i := 31) (v := .int 0) (by decide) (by decide) ⟨_, rfl, by decide, by decide⟩) hY)
theorem gs_rc1 {s : List Int32} : gSound0 s sg_rc1 := by
  intro γ d σ L st0 st M Q _ h k
  have e0 := eNil h
  subst e0
  have hl0 := eR h (i := 0) (g := 181) (c := 0) rfl rfl
  obtain ⟨l1, hl1, el1⟩ := eI h (i := 1) (sy := 1) (c := 0) rfl
  obtain ⟨f32, hf32, ef32⟩ := eF h (g := 181) (i := 32) (sy := 2) (c := 0) (by decide) (by decide) rfl (List.Mem.head _)
  obtain ⟨f30, hf30, ef30⟩ := eF h (g := 181) (i := 30) (sy := 3) (c := 0) (by decide) (by decide) rfl (List.Mem.tail _ (List.Mem.head _))
  obtain ⟨f26, hf26, ef26⟩ := eF h (g := 181) (i := 26) (sy := 4) (c := 0) (by decide) (by decide) rfl (List.Mem.tail _ (List.Mem.tail _ (List.Mem.head _)))
  have b1 := eB h (i := 1) (lo := 0) (hi := 255) rfl
  have b2 := eB h (i := 2) (lo := 0) (hi := 11) rfl
  have b3 := eB h (i := 3) (lo := 0) (hi := 178) rfl
  have b4 := eB h (i := 4) (lo := 0) (hi := 159) rfl
  have s0 := h.1.2.1.1
  have h8 : x8 (s, γ) := h.2.2.2.1.2
  have hX : tXI γ M := h.2.2.2.2.2.2
  have hT := aTp_of h.2.2.2
  have hd := hT.hd (c := 181) (by decide) (by decide)
  have ep : (f26 + 1).toInt = f26.toInt + 1 := i32_inc (by omega) (by omega)
  refine kAload (mi := 211) (pc := 52) (len := 1) (i := 0) rfl hl0 ?_
  refine kGetf (len := 3) (j := 1136) rfl hd (by decide) (t181_ref hT (i := 36) (g := 205) (lo := 0) (hi := 0) (by decide) rfl rfl) ?_
  refine kAload (len := 1) (i := 0) rfl hl0 ?_
  refine kGetf (len := 3) (j := 1132) rfl hd (by decide) hf32 ?_
  refine kIload (len := 1) (i := 1) rfl hl1 ?_
  refine kIast (len := 1) (n := 12) rfl (hT.hd (c := 205) (by decide) (by decide)) (by decide) (by omega) (by show f32.toInt < 12; omega) ?_
  refine kAload (len := 1) (i := 0) rfl hl0 ?_
  refine kAload (len := 1) (i := 0) rfl hl0 ?_
  refine kGetf (len := 3) (j := 1126) rfl (mHd_put.trans hd) (by decide) ((mSlot_put_ne (Or.inl (by decide))).trans hf26) ?_
  refine kIconst (len := 1) (v := 1) rfl ?_
  refine kAdd (len := 1) rfl ?_
  refine kPutf (len := 3) (j := 1126) rfl (mHd_put.trans hd) (by decide) (by decide) rfl ?_
  refine kAload (len := 1) (i := 0) rfl hl0 ?_
  refine kGetf (len := 3) (j := 1137) rfl (mHd_put.trans (mHd_put.trans hd)) (by decide) ((mSlot_put_ne (Or.inr (by decide))).trans ((mSlot_put_ne (Or.inl (by decide))).trans (t181_ref hT (i := 37) (g := 206) (lo := 0) (hi := 0) (by decide) rfl rfl))) ?_
  refine kAload (len := 1) (i := 0) rfl hl0 ?_
  refine kGetf (len := 3) (j := 1132) rfl (mHd_put.trans (mHd_put.trans hd)) (by decide) ((mSlot_put_ne (Or.inr (by decide))).trans ((mSlot_put_ne (Or.inl (by decide))).trans hf32)) ?_
  refine kAload (len := 1) (i := 0) rfl hl0 ?_
  refine kGetf (len := 3) (j := 1130) rfl (mHd_put.trans (mHd_put.trans hd)) (by decide) ((mSlot_put_ne (Or.inr (by decide))).trans ((mSlot_put_ne (Or.inl (by decide))).trans hf30)) ?_
  refine kIast (len := 1) (n := 12) rfl (mHd_put.trans (mHd_put.trans (hT.hd (c := 206) (by decide) (by decide)))) (by decide) (by omega) (by show f32.toInt < 12; omega) ?_
  refine kAload (len := 1) (i := 0) rfl hl0 ?_
  refine kIconst (len := 1) (v := 0) rfl ?_
  refine kPutf (len := 3) (j := 1129) rfl (mHd_put.trans (mHd_put.trans (mHd_put.trans hd))) (by decide) (by decide) rfl ?_
  refine kAload (len := 1) (i := 0) rfl hl0 ?_
  refine kIconst (len := 1) (v := 0) rfl ?_
  refine kPutf (len := 3) (j := 1131) rfl (mHd_put.trans (mHd_put.trans (mHd_put.trans (mHd_put.trans hd)))) (by decide) (by decide) rfl ?_
  have hp := hX.2.2.2.2.2.2
  have i30 : xI (xv M) 181 30 = f30.toInt := xI_at rfl hf30
  have i32 : xI (xv M) 181 32 = f32.toInt := xI_at rfl hf32
  have hx : ∀ c, c ≠ 181 → c ≠ 205 → c ≠ 206 → xI (xv (mPut (mPut (mPut (mPut (mPut M 205 f32.toInt.toNat (.int l1)) 181 26 (.int (f26 + 1))) 206 f32.toInt.toNat (.int f30)) 181 29 (.int 0)) 181 31 (.int 0))) c = xI (xv M) c := fun c c1 c2 c3 => (xI_oth c1).trans ((xI_oth c1).trans ((xI_oth c3).trans ((xI_oth c1).trans (xI_oth c2))))
  have hY : tXI (gUp (gUp (gUp (gUp (gUp (gUp (gUp (gUp (gUp (gUp (gUp γ 1001 6 1) 1001 5 0) 1001 1 0) 1001 2 0) 1001 3 (-1)) 1001 4 0) 1001 0 f30) 1001 10 f30) 1001 8 0) 1001 9 0) 1001 7 l1) (mPut (mPut (mPut (mPut (mPut M 205 f32.toInt.toNat (.int l1)) 181 26 (.int (f26 + 1))) 206 f32.toInt.toNat (.int f30)) 181 29 (.int 0)) 181 31 (.int 0)) := by
    refine tXI_par hX (gN_up (gN_up (gN_up (gN_up (gN_up (gN_up (gN_up (gN_up (gN_up (gN_up (gN_up gN_rf))))))))))) (fun c c1 _ => (xv_put c1).trans ((xv_put c1).trans ((xv_put (by omega)).trans ((xv_put c1).trans (xv_put (by omega)))))) ((xI_ne (Or.inr (by decide))).trans ((xI_ne (Or.inr (by decide))).trans ((xI_ne (Or.inl (by decide))).trans ((xI_ne (Or.inr (by decide))).trans (xI_ne (Or.inl (by decide))))))) ?_
    refine xp_new hp (fun j hj => ⟨(xI_ne (Or.inl (by decide))).trans ((xI_ne (Or.inl (by decide))).trans ((xI_ne (Or.inl (by decide))).trans ((xI_ne (Or.inl (by decide))).trans (xI_ne (Or.inr (by omega)))))), (xI_ne (Or.inl (by decide))).trans ((xI_ne (Or.inl (by decide))).trans ((xI_ne (Or.inr (by omega))).trans ((xI_ne (Or.inl (by decide))).trans (xI_ne (Or.inl (by decide)))))), by rw [hx 207 (by decide) (by decide) (by decide)], by rw [hx 208 (by decide) (by decide) (by decide)]⟩) (hx 203 (by decide) (by decide) (by decide)) ((xI_ne (Or.inr (by decide))).trans ((xI_ne (Or.inr (by decide))).trans ((xI_ne (Or.inl (by decide))).trans ((xI_ne (Or.inr (by decide))).trans (xI_ne (Or.inl (by decide))))))) ((xI_ne (Or.inr (by decide))).trans ((xI_ne (Or.inr (by decide))).trans ((xI_ne (Or.inl (by decide))).trans ((xI_ne (Or.inr (by decide))).trans (xI_ne (Or.inl (by decide))))))) (xI_put rfl (mHd_put.trans (mHd_put.trans (mHd_put.trans (mHd_put.trans hd)))) (by decide)) (by omega) (by rw [i30]; rfl) rfl rfl rfl rfl rfl rfl (by rw [i30]; rfl) ?_ (fun c => absurd (show (0 : Int32).toInt = 1 from c) (by decide)) (fun c => absurd (show (0 : Int32).toInt = 1 from c) (by decide))
    intro _
    rw [i32, i30]
    constructor
    · show _ = l1.toInt
      exact (xI_ne (Or.inl (by decide))).trans ((xI_ne (Or.inl (by decide))).trans ((xI_ne (Or.inl (by decide))).trans ((xI_ne (Or.inl (by decide))).trans (xI_put rfl (hT.hd (c := 205) (by decide) (by decide)) (by show _ < 12; omega)))))
    · exact (xI_ne (Or.inl (by decide))).trans ((xI_ne (Or.inl (by decide))).trans (xI_put rfl (mHd_put.trans (mHd_put.trans (hT.hd (c := 206) (by decide) (by decide)))) (by show _ < 12; omega)))
  refine k (gUp (gUp (gUp (gUp (gUp (gUp (gUp (gUp (gUp (gUp (gUp γ 1001 6 1) 1001 5 0) 1001 1 0) 1001 2 0) 1001 3 (-1)) 1001 4 0) 1001 0 f30) 1001 10 f30) 1001 8 0) 1001 9 0) 1001 7 l1) σ _ L [] _ (List.Mem.head _) (fun _ _ => rfl) (((((aFr_put rfl).tr (aFr_put rfl)).tr (aFr_put rfl)).tr (aFr_put rfl)).tr (aFr_put rfl)) (gFr_up rfl (gFr_up rfl (gFr_up rfl (gFr_up rfl (gFr_up rfl (gFr_up rfl (gFr_up rfl (gFr_up rfl (gFr_up rfl (gFr_up rfl (gFr_up rfl gFr.rf))))))))))) aExt.rf ?_
  exact mkHold (by decide) s0 ⟨b00 s0, b1, b2, b3, b4, True.intro⟩ True.intro ⟨hF1_gh (by decide) (by decide) (by show (1 : Int) = σ 0 + 1; omega), hF1_re rfl (by decide) (by decide) (mSlot_put_eq (mHd_put.trans (mHd_put.trans (mHd_put.trans (mHd_put.trans hd)))) (by decide)) (by show (0 : Int) = σ 0 + 0; omega), hF1_gh (by decide) (by decide) (by show (0 : Int) = σ 0 + 0; omega), hF1_gh (by decide) (by decide) (by show (0 : Int) = σ 0 + 0; omega), hF1_gh (by decide) (by decide) (by show (0 : Int) = σ 0 + 0; omega), hF1_gh (by decide) (by decide) (by show (-1 : Int) = σ 0 + (-1); omega), hF1_gh (by decide) (by decide) (by show (0 : Int) = σ 0 + 0; omega), hF1_gh (by decide) (by decide) (by show (f30 : Int32).toInt = σ 3 + 0; omega), hF1_gh (by decide) (by decide) (by show (l1 : Int32).toInt = σ 1 + 0; omega), hF1_re rfl (by decide) (by decide) ((mSlot_put_ne (Or.inr (by decide))).trans ((mSlot_put_ne (Or.inr (by decide))).trans ((mSlot_put_ne (Or.inl (by decide))).trans (mSlot_put_eq (mHd_put.trans hd) (by decide))))) (by show ((f26 + 1) : Int32).toInt = σ 4 + 1; omega), True.intro⟩ True.intro (aMem_mk h8 (((((hT.put (a := 205) (i := f32.toInt.toNat) (v := .int l1) (by decide) (by decide) ⟨_, rfl, by show (0 : Int) ≤ l1.toInt; omega, by show l1.toInt ≤ 255; omega⟩).put (a := 181) (i := 26) (v := .int (f26 + 1)) (by decide) (by decide) ⟨_, rfl, by show (0 : Int) ≤ (f26 + 1).toInt; omega, by show (f26 + 1).toInt ≤ 160; omega⟩).put (a := 206) (i := f32.toInt.toNat) (v := .int f30) (by decide) (by decide) ⟨_, rfl, by show (0 : Int) ≤ f30.toInt; omega, by show f30.toInt ≤ 180; omega⟩).put (a := 181) (i := 29) (v := .int 0) (by decide) (by decide) ⟨_, rfl, by decide, by decide⟩).put (a := 181) (i := 31) (v := .int 0) (by decide) (by decide) ⟨_, rfl, by decide, by decide⟩) hY)
theorem gI89 {γ : Gh} {x y : Int32} : ∀ i, i ≠ 8 → i ≠ 9 → gUp (gUp γ 1001 8 x) 1001 9 y 1001 i = γ 1001 i := by
  intro i h8 h9
  have e9 : Nat.beq i 9 = false := by
    cases h : Nat.beq i 9 with
    | false => rfl
    | true => exact absurd (Nat.eq_of_beq_eq_true h) h9
  have e8 : Nat.beq i 8 = false := by
    cases h : Nat.beq i 8 with
    | false => rfl
    | true => exact absurd (Nat.eq_of_beq_eq_true h) h8
  unfold gUp
  rw [e9, e8]
  rfl
theorem gs_rc3y {s : List Int32} : gSound0 s sg_rc3y := by
  intro γ d σ L st0 st M Q _ h k
  have e0 := eNil h
  subst e0
  have hl0 := eR h (i := 0) (g := 181) (c := 0) rfl rfl
  have q1_6 : (γ 1001 6).toInt = σ 0 + 1 := eG h (g := 1001) (i := 6) (sy := 0) (c := 1) (by decide) (List.Mem.head _)
  have q1_7 : (γ 1001 7).toInt = σ 0 + 121 := eG h (g := 1001) (i := 7) (sy := 0) (c := 121) (by decide) (List.Mem.tail _ (List.Mem.head _))
  have q1_4 : (γ 1001 4).toInt = σ 0 + 1 := eG h (g := 1001) (i := 4) (sy := 0) (c := 1) (by decide) (List.Mem.tail _ (List.Mem.tail _ (List.Mem.head _)))
  obtain ⟨f31, hf31, ef31⟩ := eF h (g := 181) (i := 31) (sy := 0) (c := 0) (by decide) (by decide) rfl (List.Mem.tail _ (List.Mem.tail _ (List.Mem.tail _ (List.Mem.head _))))
  obtain ⟨f32, hf32, ef32⟩ := eF h (g := 181) (i := 32) (sy := 1) (c := 0) (by decide) (by decide) rfl (List.Mem.tail _ (List.Mem.tail _ (List.Mem.tail _ (List.Mem.tail _ (List.Mem.head _)))))
  have q1_0 : (γ 1001 0).toInt = σ 2 + 0 := eG h (g := 1001) (i := 0) (sy := 2) (c := 0) (by decide) (List.Mem.tail _ (List.Mem.tail _ (List.Mem.tail _ (List.Mem.tail _ (List.Mem.tail _ (List.Mem.head _))))))
  have b1 := eB h (i := 1) (lo := 0) (hi := 11) rfl
  have b2 := eB h (i := 2) (lo := 0) (hi := 178) rfl
  have s0 := h.1.2.1.1
  have h8 : x8 (s, γ) := h.2.2.2.1.2
  have hX : tXI γ M := h.2.2.2.2.2.2
  have hT := aTp_of h.2.2.2
  have hd := hT.hd (c := 181) (by decide) (by decide)
  obtain ⟨m, hm, m0, m1⟩ := hT.int (c := 181) (i := 30) (by decide) (by decide) (by decide) (lo := 0) (hi' := 180) (gs := []) rfl
  refine kAload (mi := 211) (pc := 110) (len := 1) (i := 0) rfl hl0 ?_
  refine kGetf (len := 3) (j := 1138) rfl hd (by decide) (t181_ref hT (i := 38) (g := 207) (lo := 0) (hi := 0) (by decide) rfl rfl) ?_
  refine kAload (len := 1) (i := 0) rfl hl0 ?_
  refine kGetf (len := 3) (j := 1132) rfl hd (by decide) hf32 ?_
  refine kAload (len := 1) (i := 0) rfl hl0 ?_
  refine kGetf (len := 3) (j := 1130) rfl hd (by decide) hm ?_
  refine kIast (len := 1) (n := 12) rfl (hT.hd (c := 207) (by decide) (by decide)) (by decide) (by omega) (by show f32.toInt < 12; omega) ?_
  have hw := (getB hX (by omega) hf31 hm)
  have hw0 := hw.2.2.1.2.2.2.1
  rw [show f31.toInt.toNat = 0 by omega] at hw0
  have hw0 : (γ 1001 0).toInt = (m.toInt.toNat : Int) + 0 + 0 := hw0
  have hp := hX.2.2.2.2.2.2
  have i30 : xI (xv M) 181 30 = m.toInt := xI_at rfl hm
  have i32 : xI (xv M) 181 32 = f32.toInt := xI_at rfl hf32
  have c := hp.2.2.1 (by omega)
  have hY : tXI (gUp (gUp γ 1001 8 1) 1001 9 0) (mPut M 207 f32.toInt.toNat (.int m)) := by
    refine tXI_par hX (gN_up (gN_up gN_rf)) (fun c c1 c2 => xv_put (by omega)) (xI_ne (Or.inl (by decide))) ?_
    refine xp_half hp (fun c _ _ c3 => xv_put c3) (fun j hj => xI_ne (Or.inr (by omega))) (fun i => xI_ne (Or.inl (by decide))) (by omega) ?_ (gI89) rfl ?_
    · rw [i32, i30]
      exact xI_put rfl (hT.hd (c := 207) (by decide) (by decide)) (by show _ < 12; omega)
    · intro q
      have hA := hp.1 (by omega)
      rw [xI_at rfl hf31, show f31.toInt.toNat = 0 by omega] at hA
      rw [c.2.2]
      exact xA_pr hA
  refine k (gUp (gUp γ 1001 8 1) 1001 9 0) σ _ L [] _ (List.Mem.head _) (fun _ _ => rfl) (aFr_put rfl) (gFr_up rfl (gFr_up rfl gFr.rf)) aExt.rf ?_
  exact mkHold (by decide) s0 ⟨b00 s0, b1, b2, True.intro⟩ True.intro ⟨hF1_gh (by decide) (by decide) (by show (1 : Int) = σ 0 + 1; omega), hF1_re rfl (by decide) (by decide) ((mSlot_put_ne (Or.inl (by decide))).trans hm) (by show (m : Int32).toInt = σ 2 + 0; omega), True.intro⟩ True.intro (aMem_mk h8 (hT.put (a := 207) (i := f32.toInt.toNat) (v := .int m) (by decide) (by decide) ⟨_, rfl, m0, m1⟩) hY)
theorem gs_rc3n {s : List Int32} : gSound0 s sg_rc3n := by
  intro γ d σ L st0 st M Q _ h k
  have e0 := eNil h
  subst e0
  have hl0 := eR h (i := 0) (g := 181) (c := 0) rfl rfl
  have q1_7 : (γ 1001 7).toInt = σ 1 + 0 := eG h (g := 1001) (i := 7) (sy := 1) (c := 0) (by decide) (List.Mem.head _)
  obtain ⟨f32, hf32, ef32⟩ := eF h (g := 181) (i := 32) (sy := 2) (c := 0) (by decide) (by decide) rfl (List.Mem.tail _ (List.Mem.head _))
  have b1 := eB h (i := 1) (lo := 0) (hi := 120) rfl
  have b2 := eB h (i := 2) (lo := 0) (hi := 11) rfl
  have s0 := h.1.2.1.1
  have h8 : x8 (s, γ) := h.2.2.2.1.2
  have hX : tXI γ M := h.2.2.2.2.2.2
  have hT := aTp_of h.2.2.2
  have hd := hT.hd (c := 181) (by decide) (by decide)
  obtain ⟨m, hm, m0, m1⟩ := hT.int (c := 181) (i := 30) (by decide) (by decide) (by decide) (lo := 0) (hi' := 180) (gs := []) rfl
  refine kAload (mi := 211) (pc := 110) (len := 1) (i := 0) rfl hl0 ?_
  refine kGetf (len := 3) (j := 1138) rfl hd (by decide) (t181_ref hT (i := 38) (g := 207) (lo := 0) (hi := 0) (by decide) rfl rfl) ?_
  refine kAload (len := 1) (i := 0) rfl hl0 ?_
  refine kGetf (len := 3) (j := 1132) rfl hd (by decide) hf32 ?_
  refine kAload (len := 1) (i := 0) rfl hl0 ?_
  refine kGetf (len := 3) (j := 1130) rfl hd (by decide) hm ?_
  refine kIast (len := 1) (n := 12) rfl (hT.hd (c := 207) (by decide) (by decide)) (by decide) (by omega) (by show f32.toInt < 12; omega) ?_
  have hp := hX.2.2.2.2.2.2
  have i30 : xI (xv M) 181 30 = m.toInt := xI_at rfl hm
  have i32 : xI (xv M) 181 32 = f32.toInt := xI_at rfl hf32
  have c := hp.2.2.1 (by omega)
  have hY : tXI (gUp (gUp γ 1001 8 1) 1001 9 0) (mPut M 207 f32.toInt.toNat (.int m)) := by
    refine tXI_par hX (gN_up (gN_up gN_rf)) (fun c c1 c2 => xv_put (by omega)) (xI_ne (Or.inl (by decide))) ?_
    refine xp_half hp (fun c _ _ c3 => xv_put c3) (fun j hj => xI_ne (Or.inr (by omega))) (fun i => xI_ne (Or.inl (by decide))) (by omega) ?_ (gI89) rfl ?_
    · rw [i32, i30]
      exact xI_put rfl (hT.hd (c := 207) (by decide) (by decide)) (by show _ < 12; omega)
    · intro q
      rw [c.2.1] at q
      omega
  refine k (gUp (gUp γ 1001 8 1) 1001 9 0) σ _ L [] _ (List.Mem.head _) (fun _ _ => rfl) (aFr_put rfl) (gFr_up rfl (gFr_up rfl gFr.rf)) aExt.rf ?_
  exact mkHold (by decide) s0 ⟨b00 s0, b1, b2, True.intro⟩ True.intro ⟨hF1_gh (by decide) (by decide) (by show (1 : Int) = σ 0 + 1; omega), True.intro⟩ True.intro (aMem_mk h8 (hT.put (a := 207) (i := f32.toInt.toNat) (v := .int m) (by decide) (by decide) ⟨_, rfl, m0, m1⟩) hY)
theorem gs_rc4 {s : List Int32} : gSound0 s sg_rc4 := by
  intro γ d σ L st0 st M Q _ h k
  have e0 := eNil h
  subst e0
  have hl0 := eR h (i := 0) (g := 181) (c := 0) rfl rfl
  have q1_6 : (γ 1001 6).toInt = σ 0 + 1 := eG h (g := 1001) (i := 6) (sy := 0) (c := 1) (by decide) (List.Mem.head _)
  have q1_9 : (γ 1001 9).toInt = σ 0 + 1 := eG h (g := 1001) (i := 9) (sy := 0) (c := 1) (by decide) (List.Mem.tail _ (List.Mem.head _))
  have q1_4 : (γ 1001 4).toInt = σ 0 + 1 := eG h (g := 1001) (i := 4) (sy := 0) (c := 1) (by decide) (List.Mem.tail _ (List.Mem.tail _ (List.Mem.head _)))
  obtain ⟨f31, hf31, ef31⟩ := eF h (g := 181) (i := 31) (sy := 0) (c := 0) (by decide) (by decide) rfl (List.Mem.tail _ (List.Mem.tail _ (List.Mem.tail _ (List.Mem.head _))))
  obtain ⟨f32, hf32, ef32⟩ := eF h (g := 181) (i := 32) (sy := 1) (c := 0) (by decide) (by decide) rfl (List.Mem.tail _ (List.Mem.tail _ (List.Mem.tail _ (List.Mem.tail _ (List.Mem.head _)))))
  have q1_0 : (γ 1001 0).toInt = σ 2 + 0 := eG h (g := 1001) (i := 0) (sy := 2) (c := 0) (by decide) (List.Mem.tail _ (List.Mem.tail _ (List.Mem.tail _ (List.Mem.tail _ (List.Mem.tail _ (List.Mem.head _))))))
  have b1 := eB h (i := 1) (lo := 0) (hi := 11) rfl
  have b2 := eB h (i := 2) (lo := 0) (hi := 178) rfl
  have s0 := h.1.2.1.1
  have h8 : x8 (s, γ) := h.2.2.2.1.2
  have hX : tXI γ M := h.2.2.2.2.2.2
  have hT := aTp_of h.2.2.2
  have hd := hT.hd (c := 181) (by decide) (by decide)
  obtain ⟨m, hm, m0, m1⟩ := hT.int (c := 181) (i := 30) (by decide) (by decide) (by decide) (lo := 0) (hi' := 180) (gs := []) rfl
  have en : (f32 + 1).toInt = f32.toInt + 1 := i32_inc (by omega) (by omega)
  refine kAload (mi := 211) (pc := 132) (len := 1) (i := 0) rfl hl0 ?_
  refine kGetf (len := 3) (j := 1139) rfl hd (by decide) (t181_ref hT (i := 39) (g := 208) (lo := 0) (hi := 0) (by decide) rfl rfl) ?_
  refine kAload (len := 1) (i := 0) rfl hl0 ?_
  refine kGetf (len := 3) (j := 1132) rfl hd (by decide) hf32 ?_
  refine kAload (len := 1) (i := 0) rfl hl0 ?_
  refine kGetf (len := 3) (j := 1130) rfl hd (by decide) hm ?_
  refine kIast (len := 1) (n := 12) rfl (hT.hd (c := 208) (by decide) (by decide)) (by decide) (by omega) (by show f32.toInt < 12; omega) ?_
  refine kAload (len := 1) (i := 0) rfl hl0 ?_
  refine kAload (len := 1) (i := 0) rfl hl0 ?_
  refine kGetf (len := 3) (j := 1132) rfl (mHd_put.trans hd) (by decide) ((mSlot_put_ne (Or.inl (by decide))).trans hf32) ?_
  refine kIconst (len := 1) (v := 1) rfl ?_
  refine kAdd (len := 1) rfl ?_
  refine kPutf (len := 3) (j := 1132) rfl (mHd_put.trans hd) (by decide) (by decide) rfl ?_
  have hw := (getB hX (by omega) hf31 hm)
  have hw0 := hw.2.2.1.2.2.2.1
  rw [show f31.toInt.toNat = 0 by omega] at hw0
  have hw0 : (γ 1001 0).toInt = (m.toInt.toNat : Int) + 0 + 0 := hw0
  have hp := hX.2.2.2.2.2.2
  have i30 : xI (xv M) 181 30 = m.toInt := xI_at rfl hm
  have i31 : xI (xv M) 181 31 = f31.toInt := xI_at rfl hf31
  have i32 : xI (xv M) 181 32 = f32.toInt := xI_at rfl hf32
  have hY : tXI (gUp (gUp (gUp (gUp γ 1001 6 0) 1001 8 0) 1001 9 0) 1001 7 (-1)) (mPut (mPut M 208 f32.toInt.toNat (.int m)) 181 32 (.int (f32 + 1))) := by
    refine tXI_par hX (gN_up (gN_up (gN_up (gN_up gN_rf)))) (fun c c1 c2 => (xv_put c1).trans (xv_put (by omega))) ((xI_ne (Or.inr (by decide))).trans (xI_ne (Or.inl (by decide)))) ?_
    refine xp_to hp (by omega) (by omega) (by omega) (fun c c1 c2 => (xv_put (by omega)).trans (xv_put (by omega))) (fun j hj => (xI_ne (Or.inl (by decide))).trans (xI_ne (Or.inr (by omega)))) (by omega) ?_ ((xI_ne (Or.inr (by decide))).trans (xI_ne (Or.inl (by decide)))) ?_ rfl rfl rfl rfl
    · rw [i32, i30]
      exact (xI_ne (Or.inl (by decide))).trans (xI_put rfl (hT.hd (c := 208) (by decide) (by decide)) (by show _ < 12; omega))
    · rw [i32, ← en]
      exact xI_put rfl (mHd_put.trans hd) (by decide)
  refine k (gUp (gUp (gUp (gUp γ 1001 6 0) 1001 8 0) 1001 9 0) 1001 7 (-1)) σ _ L [] _ (List.Mem.head _) (fun _ _ => rfl) ((aFr_put rfl).tr (aFr_put rfl)) (gFr_up rfl (gFr_up rfl (gFr_up rfl (gFr_up rfl gFr.rf)))) aExt.rf ?_
  exact mkHold (by decide) s0 ⟨b00 s0, b1, b2, True.intro⟩ True.intro ⟨hF1_re rfl (by decide) (by decide) (mSlot_put_eq (mHd_put.trans hd) (by decide)) (by show ((f32 + 1) : Int32).toInt = σ 1 + 1; omega), hF1_re rfl (by decide) (by decide) ((mSlot_put_ne (Or.inr (by decide))).trans ((mSlot_put_ne (Or.inl (by decide))).trans hm)) (by show (m : Int32).toInt = σ 2 + 0; omega), True.intro⟩ True.intro (aMem_mk h8 ((hT.put (a := 208) (i := f32.toInt.toNat) (v := .int m) (by decide) (by decide) ⟨_, rfl, m0, m1⟩).put (a := 181) (i := 32) (v := .int (f32 + 1)) (by decide) (by decide) ⟨_, rfl, by show (0 : Int) ≤ (f32 + 1).toInt; omega, by show (f32 + 1).toInt ≤ 12; omega⟩) hY)
theorem gs_lw1 {s : List Int32} : gSound0 s sg_lw1 := by
  intro γ d σ L st0 st M Q _ h k
  have e0 := eNil h
  subst e0
  have hl0 := eR h (i := 0) (g := 181) (c := 0) rfl rfl
  have s0 := h.1.2.1.1
  have h8 : x8 (s, γ) := h.2.2.2.1.2
  have hX : tXI γ M := h.2.2.2.2.2.2
  have hT := aTp_of h.2.2.2
  have hd := hT.hd (c := 181) (by decide) (by decide)
  refine kAload (mi := 212) (pc := 40) (len := 1) (i := 0) rfl hl0 ?_
  refine kIconst (len := 1) (v := 0) rfl ?_
  refine kPutf (len := 3) (j := 1130) rfl hd (by decide) (by decide) rfl ?_
  refine kAload (len := 1) (i := 0) rfl hl0 ?_
  refine kIconst (len := 1) (v := 0) rfl ?_
  refine kPutf (len := 3) (j := 1132) rfl (mHd_put.trans hd) (by decide) (by decide) rfl ?_
  have hY : tXI (gUp (gUp (gUp (gUp (gUp γ 1001 6 0) 1001 8 0) 1001 9 0) 1001 7 (-1)) 1001 10 0) (mPut (mPut M 181 30 (.int 0)) 181 32 (.int 0)) := by
    refine tXI_par hX (gN_up (gN_up (gN_up (gN_up (gN_up gN_rf))))) (fun c c1 c2 => (xv_put c1).trans (xv_put c1)) ((xI_ne (Or.inr (by decide))).trans (xI_ne (Or.inr (by decide)))) ?_
    exact xp_zero (xI_put rfl (mHd_put.trans hd) (by decide)) rfl rfl rfl rfl
  refine k (gUp (gUp (gUp (gUp (gUp γ 1001 6 0) 1001 8 0) 1001 9 0) 1001 7 (-1)) 1001 10 0) σ _ L [] _ (List.Mem.head _) (fun _ _ => rfl) ((aFr_put rfl).tr (aFr_put rfl)) (gFr_up rfl (gFr_up rfl (gFr_up rfl (gFr_up rfl (gFr_up rfl gFr.rf))))) aExt.rf ?_
  exact mkHold (by decide) s0 ⟨b00 s0, True.intro⟩ True.intro ⟨hF1_re rfl (by decide) (by decide) ((mSlot_put_ne (Or.inr (by decide))).trans (mSlot_put_eq hd (by decide))) (by show (0 : Int) = σ 0 + 0; omega), hF1_re rfl (by decide) (by decide) (mSlot_put_eq (mHd_put.trans hd) (by decide)) (by show (0 : Int) = σ 0 + 0; omega), True.intro⟩ True.intro (aMem_mk h8 ((hT.put (a := 181) (i := 30) (v := .int 0) (by decide) (by decide) ⟨_, rfl, by decide, by decide⟩).put (a := 181) (i := 32) (v := .int 0) (by decide) (by decide) ⟨_, rfl, by decide, by decide⟩) hY)
