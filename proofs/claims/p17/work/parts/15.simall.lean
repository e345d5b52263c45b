theorem mNative_ok : nativeFrameWords "java/lang/System" "arraycopy" 5 + 11 ≤ 40 := by decide +kernel
set_option maxHeartbeats 8000000 in
set_option maxRecDepth 100000 in
theorem mSim : ∀ n, mSimAt n := by
  intro n
  induction n with
  | zero => intro d mi pc L st M r M1 h; cases h
  | succ n ih =>
    intro d mi pc L st M r M1 hrun p l e R s m args below meth c H locs cells slots g D aC scr ini cd n0 sl0 mc ms ls hini hcd hrk hcx hF hz0 hn0 hRf hRl hRc hRs hmc hms hIx hI hl
    obtain ⟨len, ins, hat, hcase⟩ := mRun_cases hrun
    obtain ⟨q, ini', cd', i0, e1, e2, e3, hd, hnrm⟩ := mAt_ok hat
    have hmi := mAt_lt hat
    cases Option.some.inj (e1.symm.trans (mIT_ok hmi))
    cases Option.some.inj (e2.symm.trans hini)
    cases Option.some.inj (e3.symm.trans hcd)
    obtain ⟨hx, hb, hml, hown, hts, hinn, hr, hlocks⟩ := id hcx
    obtain ⟨hK, hX, hbs, hNw, hStr⟩ := id hF
    obtain ⟨hP, hS, hsh, hcl, hsl⟩ := id hI
    have hDD := mWs_D g aC M
    have hinv := mNrm_inv hnrm
    have hle := (mRun_M _ _ _ _ _ _ _ _ hrun)
    have hle1 : M.length ≤ M1.length := hle.1
    have hle2 : mSl M ≤ mSl M1 := hle.2
    rcases hcase with hret | ⟨j, hinv2, hgo⟩ | ⟨pc', L', st', M', hs, hgo⟩
    · -- returns
      have fin : M1 = M → ∀ t : State, H.size ≤ s.heap.size + cells → t.heap = H → s.WarmedH t.vm → ∀ rr : Option Value, r = rr → mQc g D aC scr r M1 args s (.returned (rr.map (mCv g))) t := by
        intro hM t hz ht _ rr hrr
        subst hM
        subst hrr
        exact ⟨rfl, by rw [ht]; exact hP, by rw [ht]; exact mIn_size hI hz0 hn0 hz, hsh, hS.F ht⟩
      have hcc : M1 = M → cells = mc ∧ slots = ms := by
        intro hM
        subst hM
        omega
      rcases mRet_ok hret with ⟨x, rfl, rfl, hk, ho⟩ | ⟨x, rfl, rfl, hk, ho⟩ | ⟨x, rfl, rfl, hk, ho⟩ | ⟨rfl, rfl, hk, ho⟩
      · obtain ⟨rfl, rfl⟩ := hinv.1 rfl
        cases ho
        obtain ⟨rfl, rfl⟩ := hcc rfl
        refine W_sized fun hz => ?_
        rcases hk with hk | ⟨hk, h01⟩
        · exact W.iret hx hb (hr.trans (hrk.2.1 hk)) (fun t ht hW => fin rfl t hz ht hW _ rfl) hS.2.2 hd
        · refine W.zret (ty := .boolean) hx hb (hr.trans (hrk.2.2.1 hk)) ?_ (fun t ht hW => fin rfl t hz ht hW _ rfl) hS.2.2 hd
          rcases h01 with rfl | rfl <;> rfl
      · obtain ⟨rfl, rfl⟩ := hinv.2.1 rfl
        cases ho
        obtain ⟨rfl, rfl⟩ := hcc rfl
        refine W_sized fun hz => ?_
        exact W.lret hx hb (hr.trans (hrk.2.2.2.1 hk)) (fun t ht hW => fin rfl t hz ht hW _ rfl) hS.2.2 hd
      · obtain ⟨rfl, rfl⟩ := hinv.2.2.1 rfl
        cases ho
        obtain ⟨rfl, rfl⟩ := hcc rfl
        refine W_sized fun hz => ?_
        exact W.aret hx hb (hr.trans (hrk.2.2.2.2 hk)) (Or.inl ⟨_, rfl⟩) (Or.inr ⟨_, rfl⟩) (fun t ht hW => fin rfl t hz ht hW _ rfl) hS.2.2 hd
      · obtain ⟨rfl, rfl⟩ := hinv.2.2.2.1 rfl
        cases ho
        obtain ⟨rfl, rfl⟩ := hcc rfl
        refine W_sized fun hz => ?_
        exact W.vret hx hb (hr.trans (hrk.1 hk)) (fun t ht hW => fin rfl t hz ht hW _ rfl) hS.2.2 hd
    · -- calls
      have hnext : ∀ (L2 : MLoc) (st2 : List Value) (M2 : Mem) (H2 : Heap) (locs2 : List Loc) (cells2 slots2 : Nat) (ls2 : Array Slot) (pc2 : Nat), mRun n d mi pc2 L2 st2 M2 = some (r, M1) → mIn g D aC scr n0 sl0 M2 s H2 locs2 cells2 slots2 → lv_has ls2 (mIT mi).2.1 (mCL g L2) → W p l e R s m args below meth c H2 locs2 cells2 slots2 (MQ below (mQc g D aC scr r M1) args s mc ms (mA0 g)) (F0 m pc2 ls2 (st2.map (mCv g))) :=
        fun L2 st2 M2 H2 locs2 cells2 slots2 ls2 pc2 h1 h2 h3 => ih d mi pc2 L2 st2 M2 r M1 h1 p l e R s m args below meth c H2 locs2 cells2 slots2 g D aC scr ini cd n0 sl0 mc ms ls2 hini hcd hrk hcx hF hz0 hn0 hRf hRl hRc hRs hmc hms hIx h2 h3
      have hkind : ∃ i, len = 3 ∧ mM (mIT mi).2.2.2.1 i = some j ∧ ((i0 = .invokestatic i ∧ mKd j = 0) ∨ (i0 = .invokevirtual i ∧ mKd j = 1) ∨ (i0 = .invokespecial i ∧ mKd j = 2)) := by
        rcases hinv2 with h | h | h
        · obtain ⟨i, a1, a2, a3, a4⟩ := hinv.2.2.2.2.1 j h
          exact ⟨i, a2, a3, Or.inl ⟨a1, a4⟩⟩
        · obtain ⟨i, a1, a2, a3, a4⟩ := hinv.2.2.2.2.2.1 j h
          exact ⟨i, a2, a3, Or.inr (Or.inl ⟨a1, a4⟩)⟩
        · obtain ⟨i, a1, a2, a3, a4⟩ := hinv.2.2.2.2.2.2 j h
          exact ⟨i, a2, a3, Or.inr (Or.inr ⟨a1, a4⟩)⟩
      obtain ⟨i, rfl, hmM, hk3⟩ := hkind
      obtain ⟨nest, hlink, hrange⟩ := mM_ok hmM
      have hmls : c.maxLocals = ls.size := hml.trans hl.1.symm
      rcases mGo_ok hgo with ⟨h9, st', M', hprim, hrun2⟩ | ⟨h9, as, rest, r2, M2, hcall, hrun1, hrun2⟩
      · -- members of the machine
        have hmlk : Cond.methodLink (mOw (mIT mi).2.2.2.1) i (mMN j) ∈ mTB := by
          rcases hlink with ⟨-, h⟩ | ⟨-, -, h, -⟩
          · exact h
          · omega
        have hlM := hts _ hmlk
        unfold mPrim at hprim
        split at hprim
        · rename_i hj
          subst hj
          split at hprim
          · rename_i a rr
            obtain ⟨⟨hd1, hsum⟩, hq⟩ := mIf hprim
            cases hq
            have hi0 : i0 = .invokespecial i := by
              rcases hk3 with ⟨-, hz⟩ | ⟨-, hz⟩ | ⟨hz, -⟩
              · exact absurd hz (by decide)
              · exact absurd hz (by decide)
              · exact hz
            subst hi0
            refine W.objInit hx hb hown hlM (hts _ (mAw (by simp))) (hts _ (mAw (by simp))) rfl hmls.symm (a := mAd g a) (rest := st'.map (mCv g)) rfl hd (by omega) (by show 2 * 0 + _ + 12 ≤ _; rw [mCv_sum]; omega) ?_
            exact hnext L st' M H locs cells slots ls (pc + 3) hrun2 hI hl
          · cases hprim
        split at hprim
        · rename_i hj
          subst hj
          split at hprim
          · rename_i nn dp a1 sp a0 rr
            split at hprim
            · rename_i c0 c1 hm0 hm1
              obtain ⟨⟨hd1, hsum, ha0, ha1, hn, hsp, hdp, hb0, hb1⟩, hq⟩ := mIf hprim
              cases hq
              have hi0 : i0 = .invokestatic i := by
                rcases hk3 with ⟨hz, -⟩ | ⟨-, hz⟩ | ⟨-, hz⟩
                · exact hz
                · exact absurd hz (by decide)
                · exact absurd hz (by decide)
              subst hi0
              have g0 := mSh_ge hsh hm0 (by omega) ha0
              have g1 := mSh_ge hsh hm1 (by omega) ha1
              have hg0 := mWs_get (g := g) (aC := aC) hm0 g0
              have hg1 := mWs_get (g := g) (aC := aC) hm1 g1
              rw [mEl_i (Or.inl rfl)] at hg0 hg1
              have nneg : ∀ z : Int32, 0 ≤ z.toInt → ¬ z < 0 := fun z hz h => by
                have := Int32.lt_iff_toInt_lt.mp h
                have h00 : (0 : Int32).toInt = 0 := rfl
                omega
              refine va_copyi (D := D) (rest := st'.map (mCv g)) hx hb hmls hown hlM (hts _ (mAw (by simp))) (hts _ (mAw (by simp))) (hts _ (mAw (by simp))) hK hP hDD hS (a0 - 2) (a1 - 2) 0 0 hg0 hg1 rfl rfl rfl (nneg _ hsp) (nneg _ hdp) (nneg _ hn) hb0 hb1 (fun _ _ => rfl) (by omega) (by rw [mCv_sum]; have := mNative_ok; omega) hd fun H1 locs1 hP1 _ hS1 => ?_
              refine hnext L st' _ H1 locs1 cells slots ls (pc + 3) hrun2 (mIn_set hI g1 hm1 (mCpy_len ..) ?_ hS1) hl
              rw [mEl_i (Or.inl rfl), mCpy_i hb0 hb1, mCpy_len]
              exact hP1
            · cases hprim
          · cases hprim
        split at hprim
        · rename_i hj
          subst hj
          split at hprim
          · rename_i x rr
            obtain ⟨⟨hd1, hsum⟩, hq⟩ := mIf hprim
            cases hq
            have hi0 : i0 = .invokevirtual i := by
              rcases hk3 with ⟨-, hz⟩ | ⟨hz, -⟩ | ⟨-, hz⟩
              · exact absurd hz (by decide)
              · exact hz
              · exact absurd hz (by decide)
            subst hi0
            obtain ⟨bI, nI', hnI, hcI, hMI⟩ := hIx
            have hcb : CallB R s args (mOw (mIT mi).2.2.2.1) i mIxY bI nI' (some .int) (Cond.code mIxY bI nI' (some .int) :: mTB) (mRm 5 0 0) 0 0 1 := callB_of 1 hts (mGood (mIxY, bI, nI', some .int) hcI) rfl rfl rfl (hts _ mIx_w.1) hlM ⟨by decide, by decide, by decide +kernel⟩ ⟨by show 5 + 1 ≤ R.frames; omega, by show 8 + (nI' + 11) + 64 * 5 ≤ R.locals; omega⟩
            obtain ⟨-, cvs, hvS, -⟩ := id hStr
            have hrcv := vk_recv (i := 0) hvS (by omega) hS
            refine W_sized fun hz => ?_
            have hsz := mIn_size hI hz0 hn0 hz
            refine mCall_go (n0 := n0) (sl0 := sl0) (mc := 0) (ms := 0) (M1 := M) (r := some (.int (mIxOf x))) (va_runV (C := "java/lang/String") (b := mAd g 1) (As := [.int x]) (rest := rr.map (mCv g)) ⟨hx, hb, hml, hown, hts⟩ (hMI x M) ⟨hcb, hts _ mIx_w.2.1, hts _ mIx_w.2.2⟩ ⟨mPc_blind, hrcv, fun U hU hW => ⟨rfl, ?_, by rw [hU]; exact hP, by rw [hU]; exact hsz, hsh⟩⟩ rfl rfl hl.1 rfl (by show 2 * 0 + _ ≤ 8; rw [mCv_sum]; omega) hd ⟨by omega, by omega⟩) hS (by omega) (by omega) (fun H1 locs1 hI1 => hnext L _ M H1 locs1 (cells + 0) (slots + 0) ls (pc + 3) hrun2 hI1 hl)
            rw [hU]
            exact (hF.kept (by have := mSh_len hsh; omega) (fun a ha hA => hS.2.1 a ha hA)).warm hW
          · cases hprim
        split at hprim
        · rename_i hj
          subst hj
          split at hprim
          · rename_i y x rr
            obtain ⟨⟨hd1, hsum⟩, hq⟩ := mIf hprim
            cases hq
            have hi0 : i0 = .invokestatic i := by
              rcases hk3 with ⟨hz, -⟩ | ⟨-, hz⟩ | ⟨-, hz⟩
              · exact hz
              · exact absurd hz (by decide)
              · exact absurd hz (by decide)
            subst hi0
            exact va_mmax (rest := rr.map (mCv g)) hx hb hmls hown hlM (hts _ (mAw (by simp))) (hts _ (mAw (by simp))) (hts _ (mAw (by simp))) (by omega) (by rw [mCv_sum]; omega) (by omega) (by omega) hd (hnext L _ M H locs cells slots ls (pc + 3) hrun2 hI hl)
          · cases hprim
        split at hprim
        · rename_i hj
          subst hj
          split at hprim
          · rename_i y x rr
            obtain ⟨⟨hd1, hsum⟩, hq⟩ := mIf hprim
            cases hq
            have hi0 : i0 = .invokestatic i := by
              rcases hk3 with ⟨hz, -⟩ | ⟨-, hz⟩ | ⟨-, hz⟩
              · exact hz
              · exact absurd hz (by decide)
              · exact absurd hz (by decide)
            subst hi0
            exact va_mmin (rest := rr.map (mCv g)) hx hb hmls hown hlM (hts _ (mAw (by simp))) (hts _ (mAw (by simp))) (hts _ (mAw (by simp))) (by omega) (by rw [mCv_sum]; omega) (by omega) (by omega) hd (hnext L _ M H locs cells slots ls (pc + 3) hrun2 hI hl)
          · cases hprim
        cases hprim
      · unfold mCall at hcall
        dsimp only at hcall
        obtain ⟨⟨⟨hd1, hj, hlen, hsum, hla⟩, hkinds⟩, hq⟩ := mIf hcall
        have has : (st.take (mIT j).1).reverse = as := congrArg Prod.fst hq
        have hrest : st.drop (mIT j).1 = rest := congrArg Prod.snd hq
        rw [has] at hla hkinds
        rw [hrest] at hsum
        have hst : st = as.reverse ++ rest := by rw [← has, ← hrest, List.reverse_reverse, List.take_append_drop]
        have hal : as.length = (mIT j).1 := by rw [← has, List.length_reverse, List.length_take]; omega
        have hstack : st.map (mCv g) = (as.map (mCv g)).reverse ++ rest.map (mCv g) := by rw [hst, List.map_append, List.map_reverse]
        have hl1 := mRun_M _ _ _ _ _ _ _ _ hrun1
        have hl2 := mRun_M _ _ _ _ _ _ _ _ hrun2
        have l11 : M.length ≤ M2.length := hl1.1
        have l12 : mSl M ≤ mSl M2 := hl1.2
        have l21 : M2.length ≤ M1.length := hl2.1
        have l22 : mSl M2 ≤ mSl M1 := hl2.2
        obtain ⟨cj, inj, w1, w2, w3, w4, w5, w6, w7, w8, w9, w10, w11, w12, wS, wV, wI, wk⟩ := mW4 hj
        obtain ⟨mc2, hmc2⟩ : ∃ k, k + M.length = M2.length := ⟨M2.length - M.length, by omega⟩
        obtain ⟨ms2, hms2⟩ : ∃ k, k + mSl M = mSl M2 := ⟨mSl M2 - mSl M, by omega⟩
        have hMet := mMet (l := l) (g := g) (D := D) (aC := aC) (scr := scr) ih hj hrun1 hla hmc2 hms2 hIx w1
        refine W_sized fun hz => ?_
        have hsz := mIn_size hI hz0 hn0 hz
        have hpre : ∀ U : State, U.heap = H → s.WarmedH U.vm → mPc g D aC scr as M (as.map (mCv g)).toArray U := by
          intro U hU hW
          refine ⟨rfl, ?_, by rw [hU]; exact hP, by rw [hU]; exact hsz, hsh⟩
          rw [hU]
          exact (hF.kept (by have := mSh_len hsh; omega) (fun a ha hA => hS.2.1 a ha hA)).warm hW
        have hW8 : 2 * (F0 m pc ls (st.map (mCv g))).monitorRoom + ((rest.map (mCv g)).map fun v => v.category).sum ≤ 8 := by
          show 2 * 0 + _ ≤ 8
          rw [mCv_sum]
          omega
        have hroom : cells + mc2 ≤ R.cells ∧ slots + ms2 ≤ R.slots := ⟨by omega, by omega⟩
        have hfr : (mRm (d - 1) mc2 ms2).frames + 1 ≤ R.frames ∧ 8 + (cj.2.2.1 + 11) + (mRm (d - 1) mc2 ms2).locals ≤ R.locals := ⟨by show d - 1 + 1 ≤ _; omega, by show 8 + (cj.2.2.1 + 11) + 64 * (d - 1) ≤ _; omega⟩
        have hgo : ∀ (H1 : Heap) (locs1 : List Loc), mIn g D aC scr n0 sl0 M2 s H1 locs1 (cells + mc2) (slots + ms2) → W p l e R s m args below meth c H1 locs1 (cells + mc2) (slots + ms2) (MQ below (mQc g D aC scr r M1) args s mc ms (mA0 g)) (F0 m (pc + 3) ls ((r2.map (mCv g)).toList ++ rest.map (mCv g))) := by
          intro H1 locs1 hI1
          have h := hnext L _ M2 H1 locs1 _ _ ls (pc + 3) hrun2 hI1 hl
          rw [List.map_append] at h
          cases r2 <;> exact h
        have hend : ∀ (a0 : Array Value), va_Run p l e R s m args below meth c H locs cells slots mc2 ms2 (F0 m pc ls (st.map (mCv g))) (rest.map (mCv g)) (mQc g D aC scr r2 M2 a0) (mA0 g) → W p l e R s m args below meth c H locs cells slots (MQ below (mQc g D aC scr r M1) args s mc ms (mA0 g)) (F0 m pc ls (st.map (mCv g))) := fun a0 hrunV => mCall_go (n0 := n0) (sl0 := sl0) hrunV hS (by omega) (by omega) hgo
        rcases hk3 with ⟨rfl, hk⟩ | ⟨rfl, hk⟩ | ⟨rfl, hk⟩
        · have hmlk : Cond.methodLink (mOw (mIT mi).2.2.2.1) i cj.1 ∈ mTB := by
            rcases hlink with ⟨-, h⟩ | ⟨-, -, -, h⟩
            · rw [← w3]; exact h
            · omega
          have hS0 := wS (by omega)
          exact hend _ (va_runS (As := as.map (mCv g)) ⟨hx, hb, hml, hown, hts⟩ hMet ⟨callB_of (mIT j).1 hts (mGood cj w6) rfl rfl rfl (hts _ w7) (hts _ hmlk) ⟨w10.1, w10.2, hS0.2⟩ hfr, hts _ hS0.1⟩ ⟨mPc_blind, hpre⟩ rfl (by rw [List.length_map]; exact hal) hl.1 hstack hW8 hd hroom)
        · have hmlk : Cond.methodLink (mOw (mIT mi).2.2.2.1) i cj.1 ∈ mTB := by
            rcases hlink with ⟨-, h⟩ | ⟨-, -, -, h⟩
            · rw [← w3]; exact h
            · omega
          have hV0 := wV (by omega)
          have htag : mTagOf M (as.headD .null) = (mIT j).2.2.2.1 := by
            rcases hkinds with h | h | h
            · omega
            · exact h.2
            · omega
          cases as with
          | nil => exfalso; have : (999 : Nat) = (mIT j).2.2.2.1 := htag; have := hV0.2.2.2; omega
          | cons v as' =>
            cases v with
            | ref a =>
              have htag : mTagOf M (.ref a) = (mIT j).2.2.2.1 := htag
              unfold mTagOf at htag
              dsimp only at htag
              split at htag
              · rename_i t fs hma
                subst htag
                have hci := hV0.2.2.2
                have ha := mSh_ge' hsh hma (by omega) (by omega)
                obtain ⟨cq, hcq, hok⟩ := mCl_ok hci
                have hg := mWs_get (g := g) (aC := aC) hma ha
                rw [mEl_obj hci] at hg
                have hrc := va_recv hK hP hcq hg
                have hcls : cj.1.cls = cq.1 := by rw [w8, hok.2.2.2.2.1]
                rw [← hcls] at hrc
                have hpar : (parseMethodDescriptor cj.1.desc).map (fun d => d.parameters.length) = some as'.length := by
                  have h1 := hV0.2.2.1
                  cases hpd : parseMethodDescriptor cj.1.desc with
                  | none => rw [hpd] at h1; cases h1
                  | some dd =>
                    rw [hpd] at h1
                    have h1 : dd.parameters.length + 1 = (mIT j).1 := Option.some.inj h1
                    have h2 : as'.length + 1 = (mIT j).1 := hal
                    show some dd.parameters.length = some as'.length
                    congr 1
                    omega
                exact hend _ (va_runV (C := cj.1.cls) (b := mAd g a) (As := as'.map (mCv g)) ⟨hx, hb, hml, hown, hts⟩ hMet ⟨callB_of as'.length hts (mGood cj w6) rfl rfl rfl (hts _ w7) (hts _ hmlk) ⟨w10.1, w10.2, hpar⟩ hfr, hts _ hV0.1, hts _ hV0.2.1⟩ ⟨mPc_blind, hrc, hpre⟩ rfl (List.length_map ..) hl.1 (by rw [hstack, List.map_cons, List.reverse_cons, List.append_assoc]; rfl) hW8 hd hroom)
              · exfalso; have := hV0.2.2.2; omega
            | _ => exfalso; have : (999 : Nat) = (mIT j).2.2.2.1 := htag; have := hV0.2.2.2; omega
        · have hI0 := wI (by omega)
          have hisr : mIsR (as.headD .null) = true := by
            rcases hkinds with h | h | h
            · omega
            · omega
            · exact h.2
          cases as with
          | nil => cases hisr
          | cons v as' =>
            cases v with
            | ref a =>
              have hpar : (parseMethodDescriptor cj.1.desc).map (fun d => d.parameters.length) = some as'.length := by
                have h1 := hI0.2.2.2
                cases hpd : parseMethodDescriptor cj.1.desc with
                | none => rw [hpd] at h1; cases h1
                | some dd =>
                  rw [hpd] at h1
                  have h1 : dd.parameters.length + 1 = (mIT j).1 := Option.some.inj h1
                  have h2 : as'.length + 1 = (mIT j).1 := hal
                  show some dd.parameters.length = some as'.length
                  congr 1
                  omega
              have hsk : st.map (mCv g) = (as'.map (mCv g)).reverse ++ .ref (mAd g a) :: rest.map (mCv g) := by rw [hstack, List.map_cons, List.reverse_cons, List.append_assoc]; rfl
              have hwn : mTW cj = Cond.code cj.1 cj.2.1 cj.2.2.1 none :: mTB := by unfold mTW; rw [hI0.2.2.1]
              rcases hlink with ⟨-, h⟩ | ⟨-, ⟨qq, hqm, q1, q2, q3, q4⟩, -, -⟩
              · rw [w3] at h
                exact hend _ (va_runI (b := mAd g a) (As := as'.map (mCv g)) ⟨hx, hb, hml, hown, hts⟩ hMet ⟨callB_of as'.length hts (mGood cj w6) hwn rfl rfl (hts _ w7) (hts _ h) ⟨w10.1, w10.2, hpar⟩ hfr, hI0.2.1, hts _ hI0.1⟩ ⟨mPc_blind, hpre⟩ rfl (List.length_map ..) hl.1 hsk hW8 hd hroom)
              · have hnw := hNw.1 qq hqm q4
                rw [q1, q2, q3, w3] at hnw
                exact hend _ (va_runIN (b := mAd g a) (As := as'.map (mCv g)) ⟨hx, hb, hml, hown, hts⟩ hMet ⟨va_cnB as'.length hts (mGood cj w6) hwn rfl rfl hnw (hts _ w7) ⟨w10.1, w10.2, hpar⟩ hfr, hI0.2.1, hts _ hI0.1⟩ ⟨mPc_blind, hpre⟩ rfl (List.length_map ..) hl.1 hsk hW8 hd hroom)
            | _ => cases hisr
    · -- steps
      have hle3 := (mRun_M _ _ _ _ _ _ _ _ hgo)
      have h31 : M'.length ≤ M1.length := hle3.1
      have h32 : mSl M' ≤ mSl M1 := hle3.2
      refine mStep_sim hcx hF hz0 hn0 hd hnrm hs hI hl ⟨by omega, by omega⟩ fun ls' H' locs' cells' slots' hI' hl' => ?_
      exact ih d mi pc' L' st' M' r M1 hgo p l e R s m args below meth c H' locs' cells' slots' g D aC scr ini cd n0 sl0 mc ms ls' hini hcd hrk hcx hF hz0 hn0 hRf hRl hRc hRs hmc hms hIx hI' hl'
