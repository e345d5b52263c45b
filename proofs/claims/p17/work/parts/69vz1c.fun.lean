/-! the order of deeds: its ghost is set and laid back (printed by fnw.py) -/
def subF (a b : AF) : Bool := a.all (fun q => b.any (fun p => decide (p = q)))
theorem subF_ok {a b : AF} (h : subF a b = true) : ∀ q, q ∈ a → q ∈ b := by
  intro q hq
  obtain ⟨p, hp, e⟩ := List.any_eq_true.mp (List.all_eq_true.mp h q hq)
  have e := of_decide_eq_true e
  subst e
  exact hp
def subZ (a b : AZ) : Bool := a.all (fun q => b.any (fun p => decide (p = q)))
theorem subZ_ok {a b : AZ} (h : subZ a b = true) : ∀ q, q ∈ a → q ∈ b := by
  intro q hq
  obtain ⟨p, hp, e⟩ := List.any_eq_true.mp (List.all_eq_true.mp h q hq)
  have e := of_decide_eq_true e
  subst e
  exact hp
def no24 (F : AF) : Bool := F.all (fun q => !(Nat.beq q.1 1024))
theorem no24_ok {F : AF} (h : no24 F = true) {g i : Nat} {v : AV} (hm : (g, i, v) ∈ F) : g ≠ 1024 := fun q => by
  have := List.all_eq_true.mp h _ hm
  rw [q] at this
  cases this
theorem gUp_o {γ : Gh} {v : Int32} {g i : Nat} (h : g ≠ 1024) : gUp γ 1024 0 v g i = γ g i := by
  unfold gUp
  rw [show Nat.beq g 1024 = false from Bool.eq_false_iff.mpr (fun q => h (Nat.eq_of_beq_eq_true q))]
  rfl
theorem gUp_i {γ : Gh} {v : Int32} {g i : Nat} (h : ¬ (g = 1024 ∧ i = 0)) : gUp γ 1024 0 v g i = γ g i := by
  by_cases q : g = 1024
  · unfold gUp
    rw [show Nat.beq i 0 = false from Bool.eq_false_iff.mpr (fun w => h ⟨q, Nat.eq_of_beq_eq_true w⟩), Bool.and_false]
    rfl
  · exact gUp_o q
theorem flo_set {s : List Int32} {γ : Gh} {M : Mem} {v : Int32} (h : aMem (s, γ) M) (hO : xO (gUp γ 1024 0 v) M) : aMem (s, gUp γ 1024 0 v) M := by
  have h9 := aMem_to9 h
  have q : tXI γ M := h.2.2.2
  have m0 : aMem0 (s, gUp γ 1024 0 v) M := aMem_mk (show x8 (s, γ) from h.1.2.1) (aTp_of (aMem_0 h9)) ⟨q.1, q.2.1, q.2.2.1, q.2.2.2.1, q.2.2.2.2.1, q.2.2.2.2.2.1, q.2.2.2.2.2.2⟩
  have hg : gFr [(1024, 0)] γ (gUp γ 1024 0 v) := gFr_up rfl gFr.rf
  have hx9 : x9 γ M := h9.1.2.2
  exact aMem_of9 (aMem_9 m0 (x9_fr (mod := [(1024, 0)]) aFr.rf hg rfl hx9)) (x10_fr (mod := [(1024, 0)]) aFr.rf hg rfl (aMem_x10 h)) hO
/-- what a state says of the ghosts but one -/
theorem aF_up {s : List Int32} {γ : Gh} {σ : Nat → Int} {n : Nat} {F F' : AF} {M : Mem} {v : Int32} (hn : no24 F' = true) (hs : subF F' F = true) (h : aFs (s, γ) σ n F M) : aFs (s, gUp γ 1024 0 v) σ n F' M := by
  intro g i w hm
  have hg := no24_ok hn hm
  obtain ⟨h1, h2⟩ := h g i w (subF_ok hs _ hm)
  refine ⟨h1, fun q => ?_⟩
  show aG (s, γ) σ _ w (.int (gUp γ 1024 0 v g i))
  rw [gUp_o hg]
  exact h2 q
/-- the state a flagged contract asks for -/
def inO (S S' : AS) : Bool := decide (S'.1.1 = S.1.1) && subZ S'.1.2.1 S.1.2.1 && decide (S'.1.2.2.1 = []) && no24 S.1.2.2.2 && subF S'.1.2.2.2 ((1024, 0, (1, 0, .ofNat 1)) :: S.1.2.2.2) && decide (S'.2 = S.2) && Nat.blt 0 S.1.1.length
theorem inO_ok {s : List Int32} {γ : Gh} {σ : Nat → Int} {S S' : AS} {L : MLoc} {st : List Value} {M : Mem} (ok : inO S S' = true) (h : aHold (s, γ) σ S L st M) : aHold (s, gUp γ 1024 0 1) σ S' L st M := by
  unfold inO at ok
  simp only [Bool.and_eq_true, decide_eq_true_iff] at ok
  obtain ⟨⟨⟨⟨⟨⟨o1, o2⟩, o3⟩, o4⟩, o5⟩, o6⟩, o7⟩ := ok
  obtain ⟨⟨h1, h2, h3, h4⟩, h5, h6, h7⟩ := h
  have hn := Nat.le_of_ble_eq_true o7
  refine ⟨⟨by rw [o1]; exact h1, ⟨h2.1, by rw [o1]; exact h2.2.1, fun a b c hm => by rw [o1]; exact h2.2.2 a b c (subZ_ok o2 _ hm)⟩, fun a b c hm => by rw [o3] at hm; exact absurd hm (List.not_mem_nil), fun g i v hm => ?_⟩, ?_, ?_, flo_set h7 (xO_1 (show (gUp γ 1024 0 1 1024 0).toInt = 1 from rfl))⟩
  · rw [o1]
    rcases List.mem_cons.mp (subF_ok o5 _ hm) with e | e
    · cases e
      refine ⟨fun a a2 a3 a4 => absurd (tGrp_lt a3) (by rw [a4]; decide), fun _ => ⟨hn, _, rfl, ?_⟩⟩
      show (1 : Int32).toInt = σ 0 + 1
      rw [h2.1]
      rfl
    · obtain ⟨q1, q2⟩ := h4 g i v e
      refine ⟨q1, fun q => ?_⟩
      show aG (s, γ) σ _ v (.int (gUp γ 1024 0 1 g i))
      rw [gUp_o (no24_ok o4 e)]
      exact q2 q
  · rw [o1, o6]
    exact h5
  · rw [o1, o6]
    exact h6
/-- what it leaves -/
def outO (S S' : AS) : Bool := decide (S.1.1 = S'.1.1) && subZ S.1.2.1 S'.1.2.1 && decide (S.1.2.2.1 = []) && no24 S.1.2.2.2 && subF S.1.2.2.2 S'.1.2.2.2 && decide (S.2 = S'.2)
theorem outO_ok {s : List Int32} {γ : Gh} {σ : Nat → Int} {S S' : AS} {L : MLoc} {st : List Value} {M : Mem} {v : Int32} (ok : outO S S' = true) (h : aHold (s, γ) σ S' L st M) (hO : xO (gUp γ 1024 0 v) M) : aHold (s, gUp γ 1024 0 v) σ S L st M := by
  unfold outO at ok
  simp only [Bool.and_eq_true, decide_eq_true_iff] at ok
  obtain ⟨⟨⟨⟨⟨o1, o2⟩, o3⟩, o4⟩, o5⟩, o6⟩ := ok
  obtain ⟨⟨h1, h2, h3, h4⟩, h5, h6, h7⟩ := h
  refine ⟨⟨by rw [o1]; exact h1, ⟨h2.1, by rw [o1]; exact h2.2.1, fun a b c hm => by rw [o1]; exact h2.2.2 a b c (subZ_ok o2 _ hm)⟩, fun a b c hm => by rw [o3] at hm; exact absurd hm (List.not_mem_nil), by rw [o1]; exact aF_up o4 o5 h4⟩, ?_, ?_, flo_set h7 hO⟩
  · rw [o1, o6]
    exact h5
  · rw [o1, o6]
    exact h6
theorem memP_24 {g i : Nat} {m m' : List (Nat × Nat)} (h : m'.all (fun q => memP q.1 q.2 m) = true) (hn : memP g i m = false) : memP g i m' = false := memP_k h hn
/-- a contract that is checked with the ghost set serves without it, if the order is right again -/
def wrO (c c' : CT) : Bool := decide (c'.1 = c.1) && decide (c'.2.1 = c.2.1) && Nat.ble c'.2.2.1 c.2.2.1 && inO c.2.2.2.1 c'.2.2.2.1 && c'.2.2.2.2.1.all (fun o' => c.2.2.2.2.1.any (fun o => outO o o')) && c'.2.2.2.2.2.all (fun q => memP q.1 q.2 c.2.2.2.2.2)
theorem cUnO {s : List Int32} {c c' : CT} (ok : wrO c c' = true) (h : cSound s c') (hE : ∀ γ σ L M n d r M1, aHold (s, γ) σ c.2.2.2.1 L [] M → okLs M → En n d c.1 c.2.1 L [] M r M1 → okLs M1) : cSound s c := by
  unfold wrO at ok
  simp only [Bool.and_eq_true, decide_eq_true_iff] at ok
  obtain ⟨⟨⟨⟨⟨o1, o2⟩, o3⟩, o4⟩, o5⟩, o6⟩ := ok
  have o3 := Nat.le_of_ble_eq_true o3
  have eB : c'.2.2.2.1.1.1 = c.2.2.2.1.1.1 := by
    unfold inO at o4
    simp only [Bool.and_eq_true, decide_eq_true_iff] at o4
    exact o4.1.1.1.1.1.1
  intro γ d σ L M hd hH
  have hh := h (gUp γ 1024 0 1) d σ L M (by omega) (inO_ok o4 hH)
  rw [o1, o2] at hh
  refine hh.en ?_
  intro n r M1 hEn hq
  obtain ⟨hf, γ', hg, o', ho', σ', hx, hH'⟩ := hq
  obtain ⟨o, ho, hoo⟩ := List.any_eq_true.mp (List.all_eq_true.mp o5 o' ho')
  rw [eB] at hx
  refine ⟨⟨hf.1, hf.2.1, fun a b q1 q2 q3 q4 q5 => hf.2.2.1 a b q1 q2 q3 q4 (memP_k o6 q5), fun a b q1 q2 q3 q4 => hf.2.2.2 a b q1 q2 q3 (memP_k o6 q4)⟩, gUp γ' 1024 0 (γ 1024 0), fun g i q1 q2 => ?_, o, ho, σ', hx, outO_ok hoo hH' (fun h0 => ?_)⟩
  · by_cases w : g = 1024 ∧ i = 0
    · rw [w.1, w.2]
      rfl
    · rw [gUp_i w, hg g i q1 (memP_k o6 q2), gUp_i w]
  · exact hE γ σ L M n d r M1 hH (aMem_xO hH.2.2.2 (show (γ 1024 0).toInt = 0 from h0)) hEn
/-- a contract that knows nothing of the order serves, if the order is right again -/
theorem cLiftE {s : List Int32} {c : CT} (ok : memP 1024 0 c.2.2.2.2.2 = false) (h : cSoundK s c) (hE : ∀ γ σ L M n d r M1, aHold (s, γ) σ c.2.2.2.1 L [] M → okLs M → En n d c.1 c.2.1 L [] M r M1 → okLs M1) : cSound s c := by
  intro γ d σ L M hd hH
  refine (h γ d σ L M hd ⟨hH.1, hH.2.1, hH.2.2.1, aMem_toK hH.2.2.2⟩).en ?_
  intro n r M1 hEn hq
  obtain ⟨hf, γ', hg, o, ho, σ', hx, hH'⟩ := hq
  refine ⟨hf, γ', hg, o, ho, σ', hx, hH'.1, hH'.2.1, hH'.2.2.1, aMem_ofK hH'.2.2.2 (fun h0 => ?_)⟩
  have e : γ' 1024 0 = γ 1024 0 := hg 1024 0 (by decide) ok
  exact hE γ σ L M n d r M1 hH (aMem_xO hH.2.2.2 (by show (γ 1024 0).toInt = 0; rw [← e]; exact h0)) hEn
theorem cs_ab {s : List Int32} : cSound s cm_ab := by
  refine cUnO (c' := ct_194) (by decide +kernel) (cs_194 (gLiftO rfl gs_cpk91_12) (gLiftO rfl (gLift9 rfl (gLift rfl gs_oc91))) (gLiftO rfl (gLift9 rfl (gLift rfl gs_ow91_66))) (gLiftO rfl (gLift9 rfl (gLift rfl gs_ow91_82))) (gLiftK rfl (gLift9 rfl (gLift rfl gs_cn91_8))) (gLiftK rfl (gLift9 rfl gs_cp30_13)) (gLiftK rfl (gLift9 rfl gs_cp30_3)) (gLiftK rfl (gLift9 rfl gs_cp30_8)) (gLiftK rfl (gLift9 rfl (gLift rfl gs_cp91_17)))) (fun γ σ L M n d r M1 hA hO hEn => ?_)
  have h := aHoldX_0 hA
  have l0 := eR h (i := 0) (g := 7) (c := 0) rfl rfl
  obtain ⟨x, l1, _⟩ := eI h (i := 1) (sy := 1) (c := 0) rfl
  have b2 := eB h (i := 2) (lo := 0) (hi := 39) rfl
  obtain ⟨f, hf, ef⟩ := eF h (g := 7) (i := 2) (sy := 2) (c := 0) (by decide) (by decide) rfl (List.Mem.head _)
  have hT := aTp_of (aMem_0 (aMem_to9 hA.2.2.2))
  exact ab_en (W := (σ 2).toNat) (Sh.of hT) (aMem_x10 hA.2.2.2).1.1 hO (by rw [iv_of hf]; omega) (by omega) l0 l1 hEn
theorem cs_dl {s : List Int32} : cSound s cm_dl := by
  refine cUnO (c' := ct_195) (by decide +kernel) (cs_195 (gLiftO rfl (gLift9 rfl (gLift rfl gs_oc92))) (gLiftO rfl (gLift9 rfl (gLift rfl gs_ow92_54))) (gLiftK rfl gs_kd)) (fun γ σ L M n d r M1 hA hO hEn => ?_)
  have h := aHoldX_0 hA
  have l0 := eR h (i := 0) (g := 7) (c := 0) rfl rfl
  have b1 := eB h (i := 1) (lo := 1) (hi := 40) rfl
  obtain ⟨f, hf, ef⟩ := eF h (g := 7) (i := 2) (sy := 1) (c := 0) (by decide) (by decide) rfl (List.Mem.head _)
  have hT := aTp_of (aMem_0 (aMem_to9 hA.2.2.2))
  exact dl_en (W := (σ 1 - 1).toNat) (Sh.of hT) (fun k hk => (iv_ty hT (c := 9) (i := k) (by decide) (by decide) hk (lo := 0) (hi' := 39) (gs := []) rfl).1) hO (by rw [iv_of hf]; omega) (by omega) l0 hEn
theorem cs_lkO {s : List Int32} : cSound s cm_lk := by
  refine cLiftE rfl (cLift9 rfl cs_lk) (fun γ σ L M n d r M1 hA hO hEn => ?_)
  have h := aHoldX_0 hA
  have l0 := eR h (i := 0) (g := 50) (c := 0) rfl rfl
  have l1 := eR h (i := 1) (g := 7) (c := 0) rfl rfl
  have hT := aTp_of (aMem_0 (aMem_to9 hA.2.2.2))
  have hx9 := (aMem_to9 hA.2.2.2).1.2.2
  exact cf50_en (Sh.of hT) hx9.1 hO l0 l1 hEn
theorem cs_luO {s : List Int32} : cSound s cm_Z_lu := by
  refine cLiftE rfl (cLiftZ rfl cs_lu) (fun γ σ L M n d r M1 hA hO hEn => ?_)
  have h := aHoldX_0 hA
  have l0 := eR h (i := 0) (g := 7) (c := 0) rfl rfl
  have l1 := eR h (i := 1) (g := 50) (c := 0) rfl rfl
  have hT := aTp_of (aMem_0 (aMem_to9 hA.2.2.2))
  have hx9 := (aMem_to9 hA.2.2.2).1.2.2
  exact cf7_en (Sh.of hT) hx9.1 hO l0 l1 hEn
