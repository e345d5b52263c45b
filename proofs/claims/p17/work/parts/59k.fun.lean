/-! gossip: what is written keeps the rest (printed by fnk4.py) -/
def qKn (c i : Nat) : Prop := qA c i ∨ (100 ≤ c ∧ c ≤ 109) ∨ (c = 181 ∧ (i = 15 ∨ i = 16))
set_option maxRecDepth 100000 in
theorem qKn_g : ∀ c, c < 242 → ((94 ≤ c ∧ c ≤ 98) ∨ (111 ≤ c ∧ c ≤ 115) ∨ (195 ≤ c ∧ c ≤ 199) ∨ (236 ≤ c ∧ c ≤ 240) ∨ (100 ≤ c ∧ c ≤ 109)) → ∀ i, i < 1 → (tPro0 (tGrp c) i = false ∧ tPro9 (tGrp c) i = false ∧ 64 ≤ tTag (tGrp c)) := by decide +kernel
theorem qKn_np {c i : Nat} (h : qKn c i) : tPro0 (tGrp c) (aSlK c i) = false ∧ tPro9 (tGrp c) (aSlK c i) = false ∧ (∀ j, qP c j = false) := by
  have q : ((94 ≤ c ∧ c ≤ 98) ∨ (111 ≤ c ∧ c ≤ 115) ∨ (195 ≤ c ∧ c ≤ 199) ∨ (236 ≤ c ∧ c ≤ 240) ∨ (100 ≤ c ∧ c ≤ 109)) ∨ ((c = 93 ∨ c = 110) ∧ (i = 3 ∨ i = 6)) ∨ (c = 181 ∧ (i = 15 ∨ i = 16)) := by
    unfold qKn qA at h
    omega
  have hP : ∀ j, qP c j = false := fun j => by
    cases e : qP c j with
    | false => rfl
    | true =>
      simp only [qP, tProP, Bool.or_eq_true, Bool.and_eq_true, Nat.beq_eq, Nat.ble_eq] at e
      omega
  rcases q with q | ⟨q, q2⟩ | ⟨rfl, q2⟩
  · obtain ⟨a, b, d⟩ := qKn_g c (by omega) q 0 (by decide)
    have e : aSlK c i = 0 := by
      unfold aSlK
      rw [Nat.ble_eq_true_of_le d]
      rfl
    rw [e]
    exact ⟨a, b, hP⟩
  · refine ⟨?_, ?_, hP⟩ <;> (rcases q with rfl | rfl <;> rcases q2 with rfl | rfl <;> rfl)
  · refine ⟨?_, ?_, hP⟩ <;> (rcases q2 with rfl | rfl <;> rfl)
theorem xv_pt {M N : Mem} (h : ∀ c i, tPro0 (tGrp c) (aSlK c i) = true → mSlot N c i = mSlot M c i) : xv N = xv M := by
  funext c i
  unfold xv
  cases hq : tPro0 (tGrp c) (aSlK c i) with
  | false => rfl
  | true =>
    dsimp only [cond_true]
    exact h c i hq
theorem kn_mem {s : List Int32} {γ γ' : Gh} {M N : Mem} (h : aMemK (s, γ) M) (hT : aTp s N) (hp : ∀ c i, ¬ qKn c i → mSlot N c i = mSlot M c i) (hg : ∀ g i, g ≠ 1022 → g ≠ 1023 → γ' g i = γ g i) (hX : tXI γ N → tXI γ' N) (h8 : x8 (s, γ')) (hK : xK γ' N) : aMemK (s, γ') N := by
  have h9 := aMemK_to9 h
  have hx9 : x9 γ M := h9.1.2.2
  have ev : xv N = xv M := xv_pt (fun c i q => hp c i (fun k => by rw [(qKn_np k).1] at q; cases q))
  have q0 : tXI γ N := by
    have q : tXI γ M := h.2.2.2
    unfold tXI at q ⊢
    rw [ev]
    exact q
  have m0 : aMem0 (s, γ') N := aMem_mk h8 hT (hX q0)
  have eS : gS γ' = gS γ := by
    funext g i
    exact hg (g + 1030) i (by omega) (by omega)
  have eV : yV N = yV M := yV_same (fun t f d hq => hp _ _ (fun k => by
    have e := (qKn_np k).2.1
    rw [(yPro9 hq).1] at e
    cases e))
  have nn : ∀ c i, (c < 93 ∨ (115 < c ∧ c < 181) ∨ (181 < c ∧ c < 195) ∨ (199 < c ∧ c < 236) ∨ 240 < c ∨ c = 99) → mSlot N c i = mSlot M c i := fun c i q => hp c i (fun k => by unfold qKn qA at k; omega)
  have x9' : x9 γ' N := by
    refine ⟨fun d hd => ?_, ?_⟩
    · rw [nn 8 d (by decide), nn 51 d (by decide)]
      exact hx9.1 d hd
    · rw [eV, eS]
      exact hx9.2
  have hx := aMemK_x10 h
  refine aMemK_of9 (aMem_9 m0 x9') ⟨⟨fun e he => (nn 8 e (by decide)).trans (hx.1.1 e he), fun k hk => (nn 129 k (by decide)).trans (hx.1.2.1 k hk), fun p hp => (nn 99 p (by decide)).trans (hx.1.2.2.1 p hp), fun i hi => (nn 142 i (by decide)).trans (hx.1.2.2.2 i hi)⟩, fun k hk => ?_, fun k hk => ?_, fun h0 k hk => ?_, ?_, hK⟩
  · rw [nn 5 k (by decide), nn 6 k (by decide), nn 183 k (by decide), nn 184 k (by decide)]
    exact hx.2.1 k hk
  · have e : γ' 1020 0 = γ 1020 0 := hg 1020 0 (by decide) (by decide)
    rw [nn 128 k (by decide), nn 202 k (by decide)]
    exact hx.2.2.1 k (by show (k : Int) < (γ 1020 0).toInt; rw [← e]; exact hk)
  · have e : γ' 1021 0 = γ 1021 0 := hg 1021 0 (by decide) (by decide)
    rw [pR_same (fun c i hq => hp c i (fun q => by rw [(qKn_np q).2.2 i] at hq; cases hq))]
    exact hx.2.2.2.1 (by show (γ 1021 0).toInt = 0; rw [← e]; exact h0) k hk
  · exact xM_same (fun c i q => hp c i (fun k => by unfold qM at q; unfold qKn qA at k; omega)) hx.2.2.2.2.1
theorem g1_ne {γ : Gh} {v : Int32} {g i : Nat} (h : g ≠ 1022) : gUp γ 1022 0 v g i = γ g i := by
  unfold gUp
  rw [show Nat.beq g 1022 = false from Bool.eq_false_iff.mpr (fun q => h (Nat.eq_of_beq_eq_true q))]
  rfl
theorem g2_ne {γ : Gh} {v : Int32} {j g i : Nat} (h : g ≠ 1023) : gUp γ 1023 j v g i = γ g i := by
  unfold gUp
  rw [show Nat.beq g 1023 = false from Bool.eq_false_iff.mpr (fun q => h (Nat.eq_of_beq_eq_true q))]
  rfl
/-- the ghost that says of how many deeds the columns are right -/
theorem kn_mem1 {s : List Int32} {γ : Gh} {M N : Mem} {v : Int32} (h : aMemK (s, γ) M) (hT : aTp s N) (hp : ∀ c i, ¬ qKn c i → mSlot N c i = mSlot M c i) (hK : xK (gUp γ 1022 0 v) N) : aMemK (s, gUp γ 1022 0 v) N :=
  kn_mem h hT hp (fun g i a _ => g1_ne a) (fun q => ⟨q.1, q.2.1, q.2.2.1, q.2.2.2.1, q.2.2.2.2.1, q.2.2.2.2.2.1, q.2.2.2.2.2.2⟩) (show x8 (s, γ) from h.1.2.1) hK
/-- the ghosts that say what has been copied -/
theorem kn_mem2 {s : List Int32} {γ : Gh} {M N : Mem} {u v : Int32} (h : aMemK (s, γ) M) (hT : aTp s N) (hp : ∀ c i, ¬ qKn c i → mSlot N c i = mSlot M c i) (hK : xK (gUp (gUp γ 1023 0 u) 1023 1 v) N) : aMemK (s, gUp (gUp γ 1023 0 u) 1023 1 v) N :=
  kn_mem h hT hp (fun g i _ a => (g2_ne a).trans (g2_ne a)) (fun q => ⟨q.1, q.2.1, q.2.2.1, q.2.2.2.1, q.2.2.2.2.1, q.2.2.2.2.2.1, q.2.2.2.2.2.2⟩) (show x8 (s, γ) from h.1.2.1) hK
theorem kn_mem3 {s : List Int32} {γ : Gh} {M N : Mem} {v : Int32} (h : aMemK (s, γ) M) (hT : aTp s N) (hp : ∀ c i, ¬ qKn c i → mSlot N c i = mSlot M c i) (hK : xK (gUp γ 1023 1 v) N) : aMemK (s, gUp γ 1023 1 v) N :=
  kn_mem h hT hp (fun g i _ a => g2_ne a) (fun q => ⟨q.1, q.2.1, q.2.2.1, q.2.2.2.1, q.2.2.2.2.1, q.2.2.2.2.2.1, q.2.2.2.2.2.2⟩) (show x8 (s, γ) from h.1.2.1) hK
/-- gossip's cells change, the ghosts don't -/
theorem kn_mem0 {s : List Int32} {γ : Gh} {M N : Mem} (h : aMemK (s, γ) M) (hT : aTp s N) (hp : ∀ c i, ¬ qKn c i → mSlot N c i = mSlot M c i) (hK : xK γ N) : aMemK (s, γ) N := kn_mem h hT hp (fun _ _ _ _ => rfl) (fun q => q) h.1.2.1 hK
theorem aFr_wk {m m' : List (Nat × Nat)} (h : ∀ g i, memP g i m' = false → memP g i m = false) {M M' : Mem} (f : aFr m M M') : aFr m' M M' :=
  ⟨f.1, f.2.1, fun c j c1 c2 c3 c4 c5 => f.2.2.1 c j c1 c2 c3 c4 (h _ _ c5), fun c j c1 c2 c3 c4 => f.2.2.2 c j c1 c2 c3 (h _ _ c4)⟩
theorem memP_cons {q : Nat × Nat} {m : List (Nat × Nat)} (g i : Nat) (h : memP g i (q :: m) = false) : memP g i m = false := by
  unfold memP at h
  cases hx : (Nat.beq q.1 g && Nat.beq q.2 i) with
  | true =>
    rw [hx] at h
    cases h
  | false =>
    rw [hx] at h
    exact h
theorem memP_k {m m' : List (Nat × Nat)} (h : m.all (fun q => memP q.1 q.2 m') = true) {g i : Nat} (hn : memP g i m' = false) : memP g i m = false := by
  cases hq : memP g i m with
  | false => rfl
  | true =>
    exfalso
    have : ∀ l : List (Nat × Nat), l.all (fun q => memP q.1 q.2 m') = true → memP g i l = true → False := by
      intro l
      induction l with
      | nil => intro _ h; cases h
      | cons q l ih =>
        intro ha hb
        rw [List.all_cons, Bool.and_eq_true] at ha
        have hb : (bif (Nat.beq q.1 g && Nat.beq q.2 i) then true else memP g i l) = true := hb
        cases hx : (Nat.beq q.1 g && Nat.beq q.2 i) with
        | true =>
          rw [Bool.and_eq_true] at hx
          have e1 := Nat.eq_of_beq_eq_true hx.1
          have e2 := Nat.eq_of_beq_eq_true hx.2
          have ha := ha.1
          rw [e1, e2, hn] at ha
          cases ha
        | false =>
          rw [hx] at hb
          exact ih ha.2 hb
    exact this m h hq
/-! the columns -/
theorem xKb_col {γ : Gh} {M N : Mem} {s : List Int32} {d : Nat} {v : Int32} (hk : xKb γ M) (hd : d < 40) (e : (γ 1022 0).toInt = (d : Int)) (hv : v.toInt = (d : Int) + 1) (hC : colS s M d (knO M d d) N) : xKb (gUp γ 1022 0 v) N := by
  intro q h40 hq p hp
  have hq : (q : Int) < v.toInt := hq
  have ko : knO N q q p = knO M q q p := knO_same (fun c i k => colS_iv hC (by unfold qO at k; omega)) (colS_iv hC (by omega)) (colS_iv hC (by omega)) (colS_iv hC (by omega)) q p
  rw [ko]
  by_cases c : q = d
  · rw [c]
    exact hC.2.2.1 p hp
  · rw [show iv N (100 + p) q = iv M (100 + p) q by unfold iv; rw [hC.2.1 _ _ (Or.inr (Or.inr c))]]
    exact hk q h40 (by omega) p hp
theorem cs_sp {s : List Int32} : cSoundK s cm_sp := by
  intro γ d σ L M hd hA
  have hd : 5 ≤ d := hd
  have h := aHoldK_0 hA
  have hl0 := eR h (i := 0) (g := 93) (c := 0) rfl rfl
  obtain ⟨l1, hl1, el1⟩ := eI h (i := 1) (sy := 1) (c := 0) rfl
  have el1 : l1.toInt = σ 1 := by rw [el1]; exact Int.add_zero _
  obtain ⟨w, hw, hg⟩ := (hA.2.1 2 (2, 10, .ofNat 2) rfl).resolve_left (by decide)
  obtain ⟨a, rfl, ea⟩ := gD hg (by decide)
  have b1 := eB h (i := 1) (lo := 0) (hi := 39) rfl
  have b2 := eB h (i := 2) (lo := 0) (hi := 39) rfl
  have b3 := eB h (i := 3) (lo := 0) (hi := 40) rfl
  have z0 := (h.1.2.1.2.2 1 2 0 (List.Mem.head _)).2.2
  have z1 := (h.1.2.1.2.2 2 1 0 (List.Mem.tail _ (List.Mem.head _))).2.2
  have z2 := (h.1.2.1.2.2 3 1 0 (List.Mem.tail _ (List.Mem.tail _ (List.Mem.head _)))).2.2
  have z3 := (h.1.2.1.2.2 1 3 0 (List.Mem.tail _ (List.Mem.tail _ (List.Mem.tail _ (List.Mem.head _))))).2.2
  have q0 : (γ 1022 0).toInt = σ 3 + 0 := eG h (g := 1022) (i := 0) (sy := 3) (c := 0) (by decide) (List.Mem.head _)
  have s0 := h.1.2.1.1
  have hM := hA.2.2.2
  have hT := aTp_of (aMem_0 (aMemK_to9 hM))
  have hx := aMemK_x10 hM
  have e2 : a = 10 + l1.toInt.toNat := by omega
  subst e2
  refine (spread_okL (e := l1.toInt.toNat) (x := l1) (by omega) hT hx.1.2.2.1 (by omega) (by omega) (by omega) rfl hl0 hl1 hw).mono ?_
  intro r N hr
  obtain ⟨er, hC⟩ := hr
  subst er
  obtain ⟨v, ev⟩ : ∃ v : Int32, v.toInt = σ 1 + 1 := ⟨Int32.ofInt (σ 1 + 1), i32_ofInt (by omega) (by omega)⟩
  have hp : ∀ c i, ¬ qKn c i → mSlot N c i = mSlot M c i := fun c i k => hC.2.1 c i (by unfold qKn at k; omega)
  have hM2 : aMemK (s, gUp γ 1022 0 v) N := kn_mem1 hM hC.1 hp ⟨xKa_same rfl rfl (fun c i q => by unfold iv; rw [hC.2.1 c i (by unfold qA at q; omega)]) hx.2.2.2.2.2.1, xKb_col hx.2.2.2.2.2.2 (by omega) (by omega) (by omega) hC⟩
  refine ⟨aFr_wk (fun g i q => memP_k (by decide) q) hC.2.2.2, gUp γ 1022 0 v, gFr_up rfl gFr.rf, _, List.Mem.head _, σ, aExt.rf, ?_⟩
  exact mkHoldK (by decide) s0 ⟨b00 s0, b1, b2, b3, True.intro⟩ True.intro ⟨hF1_gh (by decide) (by decide) (by show v.toInt = σ 1 + 1; omega), True.intro⟩ True.intro hM2
theorem cs_sa {s : List Int32} : cSoundK s cm_sa := by
  intro γ d σ L M hd hA
  have hd : 6 ≤ d := hd
  have h := aHoldK_0 hA
  have hl0 := eR h (i := 0) (g := 93) (c := 0) rfl rfl
  have hl1 := eR h (i := 1) (g := 7) (c := 0) rfl rfl
  have b1 := eB h (i := 1) (lo := 0) (hi := 40) rfl
  obtain ⟨f7_2, hf7_2, ef7_2⟩ := eF h (g := 7) (i := 2) (sy := 1) (c := 0) (by decide) (by decide) rfl (List.Mem.head _)
  have s0 := h.1.2.1.1
  have hM := hA.2.2.2
  have hT := aTp_of (aMem_0 (aMemK_to9 hM))
  have hx := aMemK_x10 hM
  refine (spa_okL (by omega) hT hx.1.1 hx.1.2.2.1 hl0 hl1).mono ?_
  intro r N hr
  obtain ⟨er, hC⟩ := hr
  subst er
  have e7 : (iv M 7 2).toInt = σ 1 + 0 := by rw [iv_of hf7_2]; exact ef7_2
  have hp : ∀ c i, ¬ qKn c i → mSlot N c i = mSlot M c i := fun c i k => hC.2.1 c i (by unfold qKn at k; omega)
  have hiv : ∀ c i, (c < 100 ∨ 109 < c) → iv N c i = iv M c i := fun c i q => by unfold iv; rw [hC.2.1 c i q]
  have hM2 : aMemK (s, gUp γ 1022 0 f7_2) N := kn_mem1 hM hC.1 hp ⟨xKa_same rfl rfl (fun c i q => hiv c i (by unfold qA at q; omega)) hx.2.2.2.2.2.1, fun q h40 hq p hp2 => by
    have hq : (q : Int) < f7_2.toInt := hq
    rw [hC.2.2.1 q (by omega) p hp2]
    exact (knO_same (fun c i k => hiv c i (by unfold qO at k; omega)) (hiv _ _ (by omega)) (hiv _ _ (by omega)) (hiv _ _ (by omega)) q p).symm⟩
  have e8 : mSlot N 7 2 = some (.int f7_2) := (hC.2.1 7 2 (by decide)).trans hf7_2
  refine ⟨aFr_wk (fun g i q => memP_k (by decide) q) hC.2.2.2, gUp γ 1022 0 f7_2, gFr_up rfl gFr.rf, _, List.Mem.head _, σ, aExt.rf, ?_⟩
  exact mkHoldK (by decide) s0 ⟨b00 s0, b1, True.intro⟩ True.intro ⟨hF1_gh (by decide) (by decide) (by show f7_2.toInt = σ 1 + 0; omega), True.intro⟩ True.intro hM2
theorem x10_putD {γ γ' : Gh} {M : Mem} {e f : Nat} {v : Value} (hx : x10 γ M) (he : e < 40) (hk : (γ 1022 0).toInt ≤ (e : Int)) (g0 : γ' 1020 0 = γ 1020 0) (g1 : γ' 1021 0 = γ 1021 0) (g2 : γ' 1022 0 = γ 1022 0) (g3 : γ' 1023 0 = γ 1023 0) (g4 : γ' 1023 1 = γ 1023 1) : x10 γ' (mPut M (10 + e) f v) := by
  have nn : ∀ c i, c < 10 ∨ 49 < c → mSlot (mPut M (10 + e) f v) c i = mSlot M c i := fun c i q => mSlot_put_ne (Or.inl (by omega))
  have ni : ∀ c i, c < 10 ∨ 49 < c → iv (mPut M (10 + e) f v) c i = iv M c i := fun c i q => by unfold iv; rw [nn c i q]
  refine ⟨⟨fun d hd => (nn 8 d (by decide)).trans (hx.1.1 d hd), fun k hk => (nn 129 k (by decide)).trans (hx.1.2.1 k hk), fun p hp => (nn 99 p (by decide)).trans (hx.1.2.2.1 p hp), fun i hi => (nn 142 i (by decide)).trans (hx.1.2.2.2 i hi)⟩, fun k hk => ?_, fun k hk => ?_, fun h0 k hk => ?_, ?_, ?_, ?_⟩
  · rw [nn 5 k (by decide), nn 6 k (by decide), nn 183 k (by decide), nn 184 k (by decide)]
    exact hx.2.1 k hk
  · rw [nn 128 k (by decide), nn 202 k (by decide)]
    exact hx.2.2.1 k (by rw [← g0]; exact hk)
  · rw [pR_same (fun c i hq => nn c i (by
      simp only [qP, tProP, Bool.or_eq_true, Bool.and_eq_true, Nat.beq_eq, Nat.ble_eq] at hq
      omega))]
    exact hx.2.2.2.1 (by rw [← g1]; exact h0) k hk
  · exact xM_same (fun c i q => nn c i (by unfold qM at q; omega)) hx.2.2.2.2.1
  · exact xKa_same g3 g4 (fun c i q => ni c i (by unfold qA at q; omega)) hx.2.2.2.2.2.1
  · refine xKb_same (by rw [g2]; exact Int.le_refl _) (fun c i q => ni c i (by unfold qO at q; omega)) (fun d h40 hd => ?_) hx.2.2.2.2.2.2
    rw [g2] at hd
    exact ⟨fun p hp => ni _ _ (by omega), iv_put_ne (Or.inl (by omega)), iv_put_ne (Or.inl (by omega)), iv_put_ne (Or.inl (by omega))⟩
theorem gs_cpk158_14 {s : List Int32} : gSoundK s sg_cpk158_14 := by
  intro γ d σ L st0 st M Q _ hA k
  have h := aHoldK_0 hA
  obtain ⟨w0, w1, rfl, g0, g1⟩ := eS2 h
  obtain ⟨x0, rfl, ex0⟩ := gI g0
  have ex0 : x0.toInt = σ 1 + 0 := ex0
  obtain ⟨a1, rfl, ea1⟩ := gD g1 (by decide)
  have q30_1 : (γ 1030 1).toInt = σ 2 + 0 := eG h (g := 1030) (i := 1) (sy := 2) (c := 0) (by decide) (List.Mem.head _)
  have q30_2 : (γ 1030 2).toInt = σ 0 + 1 := eG h (g := 1030) (i := 2) (sy := 0) (c := 1) (by decide) (List.Mem.tail _ (List.Mem.head _))
  have q22_0 : (γ 1022 0).toInt = σ 3 + 0 := eG h (g := 1022) (i := 0) (sy := 3) (c := 0) (by decide) (List.Mem.tail _ (List.Mem.tail _ (List.Mem.head _)))
  have b1 := eB h (i := 1) (lo := 0) (hi := 9) rfl
  have b2 := eB h (i := 2) (lo := 0) (hi := 39) rfl
  have b3 := eB h (i := 3) (lo := 0) (hi := 40) rfl
  have z0 := (h.1.2.1.2.2 3 2 0 (List.Mem.head _)).2.2
  have s0 := h.1.2.1.1
  have hx : x9 γ M := hA.2.2.2.1.2.2.1
  have hT := aTp_of h.2.2.2
  have hd : (γ 1030 1).toInt.toNat < 40 := by omega
  have ea : a1 = 10 + (γ 1030 1).toInt.toNat := by omega
  subst ea
  refine kPutf (mi := 158) (pc := 14) (len := 3) (j := 100) rfl (hdD hT hd) (by decide) (by decide) rfl ?_
  have hM9 := putD (aMemK_to9 hA.2.2.2) hd (f := 0) (x := x0) (by decide) (by show (0 : Int) ≤ x0.toInt; omega) (by show x0.toInt ≤ 9; omega) (gUs_lt [(1031, 0, x0)] rfl (fun _ _ _ => rfl)) (y9_p0 hx.2 (by omega))
  refine k (gUs γ [(1031, 0, x0)]) σ _ L [] (mPut M (10 + (γ 1030 1).toInt.toNat) 0 (.int x0)) (List.Mem.head _) (fun _ _ => rfl) (frD hd rfl) (gUs_fr [(1031, 0, x0)] rfl gFr.rf) aExt.rf ?_
  exact mkHoldK (by decide) s0 ⟨b00 s0, b1, b2, b3, True.intro⟩ True.intro ⟨hF1_gh (by decide) (by decide) (by show x0.toInt = σ 1 + 0; omega), True.intro⟩ True.intro (aMemK_of9 hM9 (x10_putD (aMemK_x10 hA.2.2.2) hd (by have q22_0 : ((s, γ).snd 1022 0).toInt = σ 3 + 0 := q22_0; omega) rfl rfl rfl rfl rfl))
theorem gs_cpk158_20 {s : List Int32} : gSoundK s sg_cpk158_20 := by
  intro γ d σ L st0 st M Q _ hA k
  have h := aHoldK_0 hA
  obtain ⟨w0, w1, rfl, g0, g1⟩ := eS2 h
  obtain ⟨x0, rfl, ex0⟩ := gI g0
  have ex0 : x0.toInt = σ 1 + 0 := ex0
  obtain ⟨a1, rfl, ea1⟩ := gD g1 (by decide)
  have q30_1 : (γ 1030 1).toInt = σ 2 + 0 := eG h (g := 1030) (i := 1) (sy := 2) (c := 0) (by decide) (List.Mem.head _)
  have q30_2 : (γ 1030 2).toInt = σ 0 + 1 := eG h (g := 1030) (i := 2) (sy := 0) (c := 1) (by decide) (List.Mem.tail _ (List.Mem.head _))
  have q22_0 : (γ 1022 0).toInt = σ 3 + 0 := eG h (g := 1022) (i := 0) (sy := 3) (c := 0) (by decide) (List.Mem.tail _ (List.Mem.tail _ (List.Mem.head _)))
  have b1 := eB h (i := 1) (lo := 0) (hi := 9) rfl
  have b2 := eB h (i := 2) (lo := 0) (hi := 39) rfl
  have b3 := eB h (i := 3) (lo := 0) (hi := 40) rfl
  have z0 := (h.1.2.1.2.2 3 2 0 (List.Mem.head _)).2.2
  have s0 := h.1.2.1.1
  have hx : x9 γ M := hA.2.2.2.1.2.2.1
  have hT := aTp_of h.2.2.2
  have hd : (γ 1030 1).toInt.toNat < 40 := by omega
  have ea : a1 = 10 + (γ 1030 1).toInt.toNat := by omega
  subst ea
  refine kPutf (mi := 158) (pc := 20) (len := 3) (j := 101) rfl (hdD hT hd) (by decide) (by decide) rfl ?_
  have hM9 := putD (aMemK_to9 hA.2.2.2) hd (f := 1) (x := x0) (by decide) (by show (0 : Int) ≤ x0.toInt; omega) (by show x0.toInt ≤ 9; omega) (gUs_lt [(1031, 1, x0)] rfl (fun _ _ _ => rfl)) (y9_p0 hx.2 (by omega))
  refine k (gUs γ [(1031, 1, x0)]) σ _ L [] (mPut M (10 + (γ 1030 1).toInt.toNat) 1 (.int x0)) (List.Mem.head _) (fun _ _ => rfl) (frD hd rfl) (gUs_fr [(1031, 1, x0)] rfl gFr.rf) aExt.rf ?_
  exact mkHoldK (by decide) s0 ⟨b00 s0, b1, b2, b3, True.intro⟩ True.intro ⟨hF1_gh (by decide) (by decide) (by show x0.toInt = σ 1 + 0; omega), True.intro⟩ True.intro (aMemK_of9 hM9 (x10_putD (aMemK_x10 hA.2.2.2) hd (by have q22_0 : ((s, γ).snd 1022 0).toInt = σ 3 + 0 := q22_0; omega) rfl rfl rfl rfl rfl))
theorem gs_cpk91_12 {s : List Int32} : gSoundK s sg_cpk91_12 := by
  intro γ d σ L st0 st M Q _ hA k
  have h := aHoldK_0 hA
  obtain ⟨w0, w1, rfl, g0, g1⟩ := eS2 h
  obtain ⟨x0, rfl, ex0⟩ := gI g0
  have ex0 : x0.toInt = σ 1 + 0 := ex0
  obtain ⟨a1, rfl, ea1⟩ := gD g1 (by decide)
  have q30_1 : (γ 1030 1).toInt = σ 2 + 0 := eG h (g := 1030) (i := 1) (sy := 2) (c := 0) (by decide) (List.Mem.head _)
  have q30_2 : (γ 1030 2).toInt = σ 0 + 1 := eG h (g := 1030) (i := 2) (sy := 0) (c := 1) (by decide) (List.Mem.tail _ (List.Mem.head _))
  have q22_0 : (γ 1022 0).toInt = σ 3 + 0 := eG h (g := 1022) (i := 0) (sy := 3) (c := 0) (by decide) (List.Mem.tail _ (List.Mem.tail _ (List.Mem.head _)))
  have b1 := eB h (i := 1) (lo := 0) (hi := 999) rfl
  have b2 := eB h (i := 2) (lo := 0) (hi := 39) rfl
  have b3 := eB h (i := 3) (lo := 0) (hi := 40) rfl
  have z0 := (h.1.2.1.2.2 3 2 0 (List.Mem.head _)).2.2
  have s0 := h.1.2.1.1
  have hx : x9 γ M := hA.2.2.2.1.2.2.1
  have hT := aTp_of h.2.2.2
  have hd : (γ 1030 1).toInt.toNat < 40 := by omega
  have ea : a1 = 10 + (γ 1030 1).toInt.toNat := by omega
  subst ea
  refine kPutf (mi := 91) (pc := 12) (len := 3) (j := 103) rfl (hdD hT hd) (by decide) (by decide) rfl ?_
  have hM9 := putD (aMemK_to9 hA.2.2.2) hd (f := 3) (x := x0) (by decide) (by show (0 : Int) ≤ x0.toInt; omega) (by show x0.toInt ≤ 999; omega) (gUs_lt [(1031, 3, x0)] rfl (fun _ _ _ => rfl)) (y9_p0 hx.2 (by omega))
  refine k (gUs γ [(1031, 3, x0)]) σ _ L [] (mPut M (10 + (γ 1030 1).toInt.toNat) 3 (.int x0)) (List.Mem.head _) (fun _ _ => rfl) (frD hd rfl) (gUs_fr [(1031, 3, x0)] rfl gFr.rf) aExt.rf ?_
  exact mkHoldK (by decide) s0 ⟨b00 s0, b1, b2, b3, True.intro⟩ True.intro ⟨hF1_gh (by decide) (by decide) (by show x0.toInt = σ 1 + 0; omega), True.intro⟩ True.intro (aMemK_of9 hM9 (x10_putD (aMemK_x10 hA.2.2.2) hd (by have q22_0 : ((s, γ).snd 1022 0).toInt = σ 3 + 0 := q22_0; omega) rfl rfl rfl rfl rfl))
theorem gs_kd {s : List Int32} : gSoundK s sg_kd := by
  intro γ d σ L st0 st M Q _ hA k
  have h := aHoldK_0 hA
  have e0 := eNil h
  subst e0
  have hl0 := eR h (i := 0) (g := 7) (c := 0) rfl rfl
  have b1 := eB h (i := 1) (lo := 1) (hi := 40) rfl
  have q0 : (γ 1022 0).toInt = σ 1 + 0 := eG h (g := 1022) (i := 0) (sy := 1) (c := 0) (by decide) (List.Mem.head _)
  have s0 := h.1.2.1.1
  obtain ⟨v, ev⟩ : ∃ v : Int32, v.toInt = σ 1 - 1 := ⟨Int32.ofInt (σ 1 - 1), i32_ofInt (by omega) (by omega)⟩
  have hM := hA.2.2.2
  have hx := aMemK_x10 hM
  have hM2 : aMemK (s, gUp γ 1022 0 v) M := kn_mem1 hM (aTp_of (aMem_0 (aMemK_to9 hM))) (fun _ _ _ => rfl) ⟨xKa_same rfl rfl (fun _ _ _ => rfl) hx.2.2.2.2.2.1, xKb_same (by show v.toInt ≤ (γ 1022 0).toInt; omega) (fun _ _ _ => rfl) (fun _ _ _ => ⟨fun _ _ => rfl, rfl, rfl, rfl⟩) hx.2.2.2.2.2.2⟩
  refine kAload (mi := 92) (pc := 0) (len := 1) (i := 0) rfl hl0 ?_
  refine k (gUp γ 1022 0 v) σ _ L [.ref 7] M (List.Mem.head _) (fun _ _ => rfl) aFr.rf (gFr_up rfl gFr.rf) aExt.rf ?_
  exact mkHoldK (by decide) s0 ⟨b00 s0, b1, True.intro⟩ True.intro ⟨hF1_gh (by decide) (by decide) (by show v.toInt = σ 1 + -1; omega), True.intro⟩ ⟨⟨7, rfl, by decide, by decide, rfl, fun hc => absurd hc (by decide)⟩, True.intro⟩ hM2
theorem cpy_at {c0 c1 : List Value} {n i : Nat} (h0 : c0.length = n) (h1 : c1.length = n) (hi : i < n) : (mCpy c0 c1 0 0 n)[i]? = c0[i]? := by
  unfold mCpy
  rw [List.getElem?_map, List.getElem?_range (by omega)]
  show some (if 0 ≤ i ∧ i < 0 + n then c0.getD (0 + (i - 0)) (.int 0) else c1.getD i (.int 0)) = c0[i]?
  rw [if_pos ⟨Nat.zero_le i, by omega⟩, show 0 + (i - 0) = i by omega, List.getD_eq_getElem?_getD, List.getElem?_eq_getElem (by omega)]
  rfl
theorem kCpyC {s : List Int32} {mod : List (Nat × Nat)} {M : Mem} {d mi pc len : Nat} {L : MLoc} {Q : Option Value → Mem → Prop} {a0 a1 sz : Nat} {nn : Int32} {lo0 hi0 : Int} (hd : 1 ≤ d) (hT : aTp s M) (a02 : 2 ≤ a0) (a03 : a0 < tEnd) (a12 : 2 ≤ a1) (a13 : a1 < tEnd) (hg0 : tTag (tGrp a0) = 64) (hg1 : tTag (tGrp a1) = 64) (hz0 : tSiz (tGrp a0) = sz) (hz1 : tSiz (tGrp a1) = sz) (ht0 : ∀ i, tTy (tGrp a0) i = (1, lo0, hi0, [])) (ht1 : ∀ i, tTy (tGrp a1) i = (1, lo0, hi0, [])) (hn : nn.toInt = (sz : Int)) (hm : memP (tGrp a1) 0 mod = true) (hat : mAt mi pc = some (len, .invokestatic 901)) (k : ∀ N, aTp s N → aFr mod M N → (∀ i, i < sz → mSlot N a1 i = mSlot M a0 i) → (∀ c i, c ≠ a1 → mSlot N c i = mSlot M c i) → Ok d mi (pc + len) L [] N Q) : Ok d mi pc L [.int nn, .int 0, .ref a1, .int 0, .ref a0] M Q := by
  obtain ⟨c0, m0, l0, t0⟩ := hT.2.2 a0 a02 a03
  obtain ⟨c1, m1, l1, t1⟩ := hT.2.2 a1 a12 a13
  rw [hg0] at m0
  rw [hg1] at m1
  have b1 : (0 : Int32).toInt.toNat + nn.toInt.toNat ≤ c0.length := by show 0 + nn.toInt.toNat ≤ _; omega
  have b2 : (0 : Int32).toInt.toNat + nn.toInt.toNat ≤ c1.length := by show 0 + nn.toInt.toNat ≤ _; omega
  have hN : (M.set a1 (64, mCpy c0 c1 (0 : Int32).toInt.toNat (0 : Int32).toInt.toNat nn.toInt.toNat))[a1]? = some (64, mCpy c0 c1 0 0 sz) := by
    obtain ⟨hL, _⟩ := List.getElem?_eq_some_iff.mp m1
    rw [List.getElem?_set, if_pos rfl, if_pos hL, show nn.toInt.toNat = sz by omega]
    rfl
  refine Ok.prim hat (Or.inl rfl) (by decide) (st' := []) (M' := M.set a1 (64, mCpy c0 c1 (0 : Int32).toInt.toNat (0 : Int32).toInt.toNat nn.toInt.toNat)) ?_ (k _ ⟨?_, ?_, ?_⟩ (aFr_cpy m1 (mCpy_len _ _ _ _ _) hg1 hm) (fun i hi => ?_) (fun c i hc => ?_))
  · unfold mPrim
    rw [if_neg (by decide), if_pos rfl]
    dsimp only
    rw [m0, m1]
    exact if_pos ⟨hd, by decide, (fun e => by rw [e] at a02; exact absurd a02 (by decide)), (fun e => by rw [e] at a12; exact absurd a12 (by decide)), by omega, Int.le_refl 0, Int.le_refl 0, b1, b2⟩
  · rw [List.getElem?_set_ne (by omega)]
    exact hT.1
  · rw [List.getElem?_set_ne (by omega)]
    exact hT.2.1
  · intro c hc hd'
    by_cases e : a1 = c
    · subst e
      refine ⟨_, by rw [hN, hg1], by rw [mCpy_len]; exact l1, ?_⟩
      intro i w hw
      rcases mCpy_get (by omega) hw with ⟨j, hj⟩ | ⟨j, hj⟩
      · have t := t0 j w hj
        rw [ht0] at t
        rw [ht1]
        exact t
      · have t := t1 j w hj
        rw [ht1] at t ⊢
        exact t
    · obtain ⟨fs, f1, f2, f3⟩ := hT.2.2 c hc hd'
      exact ⟨fs, by rw [List.getElem?_set_ne e]; exact f1, f2, f3⟩
  · rw [mSlot_eq hN, mSlot_eq m0]
    exact cpy_at (by omega) (by omega) hi
  · unfold mSlot
    rw [List.getElem?_set_ne (Ne.symm hc)]
/-- what the others hold alike is alike again -/
theorem kA_of {N : Mem} {g g' b b' : Nat} (rH : (iv N g 3).toInt ≤ 60) (rW : (iv N g 6).toInt ≤ 20) (h1 : kHW N g b) (h2 : kC N g' g) (h3 : kR N b' b 5) : kHW N g' b' := by
  obtain ⟨a, π, p1, p2⟩ := h1
  obtain ⟨c1, c2, c3, c4⟩ := h2
  refine ⟨fun k hk => ?_, π, ?_, fun k hk => ?_⟩
  · rw [c3] at hk
    obtain ⟨x, y, z⟩ := a k hk
    obtain ⟨u, v, w⟩ := c1 k (by omega)
    have r0 := h3 0 (by decide) (by decide) k (by show k < 60; omega)
    have r1 := h3 1 (by decide) (by decide) k (by show k < 60; omega)
    have r2 := h3 2 (by decide) (by decide) k (by show k < 60; omega)
    rw [u, v, w, x, y, z, r1, r2]
    exact ⟨r0.symm, rfl, rfl⟩
  · rw [c4]
    refine knP_congr (fun k hk => ?_) p1
    rw [h3 3 (by decide) (by decide) k (by show k < 20; omega)]
  · rw [c4] at hk
    obtain ⟨x, y⟩ := p2 k hk
    obtain ⟨u, v⟩ := c2 k (by omega)
    have pk := p1.1 k hk
    rw [u, v, x, y, h3 3 (by decide) (by decide) (π k) (by show π k < 20; omega), h3 4 (by decide) (by decide) (π k) (by show π k < 20; omega)]
    exact ⟨rfl, rfl⟩
theorem cnt_rng {s : List Int32} {M : Mem} (hT : aTp s M) : ((iv M 93 3).toInt ≤ 60 ∧ (iv M 93 6).toInt ≤ 20) ∧ (iv M 110 3).toInt ≤ 60 ∧ (iv M 110 6).toInt ≤ 20 :=
  ⟨⟨(iv_ty hT (c := 93) (i := 3) (by decide) (by decide) (by decide) (lo := 0) (hi' := 60) (gs := []) rfl).2, (iv_ty hT (c := 93) (i := 6) (by decide) (by decide) (by decide) (lo := 0) (hi' := 20) (gs := []) rfl).2⟩, (iv_ty hT (c := 110) (i := 3) (by decide) (by decide) (by decide) (lo := 0) (hi' := 60) (gs := []) rfl).2, (iv_ty hT (c := 110) (i := 6) (by decide) (by decide) (by decide) (lo := 0) (hi' := 20) (gs := []) rfl).2⟩
theorem cl_hk0 {s : List Int32} {M : Mem} {d : Nat} : ∀ (m : Nat) {N : Mem} {L : MLoc} {k : Int32}, aTp s N → (∀ c i, c ≠ 236 → mSlot N c i = mSlot M c i) → (∀ i, i < k.toInt.toNat → iv N 236 i = iv M 195 i) → aFr [(236, 0)] M N → mLd L 0 = some (.ref 195) → mLd L 1 = some (.ref 236) → mLd L 2 = some (.int 60) → mLd L 3 = some (.int k) → 0 ≤ k.toInt → k.toInt.toNat + m = 60 → Ok d 271 2 L [] N (fun r N' => r = none ∧ aTp s N' ∧ (∀ c i, c ≠ 236 → mSlot N' c i = mSlot M c i) ∧ (∀ i, i < 60 → iv N' 236 i = iv M 195 i) ∧ aFr [(236, 0)] M N') := by
  intro m
  induction m with
  | zero =>
    intro N L k hT hp hv hf l0 l1 l2 l3 k0 km
    have rA := fun j (hj : j < 60) => iv_ty hT (c := 195) (i := j) (by decide) (by decide) (by show _ < 60; omega) (lo := 0) (hi' := 9) (gs := []) rfl
    refine kIload (mi := 271) (pc := 2) (len := 1) (i := 3) rfl l3 ?_
    refine kIload (mi := 271) (pc := 3) (len := 1) (i := 2) rfl l2 ?_
    rcases Bool.eq_false_or_eq_true (mCond .ge k (60 : Int32)) with hc1 | hc1
    · have c1 := hc1
      replace c1 : ¬ k.toInt < 60 := mC_ge.1 c1
      refine kIcT (mi := 271) (pc := 4) (len := 3) (t := 19) rfl rfl hc1 ?_
      refine kRetV (mi := 271) (pc := 19) (len := 1) rfl rfl ?_
      rw [show k.toInt.toNat = 60 by omega] at hv
      exact ⟨rfl, hT, hp, hv, hf⟩
    · have c1 := hc1
      replace c1 : k.toInt < 60 := mC_ge.2 c1
      refine kIcF (mi := 271) (pc := 4) (len := 3) (t := 19) rfl rfl hc1 ?_
      exfalso
      omega
  | succ m ih =>
    intro N L k hT hp hv hf l0 l1 l2 l3 k0 km
    have rA := fun j (hj : j < 60) => iv_ty hT (c := 195) (i := j) (by decide) (by decide) (by show _ < 60; omega) (lo := 0) (hi' := 9) (gs := []) rfl
    have ek : k.toInt < 60 → (k + 1).toInt = k.toInt + 1 := fun _ => i32_inc k0 (by omega)
    have en : k.toInt < 60 → (k + 1).toInt.toNat = k.toInt.toNat + 1 := fun q => by rw [ek q]; omega
    refine kIload (mi := 271) (pc := 2) (len := 1) (i := 3) rfl l3 ?_
    refine kIload (mi := 271) (pc := 3) (len := 1) (i := 2) rfl l2 ?_
    rcases Bool.eq_false_or_eq_true (mCond .ge k (60 : Int32)) with hc201 | hc201
    · have c201 := hc201
      replace c201 : ¬ k.toInt < 60 := mC_ge.1 c201
      refine kIcT (mi := 271) (pc := 4) (len := 3) (t := 19) rfl rfl hc201 ?_
      exfalso
      omega
    · have c201 := hc201
      replace c201 : k.toInt < 60 := mC_ge.2 c201
      refine kIcF (mi := 271) (pc := 4) (len := 3) (t := 19) rfl rfl hc201 ?_
      refine kAload (mi := 271) (pc := 7) (len := 1) (i := 1) rfl l1 ?_
      refine kIload (mi := 271) (pc := 8) (len := 1) (i := 3) rfl l3 ?_
      refine kAload (mi := 271) (pc := 9) (len := 1) (i := 0) rfl l0 ?_
      refine kIload (mi := 271) (pc := 10) (len := 1) (i := 3) rfl l3 ?_
      refine kIald (mi := 271) (pc := 11) (len := 1) (n := 60) rfl (hT.hd (c := 195) (by decide) (by decide)) (by show (0 : Int) ≤ k.toInt; omega) (by show k.toInt < 60; omega) ((Sh.of hT).slI (c := 195) (i := k.toInt.toNat) (by decide) (by decide) (by show _ < 60; omega) rfl) ?_
      have rv := rA k.toInt.toNat (by omega)
      obtain ⟨N202, eN202⟩ : ∃ X_, X_ = mPut N 236 k.toInt.toNat (.int (iv N 195 k.toInt.toNat)) := ⟨_, rfl⟩
      have hT203 : aTp s N202 := by rw [eN202]; exact hT.put (a := 236) (i := k.toInt.toNat) (v := .int (iv N 195 k.toInt.toNat)) (by decide) (by decide) (show aTy (tTy (tGrp 236) _) _ from ⟨(iv N 195 k.toInt.toNat), rfl, by show (0 : Int) ≤ _; omega, by show _ ≤ (9 : Int); omega⟩)
      refine kIast (mi := 271) (pc := 12) (len := 1) (n := 60) rfl (hT.hd (c := 236) (by decide) (by decide)) (by decide) (by show (0 : Int) ≤ k.toInt; omega) (by show k.toInt < 60; omega) ?_
      refine Ok_meq eN202 ?_
      have hSh_N202 := Sh.of hT203
      refine kIinc (mi := 271) (pc := 13) (len := 3) (i := 3) (n := 1) rfl l3 (by decide) ?_
      refine kGoto (mi := 271) (pc := 16) (len := 3) (t := 2) rfl rfl ?_
      refine ih (k := k + 1) hT203 (fun c i hc => by rw [eN202, mSlot_put_ne (Or.inl hc)]; exact hp c i hc) (fun i hi => ?_) (hf.tr (by rw [eN202]; exact aFr_put rfl)) (mLd_st1_ref (by decide) l0) (mLd_st1_ref (by decide) l1) (mLd_st1_int (by decide) l2) mLd_st1_i (by omega) (by omega)
      rw [en (by omega)] at hi
      rw [eN202, iv_put_if (Sh.of hT) (by decide) (by decide) (by show k.toInt.toNat < 60; omega)]
      by_cases ci : i = k.toInt.toNat
      · rw [if_pos ci, ci]
        unfold iv
        rw [hp 195 _ (by decide)]
      · rw [if_neg ci]
        exact hv i (by omega)
theorem cs_hk0 {s : List Int32} : cSoundK s cm_hk0 := by
  intro γ d σ L M hd hA
  have h := aHoldK_0 hA
  have l0 := eR h (i := 0) (g := 195) (c := 0) rfl rfl
  have l1 := eR h (i := 1) (g := 236) (c := 0) rfl rfl
  obtain ⟨l2, hl2, el2⟩ := eI h (i := 2) (sy := 0) (c := 60) rfl
  have q0 : (γ 1023 0).toInt = σ 0 + 1 := eG h (g := 1023) (i := 0) (sy := 0) (c := 1) (by decide) (List.Mem.head _)
  have q1 : (γ 1023 1).toInt = σ 0 + 0 := eG h (g := 1023) (i := 1) (sy := 0) (c := 0) (by decide) (List.Mem.tail _ (List.Mem.head _))
  have s0 := h.1.2.1.1
  have e2 : l2 = 60 := Int32.toInt_inj.mp (by rw [el2, s0]; rfl)
  subst e2
  have hM := hA.2.2.2
  have hT := aTp_of (aMem_0 (aMemK_to9 hM))
  have hx := aMemK_x10 hM
  have hK := (hx.2.2.2.2.2.1).2.1 (show (γ 1023 0).toInt = 1 by omega)
  refine kIconst (mi := 271) (pc := 0) (len := 1) (v := 0) rfl ?_
  refine kIstore (mi := 271) (pc := 1) (len := 1) (i := 3) rfl (by decide) ?_
  refine (cl_hk0 (M := M) 60 (k := 0) hT (fun _ _ _ => rfl) (fun i hi => absurd hi (Nat.not_lt_zero i)) aFr.rf (mLd_st1_ref (by decide) l0) (mLd_st1_ref (by decide) l1) (mLd_st1_int (by decide) hl2) mLd_st1_i (Int.le_refl 0) rfl).mono ?_
  intro r N hr
  obtain ⟨er, hT2, hp, hv, hf⟩ := hr
  subst er
  have ni : ∀ c i, c ≠ 236 → iv N c i = iv M c i := fun c i hc => by unfold iv; rw [hp c i hc]
  have hp2 : ∀ c i, ¬ qKn c i → mSlot N c i = mSlot M c i := fun c i k => hp c i (fun e => k (by unfold qKn qA; omega))
  have kb : xKb γ N := xKb_same (Int.le_refl _) (fun c i q => ni c i (by unfold qO at q; omega)) (fun d h40 _ => ⟨fun p hp => ni _ _ (by omega), ni _ _ (by omega), ni _ _ (by omega), ni _ _ (by omega)⟩) hx.2.2.2.2.2.2
  have kr : kR N 236 195 (1 : Int) := by
    intro j hj h5 i hi
    by_cases c : j = 0
    · subst c
      exact (hv i hi).trans (ni 195 i (by decide)).symm
    · rw [ni (236 + j) i (by omega), ni (195 + j) i (by omega)]
      exact hK.2.2 j (by rw [q1]; omega) h5 i hi
  have ka : kHW N 93 195 := by
    obtain ⟨h1, π, h2, h3⟩ := hK.1
    refine ⟨fun k hk => ?_, π, ?_, fun k hk => ?_⟩
    · rw [ni 93 3 (by decide)] at hk
      rw [ni (93 + 1) k (by decide), ni (93 + 2) k (by decide), ni (93 + 3) k (by decide), ni 195 k (by decide), ni (195 + 1) k (by decide), ni (195 + 2) k (by decide)]
      exact h1 k hk
    · rw [ni 93 6 (by decide)]
      refine knP_congr (fun k _ => ?_) h2
      rw [ni (195 + 3) k (by decide)]
    · rw [ni 93 6 (by decide)] at hk
      rw [ni (93 + 4) k (by decide), ni (93 + 5) k (by decide), ni (195 + 3) (π k) (by decide), ni (195 + 4) (π k) (by decide)]
      exact h3 k hk
  have kc : kC N 110 93 := by
    obtain ⟨h1, h2, h3, h4⟩ := hK.2.1
    refine ⟨fun i hi => ?_, fun i hi => ?_, ?_, ?_⟩
    · rw [ni (110 + 1) i (by decide), ni (110 + 2) i (by decide), ni (110 + 3) i (by decide), ni (93 + 1) i (by decide), ni (93 + 2) i (by decide), ni (93 + 3) i (by decide)]
      exact h1 i hi
    · rw [ni (110 + 4) i (by decide), ni (110 + 5) i (by decide), ni (93 + 4) i (by decide), ni (93 + 5) i (by decide)]
      exact h2 i hi
    · rw [ni 110 3 (by decide), ni 93 3 (by decide)]
      exact h3
    · rw [ni 110 6 (by decide), ni 93 6 (by decide)]
      exact h4
  have hM2 : aMemK (s, gUp γ 1023 1 1) N := kn_mem3 hM hT2 hp2 ⟨⟨fun q => absurd (show (γ 1023 0).toInt = 0 from q) (by omega), fun q => ⟨ka, kc, kr⟩, fun q => absurd (show (γ 1023 0).toInt = 2 from q) (by omega)⟩, kb⟩
  refine ⟨aFr_wk (fun g i q => memP_k (by decide) q) hf, (gUp γ 1023 1 1), (gFr_up rfl gFr.rf), _, List.Mem.head _, σ, aExt.rf, ?_⟩
  exact mkHoldK (by decide) s0 ⟨b00 s0, True.intro⟩ True.intro ⟨hF1_gh (by decide) (by decide) (by show (1 : Int) = σ 0 + 1; omega), True.intro⟩ True.intro hM2
theorem cl_hu0 {s : List Int32} {M : Mem} {d : Nat} : ∀ (m : Nat) {N : Mem} {L : MLoc} {k : Int32}, aTp s N → (∀ c i, c ≠ 195 → mSlot N c i = mSlot M c i) → (∀ i, i < k.toInt.toNat → iv N 195 i = iv M 236 i) → aFr [(195, 0)] M N → mLd L 0 = some (.ref 236) → mLd L 1 = some (.ref 195) → mLd L 2 = some (.int 60) → mLd L 3 = some (.int k) → 0 ≤ k.toInt → k.toInt.toNat + m = 60 → Ok d 271 2 L [] N (fun r N' => r = none ∧ aTp s N' ∧ (∀ c i, c ≠ 195 → mSlot N' c i = mSlot M c i) ∧ (∀ i, i < 60 → iv N' 195 i = iv M 236 i) ∧ aFr [(195, 0)] M N') := by
  intro m
  induction m with
  | zero =>
    intro N L k hT hp hv hf l0 l1 l2 l3 k0 km
    have rA := fun j (hj : j < 60) => iv_ty hT (c := 236) (i := j) (by decide) (by decide) (by show _ < 60; omega) (lo := 0) (hi' := 9) (gs := []) rfl
    refine kIload (mi := 271) (pc := 2) (len := 1) (i := 3) rfl l3 ?_
    refine kIload (mi := 271) (pc := 3) (len := 1) (i := 2) rfl l2 ?_
    rcases Bool.eq_false_or_eq_true (mCond .ge k (60 : Int32)) with hc1 | hc1
    · have c1 := hc1
      replace c1 : ¬ k.toInt < 60 := mC_ge.1 c1
      refine kIcT (mi := 271) (pc := 4) (len := 3) (t := 19) rfl rfl hc1 ?_
      refine kRetV (mi := 271) (pc := 19) (len := 1) rfl rfl ?_
      rw [show k.toInt.toNat = 60 by omega] at hv
      exact ⟨rfl, hT, hp, hv, hf⟩
    · have c1 := hc1
      replace c1 : k.toInt < 60 := mC_ge.2 c1
      refine kIcF (mi := 271) (pc := 4) (len := 3) (t := 19) rfl rfl hc1 ?_
      exfalso
      omega
  | succ m ih =>
    intro N L k hT hp hv hf l0 l1 l2 l3 k0 km
    have rA := fun j (hj : j < 60) => iv_ty hT (c := 236) (i := j) (by decide) (by decide) (by show _ < 60; omega) (lo := 0) (hi' := 9) (gs := []) rfl
    have ek : k.toInt < 60 → (k + 1).toInt = k.toInt + 1 := fun _ => i32_inc k0 (by omega)
    have en : k.toInt < 60 → (k + 1).toInt.toNat = k.toInt.toNat + 1 := fun q => by rw [ek q]; omega
    refine kIload (mi := 271) (pc := 2) (len := 1) (i := 3) rfl l3 ?_
    refine kIload (mi := 271) (pc := 3) (len := 1) (i := 2) rfl l2 ?_
    rcases Bool.eq_false_or_eq_true (mCond .ge k (60 : Int32)) with hc201 | hc201
    · have c201 := hc201
      replace c201 : ¬ k.toInt < 60 := mC_ge.1 c201
      refine kIcT (mi := 271) (pc := 4) (len := 3) (t := 19) rfl rfl hc201 ?_
      exfalso
      omega
    · have c201 := hc201
      replace c201 : k.toInt < 60 := mC_ge.2 c201
      refine kIcF (mi := 271) (pc := 4) (len := 3) (t := 19) rfl rfl hc201 ?_
      refine kAload (mi := 271) (pc := 7) (len := 1) (i := 1) rfl l1 ?_
      refine kIload (mi := 271) (pc := 8) (len := 1) (i := 3) rfl l3 ?_
      refine kAload (mi := 271) (pc := 9) (len := 1) (i := 0) rfl l0 ?_
      refine kIload (mi := 271) (pc := 10) (len := 1) (i := 3) rfl l3 ?_
      refine kIald (mi := 271) (pc := 11) (len := 1) (n := 60) rfl (hT.hd (c := 236) (by decide) (by decide)) (by show (0 : Int) ≤ k.toInt; omega) (by show k.toInt < 60; omega) ((Sh.of hT).slI (c := 236) (i := k.toInt.toNat) (by decide) (by decide) (by show _ < 60; omega) rfl) ?_
      have rv := rA k.toInt.toNat (by omega)
      obtain ⟨N202, eN202⟩ : ∃ X_, X_ = mPut N 195 k.toInt.toNat (.int (iv N 236 k.toInt.toNat)) := ⟨_, rfl⟩
      have hT203 : aTp s N202 := by rw [eN202]; exact hT.put (a := 195) (i := k.toInt.toNat) (v := .int (iv N 236 k.toInt.toNat)) (by decide) (by decide) (show aTy (tTy (tGrp 195) _) _ from ⟨(iv N 236 k.toInt.toNat), rfl, by show (0 : Int) ≤ _; omega, by show _ ≤ (9 : Int); omega⟩)
      refine kIast (mi := 271) (pc := 12) (len := 1) (n := 60) rfl (hT.hd (c := 195) (by decide) (by decide)) (by decide) (by show (0 : Int) ≤ k.toInt; omega) (by show k.toInt < 60; omega) ?_
      refine Ok_meq eN202 ?_
      have hSh_N202 := Sh.of hT203
      refine kIinc (mi := 271) (pc := 13) (len := 3) (i := 3) (n := 1) rfl l3 (by decide) ?_
      refine kGoto (mi := 271) (pc := 16) (len := 3) (t := 2) rfl rfl ?_
      refine ih (k := k + 1) hT203 (fun c i hc => by rw [eN202, mSlot_put_ne (Or.inl hc)]; exact hp c i hc) (fun i hi => ?_) (hf.tr (by rw [eN202]; exact aFr_put rfl)) (mLd_st1_ref (by decide) l0) (mLd_st1_ref (by decide) l1) (mLd_st1_int (by decide) l2) mLd_st1_i (by omega) (by omega)
      rw [en (by omega)] at hi
      rw [eN202, iv_put_if (Sh.of hT) (by decide) (by decide) (by show k.toInt.toNat < 60; omega)]
      by_cases ci : i = k.toInt.toNat
      · rw [if_pos ci, ci]
        unfold iv
        rw [hp 236 _ (by decide)]
      · rw [if_neg ci]
        exact hv i (by omega)
theorem cs_hu0 {s : List Int32} : cSoundK s cm_hu0 := by
  intro γ d σ L M hd hA
  have h := aHoldK_0 hA
  have l0 := eR h (i := 0) (g := 236) (c := 0) rfl rfl
  have l1 := eR h (i := 1) (g := 195) (c := 0) rfl rfl
  obtain ⟨l2, hl2, el2⟩ := eI h (i := 2) (sy := 0) (c := 60) rfl
  have q0 : (γ 1023 0).toInt = σ 0 + 2 := eG h (g := 1023) (i := 0) (sy := 0) (c := 2) (by decide) (List.Mem.head _)
  have q1 : (γ 1023 1).toInt = σ 0 + 0 := eG h (g := 1023) (i := 1) (sy := 0) (c := 0) (by decide) (List.Mem.tail _ (List.Mem.head _))
  have s0 := h.1.2.1.1
  have e2 : l2 = 60 := Int32.toInt_inj.mp (by rw [el2, s0]; rfl)
  subst e2
  have hM := hA.2.2.2
  have hT := aTp_of (aMem_0 (aMemK_to9 hM))
  have hx := aMemK_x10 hM
  have hK := (hx.2.2.2.2.2.1).2.2 (show (γ 1023 0).toInt = 2 by omega)
  refine kIconst (mi := 271) (pc := 0) (len := 1) (v := 0) rfl ?_
  refine kIstore (mi := 271) (pc := 1) (len := 1) (i := 3) rfl (by decide) ?_
  refine (cl_hu0 (M := M) 60 (k := 0) hT (fun _ _ _ => rfl) (fun i hi => absurd hi (Nat.not_lt_zero i)) aFr.rf (mLd_st1_ref (by decide) l0) (mLd_st1_ref (by decide) l1) (mLd_st1_int (by decide) hl2) mLd_st1_i (Int.le_refl 0) rfl).mono ?_
  intro r N hr
  obtain ⟨er, hT2, hp, hv, hf⟩ := hr
  subst er
  have ni : ∀ c i, c ≠ 195 → iv N c i = iv M c i := fun c i hc => by unfold iv; rw [hp c i hc]
  have hp2 : ∀ c i, ¬ qKn c i → mSlot N c i = mSlot M c i := fun c i k => hp c i (fun e => k (by unfold qKn qA; omega))
  have kb : xKb γ N := xKb_same (Int.le_refl _) (fun c i q => ni c i (by unfold qO at q; omega)) (fun d h40 _ => ⟨fun p hp => ni _ _ (by omega), ni _ _ (by omega), ni _ _ (by omega), ni _ _ (by omega)⟩) hx.2.2.2.2.2.2
  have kr : kR N 195 236 (1 : Int) := by
    intro j hj h5 i hi
    by_cases c : j = 0
    · subst c
      exact (hv i hi).trans (ni 236 i (by decide)).symm
    · rw [ni (195 + j) i (by omega), ni (236 + j) i (by omega)]
      exact hK.2.2 j (by rw [q1]; omega) h5 i hi
  have ka : kHW N 110 236 := by
    obtain ⟨h1, π, h2, h3⟩ := hK.1
    refine ⟨fun k hk => ?_, π, ?_, fun k hk => ?_⟩
    · rw [ni 110 3 (by decide)] at hk
      rw [ni (110 + 1) k (by decide), ni (110 + 2) k (by decide), ni (110 + 3) k (by decide), ni 236 k (by decide), ni (236 + 1) k (by decide), ni (236 + 2) k (by decide)]
      exact h1 k hk
    · rw [ni 110 6 (by decide)]
      refine knP_congr (fun k _ => ?_) h2
      rw [ni (236 + 3) k (by decide)]
    · rw [ni 110 6 (by decide)] at hk
      rw [ni (110 + 4) k (by decide), ni (110 + 5) k (by decide), ni (236 + 3) (π k) (by decide), ni (236 + 4) (π k) (by decide)]
      exact h3 k hk
  have kc : kC N 93 110 := by
    obtain ⟨h1, h2, h3, h4⟩ := hK.2.1
    refine ⟨fun i hi => ?_, fun i hi => ?_, ?_, ?_⟩
    · rw [ni (93 + 1) i (by decide), ni (93 + 2) i (by decide), ni (93 + 3) i (by decide), ni (110 + 1) i (by decide), ni (110 + 2) i (by decide), ni (110 + 3) i (by decide)]
      exact h1 i hi
    · rw [ni (93 + 4) i (by decide), ni (93 + 5) i (by decide), ni (110 + 4) i (by decide), ni (110 + 5) i (by decide)]
      exact h2 i hi
    · rw [ni 93 3 (by decide), ni 110 3 (by decide)]
      exact h3
    · rw [ni 93 6 (by decide), ni 110 6 (by decide)]
      exact h4
  have hM2 : aMemK (s, gUp γ 1023 1 1) N := kn_mem3 hM hT2 hp2 ⟨⟨fun q => absurd (show (γ 1023 0).toInt = 0 from q) (by omega), fun q => absurd (show (γ 1023 0).toInt = 1 from q) (by omega), fun q => ⟨ka, kc, kr⟩⟩, kb⟩
  refine ⟨aFr_wk (fun g i q => memP_k (by decide) q) hf, (gUp γ 1023 1 1), (gFr_up rfl gFr.rf), _, List.Mem.head _, σ, aExt.rf, ?_⟩
  exact mkHoldK (by decide) s0 ⟨b00 s0, True.intro⟩ True.intro ⟨hF1_gh (by decide) (by decide) (by show (1 : Int) = σ 0 + 1; omega), True.intro⟩ True.intro hM2
theorem cl_hk1 {s : List Int32} {M : Mem} {d : Nat} : ∀ (m : Nat) {N : Mem} {L : MLoc} {k : Int32}, aTp s N → (∀ c i, c ≠ 237 → mSlot N c i = mSlot M c i) → (∀ i, i < k.toInt.toNat → iv N 237 i = iv M 196 i) → aFr [(237, 0)] M N → mLd L 0 = some (.ref 196) → mLd L 1 = some (.ref 237) → mLd L 2 = some (.int 60) → mLd L 3 = some (.int k) → 0 ≤ k.toInt → k.toInt.toNat + m = 60 → Ok d 271 2 L [] N (fun r N' => r = none ∧ aTp s N' ∧ (∀ c i, c ≠ 237 → mSlot N' c i = mSlot M c i) ∧ (∀ i, i < 60 → iv N' 237 i = iv M 196 i) ∧ aFr [(237, 0)] M N') := by
  intro m
  induction m with
  | zero =>
    intro N L k hT hp hv hf l0 l1 l2 l3 k0 km
    have rA := fun j (hj : j < 60) => iv_ty hT (c := 196) (i := j) (by decide) (by decide) (by show _ < 60; omega) (lo := 0) (hi' := 39) (gs := []) rfl
    refine kIload (mi := 271) (pc := 2) (len := 1) (i := 3) rfl l3 ?_
    refine kIload (mi := 271) (pc := 3) (len := 1) (i := 2) rfl l2 ?_
    rcases Bool.eq_false_or_eq_true (mCond .ge k (60 : Int32)) with hc1 | hc1
    · have c1 := hc1
      replace c1 : ¬ k.toInt < 60 := mC_ge.1 c1
      refine kIcT (mi := 271) (pc := 4) (len := 3) (t := 19) rfl rfl hc1 ?_
      refine kRetV (mi := 271) (pc := 19) (len := 1) rfl rfl ?_
      rw [show k.toInt.toNat = 60 by omega] at hv
      exact ⟨rfl, hT, hp, hv, hf⟩
    · have c1 := hc1
      replace c1 : k.toInt < 60 := mC_ge.2 c1
      refine kIcF (mi := 271) (pc := 4) (len := 3) (t := 19) rfl rfl hc1 ?_
      exfalso
      omega
  | succ m ih =>
    intro N L k hT hp hv hf l0 l1 l2 l3 k0 km
    have rA := fun j (hj : j < 60) => iv_ty hT (c := 196) (i := j) (by decide) (by decide) (by show _ < 60; omega) (lo := 0) (hi' := 39) (gs := []) rfl
    have ek : k.toInt < 60 → (k + 1).toInt = k.toInt + 1 := fun _ => i32_inc k0 (by omega)
    have en : k.toInt < 60 → (k + 1).toInt.toNat = k.toInt.toNat + 1 := fun q => by rw [ek q]; omega
    refine kIload (mi := 271) (pc := 2) (len := 1) (i := 3) rfl l3 ?_
    refine kIload (mi := 271) (pc := 3) (len := 1) (i := 2) rfl l2 ?_
    rcases Bool.eq_false_or_eq_true (mCond .ge k (60 : Int32)) with hc201 | hc201
    · have c201 := hc201
      replace c201 : ¬ k.toInt < 60 := mC_ge.1 c201
      refine kIcT (mi := 271) (pc := 4) (len := 3) (t := 19) rfl rfl hc201 ?_
      exfalso
      omega
    · have c201 := hc201
      replace c201 : k.toInt < 60 := mC_ge.2 c201
      refine kIcF (mi := 271) (pc := 4) (len := 3) (t := 19) rfl rfl hc201 ?_
      refine kAload (mi := 271) (pc := 7) (len := 1) (i := 1) rfl l1 ?_
      refine kIload (mi := 271) (pc := 8) (len := 1) (i := 3) rfl l3 ?_
      refine kAload (mi := 271) (pc := 9) (len := 1) (i := 0) rfl l0 ?_
      refine kIload (mi := 271) (pc := 10) (len := 1) (i := 3) rfl l3 ?_
      refine kIald (mi := 271) (pc := 11) (len := 1) (n := 60) rfl (hT.hd (c := 196) (by decide) (by decide)) (by show (0 : Int) ≤ k.toInt; omega) (by show k.toInt < 60; omega) ((Sh.of hT).slI (c := 196) (i := k.toInt.toNat) (by decide) (by decide) (by show _ < 60; omega) rfl) ?_
      have rv := rA k.toInt.toNat (by omega)
      obtain ⟨N202, eN202⟩ : ∃ X_, X_ = mPut N 237 k.toInt.toNat (.int (iv N 196 k.toInt.toNat)) := ⟨_, rfl⟩
      have hT203 : aTp s N202 := by rw [eN202]; exact hT.put (a := 237) (i := k.toInt.toNat) (v := .int (iv N 196 k.toInt.toNat)) (by decide) (by decide) (show aTy (tTy (tGrp 237) _) _ from ⟨(iv N 196 k.toInt.toNat), rfl, by show (0 : Int) ≤ _; omega, by show _ ≤ (39 : Int); omega⟩)
      refine kIast (mi := 271) (pc := 12) (len := 1) (n := 60) rfl (hT.hd (c := 237) (by decide) (by decide)) (by decide) (by show (0 : Int) ≤ k.toInt; omega) (by show k.toInt < 60; omega) ?_
      refine Ok_meq eN202 ?_
      have hSh_N202 := Sh.of hT203
      refine kIinc (mi := 271) (pc := 13) (len := 3) (i := 3) (n := 1) rfl l3 (by decide) ?_
      refine kGoto (mi := 271) (pc := 16) (len := 3) (t := 2) rfl rfl ?_
      refine ih (k := k + 1) hT203 (fun c i hc => by rw [eN202, mSlot_put_ne (Or.inl hc)]; exact hp c i hc) (fun i hi => ?_) (hf.tr (by rw [eN202]; exact aFr_put rfl)) (mLd_st1_ref (by decide) l0) (mLd_st1_ref (by decide) l1) (mLd_st1_int (by decide) l2) mLd_st1_i (by omega) (by omega)
      rw [en (by omega)] at hi
      rw [eN202, iv_put_if (Sh.of hT) (by decide) (by decide) (by show k.toInt.toNat < 60; omega)]
      by_cases ci : i = k.toInt.toNat
      · rw [if_pos ci, ci]
        unfold iv
        rw [hp 196 _ (by decide)]
      · rw [if_neg ci]
        exact hv i (by omega)
theorem cs_hk1 {s : List Int32} : cSoundK s cm_hk1 := by
  intro γ d σ L M hd hA
  have h := aHoldK_0 hA
  have l0 := eR h (i := 0) (g := 196) (c := 0) rfl rfl
  have l1 := eR h (i := 1) (g := 237) (c := 0) rfl rfl
  obtain ⟨l2, hl2, el2⟩ := eI h (i := 2) (sy := 0) (c := 60) rfl
  have q0 : (γ 1023 0).toInt = σ 0 + 1 := eG h (g := 1023) (i := 0) (sy := 0) (c := 1) (by decide) (List.Mem.head _)
  have q1 : (γ 1023 1).toInt = σ 0 + 1 := eG h (g := 1023) (i := 1) (sy := 0) (c := 1) (by decide) (List.Mem.tail _ (List.Mem.head _))
  have s0 := h.1.2.1.1
  have e2 : l2 = 60 := Int32.toInt_inj.mp (by rw [el2, s0]; rfl)
  subst e2
  have hM := hA.2.2.2
  have hT := aTp_of (aMem_0 (aMemK_to9 hM))
  have hx := aMemK_x10 hM
  have hK := (hx.2.2.2.2.2.1).2.1 (show (γ 1023 0).toInt = 1 by omega)
  refine kIconst (mi := 271) (pc := 0) (len := 1) (v := 0) rfl ?_
  refine kIstore (mi := 271) (pc := 1) (len := 1) (i := 3) rfl (by decide) ?_
  refine (cl_hk1 (M := M) 60 (k := 0) hT (fun _ _ _ => rfl) (fun i hi => absurd hi (Nat.not_lt_zero i)) aFr.rf (mLd_st1_ref (by decide) l0) (mLd_st1_ref (by decide) l1) (mLd_st1_int (by decide) hl2) mLd_st1_i (Int.le_refl 0) rfl).mono ?_
  intro r N hr
  obtain ⟨er, hT2, hp, hv, hf⟩ := hr
  subst er
  have ni : ∀ c i, c ≠ 237 → iv N c i = iv M c i := fun c i hc => by unfold iv; rw [hp c i hc]
  have hp2 : ∀ c i, ¬ qKn c i → mSlot N c i = mSlot M c i := fun c i k => hp c i (fun e => k (by unfold qKn qA; omega))
  have kb : xKb γ N := xKb_same (Int.le_refl _) (fun c i q => ni c i (by unfold qO at q; omega)) (fun d h40 _ => ⟨fun p hp => ni _ _ (by omega), ni _ _ (by omega), ni _ _ (by omega), ni _ _ (by omega)⟩) hx.2.2.2.2.2.2
  have kr : kR N 236 195 (2 : Int) := by
    intro j hj h5 i hi
    by_cases c : j = 1
    · subst c
      exact (hv i hi).trans (ni 196 i (by decide)).symm
    · rw [ni (236 + j) i (by omega), ni (195 + j) i (by omega)]
      exact hK.2.2 j (by rw [q1]; omega) h5 i hi
  have ka : kHW N 93 195 := by
    obtain ⟨h1, π, h2, h3⟩ := hK.1
    refine ⟨fun k hk => ?_, π, ?_, fun k hk => ?_⟩
    · rw [ni 93 3 (by decide)] at hk
      rw [ni (93 + 1) k (by decide), ni (93 + 2) k (by decide), ni (93 + 3) k (by decide), ni 195 k (by decide), ni (195 + 1) k (by decide), ni (195 + 2) k (by decide)]
      exact h1 k hk
    · rw [ni 93 6 (by decide)]
      refine knP_congr (fun k _ => ?_) h2
      rw [ni (195 + 3) k (by decide)]
    · rw [ni 93 6 (by decide)] at hk
      rw [ni (93 + 4) k (by decide), ni (93 + 5) k (by decide), ni (195 + 3) (π k) (by decide), ni (195 + 4) (π k) (by decide)]
      exact h3 k hk
  have kc : kC N 110 93 := by
    obtain ⟨h1, h2, h3, h4⟩ := hK.2.1
    refine ⟨fun i hi => ?_, fun i hi => ?_, ?_, ?_⟩
    · rw [ni (110 + 1) i (by decide), ni (110 + 2) i (by decide), ni (110 + 3) i (by decide), ni (93 + 1) i (by decide), ni (93 + 2) i (by decide), ni (93 + 3) i (by decide)]
      exact h1 i hi
    · rw [ni (110 + 4) i (by decide), ni (110 + 5) i (by decide), ni (93 + 4) i (by decide), ni (93 + 5) i (by decide)]
      exact h2 i hi
    · rw [ni 110 3 (by decide), ni 93 3 (by decide)]
      exact h3
    · rw [ni 110 6 (by decide), ni 93 6 (by decide)]
      exact h4
  have hM2 : aMemK (s, gUp γ 1023 1 2) N := kn_mem3 hM hT2 hp2 ⟨⟨fun q => absurd (show (γ 1023 0).toInt = 0 from q) (by omega), fun q => ⟨ka, kc, kr⟩, fun q => absurd (show (γ 1023 0).toInt = 2 from q) (by omega)⟩, kb⟩
  refine ⟨aFr_wk (fun g i q => memP_k (by decide) q) hf, (gUp γ 1023 1 2), (gFr_up rfl gFr.rf), _, List.Mem.head _, σ, aExt.rf, ?_⟩
  exact mkHoldK (by decide) s0 ⟨b00 s0, True.intro⟩ True.intro ⟨hF1_gh (by decide) (by decide) (by show (2 : Int) = σ 0 + 2; omega), True.intro⟩ True.intro hM2
theorem cl_hu1 {s : List Int32} {M : Mem} {d : Nat} : ∀ (m : Nat) {N : Mem} {L : MLoc} {k : Int32}, aTp s N → (∀ c i, c ≠ 196 → mSlot N c i = mSlot M c i) → (∀ i, i < k.toInt.toNat → iv N 196 i = iv M 237 i) → aFr [(196, 0)] M N → mLd L 0 = some (.ref 237) → mLd L 1 = some (.ref 196) → mLd L 2 = some (.int 60) → mLd L 3 = some (.int k) → 0 ≤ k.toInt → k.toInt.toNat + m = 60 → Ok d 271 2 L [] N (fun r N' => r = none ∧ aTp s N' ∧ (∀ c i, c ≠ 196 → mSlot N' c i = mSlot M c i) ∧ (∀ i, i < 60 → iv N' 196 i = iv M 237 i) ∧ aFr [(196, 0)] M N') := by
  intro m
  induction m with
  | zero =>
    intro N L k hT hp hv hf l0 l1 l2 l3 k0 km
    have rA := fun j (hj : j < 60) => iv_ty hT (c := 237) (i := j) (by decide) (by decide) (by show _ < 60; omega) (lo := 0) (hi' := 39) (gs := []) rfl
    refine kIload (mi := 271) (pc := 2) (len := 1) (i := 3) rfl l3 ?_
    refine kIload (mi := 271) (pc := 3) (len := 1) (i := 2) rfl l2 ?_
    rcases Bool.eq_false_or_eq_true (mCond .ge k (60 : Int32)) with hc1 | hc1
    · have c1 := hc1
      replace c1 : ¬ k.toInt < 60 := mC_ge.1 c1
      refine kIcT (mi := 271) (pc := 4) (len := 3) (t := 19) rfl rfl hc1 ?_
      refine kRetV (mi := 271) (pc := 19) (len := 1) rfl rfl ?_
      rw [show k.toInt.toNat = 60 by omega] at hv
      exact ⟨rfl, hT, hp, hv, hf⟩
    · have c1 := hc1
      replace c1 : k.toInt < 60 := mC_ge.2 c1
      refine kIcF (mi := 271) (pc := 4) (len := 3) (t := 19) rfl rfl hc1 ?_
      exfalso
      omega
  | succ m ih =>
    intro N L k hT hp hv hf l0 l1 l2 l3 k0 km
    have rA := fun j (hj : j < 60) => iv_ty hT (c := 237) (i := j) (by decide) (by decide) (by show _ < 60; omega) (lo := 0) (hi' := 39) (gs := []) rfl
    have ek : k.toInt < 60 → (k + 1).toInt = k.toInt + 1 := fun _ => i32_inc k0 (by omega)
    have en : k.toInt < 60 → (k + 1).toInt.toNat = k.toInt.toNat + 1 := fun q => by rw [ek q]; omega
    refine kIload (mi := 271) (pc := 2) (len := 1) (i := 3) rfl l3 ?_
    refine kIload (mi := 271) (pc := 3) (len := 1) (i := 2) rfl l2 ?_
    rcases Bool.eq_false_or_eq_true (mCond .ge k (60 : Int32)) with hc201 | hc201
    · have c201 := hc201
      replace c201 : ¬ k.toInt < 60 := mC_ge.1 c201
      refine kIcT (mi := 271) (pc := 4) (len := 3) (t := 19) rfl rfl hc201 ?_
      exfalso
      omega
    · have c201 := hc201
      replace c201 : k.toInt < 60 := mC_ge.2 c201
      refine kIcF (mi := 271) (pc := 4) (len := 3) (t := 19) rfl rfl hc201 ?_
      refine kAload (mi := 271) (pc := 7) (len := 1) (i := 1) rfl l1 ?_
      refine kIload (mi := 271) (pc := 8) (len := 1) (i := 3) rfl l3 ?_
      refine kAload (mi := 271) (pc := 9) (len := 1) (i := 0) rfl l0 ?_
      refine kIload (mi := 271) (pc := 10) (len := 1) (i := 3) rfl l3 ?_
      refine kIald (mi := 271) (pc := 11) (len := 1) (n := 60) rfl (hT.hd (c := 237) (by decide) (by decide)) (by show (0 : Int) ≤ k.toInt; omega) (by show k.toInt < 60; omega) ((Sh.of hT).slI (c := 237) (i := k.toInt.toNat) (by decide) (by decide) (by show _ < 60; omega) rfl) ?_
      have rv := rA k.toInt.toNat (by omega)
      obtain ⟨N202, eN202⟩ : ∃ X_, X_ = mPut N 196 k.toInt.toNat (.int (iv N 237 k.toInt.toNat)) := ⟨_, rfl⟩
      have hT203 : aTp s N202 := by rw [eN202]; exact hT.put (a := 196) (i := k.toInt.toNat) (v := .int (iv N 237 k.toInt.toNat)) (by decide) (by decide) (show aTy (tTy (tGrp 196) _) _ from ⟨(iv N 237 k.toInt.toNat), rfl, by show (0 : Int) ≤ _; omega, by show _ ≤ (39 : Int); omega⟩)
      refine kIast (mi := 271) (pc := 12) (len := 1) (n := 60) rfl (hT.hd (c := 196) (by decide) (by decide)) (by decide) (by show (0 : Int) ≤ k.toInt; omega) (by show k.toInt < 60; omega) ?_
      refine Ok_meq eN202 ?_
      have hSh_N202 := Sh.of hT203
      refine kIinc (mi := 271) (pc := 13) (len := 3) (i := 3) (n := 1) rfl l3 (by decide) ?_
      refine kGoto (mi := 271) (pc := 16) (len := 3) (t := 2) rfl rfl ?_
      refine ih (k := k + 1) hT203 (fun c i hc => by rw [eN202, mSlot_put_ne (Or.inl hc)]; exact hp c i hc) (fun i hi => ?_) (hf.tr (by rw [eN202]; exact aFr_put rfl)) (mLd_st1_ref (by decide) l0) (mLd_st1_ref (by decide) l1) (mLd_st1_int (by decide) l2) mLd_st1_i (by omega) (by omega)
      rw [en (by omega)] at hi
      rw [eN202, iv_put_if (Sh.of hT) (by decide) (by decide) (by show k.toInt.toNat < 60; omega)]
      by_cases ci : i = k.toInt.toNat
      · rw [if_pos ci, ci]
        unfold iv
        rw [hp 237 _ (by decide)]
      · rw [if_neg ci]
        exact hv i (by omega)
theorem cs_hu1 {s : List Int32} : cSoundK s cm_hu1 := by
  intro γ d σ L M hd hA
  have h := aHoldK_0 hA
  have l0 := eR h (i := 0) (g := 237) (c := 0) rfl rfl
  have l1 := eR h (i := 1) (g := 196) (c := 0) rfl rfl
  obtain ⟨l2, hl2, el2⟩ := eI h (i := 2) (sy := 0) (c := 60) rfl
  have q0 : (γ 1023 0).toInt = σ 0 + 2 := eG h (g := 1023) (i := 0) (sy := 0) (c := 2) (by decide) (List.Mem.head _)
  have q1 : (γ 1023 1).toInt = σ 0 + 1 := eG h (g := 1023) (i := 1) (sy := 0) (c := 1) (by decide) (List.Mem.tail _ (List.Mem.head _))
  have s0 := h.1.2.1.1
  have e2 : l2 = 60 := Int32.toInt_inj.mp (by rw [el2, s0]; rfl)
  subst e2
  have hM := hA.2.2.2
  have hT := aTp_of (aMem_0 (aMemK_to9 hM))
  have hx := aMemK_x10 hM
  have hK := (hx.2.2.2.2.2.1).2.2 (show (γ 1023 0).toInt = 2 by omega)
  refine kIconst (mi := 271) (pc := 0) (len := 1) (v := 0) rfl ?_
  refine kIstore (mi := 271) (pc := 1) (len := 1) (i := 3) rfl (by decide) ?_
  refine (cl_hu1 (M := M) 60 (k := 0) hT (fun _ _ _ => rfl) (fun i hi => absurd hi (Nat.not_lt_zero i)) aFr.rf (mLd_st1_ref (by decide) l0) (mLd_st1_ref (by decide) l1) (mLd_st1_int (by decide) hl2) mLd_st1_i (Int.le_refl 0) rfl).mono ?_
  intro r N hr
  obtain ⟨er, hT2, hp, hv, hf⟩ := hr
  subst er
  have ni : ∀ c i, c ≠ 196 → iv N c i = iv M c i := fun c i hc => by unfold iv; rw [hp c i hc]
  have hp2 : ∀ c i, ¬ qKn c i → mSlot N c i = mSlot M c i := fun c i k => hp c i (fun e => k (by unfold qKn qA; omega))
  have kb : xKb γ N := xKb_same (Int.le_refl _) (fun c i q => ni c i (by unfold qO at q; omega)) (fun d h40 _ => ⟨fun p hp => ni _ _ (by omega), ni _ _ (by omega), ni _ _ (by omega), ni _ _ (by omega)⟩) hx.2.2.2.2.2.2
  have kr : kR N 195 236 (2 : Int) := by
    intro j hj h5 i hi
    by_cases c : j = 1
    · subst c
      exact (hv i hi).trans (ni 237 i (by decide)).symm
    · rw [ni (195 + j) i (by omega), ni (236 + j) i (by omega)]
      exact hK.2.2 j (by rw [q1]; omega) h5 i hi
  have ka : kHW N 110 236 := by
    obtain ⟨h1, π, h2, h3⟩ := hK.1
    refine ⟨fun k hk => ?_, π, ?_, fun k hk => ?_⟩
    · rw [ni 110 3 (by decide)] at hk
      rw [ni (110 + 1) k (by decide), ni (110 + 2) k (by decide), ni (110 + 3) k (by decide), ni 236 k (by decide), ni (236 + 1) k (by decide), ni (236 + 2) k (by decide)]
      exact h1 k hk
    · rw [ni 110 6 (by decide)]
      refine knP_congr (fun k _ => ?_) h2
      rw [ni (236 + 3) k (by decide)]
    · rw [ni 110 6 (by decide)] at hk
      rw [ni (110 + 4) k (by decide), ni (110 + 5) k (by decide), ni (236 + 3) (π k) (by decide), ni (236 + 4) (π k) (by decide)]
      exact h3 k hk
  have kc : kC N 93 110 := by
    obtain ⟨h1, h2, h3, h4⟩ := hK.2.1
    refine ⟨fun i hi => ?_, fun i hi => ?_, ?_, ?_⟩
    · rw [ni (93 + 1) i (by decide), ni (93 + 2) i (by decide), ni (93 + 3) i (by decide), ni (110 + 1) i (by decide), ni (110 + 2) i (by decide), ni (110 + 3) i (by decide)]
      exact h1 i hi
    · rw [ni (93 + 4) i (by decide), ni (93 + 5) i (by decide), ni (110 + 4) i (by decide), ni (110 + 5) i (by decide)]
      exact h2 i hi
    · rw [ni 93 3 (by decide), ni 110 3 (by decide)]
      exact h3
    · rw [ni 93 6 (by decide), ni 110 6 (by decide)]
      exact h4
  have hM2 : aMemK (s, gUp γ 1023 1 2) N := kn_mem3 hM hT2 hp2 ⟨⟨fun q => absurd (show (γ 1023 0).toInt = 0 from q) (by omega), fun q => absurd (show (γ 1023 0).toInt = 1 from q) (by omega), fun q => ⟨ka, kc, kr⟩⟩, kb⟩
  refine ⟨aFr_wk (fun g i q => memP_k (by decide) q) hf, (gUp γ 1023 1 2), (gFr_up rfl gFr.rf), _, List.Mem.head _, σ, aExt.rf, ?_⟩
  exact mkHoldK (by decide) s0 ⟨b00 s0, True.intro⟩ True.intro ⟨hF1_gh (by decide) (by decide) (by show (2 : Int) = σ 0 + 2; omega), True.intro⟩ True.intro hM2
theorem cl_hk2 {s : List Int32} {M : Mem} {d : Nat} : ∀ (m : Nat) {N : Mem} {L : MLoc} {k : Int32}, aTp s N → (∀ c i, c ≠ 238 → mSlot N c i = mSlot M c i) → (∀ i, i < k.toInt.toNat → iv N 238 i = iv M 197 i) → aFr [(238, 0)] M N → mLd L 0 = some (.ref 197) → mLd L 1 = some (.ref 238) → mLd L 2 = some (.int 60) → mLd L 3 = some (.int k) → 0 ≤ k.toInt → k.toInt.toNat + m = 60 → Ok d 271 2 L [] N (fun r N' => r = none ∧ aTp s N' ∧ (∀ c i, c ≠ 238 → mSlot N' c i = mSlot M c i) ∧ (∀ i, i < 60 → iv N' 238 i = iv M 197 i) ∧ aFr [(238, 0)] M N') := by
  intro m
  induction m with
  | zero =>
    intro N L k hT hp hv hf l0 l1 l2 l3 k0 km
    have rA := fun j (hj : j < 60) => iv_ty hT (c := 197) (i := j) (by decide) (by decide) (by show _ < 60; omega) (lo := 0) (hi' := 999) (gs := []) rfl
    refine kIload (mi := 271) (pc := 2) (len := 1) (i := 3) rfl l3 ?_
    refine kIload (mi := 271) (pc := 3) (len := 1) (i := 2) rfl l2 ?_
    rcases Bool.eq_false_or_eq_true (mCond .ge k (60 : Int32)) with hc1 | hc1
    · have c1 := hc1
      replace c1 : ¬ k.toInt < 60 := mC_ge.1 c1
      refine kIcT (mi := 271) (pc := 4) (len := 3) (t := 19) rfl rfl hc1 ?_
      refine kRetV (mi := 271) (pc := 19) (len := 1) rfl rfl ?_
      rw [show k.toInt.toNat = 60 by omega] at hv
      exact ⟨rfl, hT, hp, hv, hf⟩
    · have c1 := hc1
      replace c1 : k.toInt < 60 := mC_ge.2 c1
      refine kIcF (mi := 271) (pc := 4) (len := 3) (t := 19) rfl rfl hc1 ?_
      exfalso
      omega
  | succ m ih =>
    intro N L k hT hp hv hf l0 l1 l2 l3 k0 km
    have rA := fun j (hj : j < 60) => iv_ty hT (c := 197) (i := j) (by decide) (by decide) (by show _ < 60; omega) (lo := 0) (hi' := 999) (gs := []) rfl
    have ek : k.toInt < 60 → (k + 1).toInt = k.toInt + 1 := fun _ => i32_inc k0 (by omega)
    have en : k.toInt < 60 → (k + 1).toInt.toNat = k.toInt.toNat + 1 := fun q => by rw [ek q]; omega
    refine kIload (mi := 271) (pc := 2) (len := 1) (i := 3) rfl l3 ?_
    refine kIload (mi := 271) (pc := 3) (len := 1) (i := 2) rfl l2 ?_
    rcases Bool.eq_false_or_eq_true (mCond .ge k (60 : Int32)) with hc201 | hc201
    · have c201 := hc201
      replace c201 : ¬ k.toInt < 60 := mC_ge.1 c201
      refine kIcT (mi := 271) (pc := 4) (len := 3) (t := 19) rfl rfl hc201 ?_
      exfalso
      omega
    · have c201 := hc201
      replace c201 : k.toInt < 60 := mC_ge.2 c201
      refine kIcF (mi := 271) (pc := 4) (len := 3) (t := 19) rfl rfl hc201 ?_
      refine kAload (mi := 271) (pc := 7) (len := 1) (i := 1) rfl l1 ?_
      refine kIload (mi := 271) (pc := 8) (len := 1) (i := 3) rfl l3 ?_
      refine kAload (mi := 271) (pc := 9) (len := 1) (i := 0) rfl l0 ?_
      refine kIload (mi := 271) (pc := 10) (len := 1) (i := 3) rfl l3 ?_
      refine kIald (mi := 271) (pc := 11) (len := 1) (n := 60) rfl (hT.hd (c := 197) (by decide) (by decide)) (by show (0 : Int) ≤ k.toInt; omega) (by show k.toInt < 60; omega) ((Sh.of hT).slI (c := 197) (i := k.toInt.toNat) (by decide) (by decide) (by show _ < 60; omega) rfl) ?_
      have rv := rA k.toInt.toNat (by omega)
      obtain ⟨N202, eN202⟩ : ∃ X_, X_ = mPut N 238 k.toInt.toNat (.int (iv N 197 k.toInt.toNat)) := ⟨_, rfl⟩
      have hT203 : aTp s N202 := by rw [eN202]; exact hT.put (a := 238) (i := k.toInt.toNat) (v := .int (iv N 197 k.toInt.toNat)) (by decide) (by decide) (show aTy (tTy (tGrp 238) _) _ from ⟨(iv N 197 k.toInt.toNat), rfl, by show (0 : Int) ≤ _; omega, by show _ ≤ (999 : Int); omega⟩)
      refine kIast (mi := 271) (pc := 12) (len := 1) (n := 60) rfl (hT.hd (c := 238) (by decide) (by decide)) (by decide) (by show (0 : Int) ≤ k.toInt; omega) (by show k.toInt < 60; omega) ?_
      refine Ok_meq eN202 ?_
      have hSh_N202 := Sh.of hT203
      refine kIinc (mi := 271) (pc := 13) (len := 3) (i := 3) (n := 1) rfl l3 (by decide) ?_
      refine kGoto (mi := 271) (pc := 16) (len := 3) (t := 2) rfl rfl ?_
      refine ih (k := k + 1) hT203 (fun c i hc => by rw [eN202, mSlot_put_ne (Or.inl hc)]; exact hp c i hc) (fun i hi => ?_) (hf.tr (by rw [eN202]; exact aFr_put rfl)) (mLd_st1_ref (by decide) l0) (mLd_st1_ref (by decide) l1) (mLd_st1_int (by decide) l2) mLd_st1_i (by omega) (by omega)
      rw [en (by omega)] at hi
      rw [eN202, iv_put_if (Sh.of hT) (by decide) (by decide) (by show k.toInt.toNat < 60; omega)]
      by_cases ci : i = k.toInt.toNat
      · rw [if_pos ci, ci]
        unfold iv
        rw [hp 197 _ (by decide)]
      · rw [if_neg ci]
        exact hv i (by omega)
theorem cs_hk2 {s : List Int32} : cSoundK s cm_hk2 := by
  intro γ d σ L M hd hA
  have h := aHoldK_0 hA
  have l0 := eR h (i := 0) (g := 197) (c := 0) rfl rfl
  have l1 := eR h (i := 1) (g := 238) (c := 0) rfl rfl
  obtain ⟨l2, hl2, el2⟩ := eI h (i := 2) (sy := 0) (c := 60) rfl
  have q0 : (γ 1023 0).toInt = σ 0 + 1 := eG h (g := 1023) (i := 0) (sy := 0) (c := 1) (by decide) (List.Mem.head _)
  have q1 : (γ 1023 1).toInt = σ 0 + 2 := eG h (g := 1023) (i := 1) (sy := 0) (c := 2) (by decide) (List.Mem.tail _ (List.Mem.head _))
  have s0 := h.1.2.1.1
  have e2 : l2 = 60 := Int32.toInt_inj.mp (by rw [el2, s0]; rfl)
  subst e2
  have hM := hA.2.2.2
  have hT := aTp_of (aMem_0 (aMemK_to9 hM))
  have hx := aMemK_x10 hM
  have hK := (hx.2.2.2.2.2.1).2.1 (show (γ 1023 0).toInt = 1 by omega)
  refine kIconst (mi := 271) (pc := 0) (len := 1) (v := 0) rfl ?_
  refine kIstore (mi := 271) (pc := 1) (len := 1) (i := 3) rfl (by decide) ?_
  refine (cl_hk2 (M := M) 60 (k := 0) hT (fun _ _ _ => rfl) (fun i hi => absurd hi (Nat.not_lt_zero i)) aFr.rf (mLd_st1_ref (by decide) l0) (mLd_st1_ref (by decide) l1) (mLd_st1_int (by decide) hl2) mLd_st1_i (Int.le_refl 0) rfl).mono ?_
  intro r N hr
  obtain ⟨er, hT2, hp, hv, hf⟩ := hr
  subst er
  have ni : ∀ c i, c ≠ 238 → iv N c i = iv M c i := fun c i hc => by unfold iv; rw [hp c i hc]
  have hp2 : ∀ c i, ¬ qKn c i → mSlot N c i = mSlot M c i := fun c i k => hp c i (fun e => k (by unfold qKn qA; omega))
  have kb : xKb γ N := xKb_same (Int.le_refl _) (fun c i q => ni c i (by unfold qO at q; omega)) (fun d h40 _ => ⟨fun p hp => ni _ _ (by omega), ni _ _ (by omega), ni _ _ (by omega), ni _ _ (by omega)⟩) hx.2.2.2.2.2.2
  have kr : kR N 236 195 (3 : Int) := by
    intro j hj h5 i hi
    by_cases c : j = 2
    · subst c
      exact (hv i hi).trans (ni 197 i (by decide)).symm
    · rw [ni (236 + j) i (by omega), ni (195 + j) i (by omega)]
      exact hK.2.2 j (by rw [q1]; omega) h5 i hi
  have ka : kHW N 93 195 := by
    obtain ⟨h1, π, h2, h3⟩ := hK.1
    refine ⟨fun k hk => ?_, π, ?_, fun k hk => ?_⟩
    · rw [ni 93 3 (by decide)] at hk
      rw [ni (93 + 1) k (by decide), ni (93 + 2) k (by decide), ni (93 + 3) k (by decide), ni 195 k (by decide), ni (195 + 1) k (by decide), ni (195 + 2) k (by decide)]
      exact h1 k hk
    · rw [ni 93 6 (by decide)]
      refine knP_congr (fun k _ => ?_) h2
      rw [ni (195 + 3) k (by decide)]
    · rw [ni 93 6 (by decide)] at hk
      rw [ni (93 + 4) k (by decide), ni (93 + 5) k (by decide), ni (195 + 3) (π k) (by decide), ni (195 + 4) (π k) (by decide)]
      exact h3 k hk
  have kc : kC N 110 93 := by
    obtain ⟨h1, h2, h3, h4⟩ := hK.2.1
    refine ⟨fun i hi => ?_, fun i hi => ?_, ?_, ?_⟩
    · rw [ni (110 + 1) i (by decide), ni (110 + 2) i (by decide), ni (110 + 3) i (by decide), ni (93 + 1) i (by decide), ni (93 + 2) i (by decide), ni (93 + 3) i (by decide)]
      exact h1 i hi
    · rw [ni (110 + 4) i (by decide), ni (110 + 5) i (by decide), ni (93 + 4) i (by decide), ni (93 + 5) i (by decide)]
      exact h2 i hi
    · rw [ni 110 3 (by decide), ni 93 3 (by decide)]
      exact h3
    · rw [ni 110 6 (by decide), ni 93 6 (by decide)]
      exact h4
  have hM2 : aMemK (s, gUp γ 1023 1 3) N := kn_mem3 hM hT2 hp2 ⟨⟨fun q => absurd (show (γ 1023 0).toInt = 0 from q) (by omega), fun q => ⟨ka, kc, kr⟩, fun q => absurd (show (γ 1023 0).toInt = 2 from q) (by omega)⟩, kb⟩
  refine ⟨aFr_wk (fun g i q => memP_k (by decide) q) hf, (gUp γ 1023 1 3), (gFr_up rfl gFr.rf), _, List.Mem.head _, σ, aExt.rf, ?_⟩
  exact mkHoldK (by decide) s0 ⟨b00 s0, True.intro⟩ True.intro ⟨hF1_gh (by decide) (by decide) (by show (3 : Int) = σ 0 + 3; omega), True.intro⟩ True.intro hM2
theorem cl_hu2 {s : List Int32} {M : Mem} {d : Nat} : ∀ (m : Nat) {N : Mem} {L : MLoc} {k : Int32}, aTp s N → (∀ c i, c ≠ 197 → mSlot N c i = mSlot M c i) → (∀ i, i < k.toInt.toNat → iv N 197 i = iv M 238 i) → aFr [(197, 0)] M N → mLd L 0 = some (.ref 238) → mLd L 1 = some (.ref 197) → mLd L 2 = some (.int 60) → mLd L 3 = some (.int k) → 0 ≤ k.toInt → k.toInt.toNat + m = 60 → Ok d 271 2 L [] N (fun r N' => r = none ∧ aTp s N' ∧ (∀ c i, c ≠ 197 → mSlot N' c i = mSlot M c i) ∧ (∀ i, i < 60 → iv N' 197 i = iv M 238 i) ∧ aFr [(197, 0)] M N') := by
  intro m
  induction m with
  | zero =>
    intro N L k hT hp hv hf l0 l1 l2 l3 k0 km
    have rA := fun j (hj : j < 60) => iv_ty hT (c := 238) (i := j) (by decide) (by decide) (by show _ < 60; omega) (lo := 0) (hi' := 999) (gs := []) rfl
    refine kIload (mi := 271) (pc := 2) (len := 1) (i := 3) rfl l3 ?_
    refine kIload (mi := 271) (pc := 3) (len := 1) (i := 2) rfl l2 ?_
    rcases Bool.eq_false_or_eq_true (mCond .ge k (60 : Int32)) with hc1 | hc1
    · have c1 := hc1
      replace c1 : ¬ k.toInt < 60 := mC_ge.1 c1
      refine kIcT (mi := 271) (pc := 4) (len := 3) (t := 19) rfl rfl hc1 ?_
      refine kRetV (mi := 271) (pc := 19) (len := 1) rfl rfl ?_
      rw [show k.toInt.toNat = 60 by omega] at hv
      exact ⟨rfl, hT, hp, hv, hf⟩
    · have c1 := hc1
      replace c1 : k.toInt < 60 := mC_ge.2 c1
      refine kIcF (mi := 271) (pc := 4) (len := 3) (t := 19) rfl rfl hc1 ?_
      exfalso
      omega
  | succ m ih =>
    intro N L k hT hp hv hf l0 l1 l2 l3 k0 km
    have rA := fun j (hj : j < 60) => iv_ty hT (c := 238) (i := j) (by decide) (by decide) (by show _ < 60; omega) (lo := 0) (hi' := 999) (gs := []) rfl
    have ek : k.toInt < 60 → (k + 1).toInt = k.toInt + 1 := fun _ => i32_inc k0 (by omega)
    have en : k.toInt < 60 → (k + 1).toInt.toNat = k.toInt.toNat + 1 := fun q => by rw [ek q]; omega
    refine kIload (mi := 271) (pc := 2) (len := 1) (i := 3) rfl l3 ?_
    refine kIload (mi := 271) (pc := 3) (len := 1) (i := 2) rfl l2 ?_
    rcases Bool.eq_false_or_eq_true (mCond .ge k (60 : Int32)) with hc201 | hc201
    · have c201 := hc201
      replace c201 : ¬ k.toInt < 60 := mC_ge.1 c201
      refine kIcT (mi := 271) (pc := 4) (len := 3) (t := 19) rfl rfl hc201 ?_
      exfalso
      omega
    · have c201 := hc201
      replace c201 : k.toInt < 60 := mC_ge.2 c201
      refine kIcF (mi := 271) (pc := 4) (len := 3) (t := 19) rfl rfl hc201 ?_
      refine kAload (mi := 271) (pc := 7) (len := 1) (i := 1) rfl l1 ?_
      refine kIload (mi := 271) (pc := 8) (len := 1) (i := 3) rfl l3 ?_
      refine kAload (mi := 271) (pc := 9) (len := 1) (i := 0) rfl l0 ?_
      refine kIload (mi := 271) (pc := 10) (len := 1) (i := 3) rfl l3 ?_
      refine kIald (mi := 271) (pc := 11) (len := 1) (n := 60) rfl (hT.hd (c := 238) (by decide) (by decide)) (by show (0 : Int) ≤ k.toInt; omega) (by show k.toInt < 60; omega) ((Sh.of hT).slI (c := 238) (i := k.toInt.toNat) (by decide) (by decide) (by show _ < 60; omega) rfl) ?_
      have rv := rA k.toInt.toNat (by omega)
      obtain ⟨N202, eN202⟩ : ∃ X_, X_ = mPut N 197 k.toInt.toNat (.int (iv N 238 k.toInt.toNat)) := ⟨_, rfl⟩
      have hT203 : aTp s N202 := by rw [eN202]; exact hT.put (a := 197) (i := k.toInt.toNat) (v := .int (iv N 238 k.toInt.toNat)) (by decide) (by decide) (show aTy (tTy (tGrp 197) _) _ from ⟨(iv N 238 k.toInt.toNat), rfl, by show (0 : Int) ≤ _; omega, by show _ ≤ (999 : Int); omega⟩)
      refine kIast (mi := 271) (pc := 12) (len := 1) (n := 60) rfl (hT.hd (c := 197) (by decide) (by decide)) (by decide) (by show (0 : Int) ≤ k.toInt; omega) (by show k.toInt < 60; omega) ?_
      refine Ok_meq eN202 ?_
      have hSh_N202 := Sh.of hT203
      refine kIinc (mi := 271) (pc := 13) (len := 3) (i := 3) (n := 1) rfl l3 (by decide) ?_
      refine kGoto (mi := 271) (pc := 16) (len := 3) (t := 2) rfl rfl ?_
      refine ih (k := k + 1) hT203 (fun c i hc => by rw [eN202, mSlot_put_ne (Or.inl hc)]; exact hp c i hc) (fun i hi => ?_) (hf.tr (by rw [eN202]; exact aFr_put rfl)) (mLd_st1_ref (by decide) l0) (mLd_st1_ref (by decide) l1) (mLd_st1_int (by decide) l2) mLd_st1_i (by omega) (by omega)
      rw [en (by omega)] at hi
      rw [eN202, iv_put_if (Sh.of hT) (by decide) (by decide) (by show k.toInt.toNat < 60; omega)]
      by_cases ci : i = k.toInt.toNat
      · rw [if_pos ci, ci]
        unfold iv
        rw [hp 238 _ (by decide)]
      · rw [if_neg ci]
        exact hv i (by omega)
theorem cs_hu2 {s : List Int32} : cSoundK s cm_hu2 := by
  intro γ d σ L M hd hA
  have h := aHoldK_0 hA
  have l0 := eR h (i := 0) (g := 238) (c := 0) rfl rfl
  have l1 := eR h (i := 1) (g := 197) (c := 0) rfl rfl
  obtain ⟨l2, hl2, el2⟩ := eI h (i := 2) (sy := 0) (c := 60) rfl
  have q0 : (γ 1023 0).toInt = σ 0 + 2 := eG h (g := 1023) (i := 0) (sy := 0) (c := 2) (by decide) (List.Mem.head _)
  have q1 : (γ 1023 1).toInt = σ 0 + 2 := eG h (g := 1023) (i := 1) (sy := 0) (c := 2) (by decide) (List.Mem.tail _ (List.Mem.head _))
  have s0 := h.1.2.1.1
  have e2 : l2 = 60 := Int32.toInt_inj.mp (by rw [el2, s0]; rfl)
  subst e2
  have hM := hA.2.2.2
  have hT := aTp_of (aMem_0 (aMemK_to9 hM))
  have hx := aMemK_x10 hM
  have hK := (hx.2.2.2.2.2.1).2.2 (show (γ 1023 0).toInt = 2 by omega)
  refine kIconst (mi := 271) (pc := 0) (len := 1) (v := 0) rfl ?_
  refine kIstore (mi := 271) (pc := 1) (len := 1) (i := 3) rfl (by decide) ?_
  refine (cl_hu2 (M := M) 60 (k := 0) hT (fun _ _ _ => rfl) (fun i hi => absurd hi (Nat.not_lt_zero i)) aFr.rf (mLd_st1_ref (by decide) l0) (mLd_st1_ref (by decide) l1) (mLd_st1_int (by decide) hl2) mLd_st1_i (Int.le_refl 0) rfl).mono ?_
  intro r N hr
  obtain ⟨er, hT2, hp, hv, hf⟩ := hr
  subst er
  have ni : ∀ c i, c ≠ 197 → iv N c i = iv M c i := fun c i hc => by unfold iv; rw [hp c i hc]
  have hp2 : ∀ c i, ¬ qKn c i → mSlot N c i = mSlot M c i := fun c i k => hp c i (fun e => k (by unfold qKn qA; omega))
  have kb : xKb γ N := xKb_same (Int.le_refl _) (fun c i q => ni c i (by unfold qO at q; omega)) (fun d h40 _ => ⟨fun p hp => ni _ _ (by omega), ni _ _ (by omega), ni _ _ (by omega), ni _ _ (by omega)⟩) hx.2.2.2.2.2.2
  have kr : kR N 195 236 (3 : Int) := by
    intro j hj h5 i hi
    by_cases c : j = 2
    · subst c
      exact (hv i hi).trans (ni 238 i (by decide)).symm
    · rw [ni (195 + j) i (by omega), ni (236 + j) i (by omega)]
      exact hK.2.2 j (by rw [q1]; omega) h5 i hi
  have ka : kHW N 110 236 := by
    obtain ⟨h1, π, h2, h3⟩ := hK.1
    refine ⟨fun k hk => ?_, π, ?_, fun k hk => ?_⟩
    · rw [ni 110 3 (by decide)] at hk
      rw [ni (110 + 1) k (by decide), ni (110 + 2) k (by decide), ni (110 + 3) k (by decide), ni 236 k (by decide), ni (236 + 1) k (by decide), ni (236 + 2) k (by decide)]
      exact h1 k hk
    · rw [ni 110 6 (by decide)]
      refine knP_congr (fun k _ => ?_) h2
      rw [ni (236 + 3) k (by decide)]
    · rw [ni 110 6 (by decide)] at hk
      rw [ni (110 + 4) k (by decide), ni (110 + 5) k (by decide), ni (236 + 3) (π k) (by decide), ni (236 + 4) (π k) (by decide)]
      exact h3 k hk
  have kc : kC N 93 110 := by
    obtain ⟨h1, h2, h3, h4⟩ := hK.2.1
    refine ⟨fun i hi => ?_, fun i hi => ?_, ?_, ?_⟩
    · rw [ni (93 + 1) i (by decide), ni (93 + 2) i (by decide), ni (93 + 3) i (by decide), ni (110 + 1) i (by decide), ni (110 + 2) i (by decide), ni (110 + 3) i (by decide)]
      exact h1 i hi
    · rw [ni (93 + 4) i (by decide), ni (93 + 5) i (by decide), ni (110 + 4) i (by decide), ni (110 + 5) i (by decide)]
      exact h2 i hi
    · rw [ni 93 3 (by decide), ni 110 3 (by decide)]
      exact h3
    · rw [ni 93 6 (by decide), ni 110 6 (by decide)]
      exact h4
  have hM2 : aMemK (s, gUp γ 1023 1 3) N := kn_mem3 hM hT2 hp2 ⟨⟨fun q => absurd (show (γ 1023 0).toInt = 0 from q) (by omega), fun q => absurd (show (γ 1023 0).toInt = 1 from q) (by omega), fun q => ⟨ka, kc, kr⟩⟩, kb⟩
  refine ⟨aFr_wk (fun g i q => memP_k (by decide) q) hf, (gUp γ 1023 1 3), (gFr_up rfl gFr.rf), _, List.Mem.head _, σ, aExt.rf, ?_⟩
  exact mkHoldK (by decide) s0 ⟨b00 s0, True.intro⟩ True.intro ⟨hF1_gh (by decide) (by decide) (by show (3 : Int) = σ 0 + 3; omega), True.intro⟩ True.intro hM2
theorem cl_hk3 {s : List Int32} {M : Mem} {d : Nat} : ∀ (m : Nat) {N : Mem} {L : MLoc} {k : Int32}, aTp s N → (∀ c i, c ≠ 239 → mSlot N c i = mSlot M c i) → (∀ i, i < k.toInt.toNat → iv N 239 i = iv M 198 i) → aFr [(239, 0)] M N → mLd L 0 = some (.ref 198) → mLd L 1 = some (.ref 239) → mLd L 2 = some (.int 20) → mLd L 3 = some (.int k) → 0 ≤ k.toInt → k.toInt.toNat + m = 20 → Ok d 271 2 L [] N (fun r N' => r = none ∧ aTp s N' ∧ (∀ c i, c ≠ 239 → mSlot N' c i = mSlot M c i) ∧ (∀ i, i < 20 → iv N' 239 i = iv M 198 i) ∧ aFr [(239, 0)] M N') := by
  intro m
  induction m with
  | zero =>
    intro N L k hT hp hv hf l0 l1 l2 l3 k0 km
    have rA := fun j (hj : j < 20) => iv_ty hT (c := 198) (i := j) (by decide) (by decide) (by show _ < 20; omega) (lo := 0) (hi' := 999) (gs := []) rfl
    refine kIload (mi := 271) (pc := 2) (len := 1) (i := 3) rfl l3 ?_
    refine kIload (mi := 271) (pc := 3) (len := 1) (i := 2) rfl l2 ?_
    rcases Bool.eq_false_or_eq_true (mCond .ge k (20 : Int32)) with hc1 | hc1
    · have c1 := hc1
      replace c1 : ¬ k.toInt < 20 := mC_ge.1 c1
      refine kIcT (mi := 271) (pc := 4) (len := 3) (t := 19) rfl rfl hc1 ?_
      refine kRetV (mi := 271) (pc := 19) (len := 1) rfl rfl ?_
      rw [show k.toInt.toNat = 20 by omega] at hv
      exact ⟨rfl, hT, hp, hv, hf⟩
    · have c1 := hc1
      replace c1 : k.toInt < 20 := mC_ge.2 c1
      refine kIcF (mi := 271) (pc := 4) (len := 3) (t := 19) rfl rfl hc1 ?_
      exfalso
      omega
  | succ m ih =>
    intro N L k hT hp hv hf l0 l1 l2 l3 k0 km
    have rA := fun j (hj : j < 20) => iv_ty hT (c := 198) (i := j) (by decide) (by decide) (by show _ < 20; omega) (lo := 0) (hi' := 999) (gs := []) rfl
    have ek : k.toInt < 20 → (k + 1).toInt = k.toInt + 1 := fun _ => i32_inc k0 (by omega)
    have en : k.toInt < 20 → (k + 1).toInt.toNat = k.toInt.toNat + 1 := fun q => by rw [ek q]; omega
    refine kIload (mi := 271) (pc := 2) (len := 1) (i := 3) rfl l3 ?_
    refine kIload (mi := 271) (pc := 3) (len := 1) (i := 2) rfl l2 ?_
    rcases Bool.eq_false_or_eq_true (mCond .ge k (20 : Int32)) with hc201 | hc201
    · have c201 := hc201
      replace c201 : ¬ k.toInt < 20 := mC_ge.1 c201
      refine kIcT (mi := 271) (pc := 4) (len := 3) (t := 19) rfl rfl hc201 ?_
      exfalso
      omega
    · have c201 := hc201
      replace c201 : k.toInt < 20 := mC_ge.2 c201
      refine kIcF (mi := 271) (pc := 4) (len := 3) (t := 19) rfl rfl hc201 ?_
      refine kAload (mi := 271) (pc := 7) (len := 1) (i := 1) rfl l1 ?_
      refine kIload (mi := 271) (pc := 8) (len := 1) (i := 3) rfl l3 ?_
      refine kAload (mi := 271) (pc := 9) (len := 1) (i := 0) rfl l0 ?_
      refine kIload (mi := 271) (pc := 10) (len := 1) (i := 3) rfl l3 ?_
      refine kIald (mi := 271) (pc := 11) (len := 1) (n := 20) rfl (hT.hd (c := 198) (by decide) (by decide)) (by show (0 : Int) ≤ k.toInt; omega) (by show k.toInt < 20; omega) ((Sh.of hT).slI (c := 198) (i := k.toInt.toNat) (by decide) (by decide) (by show _ < 20; omega) rfl) ?_
      have rv := rA k.toInt.toNat (by omega)
      obtain ⟨N202, eN202⟩ : ∃ X_, X_ = mPut N 239 k.toInt.toNat (.int (iv N 198 k.toInt.toNat)) := ⟨_, rfl⟩
      have hT203 : aTp s N202 := by rw [eN202]; exact hT.put (a := 239) (i := k.toInt.toNat) (v := .int (iv N 198 k.toInt.toNat)) (by decide) (by decide) (show aTy (tTy (tGrp 239) _) _ from ⟨(iv N 198 k.toInt.toNat), rfl, by show (0 : Int) ≤ _; omega, by show _ ≤ (999 : Int); omega⟩)
      refine kIast (mi := 271) (pc := 12) (len := 1) (n := 20) rfl (hT.hd (c := 239) (by decide) (by decide)) (by decide) (by show (0 : Int) ≤ k.toInt; omega) (by show k.toInt < 20; omega) ?_
      refine Ok_meq eN202 ?_
      have hSh_N202 := Sh.of hT203
      refine kIinc (mi := 271) (pc := 13) (len := 3) (i := 3) (n := 1) rfl l3 (by decide) ?_
      refine kGoto (mi := 271) (pc := 16) (len := 3) (t := 2) rfl rfl ?_
      refine ih (k := k + 1) hT203 (fun c i hc => by rw [eN202, mSlot_put_ne (Or.inl hc)]; exact hp c i hc) (fun i hi => ?_) (hf.tr (by rw [eN202]; exact aFr_put rfl)) (mLd_st1_ref (by decide) l0) (mLd_st1_ref (by decide) l1) (mLd_st1_int (by decide) l2) mLd_st1_i (by omega) (by omega)
      rw [en (by omega)] at hi
      rw [eN202, iv_put_if (Sh.of hT) (by decide) (by decide) (by show k.toInt.toNat < 20; omega)]
      by_cases ci : i = k.toInt.toNat
      · rw [if_pos ci, ci]
        unfold iv
        rw [hp 198 _ (by decide)]
      · rw [if_neg ci]
        exact hv i (by omega)
theorem cs_hk3 {s : List Int32} : cSoundK s cm_hk3 := by
  intro γ d σ L M hd hA
  have h := aHoldK_0 hA
  have l0 := eR h (i := 0) (g := 198) (c := 0) rfl rfl
  have l1 := eR h (i := 1) (g := 239) (c := 0) rfl rfl
  obtain ⟨l2, hl2, el2⟩ := eI h (i := 2) (sy := 0) (c := 20) rfl
  have q0 : (γ 1023 0).toInt = σ 0 + 1 := eG h (g := 1023) (i := 0) (sy := 0) (c := 1) (by decide) (List.Mem.head _)
  have q1 : (γ 1023 1).toInt = σ 0 + 3 := eG h (g := 1023) (i := 1) (sy := 0) (c := 3) (by decide) (List.Mem.tail _ (List.Mem.head _))
  have s0 := h.1.2.1.1
  have e2 : l2 = 20 := Int32.toInt_inj.mp (by rw [el2, s0]; rfl)
  subst e2
  have hM := hA.2.2.2
  have hT := aTp_of (aMem_0 (aMemK_to9 hM))
  have hx := aMemK_x10 hM
  have hK := (hx.2.2.2.2.2.1).2.1 (show (γ 1023 0).toInt = 1 by omega)
  refine kIconst (mi := 271) (pc := 0) (len := 1) (v := 0) rfl ?_
  refine kIstore (mi := 271) (pc := 1) (len := 1) (i := 3) rfl (by decide) ?_
  refine (cl_hk3 (M := M) 20 (k := 0) hT (fun _ _ _ => rfl) (fun i hi => absurd hi (Nat.not_lt_zero i)) aFr.rf (mLd_st1_ref (by decide) l0) (mLd_st1_ref (by decide) l1) (mLd_st1_int (by decide) hl2) mLd_st1_i (Int.le_refl 0) rfl).mono ?_
  intro r N hr
  obtain ⟨er, hT2, hp, hv, hf⟩ := hr
  subst er
  have ni : ∀ c i, c ≠ 239 → iv N c i = iv M c i := fun c i hc => by unfold iv; rw [hp c i hc]
  have hp2 : ∀ c i, ¬ qKn c i → mSlot N c i = mSlot M c i := fun c i k => hp c i (fun e => k (by unfold qKn qA; omega))
  have kb : xKb γ N := xKb_same (Int.le_refl _) (fun c i q => ni c i (by unfold qO at q; omega)) (fun d h40 _ => ⟨fun p hp => ni _ _ (by omega), ni _ _ (by omega), ni _ _ (by omega), ni _ _ (by omega)⟩) hx.2.2.2.2.2.2
  have kr : kR N 236 195 (4 : Int) := by
    intro j hj h5 i hi
    by_cases c : j = 3
    · subst c
      exact (hv i hi).trans (ni 198 i (by decide)).symm
    · rw [ni (236 + j) i (by omega), ni (195 + j) i (by omega)]
      exact hK.2.2 j (by rw [q1]; omega) h5 i hi
  have ka : kHW N 93 195 := by
    obtain ⟨h1, π, h2, h3⟩ := hK.1
    refine ⟨fun k hk => ?_, π, ?_, fun k hk => ?_⟩
    · rw [ni 93 3 (by decide)] at hk
      rw [ni (93 + 1) k (by decide), ni (93 + 2) k (by decide), ni (93 + 3) k (by decide), ni 195 k (by decide), ni (195 + 1) k (by decide), ni (195 + 2) k (by decide)]
      exact h1 k hk
    · rw [ni 93 6 (by decide)]
      refine knP_congr (fun k _ => ?_) h2
      rw [ni (195 + 3) k (by decide)]
    · rw [ni 93 6 (by decide)] at hk
      rw [ni (93 + 4) k (by decide), ni (93 + 5) k (by decide), ni (195 + 3) (π k) (by decide), ni (195 + 4) (π k) (by decide)]
      exact h3 k hk
  have kc : kC N 110 93 := by
    obtain ⟨h1, h2, h3, h4⟩ := hK.2.1
    refine ⟨fun i hi => ?_, fun i hi => ?_, ?_, ?_⟩
    · rw [ni (110 + 1) i (by decide), ni (110 + 2) i (by decide), ni (110 + 3) i (by decide), ni (93 + 1) i (by decide), ni (93 + 2) i (by decide), ni (93 + 3) i (by decide)]
      exact h1 i hi
    · rw [ni (110 + 4) i (by decide), ni (110 + 5) i (by decide), ni (93 + 4) i (by decide), ni (93 + 5) i (by decide)]
      exact h2 i hi
    · rw [ni 110 3 (by decide), ni 93 3 (by decide)]
      exact h3
    · rw [ni 110 6 (by decide), ni 93 6 (by decide)]
      exact h4
  have hM2 : aMemK (s, gUp γ 1023 1 4) N := kn_mem3 hM hT2 hp2 ⟨⟨fun q => absurd (show (γ 1023 0).toInt = 0 from q) (by omega), fun q => ⟨ka, kc, kr⟩, fun q => absurd (show (γ 1023 0).toInt = 2 from q) (by omega)⟩, kb⟩
  refine ⟨aFr_wk (fun g i q => memP_k (by decide) q) hf, (gUp γ 1023 1 4), (gFr_up rfl gFr.rf), _, List.Mem.head _, σ, aExt.rf, ?_⟩
  exact mkHoldK (by decide) s0 ⟨b00 s0, True.intro⟩ True.intro ⟨hF1_gh (by decide) (by decide) (by show (4 : Int) = σ 0 + 4; omega), True.intro⟩ True.intro hM2
theorem cl_hu3 {s : List Int32} {M : Mem} {d : Nat} : ∀ (m : Nat) {N : Mem} {L : MLoc} {k : Int32}, aTp s N → (∀ c i, c ≠ 198 → mSlot N c i = mSlot M c i) → (∀ i, i < k.toInt.toNat → iv N 198 i = iv M 239 i) → aFr [(198, 0)] M N → mLd L 0 = some (.ref 239) → mLd L 1 = some (.ref 198) → mLd L 2 = some (.int 20) → mLd L 3 = some (.int k) → 0 ≤ k.toInt → k.toInt.toNat + m = 20 → Ok d 271 2 L [] N (fun r N' => r = none ∧ aTp s N' ∧ (∀ c i, c ≠ 198 → mSlot N' c i = mSlot M c i) ∧ (∀ i, i < 20 → iv N' 198 i = iv M 239 i) ∧ aFr [(198, 0)] M N') := by
  intro m
  induction m with
  | zero =>
    intro N L k hT hp hv hf l0 l1 l2 l3 k0 km
    have rA := fun j (hj : j < 20) => iv_ty hT (c := 239) (i := j) (by decide) (by decide) (by show _ < 20; omega) (lo := 0) (hi' := 999) (gs := []) rfl
    refine kIload (mi := 271) (pc := 2) (len := 1) (i := 3) rfl l3 ?_
    refine kIload (mi := 271) (pc := 3) (len := 1) (i := 2) rfl l2 ?_
    rcases Bool.eq_false_or_eq_true (mCond .ge k (20 : Int32)) with hc1 | hc1
    · have c1 := hc1
      replace c1 : ¬ k.toInt < 20 := mC_ge.1 c1
      refine kIcT (mi := 271) (pc := 4) (len := 3) (t := 19) rfl rfl hc1 ?_
      refine kRetV (mi := 271) (pc := 19) (len := 1) rfl rfl ?_
      rw [show k.toInt.toNat = 20 by omega] at hv
      exact ⟨rfl, hT, hp, hv, hf⟩
    · have c1 := hc1
      replace c1 : k.toInt < 20 := mC_ge.2 c1
      refine kIcF (mi := 271) (pc := 4) (len := 3) (t := 19) rfl rfl hc1 ?_
      exfalso
      omega
  | succ m ih =>
    intro N L k hT hp hv hf l0 l1 l2 l3 k0 km
    have rA := fun j (hj : j < 20) => iv_ty hT (c := 239) (i := j) (by decide) (by decide) (by show _ < 20; omega) (lo := 0) (hi' := 999) (gs := []) rfl
    have ek : k.toInt < 20 → (k + 1).toInt = k.toInt + 1 := fun _ => i32_inc k0 (by omega)
    have en : k.toInt < 20 → (k + 1).toInt.toNat = k.toInt.toNat + 1 := fun q => by rw [ek q]; omega
    refine kIload (mi := 271) (pc := 2) (len := 1) (i := 3) rfl l3 ?_
    refine kIload (mi := 271) (pc := 3) (len := 1) (i := 2) rfl l2 ?_
    rcases Bool.eq_false_or_eq_true (mCond .ge k (20 : Int32)) with hc201 | hc201
    · have c201 := hc201
      replace c201 : ¬ k.toInt < 20 := mC_ge.1 c201
      refine kIcT (mi := 271) (pc := 4) (len := 3) (t := 19) rfl rfl hc201 ?_
      exfalso
      omega
    · have c201 := hc201
      replace c201 : k.toInt < 20 := mC_ge.2 c201
      refine kIcF (mi := 271) (pc := 4) (len := 3) (t := 19) rfl rfl hc201 ?_
      refine kAload (mi := 271) (pc := 7) (len := 1) (i := 1) rfl l1 ?_
      refine kIload (mi := 271) (pc := 8) (len := 1) (i := 3) rfl l3 ?_
      refine kAload (mi := 271) (pc := 9) (len := 1) (i := 0) rfl l0 ?_
      refine kIload (mi := 271) (pc := 10) (len := 1) (i := 3) rfl l3 ?_
      refine kIald (mi := 271) (pc := 11) (len := 1) (n := 20) rfl (hT.hd (c := 239) (by decide) (by decide)) (by show (0 : Int) ≤ k.toInt; omega) (by show k.toInt < 20; omega) ((Sh.of hT).slI (c := 239) (i := k.toInt.toNat) (by decide) (by decide) (by show _ < 20; omega) rfl) ?_
      have rv := rA k.toInt.toNat (by omega)
      obtain ⟨N202, eN202⟩ : ∃ X_, X_ = mPut N 198 k.toInt.toNat (.int (iv N 239 k.toInt.toNat)) := ⟨_, rfl⟩
      have hT203 : aTp s N202 := by rw [eN202]; exact hT.put (a := 198) (i := k.toInt.toNat) (v := .int (iv N 239 k.toInt.toNat)) (by decide) (by decide) (show aTy (tTy (tGrp 198) _) _ from ⟨(iv N 239 k.toInt.toNat), rfl, by show (0 : Int) ≤ _; omega, by show _ ≤ (999 : Int); omega⟩)
      refine kIast (mi := 271) (pc := 12) (len := 1) (n := 20) rfl (hT.hd (c := 198) (by decide) (by decide)) (by decide) (by show (0 : Int) ≤ k.toInt; omega) (by show k.toInt < 20; omega) ?_
      refine Ok_meq eN202 ?_
      have hSh_N202 := Sh.of hT203
      refine kIinc (mi := 271) (pc := 13) (len := 3) (i := 3) (n := 1) rfl l3 (by decide) ?_
      refine kGoto (mi := 271) (pc := 16) (len := 3) (t := 2) rfl rfl ?_
      refine ih (k := k + 1) hT203 (fun c i hc => by rw [eN202, mSlot_put_ne (Or.inl hc)]; exact hp c i hc) (fun i hi => ?_) (hf.tr (by rw [eN202]; exact aFr_put rfl)) (mLd_st1_ref (by decide) l0) (mLd_st1_ref (by decide) l1) (mLd_st1_int (by decide) l2) mLd_st1_i (by omega) (by omega)
      rw [en (by omega)] at hi
      rw [eN202, iv_put_if (Sh.of hT) (by decide) (by decide) (by show k.toInt.toNat < 20; omega)]
      by_cases ci : i = k.toInt.toNat
      · rw [if_pos ci, ci]
        unfold iv
        rw [hp 239 _ (by decide)]
      · rw [if_neg ci]
        exact hv i (by omega)
theorem cs_hu3 {s : List Int32} : cSoundK s cm_hu3 := by
  intro γ d σ L M hd hA
  have h := aHoldK_0 hA
  have l0 := eR h (i := 0) (g := 239) (c := 0) rfl rfl
  have l1 := eR h (i := 1) (g := 198) (c := 0) rfl rfl
  obtain ⟨l2, hl2, el2⟩ := eI h (i := 2) (sy := 0) (c := 20) rfl
  have q0 : (γ 1023 0).toInt = σ 0 + 2 := eG h (g := 1023) (i := 0) (sy := 0) (c := 2) (by decide) (List.Mem.head _)
  have q1 : (γ 1023 1).toInt = σ 0 + 3 := eG h (g := 1023) (i := 1) (sy := 0) (c := 3) (by decide) (List.Mem.tail _ (List.Mem.head _))
  have s0 := h.1.2.1.1
  have e2 : l2 = 20 := Int32.toInt_inj.mp (by rw [el2, s0]; rfl)
  subst e2
  have hM := hA.2.2.2
  have hT := aTp_of (aMem_0 (aMemK_to9 hM))
  have hx := aMemK_x10 hM
  have hK := (hx.2.2.2.2.2.1).2.2 (show (γ 1023 0).toInt = 2 by omega)
  refine kIconst (mi := 271) (pc := 0) (len := 1) (v := 0) rfl ?_
  refine kIstore (mi := 271) (pc := 1) (len := 1) (i := 3) rfl (by decide) ?_
  refine (cl_hu3 (M := M) 20 (k := 0) hT (fun _ _ _ => rfl) (fun i hi => absurd hi (Nat.not_lt_zero i)) aFr.rf (mLd_st1_ref (by decide) l0) (mLd_st1_ref (by decide) l1) (mLd_st1_int (by decide) hl2) mLd_st1_i (Int.le_refl 0) rfl).mono ?_
  intro r N hr
  obtain ⟨er, hT2, hp, hv, hf⟩ := hr
  subst er
  have ni : ∀ c i, c ≠ 198 → iv N c i = iv M c i := fun c i hc => by unfold iv; rw [hp c i hc]
  have hp2 : ∀ c i, ¬ qKn c i → mSlot N c i = mSlot M c i := fun c i k => hp c i (fun e => k (by unfold qKn qA; omega))
  have kb : xKb γ N := xKb_same (Int.le_refl _) (fun c i q => ni c i (by unfold qO at q; omega)) (fun d h40 _ => ⟨fun p hp => ni _ _ (by omega), ni _ _ (by omega), ni _ _ (by omega), ni _ _ (by omega)⟩) hx.2.2.2.2.2.2
  have kr : kR N 195 236 (4 : Int) := by
    intro j hj h5 i hi
    by_cases c : j = 3
    · subst c
      exact (hv i hi).trans (ni 239 i (by decide)).symm
    · rw [ni (195 + j) i (by omega), ni (236 + j) i (by omega)]
      exact hK.2.2 j (by rw [q1]; omega) h5 i hi
  have ka : kHW N 110 236 := by
    obtain ⟨h1, π, h2, h3⟩ := hK.1
    refine ⟨fun k hk => ?_, π, ?_, fun k hk => ?_⟩
    · rw [ni 110 3 (by decide)] at hk
      rw [ni (110 + 1) k (by decide), ni (110 + 2) k (by decide), ni (110 + 3) k (by decide), ni 236 k (by decide), ni (236 + 1) k (by decide), ni (236 + 2) k (by decide)]
      exact h1 k hk
    · rw [ni 110 6 (by decide)]
      refine knP_congr (fun k _ => ?_) h2
      rw [ni (236 + 3) k (by decide)]
    · rw [ni 110 6 (by decide)] at hk
      rw [ni (110 + 4) k (by decide), ni (110 + 5) k (by decide), ni (236 + 3) (π k) (by decide), ni (236 + 4) (π k) (by decide)]
      exact h3 k hk
  have kc : kC N 93 110 := by
    obtain ⟨h1, h2, h3, h4⟩ := hK.2.1
    refine ⟨fun i hi => ?_, fun i hi => ?_, ?_, ?_⟩
    · rw [ni (93 + 1) i (by decide), ni (93 + 2) i (by decide), ni (93 + 3) i (by decide), ni (110 + 1) i (by decide), ni (110 + 2) i (by decide), ni (110 + 3) i (by decide)]
      exact h1 i hi
    · rw [ni (93 + 4) i (by decide), ni (93 + 5) i (by decide), ni (110 + 4) i (by decide), ni (110 + 5) i (by decide)]
      exact h2 i hi
    · rw [ni 93 3 (by decide), ni 110 3 (by decide)]
      exact h3
    · rw [ni 93 6 (by decide), ni 110 6 (by decide)]
      exact h4
  have hM2 : aMemK (s, gUp γ 1023 1 4) N := kn_mem3 hM hT2 hp2 ⟨⟨fun q => absurd (show (γ 1023 0).toInt = 0 from q) (by omega), fun q => absurd (show (γ 1023 0).toInt = 1 from q) (by omega), fun q => ⟨ka, kc, kr⟩⟩, kb⟩
  refine ⟨aFr_wk (fun g i q => memP_k (by decide) q) hf, (gUp γ 1023 1 4), (gFr_up rfl gFr.rf), _, List.Mem.head _, σ, aExt.rf, ?_⟩
  exact mkHoldK (by decide) s0 ⟨b00 s0, True.intro⟩ True.intro ⟨hF1_gh (by decide) (by decide) (by show (4 : Int) = σ 0 + 4; omega), True.intro⟩ True.intro hM2
theorem cl_hk4 {s : List Int32} {M : Mem} {d : Nat} : ∀ (m : Nat) {N : Mem} {L : MLoc} {k : Int32}, aTp s N → (∀ c i, c ≠ 240 → mSlot N c i = mSlot M c i) → (∀ i, i < k.toInt.toNat → iv N 240 i = iv M 199 i) → aFr [(240, 0)] M N → mLd L 0 = some (.ref 199) → mLd L 1 = some (.ref 240) → mLd L 2 = some (.int 20) → mLd L 3 = some (.int k) → 0 ≤ k.toInt → k.toInt.toNat + m = 20 → Ok d 271 2 L [] N (fun r N' => r = none ∧ aTp s N' ∧ (∀ c i, c ≠ 240 → mSlot N' c i = mSlot M c i) ∧ (∀ i, i < 20 → iv N' 240 i = iv M 199 i) ∧ aFr [(240, 0)] M N') := by
  intro m
  induction m with
  | zero =>
    intro N L k hT hp hv hf l0 l1 l2 l3 k0 km
    have rA := fun j (hj : j < 20) => iv_ty hT (c := 199) (i := j) (by decide) (by decide) (by show _ < 20; omega) (lo := 0) (hi' := 1023) (gs := []) rfl
    refine kIload (mi := 271) (pc := 2) (len := 1) (i := 3) rfl l3 ?_
    refine kIload (mi := 271) (pc := 3) (len := 1) (i := 2) rfl l2 ?_
    rcases Bool.eq_false_or_eq_true (mCond .ge k (20 : Int32)) with hc1 | hc1
    · have c1 := hc1
      replace c1 : ¬ k.toInt < 20 := mC_ge.1 c1
      refine kIcT (mi := 271) (pc := 4) (len := 3) (t := 19) rfl rfl hc1 ?_
      refine kRetV (mi := 271) (pc := 19) (len := 1) rfl rfl ?_
      rw [show k.toInt.toNat = 20 by omega] at hv
      exact ⟨rfl, hT, hp, hv, hf⟩
    · have c1 := hc1
      replace c1 : k.toInt < 20 := mC_ge.2 c1
      refine kIcF (mi := 271) (pc := 4) (len := 3) (t := 19) rfl rfl hc1 ?_
      exfalso
      omega
  | succ m ih =>
    intro N L k hT hp hv hf l0 l1 l2 l3 k0 km
    have rA := fun j (hj : j < 20) => iv_ty hT (c := 199) (i := j) (by decide) (by decide) (by show _ < 20; omega) (lo := 0) (hi' := 1023) (gs := []) rfl
    have ek : k.toInt < 20 → (k + 1).toInt = k.toInt + 1 := fun _ => i32_inc k0 (by omega)
    have en : k.toInt < 20 → (k + 1).toInt.toNat = k.toInt.toNat + 1 := fun q => by rw [ek q]; omega
    refine kIload (mi := 271) (pc := 2) (len := 1) (i := 3) rfl l3 ?_
    refine kIload (mi := 271) (pc := 3) (len := 1) (i := 2) rfl l2 ?_
    rcases Bool.eq_false_or_eq_true (mCond .ge k (20 : Int32)) with hc201 | hc201
    · have c201 := hc201
      replace c201 : ¬ k.toInt < 20 := mC_ge.1 c201
      refine kIcT (mi := 271) (pc := 4) (len := 3) (t := 19) rfl rfl hc201 ?_
      exfalso
      omega
    · have c201 := hc201
      replace c201 : k.toInt < 20 := mC_ge.2 c201
      refine kIcF (mi := 271) (pc := 4) (len := 3) (t := 19) rfl rfl hc201 ?_
      refine kAload (mi := 271) (pc := 7) (len := 1) (i := 1) rfl l1 ?_
      refine kIload (mi := 271) (pc := 8) (len := 1) (i := 3) rfl l3 ?_
      refine kAload (mi := 271) (pc := 9) (len := 1) (i := 0) rfl l0 ?_
      refine kIload (mi := 271) (pc := 10) (len := 1) (i := 3) rfl l3 ?_
      refine kIald (mi := 271) (pc := 11) (len := 1) (n := 20) rfl (hT.hd (c := 199) (by decide) (by decide)) (by show (0 : Int) ≤ k.toInt; omega) (by show k.toInt < 20; omega) ((Sh.of hT).slI (c := 199) (i := k.toInt.toNat) (by decide) (by decide) (by show _ < 20; omega) rfl) ?_
      have rv := rA k.toInt.toNat (by omega)
      obtain ⟨N202, eN202⟩ : ∃ X_, X_ = mPut N 240 k.toInt.toNat (.int (iv N 199 k.toInt.toNat)) := ⟨_, rfl⟩
      have hT203 : aTp s N202 := by rw [eN202]; exact hT.put (a := 240) (i := k.toInt.toNat) (v := .int (iv N 199 k.toInt.toNat)) (by decide) (by decide) (show aTy (tTy (tGrp 240) _) _ from ⟨(iv N 199 k.toInt.toNat), rfl, by show (0 : Int) ≤ _; omega, by show _ ≤ (1023 : Int); omega⟩)
      refine kIast (mi := 271) (pc := 12) (len := 1) (n := 20) rfl (hT.hd (c := 240) (by decide) (by decide)) (by decide) (by show (0 : Int) ≤ k.toInt; omega) (by show k.toInt < 20; omega) ?_
      refine Ok_meq eN202 ?_
      have hSh_N202 := Sh.of hT203
      refine kIinc (mi := 271) (pc := 13) (len := 3) (i := 3) (n := 1) rfl l3 (by decide) ?_
      refine kGoto (mi := 271) (pc := 16) (len := 3) (t := 2) rfl rfl ?_
      refine ih (k := k + 1) hT203 (fun c i hc => by rw [eN202, mSlot_put_ne (Or.inl hc)]; exact hp c i hc) (fun i hi => ?_) (hf.tr (by rw [eN202]; exact aFr_put rfl)) (mLd_st1_ref (by decide) l0) (mLd_st1_ref (by decide) l1) (mLd_st1_int (by decide) l2) mLd_st1_i (by omega) (by omega)
      rw [en (by omega)] at hi
      rw [eN202, iv_put_if (Sh.of hT) (by decide) (by decide) (by show k.toInt.toNat < 20; omega)]
      by_cases ci : i = k.toInt.toNat
      · rw [if_pos ci, ci]
        unfold iv
        rw [hp 199 _ (by decide)]
      · rw [if_neg ci]
        exact hv i (by omega)
theorem cs_hk4 {s : List Int32} : cSoundK s cm_hk4 := by
  intro γ d σ L M hd hA
  have h := aHoldK_0 hA
  have l0 := eR h (i := 0) (g := 199) (c := 0) rfl rfl
  have l1 := eR h (i := 1) (g := 240) (c := 0) rfl rfl
  obtain ⟨l2, hl2, el2⟩ := eI h (i := 2) (sy := 0) (c := 20) rfl
  have q0 : (γ 1023 0).toInt = σ 0 + 1 := eG h (g := 1023) (i := 0) (sy := 0) (c := 1) (by decide) (List.Mem.head _)
  have q1 : (γ 1023 1).toInt = σ 0 + 4 := eG h (g := 1023) (i := 1) (sy := 0) (c := 4) (by decide) (List.Mem.tail _ (List.Mem.head _))
  have s0 := h.1.2.1.1
  have e2 : l2 = 20 := Int32.toInt_inj.mp (by rw [el2, s0]; rfl)
  subst e2
  have hM := hA.2.2.2
  have hT := aTp_of (aMem_0 (aMemK_to9 hM))
  have hx := aMemK_x10 hM
  have hK := (hx.2.2.2.2.2.1).2.1 (show (γ 1023 0).toInt = 1 by omega)
  refine kIconst (mi := 271) (pc := 0) (len := 1) (v := 0) rfl ?_
  refine kIstore (mi := 271) (pc := 1) (len := 1) (i := 3) rfl (by decide) ?_
  refine (cl_hk4 (M := M) 20 (k := 0) hT (fun _ _ _ => rfl) (fun i hi => absurd hi (Nat.not_lt_zero i)) aFr.rf (mLd_st1_ref (by decide) l0) (mLd_st1_ref (by decide) l1) (mLd_st1_int (by decide) hl2) mLd_st1_i (Int.le_refl 0) rfl).mono ?_
  intro r N hr
  obtain ⟨er, hT2, hp, hv, hf⟩ := hr
  subst er
  have ni : ∀ c i, c ≠ 240 → iv N c i = iv M c i := fun c i hc => by unfold iv; rw [hp c i hc]
  have hp2 : ∀ c i, ¬ qKn c i → mSlot N c i = mSlot M c i := fun c i k => hp c i (fun e => k (by unfold qKn qA; omega))
  have kb : xKb γ N := xKb_same (Int.le_refl _) (fun c i q => ni c i (by unfold qO at q; omega)) (fun d h40 _ => ⟨fun p hp => ni _ _ (by omega), ni _ _ (by omega), ni _ _ (by omega), ni _ _ (by omega)⟩) hx.2.2.2.2.2.2
  have kr : kR N 236 195 (5 : Int) := by
    intro j hj h5 i hi
    by_cases c : j = 4
    · subst c
      exact (hv i hi).trans (ni 199 i (by decide)).symm
    · rw [ni (236 + j) i (by omega), ni (195 + j) i (by omega)]
      exact hK.2.2 j (by rw [q1]; omega) h5 i hi
  have ka : kHW N 93 195 := by
    obtain ⟨h1, π, h2, h3⟩ := hK.1
    refine ⟨fun k hk => ?_, π, ?_, fun k hk => ?_⟩
    · rw [ni 93 3 (by decide)] at hk
      rw [ni (93 + 1) k (by decide), ni (93 + 2) k (by decide), ni (93 + 3) k (by decide), ni 195 k (by decide), ni (195 + 1) k (by decide), ni (195 + 2) k (by decide)]
      exact h1 k hk
    · rw [ni 93 6 (by decide)]
      refine knP_congr (fun k _ => ?_) h2
      rw [ni (195 + 3) k (by decide)]
    · rw [ni 93 6 (by decide)] at hk
      rw [ni (93 + 4) k (by decide), ni (93 + 5) k (by decide), ni (195 + 3) (π k) (by decide), ni (195 + 4) (π k) (by decide)]
      exact h3 k hk
  have kc : kC N 110 93 := by
    obtain ⟨h1, h2, h3, h4⟩ := hK.2.1
    refine ⟨fun i hi => ?_, fun i hi => ?_, ?_, ?_⟩
    · rw [ni (110 + 1) i (by decide), ni (110 + 2) i (by decide), ni (110 + 3) i (by decide), ni (93 + 1) i (by decide), ni (93 + 2) i (by decide), ni (93 + 3) i (by decide)]
      exact h1 i hi
    · rw [ni (110 + 4) i (by decide), ni (110 + 5) i (by decide), ni (93 + 4) i (by decide), ni (93 + 5) i (by decide)]
      exact h2 i hi
    · rw [ni 110 3 (by decide), ni 93 3 (by decide)]
      exact h3
    · rw [ni 110 6 (by decide), ni 93 6 (by decide)]
      exact h4
  have hM2 : aMemK (s, gUp (gUp γ 1023 0 0) 1023 1 0) N := kn_mem2 hM hT2 hp2 ⟨⟨fun _ => ⟨ka, (kA_of (cnt_rng hT2).1.1 (cnt_rng hT2).1.2 ka kc kr)⟩, fun q => absurd (show (0 : Int) = 1 from q) (by decide), fun q => absurd (show (0 : Int) = 2 from q) (by decide)⟩, kb⟩
  refine ⟨aFr_wk (fun g i q => memP_k (by decide) q) hf, (gUp (gUp γ 1023 0 0) 1023 1 0), (gFr_up rfl (gFr_up rfl gFr.rf)), _, List.Mem.head _, σ, aExt.rf, ?_⟩
  exact mkHoldK (by decide) s0 ⟨b00 s0, True.intro⟩ True.intro ⟨hF1_gh (by decide) (by decide) (by show (0 : Int) = σ 0 + 0; omega), hF1_gh (by decide) (by decide) (by show (0 : Int) = σ 0 + 0; omega), True.intro⟩ True.intro hM2
theorem cl_hu4 {s : List Int32} {M : Mem} {d : Nat} : ∀ (m : Nat) {N : Mem} {L : MLoc} {k : Int32}, aTp s N → (∀ c i, c ≠ 199 → mSlot N c i = mSlot M c i) → (∀ i, i < k.toInt.toNat → iv N 199 i = iv M 240 i) → aFr [(199, 0)] M N → mLd L 0 = some (.ref 240) → mLd L 1 = some (.ref 199) → mLd L 2 = some (.int 20) → mLd L 3 = some (.int k) → 0 ≤ k.toInt → k.toInt.toNat + m = 20 → Ok d 271 2 L [] N (fun r N' => r = none ∧ aTp s N' ∧ (∀ c i, c ≠ 199 → mSlot N' c i = mSlot M c i) ∧ (∀ i, i < 20 → iv N' 199 i = iv M 240 i) ∧ aFr [(199, 0)] M N') := by
  intro m
  induction m with
  | zero =>
    intro N L k hT hp hv hf l0 l1 l2 l3 k0 km
    have rA := fun j (hj : j < 20) => iv_ty hT (c := 240) (i := j) (by decide) (by decide) (by show _ < 20; omega) (lo := 0) (hi' := 1023) (gs := []) rfl
    refine kIload (mi := 271) (pc := 2) (len := 1) (i := 3) rfl l3 ?_
    refine kIload (mi := 271) (pc := 3) (len := 1) (i := 2) rfl l2 ?_
    rcases Bool.eq_false_or_eq_true (mCond .ge k (20 : Int32)) with hc1 | hc1
    · have c1 := hc1
      replace c1 : ¬ k.toInt < 20 := mC_ge.1 c1
      refine kIcT (mi := 271) (pc := 4) (len := 3) (t := 19) rfl rfl hc1 ?_
      refine kRetV (mi := 271) (pc := 19) (len := 1) rfl rfl ?_
      rw [show k.toInt.toNat = 20 by omega] at hv
      exact ⟨rfl, hT, hp, hv, hf⟩
    · have c1 := hc1
      replace c1 : k.toInt < 20 := mC_ge.2 c1
      refine kIcF (mi := 271) (pc := 4) (len := 3) (t := 19) rfl rfl hc1 ?_
      exfalso
      omega
  | succ m ih =>
    intro N L k hT hp hv hf l0 l1 l2 l3 k0 km
    have rA := fun j (hj : j < 20) => iv_ty hT (c := 240) (i := j) (by decide) (by decide) (by show _ < 20; omega) (lo := 0) (hi' := 1023) (gs := []) rfl
    have ek : k.toInt < 20 → (k + 1).toInt = k.toInt + 1 := fun _ => i32_inc k0 (by omega)
    have en : k.toInt < 20 → (k + 1).toInt.toNat = k.toInt.toNat + 1 := fun q => by rw [ek q]; omega
    refine kIload (mi := 271) (pc := 2) (len := 1) (i := 3) rfl l3 ?_
    refine kIload (mi := 271) (pc := 3) (len := 1) (i := 2) rfl l2 ?_
    rcases Bool.eq_false_or_eq_true (mCond .ge k (20 : Int32)) with hc201 | hc201
    · have c201 := hc201
      replace c201 : ¬ k.toInt < 20 := mC_ge.1 c201
      refine kIcT (mi := 271) (pc := 4) (len := 3) (t := 19) rfl rfl hc201 ?_
      exfalso
      omega
    · have c201 := hc201
      replace c201 : k.toInt < 20 := mC_ge.2 c201
      refine kIcF (mi := 271) (pc := 4) (len := 3) (t := 19) rfl rfl hc201 ?_
      refine kAload (mi := 271) (pc := 7) (len := 1) (i := 1) rfl l1 ?_
      refine kIload (mi := 271) (pc := 8) (len := 1) (i := 3) rfl l3 ?_
      refine kAload (mi := 271) (pc := 9) (len := 1) (i := 0) rfl l0 ?_
      refine kIload (mi := 271) (pc := 10) (len := 1) (i := 3) rfl l3 ?_
      refine kIald (mi := 271) (pc := 11) (len := 1) (n := 20) rfl (hT.hd (c := 240) (by decide) (by decide)) (by show (0 : Int) ≤ k.toInt; omega) (by show k.toInt < 20; omega) ((Sh.of hT).slI (c := 240) (i := k.toInt.toNat) (by decide) (by decide) (by show _ < 20; omega) rfl) ?_
      have rv := rA k.toInt.toNat (by omega)
      obtain ⟨N202, eN202⟩ : ∃ X_, X_ = mPut N 199 k.toInt.toNat (.int (iv N 240 k.toInt.toNat)) := ⟨_, rfl⟩
      have hT203 : aTp s N202 := by rw [eN202]; exact hT.put (a := 199) (i := k.toInt.toNat) (v := .int (iv N 240 k.toInt.toNat)) (by decide) (by decide) (show aTy (tTy (tGrp 199) _) _ from ⟨(iv N 240 k.toInt.toNat), rfl, by show (0 : Int) ≤ _; omega, by show _ ≤ (1023 : Int); omega⟩)
      refine kIast (mi := 271) (pc := 12) (len := 1) (n := 20) rfl (hT.hd (c := 199) (by decide) (by decide)) (by decide) (by show (0 : Int) ≤ k.toInt; omega) (by show k.toInt < 20; omega) ?_
      refine Ok_meq eN202 ?_
      have hSh_N202 := Sh.of hT203
      refine kIinc (mi := 271) (pc := 13) (len := 3) (i := 3) (n := 1) rfl l3 (by decide) ?_
      refine kGoto (mi := 271) (pc := 16) (len := 3) (t := 2) rfl rfl ?_
      refine ih (k := k + 1) hT203 (fun c i hc => by rw [eN202, mSlot_put_ne (Or.inl hc)]; exact hp c i hc) (fun i hi => ?_) (hf.tr (by rw [eN202]; exact aFr_put rfl)) (mLd_st1_ref (by decide) l0) (mLd_st1_ref (by decide) l1) (mLd_st1_int (by decide) l2) mLd_st1_i (by omega) (by omega)
      rw [en (by omega)] at hi
      rw [eN202, iv_put_if (Sh.of hT) (by decide) (by decide) (by show k.toInt.toNat < 20; omega)]
      by_cases ci : i = k.toInt.toNat
      · rw [if_pos ci, ci]
        unfold iv
        rw [hp 240 _ (by decide)]
      · rw [if_neg ci]
        exact hv i (by omega)
theorem cs_hu4 {s : List Int32} : cSoundK s cm_hu4 := by
  intro γ d σ L M hd hA
  have h := aHoldK_0 hA
  have l0 := eR h (i := 0) (g := 240) (c := 0) rfl rfl
  have l1 := eR h (i := 1) (g := 199) (c := 0) rfl rfl
  obtain ⟨l2, hl2, el2⟩ := eI h (i := 2) (sy := 0) (c := 20) rfl
  have q0 : (γ 1023 0).toInt = σ 0 + 2 := eG h (g := 1023) (i := 0) (sy := 0) (c := 2) (by decide) (List.Mem.head _)
  have q1 : (γ 1023 1).toInt = σ 0 + 4 := eG h (g := 1023) (i := 1) (sy := 0) (c := 4) (by decide) (List.Mem.tail _ (List.Mem.head _))
  have s0 := h.1.2.1.1
  have e2 : l2 = 20 := Int32.toInt_inj.mp (by rw [el2, s0]; rfl)
  subst e2
  have hM := hA.2.2.2
  have hT := aTp_of (aMem_0 (aMemK_to9 hM))
  have hx := aMemK_x10 hM
  have hK := (hx.2.2.2.2.2.1).2.2 (show (γ 1023 0).toInt = 2 by omega)
  refine kIconst (mi := 271) (pc := 0) (len := 1) (v := 0) rfl ?_
  refine kIstore (mi := 271) (pc := 1) (len := 1) (i := 3) rfl (by decide) ?_
  refine (cl_hu4 (M := M) 20 (k := 0) hT (fun _ _ _ => rfl) (fun i hi => absurd hi (Nat.not_lt_zero i)) aFr.rf (mLd_st1_ref (by decide) l0) (mLd_st1_ref (by decide) l1) (mLd_st1_int (by decide) hl2) mLd_st1_i (Int.le_refl 0) rfl).mono ?_
  intro r N hr
  obtain ⟨er, hT2, hp, hv, hf⟩ := hr
  subst er
  have ni : ∀ c i, c ≠ 199 → iv N c i = iv M c i := fun c i hc => by unfold iv; rw [hp c i hc]
  have hp2 : ∀ c i, ¬ qKn c i → mSlot N c i = mSlot M c i := fun c i k => hp c i (fun e => k (by unfold qKn qA; omega))
  have kb : xKb γ N := xKb_same (Int.le_refl _) (fun c i q => ni c i (by unfold qO at q; omega)) (fun d h40 _ => ⟨fun p hp => ni _ _ (by omega), ni _ _ (by omega), ni _ _ (by omega), ni _ _ (by omega)⟩) hx.2.2.2.2.2.2
  have kr : kR N 195 236 (5 : Int) := by
    intro j hj h5 i hi
    by_cases c : j = 4
    · subst c
      exact (hv i hi).trans (ni 240 i (by decide)).symm
    · rw [ni (195 + j) i (by omega), ni (236 + j) i (by omega)]
      exact hK.2.2 j (by rw [q1]; omega) h5 i hi
  have ka : kHW N 110 236 := by
    obtain ⟨h1, π, h2, h3⟩ := hK.1
    refine ⟨fun k hk => ?_, π, ?_, fun k hk => ?_⟩
    · rw [ni 110 3 (by decide)] at hk
      rw [ni (110 + 1) k (by decide), ni (110 + 2) k (by decide), ni (110 + 3) k (by decide), ni 236 k (by decide), ni (236 + 1) k (by decide), ni (236 + 2) k (by decide)]
      exact h1 k hk
    · rw [ni 110 6 (by decide)]
      refine knP_congr (fun k _ => ?_) h2
      rw [ni (236 + 3) k (by decide)]
    · rw [ni 110 6 (by decide)] at hk
      rw [ni (110 + 4) k (by decide), ni (110 + 5) k (by decide), ni (236 + 3) (π k) (by decide), ni (236 + 4) (π k) (by decide)]
      exact h3 k hk
  have kc : kC N 93 110 := by
    obtain ⟨h1, h2, h3, h4⟩ := hK.2.1
    refine ⟨fun i hi => ?_, fun i hi => ?_, ?_, ?_⟩
    · rw [ni (93 + 1) i (by decide), ni (93 + 2) i (by decide), ni (93 + 3) i (by decide), ni (110 + 1) i (by decide), ni (110 + 2) i (by decide), ni (110 + 3) i (by decide)]
      exact h1 i hi
    · rw [ni (93 + 4) i (by decide), ni (93 + 5) i (by decide), ni (110 + 4) i (by decide), ni (110 + 5) i (by decide)]
      exact h2 i hi
    · rw [ni 93 3 (by decide), ni 110 3 (by decide)]
      exact h3
    · rw [ni 93 6 (by decide), ni 110 6 (by decide)]
      exact h4
  have hM2 : aMemK (s, gUp (gUp γ 1023 0 0) 1023 1 0) N := kn_mem2 hM hT2 hp2 ⟨⟨fun _ => ⟨(kA_of (cnt_rng hT2).2.1 (cnt_rng hT2).2.2 ka kc kr), ka⟩, fun q => absurd (show (0 : Int) = 1 from q) (by decide), fun q => absurd (show (0 : Int) = 2 from q) (by decide)⟩, kb⟩
  refine ⟨aFr_wk (fun g i q => memP_k (by decide) q) hf, (gUp (gUp γ 1023 0 0) 1023 1 0), (gFr_up rfl (gFr_up rfl gFr.rf)), _, List.Mem.head _, σ, aExt.rf, ?_⟩
  exact mkHoldK (by decide) s0 ⟨b00 s0, True.intro⟩ True.intro ⟨hF1_gh (by decide) (by decide) (by show (0 : Int) = σ 0 + 0; omega), hF1_gh (by decide) (by decide) (by show (0 : Int) = σ 0 + 0; omega), True.intro⟩ True.intro hM2
theorem cs_gk {s : List Int32} : cSoundK s cm_gk := by
  intro γ d σ L M hd hA
  have hd : 3 ≤ d := hd
  have h := aHoldK_0 hA
  have l0 := eR h (i := 0) (g := 110) (c := 0) rfl rfl
  have l1 := eR h (i := 1) (g := 93) (c := 0) rfl rfl
  have s0 := h.1.2.1.1
  have b1 := eB h (i := 1) (lo := 0) (hi := 60) rfl
  have b2 := eB h (i := 2) (lo := 0) (hi := 60) rfl
  have b3 := eB h (i := 3) (lo := 0) (hi := 20) rfl
  have b4 := eB h (i := 4) (lo := 0) (hi := 20) rfl
  obtain ⟨f93_3, hf93_3, ef93_3⟩ := eF h (g := 93) (i := 3) (sy := 1) (c := 0) (by decide) (by decide) rfl (List.Mem.head _)
  obtain ⟨f110_3, hf110_3, ef110_3⟩ := eF h (g := 110) (i := 3) (sy := 2) (c := 0) (by decide) (by decide) rfl (List.Mem.tail _ (List.Mem.head _))
  obtain ⟨f93_6, hf93_6, ef93_6⟩ := eF h (g := 93) (i := 6) (sy := 3) (c := 0) (by decide) (by decide) rfl (List.Mem.tail _ (List.Mem.tail _ (List.Mem.head _)))
  obtain ⟨f110_6, hf110_6, ef110_6⟩ := eF h (g := 110) (i := 6) (sy := 4) (c := 0) (by decide) (by decide) rfl (List.Mem.tail _ (List.Mem.tail _ (List.Mem.tail _ (List.Mem.head _))))
  have q23_0 : (γ 1023 0).toInt = σ 0 + 0 := eG h (g := 1023) (i := 0) (sy := 0) (c := 0) (by decide) (List.Mem.tail _ (List.Mem.tail _ (List.Mem.tail _ (List.Mem.tail _ (List.Mem.head _)))))
  have hM := hA.2.2.2
  have hT := aTp_of (aMem_0 (aMemK_to9 hM))
  have hSh := Sh.of hT
  have hx := aMemK_x10 hM
  have hK := (hx.2.2.2.2.2.1).1 (show (γ 1023 0).toInt = 0 by omega)
  refine kAload (mi := 56) (pc := 0) (len := 1) (i := 1) rfl l1 ?_
  refine kGetf (mi := 56) (pc := 1) (len := 3) (j := 300) rfl (hT.hd (c := 93) (by decide) (by decide)) (by decide) (hT.ref (c := 93) (i := 0) (g := 94) (by decide) (by decide) (by decide) (lo := 0) (hi' := 0) rfl rfl) ?_
  refine kIconst (mi := 56) (pc := 4) (len := 1) (v := 0) rfl ?_
  refine kAload (mi := 56) (pc := 5) (len := 1) (i := 0) rfl l0 ?_
  refine kGetf (mi := 56) (pc := 6) (len := 3) (j := 300) rfl (hT.hd (c := 110) (by decide) (by decide)) (by decide) (hT.ref (c := 110) (i := 0) (g := 111) (by decide) (by decide) (by decide) (lo := 0) (hi' := 0) rfl rfl) ?_
  refine kIconst (mi := 56) (pc := 9) (len := 1) (v := 0) rfl ?_
  refine kIconst (mi := 56) (pc := 10) (len := 2) (v := 60) rfl ?_
  refine kCpyC (mod := [(111, 0), (112, 0), (113, 0), (114, 0), (115, 0), (110, 3), (110, 6)]) (a0 := 94) (a1 := 111) (sz := 60) (lo0 := 0) (hi0 := 9) (by omega) hT (by decide) (by decide) (by decide) (by decide) rfl rfl rfl rfl (fun _ => rfl) (fun _ => rfl) rfl rfl (mi := 56) (pc := 12) (len := 3) rfl ?_
  intro N1 hT2 fr3 cv4 nn5
  refine kAload (mi := 56) (pc := 15) (len := 1) (i := 1) rfl l1 ?_
  refine kGetf (mi := 56) (pc := 16) (len := 3) (j := 301) rfl (hT2.hd (c := 93) (by decide) (by decide)) (by decide) (hT2.ref (c := 93) (i := 1) (g := 95) (by decide) (by decide) (by decide) (lo := 0) (hi' := 0) rfl rfl) ?_
  refine kIconst (mi := 56) (pc := 19) (len := 1) (v := 0) rfl ?_
  refine kAload (mi := 56) (pc := 20) (len := 1) (i := 0) rfl l0 ?_
  refine kGetf (mi := 56) (pc := 21) (len := 3) (j := 301) rfl (hT2.hd (c := 110) (by decide) (by decide)) (by decide) (hT2.ref (c := 110) (i := 1) (g := 112) (by decide) (by decide) (by decide) (lo := 0) (hi' := 0) rfl rfl) ?_
  refine kIconst (mi := 56) (pc := 24) (len := 1) (v := 0) rfl ?_
  refine kIconst (mi := 56) (pc := 25) (len := 2) (v := 60) rfl ?_
  refine kCpyC (mod := [(111, 0), (112, 0), (113, 0), (114, 0), (115, 0), (110, 3), (110, 6)]) (a0 := 95) (a1 := 112) (sz := 60) (lo0 := 0) (hi0 := 39) (by omega) hT2 (by decide) (by decide) (by decide) (by decide) rfl rfl rfl rfl (fun _ => rfl) (fun _ => rfl) rfl rfl (mi := 56) (pc := 27) (len := 3) rfl ?_
  intro N6 hT7 fr8 cv9 nn10
  refine kAload (mi := 56) (pc := 30) (len := 1) (i := 1) rfl l1 ?_
  refine kGetf (mi := 56) (pc := 31) (len := 3) (j := 302) rfl (hT7.hd (c := 93) (by decide) (by decide)) (by decide) (hT7.ref (c := 93) (i := 2) (g := 96) (by decide) (by decide) (by decide) (lo := 0) (hi' := 0) rfl rfl) ?_
  refine kIconst (mi := 56) (pc := 34) (len := 1) (v := 0) rfl ?_
  refine kAload (mi := 56) (pc := 35) (len := 1) (i := 0) rfl l0 ?_
  refine kGetf (mi := 56) (pc := 36) (len := 3) (j := 302) rfl (hT7.hd (c := 110) (by decide) (by decide)) (by decide) (hT7.ref (c := 110) (i := 2) (g := 113) (by decide) (by decide) (by decide) (lo := 0) (hi' := 0) rfl rfl) ?_
  refine kIconst (mi := 56) (pc := 39) (len := 1) (v := 0) rfl ?_
  refine kIconst (mi := 56) (pc := 40) (len := 2) (v := 60) rfl ?_
  refine kCpyC (mod := [(111, 0), (112, 0), (113, 0), (114, 0), (115, 0), (110, 3), (110, 6)]) (a0 := 96) (a1 := 113) (sz := 60) (lo0 := 0) (hi0 := 999) (by omega) hT7 (by decide) (by decide) (by decide) (by decide) rfl rfl rfl rfl (fun _ => rfl) (fun _ => rfl) rfl rfl (mi := 56) (pc := 42) (len := 3) rfl ?_
  intro N11 hT12 fr13 cv14 nn15
  refine kAload (mi := 56) (pc := 45) (len := 1) (i := 0) rfl l0 ?_
  refine kAload (mi := 56) (pc := 46) (len := 1) (i := 1) rfl l1 ?_
  refine kGetf (mi := 56) (pc := 47) (len := 3) (j := 303) rfl (hT12.hd (c := 93) (by decide) (by decide)) (by decide) ((Sh.of hT12).slI (c := 93) (i := 3) (by decide) (by decide) (by decide) rfl) ?_
  have rv3 := iv_ty hT12 (c := 93) (i := 3) (by decide) (by decide) (by decide) (lo := 0) (hi' := 60) (gs := []) rfl
  obtain ⟨N16, eN16⟩ : ∃ X_, X_ = mPut N11 110 3 (.int (iv N11 93 3)) := ⟨_, rfl⟩
  have hT17 : aTp s N16 := by rw [eN16]; exact hT12.put (a := 110) (i := 3) (v := .int (iv N11 93 3)) (by decide) (by decide) (show aTy (tTy (tGrp 110) _) _ from ⟨(iv N11 93 3), rfl, by show (0 : Int) ≤ _; omega, by show _ ≤ (60 : Int); omega⟩)
  refine kPutf (mi := 56) (pc := 50) (len := 3) (j := 303) (v := .int (iv N11 93 3)) rfl (hT12.hd (c := 110) (by decide) (by decide)) (by decide) (by decide) rfl ?_
  show Ok d 56 53 _ _ (mPut N11 110 3 (.int (iv N11 93 3))) _
  refine Ok_meq eN16 ?_
  have hSh_N16 := Sh.of hT17
  refine kAload (mi := 56) (pc := 53) (len := 1) (i := 1) rfl l1 ?_
  refine kGetf (mi := 56) (pc := 54) (len := 3) (j := 304) rfl (hT17.hd (c := 93) (by decide) (by decide)) (by decide) (hT17.ref (c := 93) (i := 4) (g := 97) (by decide) (by decide) (by decide) (lo := 0) (hi' := 0) rfl rfl) ?_
  refine kIconst (mi := 56) (pc := 57) (len := 1) (v := 0) rfl ?_
  refine kAload (mi := 56) (pc := 58) (len := 1) (i := 0) rfl l0 ?_
  refine kGetf (mi := 56) (pc := 59) (len := 3) (j := 304) rfl (hT17.hd (c := 110) (by decide) (by decide)) (by decide) (hT17.ref (c := 110) (i := 4) (g := 114) (by decide) (by decide) (by decide) (lo := 0) (hi' := 0) rfl rfl) ?_
  refine kIconst (mi := 56) (pc := 62) (len := 1) (v := 0) rfl ?_
  refine kIconst (mi := 56) (pc := 63) (len := 2) (v := 20) rfl ?_
  refine kCpyC (mod := [(111, 0), (112, 0), (113, 0), (114, 0), (115, 0), (110, 3), (110, 6)]) (a0 := 97) (a1 := 114) (sz := 20) (lo0 := 0) (hi0 := 999) (by omega) hT17 (by decide) (by decide) (by decide) (by decide) rfl rfl rfl rfl (fun _ => rfl) (fun _ => rfl) rfl rfl (mi := 56) (pc := 65) (len := 3) rfl ?_
  intro N18 hT19 fr20 cv21 nn22
  refine kAload (mi := 56) (pc := 68) (len := 1) (i := 1) rfl l1 ?_
  refine kGetf (mi := 56) (pc := 69) (len := 3) (j := 305) rfl (hT19.hd (c := 93) (by decide) (by decide)) (by decide) (hT19.ref (c := 93) (i := 5) (g := 98) (by decide) (by decide) (by decide) (lo := 0) (hi' := 0) rfl rfl) ?_
  refine kIconst (mi := 56) (pc := 72) (len := 1) (v := 0) rfl ?_
  refine kAload (mi := 56) (pc := 73) (len := 1) (i := 0) rfl l0 ?_
  refine kGetf (mi := 56) (pc := 74) (len := 3) (j := 305) rfl (hT19.hd (c := 110) (by decide) (by decide)) (by decide) (hT19.ref (c := 110) (i := 5) (g := 115) (by decide) (by decide) (by decide) (lo := 0) (hi' := 0) rfl rfl) ?_
  refine kIconst (mi := 56) (pc := 77) (len := 1) (v := 0) rfl ?_
  refine kIconst (mi := 56) (pc := 78) (len := 2) (v := 20) rfl ?_
  refine kCpyC (mod := [(111, 0), (112, 0), (113, 0), (114, 0), (115, 0), (110, 3), (110, 6)]) (a0 := 98) (a1 := 115) (sz := 20) (lo0 := 0) (hi0 := 1023) (by omega) hT19 (by decide) (by decide) (by decide) (by decide) rfl rfl rfl rfl (fun _ => rfl) (fun _ => rfl) rfl rfl (mi := 56) (pc := 80) (len := 3) rfl ?_
  intro N23 hT24 fr25 cv26 nn27
  refine kAload (mi := 56) (pc := 83) (len := 1) (i := 0) rfl l0 ?_
  refine kAload (mi := 56) (pc := 84) (len := 1) (i := 1) rfl l1 ?_
  refine kGetf (mi := 56) (pc := 85) (len := 3) (j := 306) rfl (hT24.hd (c := 93) (by decide) (by decide)) (by decide) ((Sh.of hT24).slI (c := 93) (i := 6) (by decide) (by decide) (by decide) rfl) ?_
  have rv6 := iv_ty hT24 (c := 93) (i := 6) (by decide) (by decide) (by decide) (lo := 0) (hi' := 20) (gs := []) rfl
  obtain ⟨N28, eN28⟩ : ∃ X_, X_ = mPut N23 110 6 (.int (iv N23 93 6)) := ⟨_, rfl⟩
  have hT29 : aTp s N28 := by rw [eN28]; exact hT24.put (a := 110) (i := 6) (v := .int (iv N23 93 6)) (by decide) (by decide) (show aTy (tTy (tGrp 110) _) _ from ⟨(iv N23 93 6), rfl, by show (0 : Int) ≤ _; omega, by show _ ≤ (20 : Int); omega⟩)
  refine kPutf (mi := 56) (pc := 88) (len := 3) (j := 306) (v := .int (iv N23 93 6)) rfl (hT24.hd (c := 110) (by decide) (by decide)) (by decide) (by decide) rfl ?_
  show Ok d 56 91 _ _ (mPut N23 110 6 (.int (iv N23 93 6))) _
  refine Ok_meq eN28 ?_
  have hSh_N28 := Sh.of hT29
  refine kRetV (mi := 56) (pc := 91) (len := 1) rfl rfl ?_
  have hp : ∀ c i, ¬ ((111 ≤ c ∧ c ≤ 115) ∨ (c = 110 ∧ (i = 3 ∨ i = 6))) → mSlot N28 c i = mSlot M c i := fun c i k => by
    rw [eN28, mSlot_put_ne (by omega)]
    rw [nn27 c i (by omega)]
    rw [nn22 c i (by omega)]
    rw [eN16, mSlot_put_ne (by omega)]
    rw [nn15 c i (by omega)]
    rw [nn10 c i (by omega)]
    rw [nn5 c i (by omega)]
  have v111 : ∀ i, i < 60 → iv N28 111 i = iv M 94 i := fun i hi => by
    unfold iv
    rw [eN28, mSlot_put_ne (Or.inl (by decide))]
    rw [nn27 111 i (by decide)]
    rw [nn22 111 i (by decide)]
    rw [eN16, mSlot_put_ne (Or.inl (by decide))]
    rw [nn15 111 i (by decide)]
    rw [nn10 111 i (by decide)]
    rw [cv4 i hi]
  have v112 : ∀ i, i < 60 → iv N28 112 i = iv M 95 i := fun i hi => by
    unfold iv
    rw [eN28, mSlot_put_ne (Or.inl (by decide))]
    rw [nn27 112 i (by decide)]
    rw [nn22 112 i (by decide)]
    rw [eN16, mSlot_put_ne (Or.inl (by decide))]
    rw [nn15 112 i (by decide)]
    rw [cv9 i hi]
    rw [nn5 95 i (by decide)]
  have v113 : ∀ i, i < 60 → iv N28 113 i = iv M 96 i := fun i hi => by
    unfold iv
    rw [eN28, mSlot_put_ne (Or.inl (by decide))]
    rw [nn27 113 i (by decide)]
    rw [nn22 113 i (by decide)]
    rw [eN16, mSlot_put_ne (Or.inl (by decide))]
    rw [cv14 i hi]
    rw [nn10 96 i (by decide)]
    rw [nn5 96 i (by decide)]
  have w3 : iv N28 110 3 = iv M 93 3 := by
    rw [show iv N28 110 3 = iv N23 110 3 from by unfold iv; rw [eN28, mSlot_put_ne (by decide)]]
    rw [show iv N23 110 3 = iv N18 110 3 from by unfold iv; rw [nn27 110 3 (by decide)]]
    rw [show iv N18 110 3 = iv N16 110 3 from by unfold iv; rw [nn22 110 3 (by decide)]]
    rw [eN16, iv_put_eq (Sh.of hT12) (by decide) (by decide) (by decide)]
    rw [show iv N11 93 3 = iv N6 93 3 from by unfold iv; rw [nn15 93 3 (by decide)]]
    rw [show iv N6 93 3 = iv N1 93 3 from by unfold iv; rw [nn10 93 3 (by decide)]]
    rw [show iv N1 93 3 = iv M 93 3 from by unfold iv; rw [nn5 93 3 (by decide)]]
  have v114 : ∀ i, i < 20 → iv N28 114 i = iv M 97 i := fun i hi => by
    unfold iv
    rw [eN28, mSlot_put_ne (Or.inl (by decide))]
    rw [nn27 114 i (by decide)]
    rw [cv21 i hi]
    rw [eN16, mSlot_put_ne (Or.inl (by decide))]
    rw [nn15 97 i (by decide)]
    rw [nn10 97 i (by decide)]
    rw [nn5 97 i (by decide)]
  have v115 : ∀ i, i < 20 → iv N28 115 i = iv M 98 i := fun i hi => by
    unfold iv
    rw [eN28, mSlot_put_ne (Or.inl (by decide))]
    rw [cv26 i hi]
    rw [nn22 98 i (by decide)]
    rw [eN16, mSlot_put_ne (Or.inl (by decide))]
    rw [nn15 98 i (by decide)]
    rw [nn10 98 i (by decide)]
    rw [nn5 98 i (by decide)]
  have w6 : iv N28 110 6 = iv M 93 6 := by
    rw [eN28, iv_put_eq (Sh.of hT24) (by decide) (by decide) (by decide)]
    rw [show iv N23 93 6 = iv N18 93 6 from by unfold iv; rw [nn27 93 6 (by decide)]]
    rw [show iv N18 93 6 = iv N16 93 6 from by unfold iv; rw [nn22 93 6 (by decide)]]
    rw [show iv N16 93 6 = iv N11 93 6 from by unfold iv; rw [eN16, mSlot_put_ne (by decide)]]
    rw [show iv N11 93 6 = iv N6 93 6 from by unfold iv; rw [nn15 93 6 (by decide)]]
    rw [show iv N6 93 6 = iv N1 93 6 from by unfold iv; rw [nn10 93 6 (by decide)]]
    rw [show iv N1 93 6 = iv M 93 6 from by unfold iv; rw [nn5 93 6 (by decide)]]
  have fr : aFr [(111, 0), (112, 0), (113, 0), (114, 0), (115, 0), (110, 3), (110, 6)] M N28 := by
    exact ((((((fr3.tr fr8).tr fr13).tr (by rw [eN16]; exact aFr_put rfl)).tr fr20).tr fr25).tr (by rw [eN28]; exact aFr_put rfl))
  have ni : ∀ c i, ¬ ((111 ≤ c ∧ c ≤ 115) ∨ (c = 110 ∧ (i = 3 ∨ i = 6))) → iv N28 c i = iv M c i := fun c i k => by unfold iv; rw [hp c i k]
  have hp2 : ∀ c i, ¬ qKn c i → mSlot N28 c i = mSlot M c i := fun c i k => hp c i (fun e => k (by unfold qKn qA; omega))
  have kc : kC N28 110 93 := by
    refine ⟨fun i hi => ?_, fun i hi => ?_, ?_, ?_⟩
    · rw [v111 i hi, v112 i hi, v113 i hi, ni (93 + 1) i (by omega), ni (93 + 2) i (by omega), ni (93 + 3) i (by omega)]
      exact ⟨rfl, rfl, rfl⟩
    · rw [v114 i hi, v115 i hi, ni (93 + 4) i (by omega), ni (93 + 5) i (by omega)]
      exact ⟨rfl, rfl⟩
    · rw [w3, ni 93 3 (by omega)]
    · rw [w6, ni 93 6 (by omega)]
  have ka : kHW N28 93 195 := by
    obtain ⟨h1, π, h2, h3⟩ := hK.1
    refine ⟨fun k hk => ?_, π, ?_, fun k hk => ?_⟩
    · rw [ni 93 3 (by omega)] at hk
      rw [ni (93 + 1) k (by omega), ni (93 + 2) k (by omega), ni (93 + 3) k (by omega), ni 195 k (by omega), ni (195 + 1) k (by omega), ni (195 + 2) k (by omega)]
      exact h1 k hk
    · rw [ni 93 6 (by omega)]
      refine knP_congr (fun k _ => ?_) h2
      rw [ni (195 + 3) k (by omega)]
    · rw [ni 93 6 (by omega)] at hk
      rw [ni (93 + 4) k (by omega), ni (93 + 5) k (by omega), ni (195 + 3) (π k) (by omega), ni (195 + 4) (π k) (by omega)]
      exact h3 k hk
  have hM2 : aMemK (s, gUp (gUp γ 1023 0 1) 1023 1 0) N28 := kn_mem2 hM hT29 hp2 ⟨⟨fun q => absurd (show (1 : Int) = 0 from q) (by decide), fun q => ⟨ka, kc, fun j hj => absurd (show (j : Int) < 0 from hj) (by omega)⟩, fun q => absurd (show (1 : Int) = 2 from q) (by decide)⟩, xKb_same (Int.le_refl _) (fun c i q => ni c i (by unfold qO at q; omega)) (fun d h40 _ => ⟨fun p hp => ni _ _ (by omega), ni _ _ (by omega), ni _ _ (by omega), ni _ _ (by omega)⟩) hx.2.2.2.2.2.2⟩
  refine ⟨aFr_wk (fun g i q => memP_k (by decide) q) fr, gUp (gUp γ 1023 0 1) 1023 1 0, gFr_up rfl (gFr_up rfl gFr.rf), _, List.Mem.head _, σ, aExt.rf, ?_⟩
  exact mkHoldK (by decide) s0 ⟨b00 s0, b1, b2, b3, b4, True.intro⟩ True.intro ⟨hF1_re (x := f93_3) rfl (by decide) (by decide) ((hp 93 3 (by decide)).trans hf93_3) (by show f93_3.toInt = σ 1 + 0; omega), hF1_re (x := f93_3) rfl (by decide) (by decide) (by have q := w3; rw [iv_of hf93_3] at q; rw [← q]; exact (Sh.of hT29).slI (by decide) (by decide) (by decide) rfl) (by show f93_3.toInt = σ 1 + 0; omega), hF1_re (x := f93_6) rfl (by decide) (by decide) ((hp 93 6 (by decide)).trans hf93_6) (by show f93_6.toInt = σ 3 + 0; omega), hF1_re (x := f93_6) rfl (by decide) (by decide) (by have q := w6; rw [iv_of hf93_6] at q; rw [← q]; exact (Sh.of hT29).slI (by decide) (by decide) (by decide) rfl) (by show f93_6.toInt = σ 3 + 0; omega), hF1_gh (by decide) (by decide) (by show (1 : Int) = σ 0 + 1; omega), hF1_gh (by decide) (by decide) (by show (0 : Int) = σ 0 + 0; omega), True.intro⟩ True.intro hM2
theorem cs_gu {s : List Int32} : cSoundK s cm_gu := by
  intro γ d σ L M hd hA
  have hd : 3 ≤ d := hd
  have h := aHoldK_0 hA
  have l0 := eR h (i := 0) (g := 93) (c := 0) rfl rfl
  have l1 := eR h (i := 1) (g := 110) (c := 0) rfl rfl
  have s0 := h.1.2.1.1
  have b1 := eB h (i := 1) (lo := 0) (hi := 60) rfl
  have b2 := eB h (i := 2) (lo := 0) (hi := 60) rfl
  have b3 := eB h (i := 3) (lo := 0) (hi := 20) rfl
  have b4 := eB h (i := 4) (lo := 0) (hi := 20) rfl
  obtain ⟨f93_3, hf93_3, ef93_3⟩ := eF h (g := 93) (i := 3) (sy := 1) (c := 0) (by decide) (by decide) rfl (List.Mem.head _)
  obtain ⟨f110_3, hf110_3, ef110_3⟩ := eF h (g := 110) (i := 3) (sy := 2) (c := 0) (by decide) (by decide) rfl (List.Mem.tail _ (List.Mem.head _))
  obtain ⟨f93_6, hf93_6, ef93_6⟩ := eF h (g := 93) (i := 6) (sy := 3) (c := 0) (by decide) (by decide) rfl (List.Mem.tail _ (List.Mem.tail _ (List.Mem.head _)))
  obtain ⟨f110_6, hf110_6, ef110_6⟩ := eF h (g := 110) (i := 6) (sy := 4) (c := 0) (by decide) (by decide) rfl (List.Mem.tail _ (List.Mem.tail _ (List.Mem.tail _ (List.Mem.head _))))
  have q23_0 : (γ 1023 0).toInt = σ 0 + 0 := eG h (g := 1023) (i := 0) (sy := 0) (c := 0) (by decide) (List.Mem.tail _ (List.Mem.tail _ (List.Mem.tail _ (List.Mem.tail _ (List.Mem.head _)))))
  have q22_0 : (γ 1022 0).toInt = σ 0 + 0 := eG h (g := 1022) (i := 0) (sy := 0) (c := 0) (by decide) (List.Mem.tail _ (List.Mem.tail _ (List.Mem.tail _ (List.Mem.tail _ (List.Mem.tail _ (List.Mem.head _))))))
  have hM := hA.2.2.2
  have hT := aTp_of (aMem_0 (aMemK_to9 hM))
  have hSh := Sh.of hT
  have hx := aMemK_x10 hM
  have hK := (hx.2.2.2.2.2.1).1 (show (γ 1023 0).toInt = 0 by omega)
  refine kAload (mi := 56) (pc := 0) (len := 1) (i := 1) rfl l1 ?_
  refine kGetf (mi := 56) (pc := 1) (len := 3) (j := 300) rfl (hT.hd (c := 110) (by decide) (by decide)) (by decide) (hT.ref (c := 110) (i := 0) (g := 111) (by decide) (by decide) (by decide) (lo := 0) (hi' := 0) rfl rfl) ?_
  refine kIconst (mi := 56) (pc := 4) (len := 1) (v := 0) rfl ?_
  refine kAload (mi := 56) (pc := 5) (len := 1) (i := 0) rfl l0 ?_
  refine kGetf (mi := 56) (pc := 6) (len := 3) (j := 300) rfl (hT.hd (c := 93) (by decide) (by decide)) (by decide) (hT.ref (c := 93) (i := 0) (g := 94) (by decide) (by decide) (by decide) (lo := 0) (hi' := 0) rfl rfl) ?_
  refine kIconst (mi := 56) (pc := 9) (len := 1) (v := 0) rfl ?_
  refine kIconst (mi := 56) (pc := 10) (len := 2) (v := 60) rfl ?_
  refine kCpyC (mod := [(94, 0), (95, 0), (96, 0), (97, 0), (98, 0), (93, 3), (93, 6)]) (a0 := 111) (a1 := 94) (sz := 60) (lo0 := 0) (hi0 := 9) (by omega) hT (by decide) (by decide) (by decide) (by decide) rfl rfl rfl rfl (fun _ => rfl) (fun _ => rfl) rfl rfl (mi := 56) (pc := 12) (len := 3) rfl ?_
  intro N1 hT2 fr3 cv4 nn5
  refine kAload (mi := 56) (pc := 15) (len := 1) (i := 1) rfl l1 ?_
  refine kGetf (mi := 56) (pc := 16) (len := 3) (j := 301) rfl (hT2.hd (c := 110) (by decide) (by decide)) (by decide) (hT2.ref (c := 110) (i := 1) (g := 112) (by decide) (by decide) (by decide) (lo := 0) (hi' := 0) rfl rfl) ?_
  refine kIconst (mi := 56) (pc := 19) (len := 1) (v := 0) rfl ?_
  refine kAload (mi := 56) (pc := 20) (len := 1) (i := 0) rfl l0 ?_
  refine kGetf (mi := 56) (pc := 21) (len := 3) (j := 301) rfl (hT2.hd (c := 93) (by decide) (by decide)) (by decide) (hT2.ref (c := 93) (i := 1) (g := 95) (by decide) (by decide) (by decide) (lo := 0) (hi' := 0) rfl rfl) ?_
  refine kIconst (mi := 56) (pc := 24) (len := 1) (v := 0) rfl ?_
  refine kIconst (mi := 56) (pc := 25) (len := 2) (v := 60) rfl ?_
  refine kCpyC (mod := [(94, 0), (95, 0), (96, 0), (97, 0), (98, 0), (93, 3), (93, 6)]) (a0 := 112) (a1 := 95) (sz := 60) (lo0 := 0) (hi0 := 39) (by omega) hT2 (by decide) (by decide) (by decide) (by decide) rfl rfl rfl rfl (fun _ => rfl) (fun _ => rfl) rfl rfl (mi := 56) (pc := 27) (len := 3) rfl ?_
  intro N6 hT7 fr8 cv9 nn10
  refine kAload (mi := 56) (pc := 30) (len := 1) (i := 1) rfl l1 ?_
  refine kGetf (mi := 56) (pc := 31) (len := 3) (j := 302) rfl (hT7.hd (c := 110) (by decide) (by decide)) (by decide) (hT7.ref (c := 110) (i := 2) (g := 113) (by decide) (by decide) (by decide) (lo := 0) (hi' := 0) rfl rfl) ?_
  refine kIconst (mi := 56) (pc := 34) (len := 1) (v := 0) rfl ?_
  refine kAload (mi := 56) (pc := 35) (len := 1) (i := 0) rfl l0 ?_
  refine kGetf (mi := 56) (pc := 36) (len := 3) (j := 302) rfl (hT7.hd (c := 93) (by decide) (by decide)) (by decide) (hT7.ref (c := 93) (i := 2) (g := 96) (by decide) (by decide) (by decide) (lo := 0) (hi' := 0) rfl rfl) ?_
  refine kIconst (mi := 56) (pc := 39) (len := 1) (v := 0) rfl ?_
  refine kIconst (mi := 56) (pc := 40) (len := 2) (v := 60) rfl ?_
  refine kCpyC (mod := [(94, 0), (95, 0), (96, 0), (97, 0), (98, 0), (93, 3), (93, 6)]) (a0 := 113) (a1 := 96) (sz := 60) (lo0 := 0) (hi0 := 999) (by omega) hT7 (by decide) (by decide) (by decide) (by decide) rfl rfl rfl rfl (fun _ => rfl) (fun _ => rfl) rfl rfl (mi := 56) (pc := 42) (len := 3) rfl ?_
  intro N11 hT12 fr13 cv14 nn15
  refine kAload (mi := 56) (pc := 45) (len := 1) (i := 0) rfl l0 ?_
  refine kAload (mi := 56) (pc := 46) (len := 1) (i := 1) rfl l1 ?_
  refine kGetf (mi := 56) (pc := 47) (len := 3) (j := 303) rfl (hT12.hd (c := 110) (by decide) (by decide)) (by decide) ((Sh.of hT12).slI (c := 110) (i := 3) (by decide) (by decide) (by decide) rfl) ?_
  have rv3 := iv_ty hT12 (c := 110) (i := 3) (by decide) (by decide) (by decide) (lo := 0) (hi' := 60) (gs := []) rfl
  obtain ⟨N16, eN16⟩ : ∃ X_, X_ = mPut N11 93 3 (.int (iv N11 110 3)) := ⟨_, rfl⟩
  have hT17 : aTp s N16 := by rw [eN16]; exact hT12.put (a := 93) (i := 3) (v := .int (iv N11 110 3)) (by decide) (by decide) (show aTy (tTy (tGrp 93) _) _ from ⟨(iv N11 110 3), rfl, by show (0 : Int) ≤ _; omega, by show _ ≤ (60 : Int); omega⟩)
  refine kPutf (mi := 56) (pc := 50) (len := 3) (j := 303) (v := .int (iv N11 110 3)) rfl (hT12.hd (c := 93) (by decide) (by decide)) (by decide) (by decide) rfl ?_
  show Ok d 56 53 _ _ (mPut N11 93 3 (.int (iv N11 110 3))) _
  refine Ok_meq eN16 ?_
  have hSh_N16 := Sh.of hT17
  refine kAload (mi := 56) (pc := 53) (len := 1) (i := 1) rfl l1 ?_
  refine kGetf (mi := 56) (pc := 54) (len := 3) (j := 304) rfl (hT17.hd (c := 110) (by decide) (by decide)) (by decide) (hT17.ref (c := 110) (i := 4) (g := 114) (by decide) (by decide) (by decide) (lo := 0) (hi' := 0) rfl rfl) ?_
  refine kIconst (mi := 56) (pc := 57) (len := 1) (v := 0) rfl ?_
  refine kAload (mi := 56) (pc := 58) (len := 1) (i := 0) rfl l0 ?_
  refine kGetf (mi := 56) (pc := 59) (len := 3) (j := 304) rfl (hT17.hd (c := 93) (by decide) (by decide)) (by decide) (hT17.ref (c := 93) (i := 4) (g := 97) (by decide) (by decide) (by decide) (lo := 0) (hi' := 0) rfl rfl) ?_
  refine kIconst (mi := 56) (pc := 62) (len := 1) (v := 0) rfl ?_
  refine kIconst (mi := 56) (pc := 63) (len := 2) (v := 20) rfl ?_
  refine kCpyC (mod := [(94, 0), (95, 0), (96, 0), (97, 0), (98, 0), (93, 3), (93, 6)]) (a0 := 114) (a1 := 97) (sz := 20) (lo0 := 0) (hi0 := 999) (by omega) hT17 (by decide) (by decide) (by decide) (by decide) rfl rfl rfl rfl (fun _ => rfl) (fun _ => rfl) rfl rfl (mi := 56) (pc := 65) (len := 3) rfl ?_
  intro N18 hT19 fr20 cv21 nn22
  refine kAload (mi := 56) (pc := 68) (len := 1) (i := 1) rfl l1 ?_
  refine kGetf (mi := 56) (pc := 69) (len := 3) (j := 305) rfl (hT19.hd (c := 110) (by decide) (by decide)) (by decide) (hT19.ref (c := 110) (i := 5) (g := 115) (by decide) (by decide) (by decide) (lo := 0) (hi' := 0) rfl rfl) ?_
  refine kIconst (mi := 56) (pc := 72) (len := 1) (v := 0) rfl ?_
  refine kAload (mi := 56) (pc := 73) (len := 1) (i := 0) rfl l0 ?_
  refine kGetf (mi := 56) (pc := 74) (len := 3) (j := 305) rfl (hT19.hd (c := 93) (by decide) (by decide)) (by decide) (hT19.ref (c := 93) (i := 5) (g := 98) (by decide) (by decide) (by decide) (lo := 0) (hi' := 0) rfl rfl) ?_
  refine kIconst (mi := 56) (pc := 77) (len := 1) (v := 0) rfl ?_
  refine kIconst (mi := 56) (pc := 78) (len := 2) (v := 20) rfl ?_
  refine kCpyC (mod := [(94, 0), (95, 0), (96, 0), (97, 0), (98, 0), (93, 3), (93, 6)]) (a0 := 115) (a1 := 98) (sz := 20) (lo0 := 0) (hi0 := 1023) (by omega) hT19 (by decide) (by decide) (by decide) (by decide) rfl rfl rfl rfl (fun _ => rfl) (fun _ => rfl) rfl rfl (mi := 56) (pc := 80) (len := 3) rfl ?_
  intro N23 hT24 fr25 cv26 nn27
  refine kAload (mi := 56) (pc := 83) (len := 1) (i := 0) rfl l0 ?_
  refine kAload (mi := 56) (pc := 84) (len := 1) (i := 1) rfl l1 ?_
  refine kGetf (mi := 56) (pc := 85) (len := 3) (j := 306) rfl (hT24.hd (c := 110) (by decide) (by decide)) (by decide) ((Sh.of hT24).slI (c := 110) (i := 6) (by decide) (by decide) (by decide) rfl) ?_
  have rv6 := iv_ty hT24 (c := 110) (i := 6) (by decide) (by decide) (by decide) (lo := 0) (hi' := 20) (gs := []) rfl
  obtain ⟨N28, eN28⟩ : ∃ X_, X_ = mPut N23 93 6 (.int (iv N23 110 6)) := ⟨_, rfl⟩
  have hT29 : aTp s N28 := by rw [eN28]; exact hT24.put (a := 93) (i := 6) (v := .int (iv N23 110 6)) (by decide) (by decide) (show aTy (tTy (tGrp 93) _) _ from ⟨(iv N23 110 6), rfl, by show (0 : Int) ≤ _; omega, by show _ ≤ (20 : Int); omega⟩)
  refine kPutf (mi := 56) (pc := 88) (len := 3) (j := 306) (v := .int (iv N23 110 6)) rfl (hT24.hd (c := 93) (by decide) (by decide)) (by decide) (by decide) rfl ?_
  show Ok d 56 91 _ _ (mPut N23 93 6 (.int (iv N23 110 6))) _
  refine Ok_meq eN28 ?_
  have hSh_N28 := Sh.of hT29
  refine kRetV (mi := 56) (pc := 91) (len := 1) rfl rfl ?_
  have hp : ∀ c i, ¬ ((94 ≤ c ∧ c ≤ 98) ∨ (c = 93 ∧ (i = 3 ∨ i = 6))) → mSlot N28 c i = mSlot M c i := fun c i k => by
    rw [eN28, mSlot_put_ne (by omega)]
    rw [nn27 c i (by omega)]
    rw [nn22 c i (by omega)]
    rw [eN16, mSlot_put_ne (by omega)]
    rw [nn15 c i (by omega)]
    rw [nn10 c i (by omega)]
    rw [nn5 c i (by omega)]
  have v94 : ∀ i, i < 60 → iv N28 94 i = iv M 111 i := fun i hi => by
    unfold iv
    rw [eN28, mSlot_put_ne (Or.inl (by decide))]
    rw [nn27 94 i (by decide)]
    rw [nn22 94 i (by decide)]
    rw [eN16, mSlot_put_ne (Or.inl (by decide))]
    rw [nn15 94 i (by decide)]
    rw [nn10 94 i (by decide)]
    rw [cv4 i hi]
  have v95 : ∀ i, i < 60 → iv N28 95 i = iv M 112 i := fun i hi => by
    unfold iv
    rw [eN28, mSlot_put_ne (Or.inl (by decide))]
    rw [nn27 95 i (by decide)]
    rw [nn22 95 i (by decide)]
    rw [eN16, mSlot_put_ne (Or.inl (by decide))]
    rw [nn15 95 i (by decide)]
    rw [cv9 i hi]
    rw [nn5 112 i (by decide)]
  have v96 : ∀ i, i < 60 → iv N28 96 i = iv M 113 i := fun i hi => by
    unfold iv
    rw [eN28, mSlot_put_ne (Or.inl (by decide))]
    rw [nn27 96 i (by decide)]
    rw [nn22 96 i (by decide)]
    rw [eN16, mSlot_put_ne (Or.inl (by decide))]
    rw [cv14 i hi]
    rw [nn10 113 i (by decide)]
    rw [nn5 113 i (by decide)]
  have w3 : iv N28 93 3 = iv M 110 3 := by
    rw [show iv N28 93 3 = iv N23 93 3 from by unfold iv; rw [eN28, mSlot_put_ne (by decide)]]
    rw [show iv N23 93 3 = iv N18 93 3 from by unfold iv; rw [nn27 93 3 (by decide)]]
    rw [show iv N18 93 3 = iv N16 93 3 from by unfold iv; rw [nn22 93 3 (by decide)]]
    rw [eN16, iv_put_eq (Sh.of hT12) (by decide) (by decide) (by decide)]
    rw [show iv N11 110 3 = iv N6 110 3 from by unfold iv; rw [nn15 110 3 (by decide)]]
    rw [show iv N6 110 3 = iv N1 110 3 from by unfold iv; rw [nn10 110 3 (by decide)]]
    rw [show iv N1 110 3 = iv M 110 3 from by unfold iv; rw [nn5 110 3 (by decide)]]
  have v97 : ∀ i, i < 20 → iv N28 97 i = iv M 114 i := fun i hi => by
    unfold iv
    rw [eN28, mSlot_put_ne (Or.inl (by decide))]
    rw [nn27 97 i (by decide)]
    rw [cv21 i hi]
    rw [eN16, mSlot_put_ne (Or.inl (by decide))]
    rw [nn15 114 i (by decide)]
    rw [nn10 114 i (by decide)]
    rw [nn5 114 i (by decide)]
  have v98 : ∀ i, i < 20 → iv N28 98 i = iv M 115 i := fun i hi => by
    unfold iv
    rw [eN28, mSlot_put_ne (Or.inl (by decide))]
    rw [cv26 i hi]
    rw [nn22 115 i (by decide)]
    rw [eN16, mSlot_put_ne (Or.inl (by decide))]
    rw [nn15 115 i (by decide)]
    rw [nn10 115 i (by decide)]
    rw [nn5 115 i (by decide)]
  have w6 : iv N28 93 6 = iv M 110 6 := by
    rw [eN28, iv_put_eq (Sh.of hT24) (by decide) (by decide) (by decide)]
    rw [show iv N23 110 6 = iv N18 110 6 from by unfold iv; rw [nn27 110 6 (by decide)]]
    rw [show iv N18 110 6 = iv N16 110 6 from by unfold iv; rw [nn22 110 6 (by decide)]]
    rw [show iv N16 110 6 = iv N11 110 6 from by unfold iv; rw [eN16, mSlot_put_ne (by decide)]]
    rw [show iv N11 110 6 = iv N6 110 6 from by unfold iv; rw [nn15 110 6 (by decide)]]
    rw [show iv N6 110 6 = iv N1 110 6 from by unfold iv; rw [nn10 110 6 (by decide)]]
    rw [show iv N1 110 6 = iv M 110 6 from by unfold iv; rw [nn5 110 6 (by decide)]]
  have fr : aFr [(94, 0), (95, 0), (96, 0), (97, 0), (98, 0), (93, 3), (93, 6)] M N28 := by
    exact ((((((fr3.tr fr8).tr fr13).tr (by rw [eN16]; exact aFr_put rfl)).tr fr20).tr fr25).tr (by rw [eN28]; exact aFr_put rfl))
  have ni : ∀ c i, ¬ ((94 ≤ c ∧ c ≤ 98) ∨ (c = 93 ∧ (i = 3 ∨ i = 6))) → iv N28 c i = iv M c i := fun c i k => by unfold iv; rw [hp c i k]
  have hp2 : ∀ c i, ¬ qKn c i → mSlot N28 c i = mSlot M c i := fun c i k => hp c i (fun e => k (by unfold qKn qA; omega))
  have kc : kC N28 93 110 := by
    refine ⟨fun i hi => ?_, fun i hi => ?_, ?_, ?_⟩
    · rw [v94 i hi, v95 i hi, v96 i hi, ni (110 + 1) i (by omega), ni (110 + 2) i (by omega), ni (110 + 3) i (by omega)]
      exact ⟨rfl, rfl, rfl⟩
    · rw [v97 i hi, v98 i hi, ni (110 + 4) i (by omega), ni (110 + 5) i (by omega)]
      exact ⟨rfl, rfl⟩
    · rw [w3, ni 110 3 (by omega)]
    · rw [w6, ni 110 6 (by omega)]
  have ka : kHW N28 110 236 := by
    obtain ⟨h1, π, h2, h3⟩ := hK.2
    refine ⟨fun k hk => ?_, π, ?_, fun k hk => ?_⟩
    · rw [ni 110 3 (by omega)] at hk
      rw [ni (110 + 1) k (by omega), ni (110 + 2) k (by omega), ni (110 + 3) k (by omega), ni 236 k (by omega), ni (236 + 1) k (by omega), ni (236 + 2) k (by omega)]
      exact h1 k hk
    · rw [ni 110 6 (by omega)]
      refine knP_congr (fun k _ => ?_) h2
      rw [ni (236 + 3) k (by omega)]
    · rw [ni 110 6 (by omega)] at hk
      rw [ni (110 + 4) k (by omega), ni (110 + 5) k (by omega), ni (236 + 3) (π k) (by omega), ni (236 + 4) (π k) (by omega)]
      exact h3 k hk
  have hM2 : aMemK (s, gUp (gUp γ 1023 0 2) 1023 1 0) N28 := kn_mem2 hM hT29 hp2 ⟨⟨fun q => absurd (show (2 : Int) = 0 from q) (by decide), fun q => absurd (show (2 : Int) = 1 from q) (by decide), fun q => ⟨ka, kc, fun j hj => absurd (show (j : Int) < 0 from hj) (by omega)⟩⟩, fun d _ hq => absurd (show (d : Int) < (γ 1022 0).toInt from hq) (by omega)⟩
  refine ⟨aFr_wk (fun g i q => memP_k (by decide) q) fr, gUp (gUp γ 1023 0 2) 1023 1 0, gFr_up rfl (gFr_up rfl gFr.rf), _, List.Mem.head _, σ, aExt.rf, ?_⟩
  exact mkHoldK (by decide) s0 ⟨b00 s0, b1, b2, b3, b4, True.intro⟩ True.intro ⟨hF1_re (x := f110_3) rfl (by decide) (by decide) (by have q := w3; rw [iv_of hf110_3] at q; rw [← q]; exact (Sh.of hT29).slI (by decide) (by decide) (by decide) rfl) (by show f110_3.toInt = σ 2 + 0; omega), hF1_re (x := f110_3) rfl (by decide) (by decide) ((hp 110 3 (by decide)).trans hf110_3) (by show f110_3.toInt = σ 2 + 0; omega), hF1_re (x := f110_6) rfl (by decide) (by decide) (by have q := w6; rw [iv_of hf110_6] at q; rw [← q]; exact (Sh.of hT29).slI (by decide) (by decide) (by decide) rfl) (by show f110_6.toInt = σ 4 + 0; omega), hF1_re (x := f110_6) rfl (by decide) (by decide) ((hp 110 6 (by decide)).trans hf110_6) (by show f110_6.toInt = σ 4 + 0; omega), hF1_gh (by decide) (by decide) (by show (2 : Int) = σ 0 + 2; omega), hF1_gh (by decide) (by decide) (by show (0 : Int) = σ 0 + 0; omega), True.intro⟩ True.intro hM2
theorem kdzS_K {s : List Int32} {γ : Gh} {σ : Nat → Int} {S : AS} {M : Mem} (hn : 0 < S.1.1.length) (hF : S.1.2.2.2.all (fun q => !(Nat.beq q.1 1022)) = true) (h : aK (s, γ) σ S.1 M) : aK (s, gUp γ 1022 0 0) σ (kdzS S).1 M := by
  refine ⟨h.1, h.2.1, h.2.2.1, ?_⟩
  intro g i v hm
  rcases List.mem_cons.mp hm with e | e
  · cases e
    refine ⟨fun a a2 a3 a4 => absurd (tGrp_lt a3) (by rw [a4]; decide), fun _ => ⟨hn, _, rfl, ?_⟩⟩
    have h0 : σ 0 = 0 := h.2.1.1
    show (0 : Int) = σ 0 + 0
    omega
  · have hg : g ≠ 1022 := fun q => by
      have := List.all_eq_true.mp hF _ e
      rw [q] at this
      cases this
    obtain ⟨h1, h2⟩ := h.2.2.2 g i v e
    refine ⟨h1, fun q => ?_⟩
    show aG (s, γ) σ _ v (.int (gUp γ 1022 0 0 g i))
    rw [g1_ne hg]
    exact h2 q
def xkok : List (Nat × Nat) → Bool
  | [] => true
  | q :: r => bif q13 q.1 q.2 then false else xkok r
theorem xkok_m : ∀ {m : List (Nat × Nat)} {g i : Nat}, xkok m = true → q13 g i = true → memP g i m = false
  | [], _, _, _, _ => rfl
  | (x, y) :: r, g, i, h, hq => by
    unfold xkok at h
    unfold memP
    cases hp : q13 x y with
    | true =>
      dsimp only at h
      rw [hp] at h
      cases h
    | false =>
      dsimp only at h
      rw [hp] at h
      cases hx : (Nat.beq x g && Nat.beq y i) with
      | true =>
        rw [Bool.and_eq_true] at hx
        have e1 := Nat.eq_of_beq_eq_true hx.1
        have e2 := Nat.eq_of_beq_eq_true hx.2
        subst e1
        subst e2
        rw [hq] at hp
        cases hp
      | false => exact xkok_m h hq
theorem qA_k {c i : Nat} (h : qA c i) : q13 (tGrp c) (aSlK c i) = true := by
  have q : (c = 94 ∨ c = 95 ∨ c = 96 ∨ c = 97 ∨ c = 98 ∨ c = 111 ∨ c = 112 ∨ c = 113 ∨ c = 114 ∨ c = 115 ∨ c = 195 ∨ c = 196 ∨ c = 197 ∨ c = 198 ∨ c = 199 ∨ c = 236 ∨ c = 237 ∨ c = 238 ∨ c = 239 ∨ c = 240) ∨ ((c = 93 ∨ c = 110) ∧ (i = 3 ∨ i = 6)) := by
    unfold qA at h
    omega
  rcases q with q | ⟨q, q2⟩
  · rcases q with rfl | rfl | rfl | rfl | rfl | rfl | rfl | rfl | rfl | rfl | rfl | rfl | rfl | rfl | rfl | rfl | rfl | rfl | rfl | rfl <;> rfl
  · rcases q with rfl | rfl <;> rcases q2 with rfl | rfl <;> rfl
def kdzok (c : CT) : Bool := (x10ok c.2.2.2.2.2 && x11ok c.2.2.2.2.2) && (xkok c.2.2.2.2.2 && c.2.2.2.2.1.all (fun o => Nat.blt 0 o.1.1.length && o.1.2.2.2.all (fun q => !(Nat.beq q.1 1022))))
theorem cLiftZ {s : List Int32} {c : CT} (ok : kdzok c = true) (h : cSound9 s c) : cSoundK s (kdzC c) := by
  unfold kdzok at ok
  rw [Bool.and_eq_true, Bool.and_eq_true, Bool.and_eq_true] at ok
  obtain ⟨⟨ok1, ok2⟩, okK, ok3⟩ := ok
  intro γ d σ L M hd hH
  refine (h γ d σ L M hd ⟨hH.1, hH.2.1, hH.2.2.1, aMemK_to9 hH.2.2.2⟩).mono ?_
  intro r M' hq
  obtain ⟨hf, γ', hg, o, ho, σ', hx, hH'⟩ := hq
  have hk := List.all_eq_true.mp ok3 o ho
  rw [Bool.and_eq_true] at hk
  have hn := Nat.le_of_ble_eq_true hk.1
  have hx0 := aMemK_x10 hH.2.2.2
  have hA := hH'.2.2.2
  have q : tXI γ' M' := hA.2.2.2
  have m0 : aMem0 (s, gUp γ' 1022 0 0) M' := aMem_mk (show x8 (s, γ') from hA.1.2.1) (aTp_of (aMem_0 hA)) ⟨q.1, q.2.1, q.2.2.1, q.2.2.2.1, q.2.2.2.2.1, q.2.2.2.2.2.1, q.2.2.2.2.2.2⟩
  have hg2 : gFr [(1022, 0)] γ' (gUp γ' 1022 0 0) := gFr_up rfl gFr.rf
  have hx9 : x9 γ' M' := hA.1.2.2
  have K' : xK (gUp γ' 1022 0 0) M' := ⟨xKa_same (hg 1023 0 (by decide) (xkok_m okK rfl)) (hg 1023 1 (by decide) (xkok_m okK rfl)) (fun c i q => by
    have q2 := qN_pro (c := c) (i := i) (Or.inl q)
    unfold iv
    rw [hf.2.2.2 c i q2.2.1 q2.2.2.1 q2.1 (xkok_m okK (qA_k q))]) hx0.2.2.2.2.2.1, fun d _ hd => absurd (show (d : Int) < 0 from hd) (by omega)⟩
  have hM : aMemK (s, gUp γ' 1022 0 0) M' := aMemK_of9 (aMem_9 m0 (x9_fr (mod := [(1022, 0)]) aFr.rf hg2 rfl hx9)) (x10_fr0 (γ := γ) (γ' := gUp γ' 1022 0 0) (mod := (1022, 0) :: c.2.2.2.2.2) (aFr_wk memP_cons hf) (gFr.tr (fun g i a b => hg g i a (memP_cons g i b)) (gFr_up rfl gFr.rf)) (by show (bif q10 1022 0 then false else x10ok c.2.2.2.2.2) = true; exact ok1) (fun h0 k hk => xP_fr hf hg ok2 hx0.2.2.2.1 h0 k hk) K' hx0)
  refine ⟨aFr_wk memP_cons hf, gUp γ' 1022 0 0, gFr.tr (fun g i a b => hg g i a (memP_cons g i b)) (gFr_up rfl gFr.rf), kdzS o, List.mem_map_of_mem ho, σ', hx, kdzS_K hn hk.2 hH'.1, ?_, ?_, hM⟩
  · exact fun i v e => (hH'.2.1 i v e)
  · exact aSs_scr (scr := (s, γ')) (scr' := (s, gUp γ' 1022 0 0)) rfl hH'.2.2.1
