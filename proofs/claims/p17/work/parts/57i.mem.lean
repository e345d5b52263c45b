/-! the parser's picture in the memory -/
theorem xA_B {γ : Gh} {f wa : Nat → Int} {w m p sg : Nat} (h : xA γ f wa w m p sg) : xB (γ 1001 0).toInt (γ 1001 1).toInt (γ 1001 2).toInt (γ 1001 3).toInt (γ 1001 4).toInt (γ 1001 5).toInt (γ 1001 10).toInt f wa w m p sg := h
theorem xB_A {γ : Gh} {f wa : Nat → Int} {w m p sg : Nat} {W O N T H P S : Int} (e0 : (γ 1001 0).toInt = W) (e1 : (γ 1001 1).toInt = O) (e2 : (γ 1001 2).toInt = N) (e3 : (γ 1001 3).toInt = T) (e4 : (γ 1001 4).toInt = H) (e5 : (γ 1001 5).toInt = P) (e6 : (γ 1001 10).toInt = S) (h : xB W O N T H P S f wa w m p sg) : xA γ f wa w m p sg := by
  subst e0 e1 e2 e3 e4 e5 e6
  exact h
theorem xPr_c {f g : Nat → Int} {b a e : Nat} (hf : ∀ k, k < e → g k = f k) (h : xPr f b a e) : xPr g b a e := by
  refine ⟨h.1, fun k h1 h2 => xOk_c (hf k h2) ?_ (Nat.le_refl _) h1 h2 (fun _ t => t) (h.2 k h1 h2)⟩
  intro n hn
  exact xHg_c n (fun i hi => by rw [hf _ (by omega)])
theorem xSc_c {V V' : Vw} {lim lim' j : Nat} (h5 : xI V' 205 j = xI V 205 j) (h6 : xI V' 206 j = xI V 206 j) (h7 : xI V' 207 j = xI V 207 j) (h8 : xI V' 208 j = xI V 208 j) (hl : lim ≤ lim') (hf : ∀ k, k < lim → xI V' 203 k = xI V 203 k) (h : xSc V lim j) : xSc V' lim' j := by
  obtain ⟨a, b, c⟩ := h
  unfold xSc
  rw [h5, h6, h7, h8]
  have := b.1
  exact ⟨by omega, xPr_c (fun k hk => hf k (by omega)) b, fun e => xPr_c (fun k hk => hf k (by omega)) (c e)⟩
section
variable {γ γ' : Gh} {V V' : Vw}
theorem xp_w (h : xp γ V) (eA : γ' 1001 6 = γ 1001 6) (eL : γ' 1001 7 = γ 1001 7) (e1 : γ' 1001 8 = γ 1001 8) (e2 : γ' 1001 9 = γ 1001 9) (eS : γ' 1001 10 = γ 1001 10) (hv : ∀ c, c = 203 ∨ (205 ≤ c ∧ c ≤ 208) → V' c = V c) (m : xI V' 181 30 = xI V 181 30) (sm : xI V' 181 32 = xI V 181 32) (ha : (γ 1001 6).toInt = 1 → xA γ' (xI V 203) (xI V' 204) (xI V' 181 31).toNat (xI V 181 30).toNat (γ' 1001 5).toInt.toNat (γ 1001 10).toInt.toNat) : xp γ' V' := by
  have e : ∀ c, c = 203 ∨ (205 ≤ c ∧ c ≤ 208) → xI V' c = xI V c := by intro c h1; funext i; unfold xI; rw [hv c h1]
  unfold xp xSc at h ⊢
  rw [e 203 (by decide), e 205 (by decide), e 206 (by decide), e 207 (by decide), e 208 (by decide), m, sm, eA, eL, e1, e2, eS]
  exact ⟨ha, h.2⟩
theorem xp_s (h : xp γ V) (a1 : (γ 1001 6).toInt = 1) (eA : γ' 1001 6 = γ 1001 6) (eL : γ' 1001 7 = γ 1001 7) (e1 : γ' 1001 8 = 0) (e2 : γ' 1001 9 = γ 1001 9) (eS : γ' 1001 10 = γ 1001 10) (hv : ∀ c, 205 ≤ c ∧ c ≤ 208 → V' c = V c) (sm : xI V' 181 32 = xI V 181 32) (hf : ∀ k, k < (γ 1001 10).toInt.toNat → xI V' 203 k = xI V 203 k) (ha : xA γ' (xI V' 203) (xI V' 204) (xI V' 181 31).toNat (xI V' 181 30).toNat (γ' 1001 5).toInt.toNat (γ 1001 10).toInt.toNat) : xp γ' V' := by
  have e : ∀ c, 205 ≤ c ∧ c ≤ 208 → xI V' c = xI V c := by intro c h1; funext i; unfold xI; rw [hv c h1]
  obtain ⟨_, hb, hl, _, h2⟩ := h
  rw [if_pos a1] at hb
  unfold xp
  rw [eA, eL, e1, e2, eS, sm, if_pos a1]
  refine ⟨fun _ => ha, ?_, ?_, (fun c => absurd c (by decide)), ?_⟩
  · intro j hj
    exact xSc_c (by rw [e 205 (by decide)]) (by rw [e 206 (by decide)]) (by rw [e 207 (by decide)]) (by rw [e 208 (by decide)]) (Nat.le_refl _) hf (hb j hj)
  · rw [e 205 (by decide), e 206 (by decide)]
    exact hl
  · intro c
    obtain ⟨c1, c2, c3⟩ := h2 c
    rw [e 205 (by decide), e 206 (by decide), e 207 (by decide)]
    exact ⟨c1, c2, fun q => xPr_c hf (c3 q)⟩
theorem x4_d (hg : ∀ i, γ' 1004 i = γ 1004 i) (h : V' 217 = V 217) (h2 : xI V' 181 49 = xI V 181 49) (hx : x4 γ V) : x4 γ' V' := by
  have e : xI V' 217 = xI V 217 := by funext i; unfold xI; rw [h]
  unfold x4 xPl at hx ⊢
  rw [e, h2, hg, hg, hg, hg, hg, hg]
  exact hx
end
theorem tXI_par {γ γ' : Gh} {M M' : Mem} (hX : tXI γ M) (hg : ∀ g i, g ≠ 1001 → γ' g i = γ g i) (hv : ∀ c, c ≠ 181 → c < 203 ∨ 208 < c → xv M' c = xv M c) (h49 : xI (xv M') 181 49 = xI (xv M) 181 49) (hp : xp γ' (xv M')) : tXI γ' M' := by
  obtain ⟨h2, h3, h4, h5, h6, h7, _⟩ := hX
  refine ⟨?_, x3_c (hv 201 (by decide) (by decide)) ?_, x4_d (fun i => hg _ i (by decide)) (hv 217 (by decide) (by decide)) h49 h4, x5_c (fun c c1 c2 => hv c (by omega) (by omega)) ?_, x6_c (hv 209 (by decide) (by decide)) (hv 215 (by decide) (by decide)) ?_, x7_c (hv 202 (by decide) (by decide)) ?_, hp⟩
  · unfold x2 at h2 ⊢
    rw [hg _ _ (by decide), hg _ _ (by decide), hg _ _ (by decide), hg _ _ (by decide)]
    exact h2
  · unfold x3 at h3 ⊢
    rw [hg _ _ (by decide), hg _ _ (by decide), hg _ _ (by decide)]
    exact h3
  · unfold x5 at h5 ⊢
    rw [hg 1005 0 (by decide), hg 1005 1 (by decide), hg 1005 2 (by decide), hg 1005 3 (by decide), hg 1005 4 (by decide), hg 1005 5 (by decide)]
    exact h5
  · unfold x6 at h6 ⊢
    rw [hg 1005 0 (by decide), hg 1005 1 (by decide), hg 1006 0 (by decide), hg 1006 1 (by decide), hg 1006 2 (by decide), hg 1006 4 (by decide), hg 1006 5 (by decide), hg 1006 6 (by decide), hg 1006 7 (by decide), hg 1006 8 (by decide)]
    exact h6
  · unfold x7 at h7 ⊢
    rw [hg 1007 0 (by decide), hg 1007 1 (by decide)]
    exact h7
theorem gN_up {γ γ' : Gh} {k : Nat} {x : Int32} (h : ∀ g i, g ≠ 1001 → γ' g i = γ g i) : ∀ g i, g ≠ 1001 → gUp γ' 1001 k x g i = γ g i := by
  intro g i hg
  unfold gUp
  cases hq : (Nat.beq g 1001 && Nat.beq i k) with
  | false => exact h g i hg
  | true =>
    rw [Bool.and_eq_true] at hq
    exact absurd (Nat.eq_of_beq_eq_true hq.1) hg
theorem gN_rf {γ : Gh} : ∀ g i, g ≠ 1001 → γ g i = γ g i := fun _ _ _ => rfl
theorem x8_g {s : List Int32} {γ γ' : Gh} (hg : ∀ g i, g ≠ 1001 → γ' g i = γ g i) (h : x8 (s, γ)) : x8 (s, γ') := by
  refine ⟨?_, ?_, ?_⟩
  · intro h0 c c1 c8
    have h0 : 0 ≤ (γ' 1010 0).toInt := h0
    rw [hg 1010 0 (by decide)] at h0
    have := h.1 h0 c c1 c8
    show s[(γ' 1010 0).toInt.toNat + c]? = some (γ' 1011 c)
    rw [hg 1010 0 (by decide), hg 1011 c (by decide)]
    exact this
  · show (γ' 1012 1).toInt = (γ' 1012 0).toInt / 4
    rw [hg 1012 1 (by decide), hg 1012 0 (by decide)]
    exact h.2.1
  · show γ' 1013 1 = bcI (γ' 1013 0)
    rw [hg 1013 1 (by decide), hg 1013 0 (by decide)]
    exact h.2.2
section
variable {s : List Int32} {γ γ' : Gh} {M : Mem}
theorem getB (hX : tXI γ M) (act : (γ 1001 6).toInt = 1) {w m : Int32} (hw : mSlot M 181 31 = some (.int w)) (hm : mSlot M 181 30 = some (.int m)) : xB (γ 1001 0).toInt (γ 1001 1).toInt (γ 1001 2).toInt (γ 1001 3).toInt (γ 1001 4).toInt (γ 1001 5).toInt (γ 1001 10).toInt (xI (xv M) 203) (xI (xv M) 204) w.toInt.toNat m.toInt.toNat (γ 1001 5).toInt.toNat (γ 1001 10).toInt.toNat := by
  have h := xA_B (hX.2.2.2.2.2.2.1 act)
  rw [xI_at rfl hw, xI_at rfl hm] at h
  exact h
theorem xI_oth {a i c : Nat} {v : Value} (h : c ≠ a) : xI (xv (mPut M a i v)) c = xI (xv M) c := by
  funext j
  exact xI_ne (Or.inl h)
/-- something more waits -/
theorem push_ok (h8 : x8 (s, γ)) (hX : tXI γ M) (hT : aTp s M) {w v w1 m : Int32} (hw : mSlot M 181 31 = some (.int w)) (hm : mSlot M 181 30 = some (.int m)) (w0 : 0 ≤ w.toInt) (w2 : w.toInt ≤ 178) (e : w1.toInt = w.toInt + 1) (hg : ∀ g i, g ≠ 1001 → γ' g i = γ g i) (eA : γ' 1001 6 = γ 1001 6) (eL : γ' 1001 7 = γ 1001 7) (e1 : γ' 1001 8 = γ 1001 8) (e2 : γ' 1001 9 = γ 1001 9) (eS : γ' 1001 10 = γ 1001 10) (hB : ∀ wb : Nat → Int, (∀ k, k < w.toInt.toNat → wb k = xI (xv M) 204 k) → wb w.toInt.toNat = v.toInt → xA γ' (xI (xv M) 203) wb (w.toInt.toNat + 1) m.toInt.toNat (γ' 1001 5).toInt.toNat (γ 1001 10).toInt.toNat) : aMem0 (s, γ') (mPut (mPut M 204 w.toInt.toNat (.int v)) 181 31 (.int w1)) := by
  have hd : mHd (mPut M 204 w.toInt.toNat (.int v)) 181 = some (tTag (tGrp 181), tSiz (tGrp 181)) := mHd_put.trans (hT.hd (by decide) (by decide))
  have r := i32_rng v
  refine aMem_mk (x8_g hg h8) ((hT.put (a := 204) (i := w.toInt.toNat) (v := .int v) (by decide) (by decide) ⟨_, rfl, r.1, r.2⟩).put (a := 181) (i := 31) (v := .int w1) (by decide) (by decide) ⟨_, rfl, ?_, ?_⟩) ?_
  · show (0 : Int) ≤ w1.toInt
    omega
  · show w1.toInt ≤ 180
    omega
  refine tXI_par hX hg (fun c c1 c2 => (xv_put c1).trans (xv_put (by omega))) ((xI_ne (Or.inr (by decide))).trans (xI_ne (Or.inl (by decide)))) ?_
  refine xp_w hX.2.2.2.2.2.2 eA eL e1 e2 eS (fun c c1 => (xv_put (by omega)).trans (xv_put (by omega))) ((xI_ne (Or.inr (by decide))).trans (xI_ne (Or.inl (by decide)))) ((xI_ne (Or.inr (by decide))).trans (xI_ne (Or.inl (by decide)))) (fun _ => ?_)
  rw [xI_oth (c := 204) (by decide), xI_put rfl hd (by decide), xI_at rfl hm, show w1.toInt.toNat = w.toInt.toNat + 1 by omega]
  exact hB _ (fun k hk => xI_ne (Or.inr (by omega))) (xI_put rfl (hT.hd (c := 204) (by decide) (by decide)) (by show _ < 180; omega))
/-- something waits no more -/
theorem pop_ok (h8 : x8 (s, γ)) (hX : tXI γ M) (hT : aTp s M) {w w1 m : Int32} (hw : mSlot M 181 31 = some (.int w)) (hm : mSlot M 181 30 = some (.int m)) (w0 : 1 ≤ w.toInt) (w2 : w.toInt ≤ 180) (e : w1.toInt = w.toInt - 1) (hg : ∀ g i, g ≠ 1001 → γ' g i = γ g i) (eA : γ' 1001 6 = γ 1001 6) (eL : γ' 1001 7 = γ 1001 7) (e1 : γ' 1001 8 = γ 1001 8) (e2 : γ' 1001 9 = γ 1001 9) (eS : γ' 1001 10 = γ 1001 10) (hB : xA γ' (xI (xv M) 203) (xI (xv M) 204) (w.toInt.toNat - 1) m.toInt.toNat (γ' 1001 5).toInt.toNat (γ 1001 10).toInt.toNat) : aMem0 (s, γ') (mPut M 181 31 (.int w1)) := by
  have hd := hT.hd (c := 181) (by decide) (by decide)
  refine aMem_mk (x8_g hg h8) (hT.put (by decide) (by decide) ⟨_, rfl, ?_, ?_⟩) ?_
  · show (0 : Int) ≤ w1.toInt
    omega
  · show w1.toInt ≤ 180
    omega
  refine tXI_par hX hg (fun c c1 c2 => xv_put c1) (xI_ne (Or.inr (by decide))) ?_
  refine xp_w hX.2.2.2.2.2.2 eA eL e1 e2 eS (fun c c1 => xv_put (by omega)) (xI_ne (Or.inr (by decide))) (xI_ne (Or.inr (by decide))) (fun _ => ?_)
  rw [xI_oth (c := 204) (by decide), xI_put rfl hd (by decide), xI_at rfl hm, show w1.toInt.toNat = w.toInt.toNat - 1 by omega]
  exact hB
/-- one code more -/
theorem note_ok (h8 : x8 (s, γ)) (hX : tXI γ M) (hT : aTp s M) (act : (γ 1001 6).toInt = 1) {w v m1 m : Int32} (hw : mSlot M 181 31 = some (.int w)) (hm : mSlot M 181 30 = some (.int m)) (w0 : 0 ≤ m.toInt) (w2 : m.toInt ≤ 178) (e : m1.toInt = m.toInt + 1) (hg : ∀ g i, g ≠ 1001 → γ' g i = γ g i) (eA : γ' 1001 6 = γ 1001 6) (eL : γ' 1001 7 = γ 1001 7) (e1 : γ' 1001 8 = 0) (e2 : γ' 1001 9 = γ 1001 9) (eS : γ' 1001 10 = γ 1001 10) (hB : ∀ g : Nat → Int, (∀ k, k < m.toInt.toNat → g k = xI (xv M) 203 k) → g m.toInt.toNat = v.toInt → xA γ' g (xI (xv M) 204) w.toInt.toNat (m.toInt.toNat + 1) (γ' 1001 5).toInt.toNat (γ 1001 10).toInt.toNat) : aMem0 (s, γ') (mPut (mPut M 203 m.toInt.toNat (.int v)) 181 30 (.int m1)) := by
  have hd : mHd (mPut M 203 m.toInt.toNat (.int v)) 181 = some (tTag (tGrp 181), tSiz (tGrp 181)) := mHd_put.trans (hT.hd (by decide) (by decide))
  have r := i32_rng v
  have hsg : (γ 1001 10).toInt.toNat ≤ m.toInt.toNat := (getB hX act hw hm).1.2.2.2
  refine aMem_mk (x8_g hg h8) ((hT.put (a := 203) (i := m.toInt.toNat) (v := .int v) (by decide) (by decide) ⟨_, rfl, r.1, r.2⟩).put (a := 181) (i := 30) (v := .int m1) (by decide) (by decide) ⟨_, rfl, ?_, ?_⟩) ?_
  · show (0 : Int) ≤ m1.toInt
    omega
  · show m1.toInt ≤ 180
    omega
  refine tXI_par hX hg (fun c c1 c2 => (xv_put c1).trans (xv_put (by omega))) ((xI_ne (Or.inr (by decide))).trans (xI_ne (Or.inl (by decide)))) ?_
  refine xp_s hX.2.2.2.2.2.2 act eA eL e1 e2 eS (fun c c1 => (xv_put (by omega)).trans (xv_put (by omega))) ((xI_ne (Or.inr (by decide))).trans (xI_ne (Or.inl (by decide)))) (fun k hk => (xI_ne (Or.inl (by decide))).trans (xI_ne (Or.inr (by omega)))) ?_
  rw [xI_oth (c := 203) (by decide), xI_oth (c := 204) (by decide), xI_oth (c := 204) (by decide), xI_put rfl hd (by decide), (xI_ne (Or.inr (by decide))).trans ((xI_ne (Or.inl (by decide))).trans (xI_at rfl hw)), show m1.toInt.toNat = m.toInt.toNat + 1 by omega]
  exact hB _ (fun k hk => xI_ne (Or.inr (by omega))) (xI_put rfl (hT.hd (c := 203) (by decide) (by decide)) (by show _ < 180; omega))
end
