/-! what leaves the deeds as they are: pages, the mule's seed, days of death; what makes does -/
set_option maxRecDepth 100000 in
theorem yP_m {o : Nat} {γ γ' : Gh} {T : YT} (h : yP o γ T) (e0 : ∀ i, Gi γ' 0 i = Gi γ 0 i) (e1 : ∀ i, Gi γ' 1 i = Gi γ 1 i) (e2 : ∀ i, Gi γ' 2 i = Gi γ 2 i) (e4 : ∀ i, Gi γ' 4 i = Gi γ 4 i) (e5 : ∀ i, Gi γ' 5 i = Gi γ 5 i) (e8 : ∀ i, Gi γ' 8 i = Gi γ 8 i) (e14 : ∀ i, Gi γ' 14 i = Gi γ 14 i) : yP o γ' T := by
  match o, h with
  | 0, h =>
    show yAll (Gi γ' 0 0) T
    rw [e0]; exact h
  | 1, h =>
    have h : yP1 γ T (Gi γ 0 0) (Gi γ 0 1) := h
    show yP1 γ' T (Gi γ' 0 0) (Gi γ' 0 1)
    unfold yP1 at h ⊢
    simp only [e0, e1, e2]; exact h
  | 2, h =>
    have h : yP2 γ T (Gi γ 0 0) := h
    show yP2 γ' T (Gi γ' 0 0)
    unfold yP2 at h ⊢
    simp only [e0, e4]; exact h
  | 5, h =>
    have h : yP5 γ T (Gi γ 0 0) := h
    show yP5 γ' T (Gi γ' 0 0)
    unfold yP5 at h ⊢
    simp only [e0, e4]; exact h
  | 6, h =>
    have h : yP6 γ T (Gi γ 0 0) := h
    show yP6 γ' T (Gi γ' 0 0)
    unfold yP6 at h ⊢
    simp only [e0, e5]; exact h
  | 7, h =>
    have h : yP7 γ T (Gi γ 0 0) := h
    show yP7 γ' T (Gi γ' 0 0)
    unfold yP7 at h ⊢
    simp only [e0, e14]; exact h
  | 8, h =>
    have h : yP8 γ T (Gi γ 0 0) := h
    show yP8 γ' T (Gi γ' 0 0)
    unfold yP8 at h ⊢
    simp only [e0, e5]; exact h
  | 9, h =>
    have h : yP9 γ T (Gi γ 0 0) := h
    show yP9 γ' T (Gi γ' 0 0)
    unfold yP9 at h ⊢
    simp only [e0, e14]; exact h
  | 10, h =>
    have h : yP10 γ T (Gi γ 0 0) := h
    show yP10 γ' T (Gi γ' 0 0)
    unfold yP10 at h ⊢
    simp only [e0, e8]; exact h
  | 11, h =>
    have h : yP11 γ T (Gi γ 8 1) := h
    show yP11 γ' T (Gi γ' 8 1)
    unfold yP11 at h ⊢
    simp only [e8]; exact h
  | 3, h => exact h.elim
  | 4, h => exact h.elim
  | n + 12, h => exact h.elim
/-- pages -/
theorem shl_r : ∀ k, k < 14 → 0 ≤ ((1 : Int32) <<< (Int32.ofNat k &&& 31)).toInt ∧ ((1 : Int32) <<< (Int32.ofNat k &&& 31)).toInt < 16384 := by decide
theorem shl_rng {x : Int32} (h0 : 0 ≤ x.toInt) (h1 : x.toInt ≤ 13) : 0 ≤ ((1 : Int32) <<< (x &&& 31)).toInt ∧ ((1 : Int32) <<< (x &&& 31)).toInt < 2 ^ 14 := by
  have h := shl_r x.toInt.toNat (by omega)
  rw [← i32_nat h0] at h
  exact h
theorem pgI_rng {a b c : Int32} (a0 : 0 ≤ a.toInt) (a1 : a.toInt ≤ 13) (b0 : 0 ≤ b.toInt) (b1 : b.toInt ≤ 13) (c0 : 0 ≤ c.toInt) (c1 : c.toInt ≤ 13) : 0 ≤ (pgI a b c).toInt ∧ (pgI a b c).toInt ≤ 16383 := by
  have p := shl_rng a0 a1
  have q := shl_rng b0 b1
  have r := shl_rng c0 c1
  have u := i32_or (k := 14) (by decide) p.1 q.1 p.2 q.2
  have v := i32_or (k := 14) (by decide) u.1 r.1 u.2 r.2
  have v2 : (pgI a b c).toInt < 2 ^ 14 := v.2
  exact ⟨v.1, by omega⟩
theorem lcI_rng {x : Int32} (h0 : 0 ≤ x.toInt) (h1 : x.toInt ≤ 65535) : 0 ≤ (lcI x).toInt ∧ (lcI x).toInt ≤ 65535 := by
  have e1 : (25173 * x : Int32).toInt = 25173 * x.toInt := by
    rw [i32_mul (by show -2147483648 ≤ 25173 * x.toInt; omega) (by show 25173 * x.toInt ≤ _; omega)]
    rfl
  have e2 : (25173 * x + 13849 : Int32).toInt = 25173 * x.toInt + 13849 := by
    rw [i32_add (by rw [e1]; show -2147483648 ≤ 25173 * x.toInt + 13849; omega) (by rw [e1]; show 25173 * x.toInt + 13849 ≤ _; omega), e1]
    rfl
  have r := i32_rem_nn (x := 25173 * x + 13849) (y := 65536) (by omega) (by decide)
  have r3 : (lcI x).toInt ≤ 65536 - 1 := r.2.2
  exact ⟨r.1, by omega⟩
theorem mdI_rng {d x : Int32} (h0 : 0 ≤ d.toInt) (h1 : d.toInt ≤ 999) (x0 : 0 ≤ x.toInt) : 1 ≤ (mdI d x).toInt ∧ (mdI d x).toInt ≤ 1006 := by
  have e1 : (d + 1).toInt = d.toInt + 1 := i32_inc h0 (by omega)
  have r := i32_rem_nn (x := x) (y := 7) x0 (by decide)
  have r3 : (x - x / 7 * 7).toInt ≤ 7 - 1 := r.2.2
  have e2 : (mdI d x).toInt = (d + 1).toInt + (x - x / 7 * 7).toInt := i32_add (by omega) (by omega)
  omega
set_option maxRecDepth 100000 in
theorem y9_pg {γ : Gh} {T : YT} {a b c : Int32} (h : y9 (gS γ) T) : y9 (gS (gUs γ [(1036, 0, a), (1036, 1, b), (1036, 2, c), (1036, 3, pgI a b c)])) T := by
  obtain ⟨o, ho, hp⟩ := h.2.1
  exact ⟨h.1, ⟨o, ho, yP_m hp (fun _ => rfl) (fun _ => rfl) (fun _ => rfl) (fun _ => rfl) (fun _ => rfl) (fun _ => rfl) (fun _ => rfl)⟩, h.2.2.1, ⟨rfl, h.2.2.2.1.2⟩, h.2.2.2.2.1, h.2.2.2.2.2⟩
set_option maxRecDepth 100000 in
theorem y9_mn {γ : Gh} {T : YT} {x : Int32} (h : y9 (gS γ) T) : y9 (gS (gUs γ [(1037, 0, x), (1037, 1, lcI x), (1037, 2, mdI 0 (lcI x)), (1037, 3, 0)])) T := by
  obtain ⟨o, ho, hp⟩ := h.2.1
  exact ⟨h.1, ⟨o, ho, yP_m hp (fun _ => rfl) (fun _ => rfl) (fun _ => rfl) (fun _ => rfl) (fun _ => rfl) (fun _ => rfl) (fun _ => rfl)⟩, h.2.2.1, ⟨h.2.2.2.1.1, rfl, rfl⟩, h.2.2.2.2.1, h.2.2.2.2.2⟩
theorem y9_mv {γ : Gh} {T : YT} {x v : Int32} (h : y9 (gS γ) T) (hv : lcI x = v) : y9 (gS (gUs γ [(1037, 0, x), (1037, 1, v), (1037, 2, mdI 0 v), (1037, 3, 0)])) T := by
  subst hv
  exact y9_mn h
set_option maxRecDepth 100000 in
theorem y9_mz {γ : Gh} {T : YT} {x : Int32} (h : y9 (gS γ) T) : y9 (gS (gUs γ [(1037, 2, mdI x (γ 1037 1)), (1037, 3, x)])) T := by
  obtain ⟨o, ho, hp⟩ := h.2.1
  exact ⟨h.1, ⟨o, ho, yP_m hp (fun _ => rfl) (fun _ => rfl) (fun _ => rfl) (fun _ => rfl) (fun _ => rfl) (fun _ => rfl) (fun _ => rfl)⟩, h.2.2.1, ⟨h.2.2.2.1.1, h.2.2.2.1.2.1, rfl⟩, h.2.2.2.2.1, h.2.2.2.2.2⟩
/-! makes -/
theorem n10 {γ : Gh} {T : YT} {k : Int} (h1 : (γ 1030 2).toInt = k) (hk : k ≠ 10) : Gi (gS γ) 0 2 ≠ 10 := by
  have e : Gi (gS γ) 0 2 = k := h1
  rw [e]; exact hk
theorem q3 {q : Nat} (h : q < 3) : q = 0 ∨ q = 1 ∨ q = 2 := by omega
set_option maxRecDepth 100000 in
theorem y9_mk0 {γ : Gh} {T : YT} {a b c : Int32} (h : y9 (gS γ) T) (h1 : (γ 1030 2).toInt = 0) : y9 (gS (gUs γ [(1030, 2, 2), (1034, 1, a), (1034, 2, b), (1034, 3, c), (1034, 4, -1), (1034, 5, -1), (1034, 6, -1)])) T := by
  have hp : yAll (Gi (gS γ) 0 0) T := y9_o (k := 0) h h1
  refine ⟨h.1, ⟨2, rfl, hp, ?_⟩, fun _ => h.2.2.1 (n10 (T := T) h1 (by decide)), h.2.2.2.1, h.2.2.2.2.1, h.2.2.2.2.2⟩
  intro q hq h0
  exfalso
  rcases q3 hq with rfl | rfl | rfl
  · exact absurd (show (0 : Int) ≤ -1 from h0) (by decide)
  · exact absurd (show (0 : Int) ≤ -1 from h0) (by decide)
  · exact absurd (show (0 : Int) ≤ -1 from h0) (by decide)
set_option maxRecDepth 100000 in
theorem y9_ml {γ : Gh} {T : YT} {q : Nat} {v : Int32} (h : y9 (gS γ) T) (h1 : (γ 1030 2).toInt = 2) (hq : q < 3) (hv : T 1 6 (γ 1034 (1 + q)).toInt.toNat = v.toInt) : y9 (gS (gUp γ 1034 (4 + q) v)) T := by
  have hp : yP2 (gS γ) T (Gi (gS γ) 0 0) := y9_o (k := 2) h h1
  refine ⟨h.1, ⟨2, h1, hp.1, ?_⟩, fun _ => h.2.2.1 (n10 (T := T) h1 (by decide)), h.2.2.2.1, h.2.2.2.2.1, h.2.2.2.2.2⟩
  intro p hp3 h4 h5
  have e5 : Gi (gS (gUp γ 1034 (4 + q) v)) 4 (1 + p) = Gi (gS γ) 4 (1 + p) := by
    show (gUp γ 1034 (4 + q) v 1034 (1 + p)).toInt = (γ 1034 (1 + p)).toInt
    rw [gUp_ne (Or.inr (by omega))]
  rw [e5] at h5 ⊢
  by_cases e : p = q
  · subst e
    have e4 : Gi (gS (gUp γ 1034 (4 + p) v)) 4 (4 + p) = v.toInt := by
      show (gUp γ 1034 (4 + p) v 1034 (4 + p)).toInt = v.toInt
      unfold gUp
      rw [Nat.beq_refl, Nat.beq_refl]
      rfl
    rw [e4]
    exact hv
  · have e4 : Gi (gS (gUp γ 1034 (4 + q) v)) 4 (4 + p) = Gi (gS γ) 4 (4 + p) := by
      show (gUp γ 1034 (4 + q) v 1034 (4 + p)).toInt = (γ 1034 (4 + p)).toInt
      rw [gUp_ne (Or.inr (by omega))]
    rw [e4] at h4 ⊢
    exact hp.2 p hp3 h4 h5
theorem yLk_6 {C R : Nat → Int} (h : yLk C R) : yLk C (fun f => if f = 6 then C 6 else R f) := by
  refine yLk_c (fun _ _ => rfl) (fun f _ => ?_) h
  by_cases e : f = 6
  · subst e
    rw [if_pos rfl]
    exact yRel_ne (by decide) (h.1 6 (by decide))
  · rw [if_neg e]
set_option maxRecDepth 100000 in
theorem y9_mk1 {γ : Gh} {T : YT} (h : y9 (gS γ) T) (h1 : (γ 1030 2).toInt = 2) : y9 (gS (gUs γ [(1030, 2, 5)])) T := by
  have hp : yP2 (gS γ) T (Gi (gS γ) 0 0) := y9_o (k := 2) h h1
  have h6 : ∀ d : Nat, (d : Int) < Gi (gS γ) 0 0 → T 0 6 d = T 1 6 d := fun d hd => yRel_ne (by decide) ((hp.1 d hd).1 6 (by decide))
  refine ⟨h.1, ⟨5, rfl, fun d hd => yLk_6 (hp.1 d hd), fun d hd _ => (h6 d hd).symm, ?_⟩, fun _ => h.2.2.1 (n10 (T := T) h1 (by decide)), h.2.2.2.1, h.2.2.2.2.1, h.2.2.2.2.2⟩
  intro q hq h4 h5 h7
  have e := hp.2 q hq h4 h5
  have h5 : 0 ≤ (γ 1034 (1 + q)).toInt := h5
  have h7 : (γ 1034 (1 + q)).toInt < Gi (gS γ) 0 0 := h7
  exact (h6 (γ 1034 (1 + q)).toInt.toNat (by omega)).trans e
set_option maxRecDepth 100000 in
theorem y9_ms {γ : Gh} {T : YT} {q : Nat} {v : Int} (h : y9 (gS γ) T) (h1 : (γ 1030 2).toInt = 5) (hq : q < 3) (h0 : 0 ≤ (γ 1034 (1 + q)).toInt) : y9 (gS γ) (yUp T 1 6 (γ 1034 (1 + q)).toInt.toNat v) := by
  have hp : yP5 (gS γ) T (Gi (gS γ) 0 0) := y9_o (k := 5) h h1
  refine ⟨h.1, ⟨5, h1, ?_, ?_, hp.2.2⟩, fun _ => h.2.2.1 (n10 (T := T) h1 (by decide)), h.2.2.2.1, h.2.2.2.2.1, h.2.2.2.2.2⟩
  · intro d hd
    refine yLk_c (fun _ _ => rfl) (fun f _ => ?_) (hp.1 d hd)
    by_cases e : f = 6
    · rw [if_pos e, if_pos e]
      rfl
    · rw [if_neg e, if_neg e]
      exact yUp_ne (Or.inr (Or.inl e))
  · intro d hd hn
    have hn2 : (d : Int) ≠ (γ 1034 (1 + q)).toInt := hn q hq
    have e := hp.2.1 d hd hn
    rw [yUp_ne (Or.inr (Or.inr (by omega)))]
    exact e
set_option maxRecDepth 100000 in
theorem y9_mr {γ : Gh} {T : YT} {q : Nat} {v : Int} (h : y9 (gS γ) T) (h1 : (γ 1030 2).toInt = 5) (hq : q < 3) (h0 : 0 ≤ (γ 1034 (1 + q)).toInt) (hv : (γ 1034 (4 + q)).toInt = v) (hv0 : 0 ≤ v) : y9 (gS (gUp γ 1034 (1 + q) (-1))) (yUp T 1 6 (γ 1034 (1 + q)).toInt.toNat v) := by
  have hp : yP5 (gS γ) T (Gi (gS γ) 0 0) := y9_o (k := 5) h h1
  have e4 : ∀ p, p < 3 → gUp γ 1034 (1 + q) (-1) 1034 (4 + p) = γ 1034 (4 + p) := fun p hp3 => gUp_ne (Or.inr (by omega))
  have e1 : ∀ p, p ≠ q → gUp γ 1034 (1 + q) (-1) 1034 (1 + p) = γ 1034 (1 + p) := fun p hpq => gUp_ne (Or.inr (by omega))
  have e2 : gUp γ 1034 (1 + q) (-1) 1034 (1 + q) = -1 := by
    unfold gUp
    rw [Nat.beq_refl, Nat.beq_refl]
    rfl
  refine ⟨h.1, ⟨5, h1, ?_, ?_, ?_⟩, fun _ => h.2.2.1 (n10 (T := T) h1 (by decide)), h.2.2.2.1, h.2.2.2.2.1, h.2.2.2.2.2⟩
  · intro d hd
    refine yLk_c (fun _ _ => rfl) (fun f _ => ?_) (hp.1 d hd)
    by_cases e : f = 6
    · rw [if_pos e, if_pos e]
      rfl
    · rw [if_neg e, if_neg e]
      exact yUp_ne (Or.inr (Or.inl e))
  · intro d hd hn
    by_cases e : (d : Int) = (γ 1034 (1 + q)).toInt
    · have e3 : d = (γ 1034 (1 + q)).toInt.toNat := by omega
      have hd2 : (d : Int) < Gi (gS γ) 0 0 := hd
      have w := hp.2.2 q hq (show 0 ≤ (γ 1034 (4 + q)).toInt by omega) h0 (by show (γ 1034 (1 + q)).toInt < _; omega)
      have w : T 0 6 (γ 1034 (1 + q)).toInt.toNat = (γ 1034 (4 + q)).toInt := w
      rw [← e3] at w ⊢
      rw [yUp_eq]
      show v = T 0 6 d
      omega
    · rw [yUp_ne (Or.inr (Or.inr (by omega)))]
      refine hp.2.1 d hd (fun p hp3 => ?_)
      by_cases e3 : p = q
      · subst e3; exact e
      · have w : (d : Int) ≠ (gUp γ 1034 (1 + q) (-1) 1034 (1 + p)).toInt := hn p hp3
        rw [e1 p e3] at w
        exact w
  · intro p hp3 h4 h5 h7
    by_cases e3 : p = q
    · subst e3
      have h5 : 0 ≤ (gUp γ 1034 (1 + p) (-1) 1034 (1 + p)).toInt := h5
      rw [e2] at h5
      exact absurd h5 (by decide)
    · have h4 : 0 ≤ (gUp γ 1034 (1 + q) (-1) 1034 (4 + p)).toInt := h4
      have h5 : 0 ≤ (gUp γ 1034 (1 + q) (-1) 1034 (1 + p)).toInt := h5
      have h7 : (gUp γ 1034 (1 + q) (-1) 1034 (1 + p)).toInt < Gi (gS γ) 0 0 := h7
      rw [e4 p hp3] at h4
      rw [e1 p e3] at h5 h7
      have w := hp.2.2 p hp3 h4 h5 h7
      show T 0 6 (gUp γ 1034 (1 + q) (-1) 1034 (1 + p)).toInt.toNat = (gUp γ 1034 (1 + q) (-1) 1034 (4 + p)).toInt
      rw [e1 p e3, e4 p hp3]
      exact w
set_option maxRecDepth 100000 in
theorem y9_mk2 {γ : Gh} {T : YT} (h : y9 (gS γ) T) (h1 : (γ 1030 2).toInt = 5) (a : (γ 1034 1).toInt = -1) (b : (γ 1034 2).toInt = -1) (c : (γ 1034 3).toInt = -1) : y9 (gS (gUs γ [(1030, 2, 0)])) T := by
  have hp : yP5 (gS γ) T (Gi (gS γ) 0 0) := y9_o (k := 5) h h1
  refine ⟨h.1, ⟨0, rfl, ?_⟩, fun _ => h.2.2.1 (n10 (T := T) h1 (by decide)), h.2.2.2.1, h.2.2.2.2.1, h.2.2.2.2.2⟩
  intro d hd
  have e := hp.2.1 d hd (fun q hq => by
    show (d : Int) ≠ (γ 1034 (1 + q)).toInt
    rcases q3 hq with rfl | rfl | rfl
    · show (d : Int) ≠ (γ 1034 1).toInt
      omega
    · show (d : Int) ≠ (γ 1034 2).toInt
      omega
    · show (d : Int) ≠ (γ 1034 3).toInt
      omega)
  refine yLk_c (fun _ _ => rfl) (fun f _ => ?_) (hp.1 d hd)
  by_cases e6 : f = 6
  · subst e6
    rw [if_pos rfl]
    exact e
  · rw [if_neg e6]
/-! days of death -/
set_option maxRecDepth 100000 in
theorem y9_do {γ : Gh} {T : YT} {x v : Int32} (h : y9 (gS γ) T) (h1 : (γ 1045 0).toInt = 0) (x0 : 0 ≤ x.toInt) (x1 : x.toInt < 10) (hv : T 6 0 x.toInt.toNat = v.toInt) : y9 (gS (gUs γ [(1045, 0, 1), (1045, 1, x), (1045, 2, v), (1045, 3, v)])) T := by
  obtain ⟨o, ho, hp⟩ := h.2.1
  have he := h.2.2.2.2.2
  refine ⟨h.1, ⟨o, ho, yP_m hp (fun _ => rfl) (fun _ => rfl) (fun _ => rfl) (fun _ => rfl) (fun _ => rfl) (fun _ => rfl) (fun _ => rfl)⟩, h.2.2.1, h.2.2.2.1, h.2.2.2.2.1, ?_, ?_⟩
  · intro p hp10 _
    exact he.1 p hp10 (Or.inl h1)
  · intro _
    exact ⟨⟨x0, x1⟩, hv, (he.1 x.toInt.toNat (by omega) (Or.inl h1)).symm.trans hv⟩
set_option maxRecDepth 100000 in
theorem y9_dg {γ : Gh} {T : YT} (h : y9 (gS γ) T) (h1 : (γ 1045 0).toInt = 1) : T 6 0 (γ 1045 1).toInt.toNat = (γ 1045 2).toInt ∧ T 7 0 (γ 1045 1).toInt.toNat = (γ 1045 3).toInt := (h.2.2.2.2.2.2 h1).2
set_option maxRecDepth 100000 in
theorem yP_t {o : Nat} {γ : Gh} {T T' : YT} (h : yP o γ T) (e : ∀ t, t < 6 → T' t = T t) : yP o γ T' := by
  have e0 := e 0 (by decide)
  have e1 := e 1 (by decide)
  have e2 := e 2 (by decide)
  have e3 := e 3 (by decide)
  have e4 := e 4 (by decide)
  have e5 := e 5 (by decide)
  match o, h with
  | 0, h =>
    have h : yAll (Gi γ 0 0) T := h
    show yAll (Gi γ 0 0) T'
    unfold yAll at h ⊢
    rw [e0, e1]; exact h
  | 1, h =>
    have h : yP1 γ T (Gi γ 0 0) (Gi γ 0 1) := h
    show yP1 γ T' (Gi γ 0 0) (Gi γ 0 1)
    unfold yP1 at h ⊢
    rw [e0, e1]; exact h
  | 2, h =>
    have h : yP2 γ T (Gi γ 0 0) := h
    show yP2 γ T' (Gi γ 0 0)
    unfold yP2 yAll at h ⊢
    rw [e0, e1]; exact h
  | 5, h =>
    have h : yP5 γ T (Gi γ 0 0) := h
    show yP5 γ T' (Gi γ 0 0)
    unfold yP5 at h ⊢
    rw [e0, e1]; exact h
  | 6, h =>
    have h : yP6 γ T (Gi γ 0 0) := h
    show yP6 γ T' (Gi γ 0 0)
    unfold yP6 at h ⊢
    rw [e0, e1, e4]; exact h
  | 7, h =>
    have h : yP7 γ T (Gi γ 0 0) := h
    show yP7 γ T' (Gi γ 0 0)
    unfold yP7 at h ⊢
    rw [e0, e1, e5]; exact h
  | 8, h =>
    have h : yP8 γ T (Gi γ 0 0) := h
    show yP8 γ T' (Gi γ 0 0)
    unfold yP8 yAll at h ⊢
    rw [e0, e1, e4]; exact h
  | 9, h =>
    have h : yP9 γ T (Gi γ 0 0) := h
    show yP9 γ T' (Gi γ 0 0)
    unfold yP9 yAll at h ⊢
    rw [e0, e1, e5]; exact h
  | 10, h =>
    have h : yP10 γ T (Gi γ 0 0) := h
    show yP10 γ T' (Gi γ 0 0)
    unfold yP10 yAll yCp at h ⊢
    rw [e0, e1, e2, e3]; exact h
  | 11, h =>
    have h : yP11 γ T (Gi γ 8 1) := h
    show yP11 γ T' (Gi γ 8 1)
    unfold yP11 yCp at h ⊢
    rw [e0, e1, e2, e3]; exact h
  | 3, h => exact h.elim
  | 4, h => exact h.elim
  | n + 12, h => exact h.elim
set_option maxRecDepth 100000 in
/-- a day of death is written, class; the reference holds the old one -/
theorem y9_dx {γ : Gh} {T : YT} {x v w : Int32} (h : y9 (gS γ) T) (h1 : (γ 1045 0).toInt = 0) (x0 : 0 ≤ x.toInt) (x1 : x.toInt < 10) (hw : T 7 0 x.toInt.toNat = w.toInt) : y9 (gS (gUs γ [(1045, 0, 1), (1045, 1, x), (1045, 2, v), (1045, 3, w)])) (yUp T 6 0 x.toInt.toNat v.toInt) := by
  obtain ⟨o, ho, hp⟩ := h.2.1
  have he := h.2.2.2.2.2
  have et : ∀ t, t < 6 → yUp T 6 0 x.toInt.toNat v.toInt t = T t := fun t ht => by
    funext f d
    exact yUp_ne (Or.inl (by omega))
  refine ⟨h.1, ⟨o, ho, yP_t (yP_m hp (fun _ => rfl) (fun _ => rfl) (fun _ => rfl) (fun _ => rfl) (fun _ => rfl) (fun _ => rfl) (fun _ => rfl)) et⟩, h.2.2.1, h.2.2.2.1, h.2.2.2.2.1, ?_, ?_⟩
  · intro p hp10 hq
    have hn : (p : Int) ≠ x.toInt := by
      rcases hq with hq | hq
      · exact absurd (show (1 : Int) = 0 from hq) (by decide)
      · exact hq
    rw [yUp_ne (Or.inr (Or.inr (by omega))), yUp_ne (Or.inl (by decide))]
    exact he.1 p hp10 (Or.inl h1)
  · intro _
    exact ⟨⟨x0, x1⟩, yUp_eq, hw⟩
set_option maxRecDepth 100000 in
theorem y9_dm {γ : Gh} {T : YT} {v : Int32} (h : y9 (gS γ) T) (h1 : (γ 1045 0).toInt = 1) : y9 (gS (gUs γ [(1045, 3, v)])) (yUp T 7 0 (γ 1045 1).toInt.toNat v.toInt) := by
  obtain ⟨o, ho, hp⟩ := h.2.1
  have he := h.2.2.2.2.2
  have hb : 0 ≤ (γ 1045 1).toInt ∧ (γ 1045 1).toInt < 10 := (he.2 h1).1
  have et : ∀ t, t < 6 → yUp T 7 0 (γ 1045 1).toInt.toNat v.toInt t = T t := fun t ht => by
    funext f d
    exact yUp_ne (Or.inl (by omega))
  refine ⟨h.1, ⟨o, ho, yP_t (yP_m hp (fun _ => rfl) (fun _ => rfl) (fun _ => rfl) (fun _ => rfl) (fun _ => rfl) (fun _ => rfl) (fun _ => rfl)) et⟩, h.2.2.1, h.2.2.2.1, h.2.2.2.2.1, ?_, ?_⟩
  · intro p hp10 hq
    have hq : (γ 1045 0).toInt = 0 ∨ (p : Int) ≠ (γ 1045 1).toInt := hq
    have hn : (p : Int) ≠ (γ 1045 1).toInt := by
      rcases hq with hq | hq
      · rw [h1] at hq; exact absurd hq (by decide)
      · exact hq
    rw [yUp_ne (T := T) (t := 7) (t' := 7) (Or.inr (Or.inr (by omega))), yUp_ne (Or.inl (by decide))]
    exact he.1 p hp10 (Or.inr hn)
  · intro _
    exact ⟨hb, (he.2 h1).2.1, yUp_eq⟩
set_option maxRecDepth 100000 in
theorem y9_dk {γ : Gh} {T : YT} (h : y9 (gS γ) T) (h1 : (γ 1045 0).toInt = 1) (e : (γ 1045 2).toInt = (γ 1045 3).toInt) : y9 (gS (gUs γ [(1045, 0, 0)])) T := by
  obtain ⟨o, ho, hp⟩ := h.2.1
  have he := h.2.2.2.2.2
  refine ⟨h.1, ⟨o, ho, yP_m hp (fun _ => rfl) (fun _ => rfl) (fun _ => rfl) (fun _ => rfl) (fun _ => rfl) (fun _ => rfl) (fun _ => rfl)⟩, h.2.2.1, h.2.2.2.1, h.2.2.2.2.1, ?_, ?_⟩
  · intro p hp10 _
    by_cases q : (p : Int) = (γ 1045 1).toInt
    · have w := (he.2 h1).2
      have w1 : T 6 0 (γ 1045 1).toInt.toNat = (γ 1045 2).toInt := w.1
      have w2 : T 7 0 (γ 1045 1).toInt.toNat = (γ 1045 3).toInt := w.2
      have ep : p = (γ 1045 1).toInt.toNat := by omega
      rw [ep, w1, w2]
      exact e
    · exact he.1 p hp10 (Or.inr q)
  · intro hq
    exact absurd (show (0 : Int) = 1 from hq) (by decide)
