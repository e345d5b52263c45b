/-! the ways of mules -/
set_option maxRecDepth 100000 in
theorem y9_cs0 {γ : Gh} {T : YT} (h : y9 (gS γ) T) (h1 : (γ 1030 2).toInt = 0) : y9 (gS (gUs γ [(1030, 2, 8), (1035, 3, 0), (1035, 4, -1)])) T := by
  have hp : yAll (Gi (gS γ) 0 0) T := y9_o (k := 0) h h1
  refine ⟨h.1, ⟨8, rfl, hp, by show (0 : Int) ≤ 0; decide, ?_, ?_⟩, fun _ => h.2.2.1 (n10 (T := T) h1 (by decide)), h.2.2.2.1, h.2.2.2.2.1, h.2.2.2.2.2⟩
  · intro _ k hk
    have hk : (k : Int) < 0 := hk
    omega
  · intro h0
    exact absurd (show (0 : Int) ≤ -1 from h0) (by decide)
set_option maxRecDepth 100000 in
theorem y9_csl {γ : Gh} {T : YT} {x : Int32} (h : y9 (gS γ) T) (h1 : (γ 1030 2).toInt = 8) (x1 : x.toInt < (γ 1030 0).toInt) (hv : T 1 7 x.toInt.toNat = -1) : y9 (gS (gUs γ [(1035, 4, x)])) T := by
  have hp : yP8 (gS γ) T (Gi (gS γ) 0 0) := y9_o (k := 8) h h1
  exact ⟨h.1, ⟨8, h1, hp.1, hp.2.1, hp.2.2.1, fun _ => ⟨x1, hv⟩⟩, fun _ => h.2.2.1 (n10 (T := T) h1 (by decide)), h.2.2.2.1, h.2.2.2.2.1, h.2.2.2.2.2⟩
set_option maxRecDepth 100000 in
theorem y9_css {γ : Gh} {T : YT} {c x : Int32} {i : Nat} (h : y9 (gS γ) T) (h1 : (γ 1030 2).toInt = 8) (hc : c.toInt = (γ 1035 3).toInt + 1) (hx : x.toInt = (γ 1035 4).toInt) (x0 : 0 ≤ x.toInt) (c0 : 0 ≤ (γ 1035 3).toInt) (hi : (γ 1035 3).toInt ≤ 3 → (γ 1035 3).toInt = i) : y9 (gS (gUs γ [(1035, 3, c)])) (yUp T 4 0 i x.toInt) := by
  have hp : yP8 (gS γ) T (Gi (gS γ) 0 0) := y9_o (k := 8) h h1
  have hw : (γ 1035 4).toInt < Gi (gS γ) 0 0 ∧ T 1 7 (γ 1035 4).toInt.toNat = -1 := hp.2.2.2 (show 0 ≤ (γ 1035 4).toInt by omega)
  refine ⟨h.1, ⟨8, h1, hp.1, by show 0 ≤ c.toInt; omega, ?_, hp.2.2.2⟩, fun _ => h.2.2.1 (n10 (T := T) h1 (by decide)), h.2.2.2.1, h.2.2.2.2.1, h.2.2.2.2.2⟩
  intro hc4 k hk
  have hc4 : c.toInt ≤ 4 := hc4
  have hk : (k : Int) < c.toInt := hk
  have hi := hi (by omega)
  show 0 ≤ yUp T 4 0 i x.toInt 4 0 k ∧ yUp T 4 0 i x.toInt 4 0 k < Gi (gS γ) 0 0 ∧ T 1 7 (yUp T 4 0 i x.toInt 4 0 k).toNat = -1
  by_cases e : k = i
  · subst e
    rw [yUp_eq, hx]
    exact ⟨by omega, hw.1, hw.2⟩
  · rw [yUp_ne (Or.inr (Or.inr e))]
    exact hp.2.2.1 (show (γ 1035 3).toInt ≤ 4 by omega) k (show (k : Int) < (γ 1035 3).toInt by omega)
set_option maxRecDepth 100000 in
theorem y9_csf {γ : Gh} {T : YT} (h : y9 (gS γ) T) (h1 : (γ 1030 2).toInt = 8) : y9 (gS (gUs γ [(1030, 2, 0)])) T := by
  have hp : yP8 (gS γ) T (Gi (gS γ) 0 0) := y9_o (k := 8) h h1
  exact ⟨h.1, ⟨0, rfl, hp.1⟩, fun _ => h.2.2.1 (n10 (T := T) h1 (by decide)), h.2.2.2.1, h.2.2.2.2.1, h.2.2.2.2.2⟩
set_option maxRecDepth 100000 in
theorem y9_wy0 {γ : Gh} {T : YT} (h : y9 (gS γ) T) (h1 : (γ 1030 2).toInt = 8) (hc : (γ 1035 3).toInt ≤ 4) : y9 (gS (gUs γ [(1030, 2, 6), (1035, 0, 0), (1035, 1, -1), (1035, 2, -1), (1035, 5, 0)])) T := by
  have hp : yP8 (gS γ) T (Gi (gS γ) 0 0) := y9_o (k := 8) h h1
  refine ⟨h.1, ⟨6, rfl, ⟨hp.2.1, hc, by show (0 : Int) ≤ 0; decide⟩, ?_, ?_, ⟨?_, ?_⟩, ?_⟩, fun _ => h.2.2.1 (n10 (T := T) h1 (by decide)), h.2.2.2.1, h.2.2.2.2.1, h.2.2.2.2.2⟩
  · intro k hk
    obtain ⟨a, b, c⟩ := hp.2.2.1 hc k hk
    have hl := hp.1 (T 4 0 k).toNat (by omega)
    have h7 : T 0 7 (T 4 0 k).toNat = 1000000 := by
      have q : (T 0 7 (T 4 0 k).toNat = 1000000 ∧ T 1 7 (T 4 0 k).toNat = -1) ∨ (T 0 7 (T 4 0 k).toNat = T 1 7 (T 4 0 k).toNat ∧ 0 ≤ T 0 7 (T 4 0 k).toNat ∧ T 0 7 (T 4 0 k).toNat ≤ 1006) := hl.1 7 (by decide)
      omega
    exact ⟨⟨a, b⟩, h7, (hl.2.1 h7).1⟩
  · intro d hd
    have hl := hp.1 d hd
    refine ⟨fun f hf h7 _ => yRel_ne h7 (hl.1 f hf), hl.2, Or.inl ⟨hl.1 7 (by decide), yRel_ne (by decide) (hl.1 8 (by decide))⟩⟩
  · intro h0
    exact absurd (show (0 : Int) ≤ -1 from h0) (by decide)
  · intro h0
    exact absurd (show (0 : Int) ≤ -1 from h0) (by decide)
  · intro h0
    exact absurd (show (0 : Int) = 1 from h0) (by decide)
set_option maxRecDepth 100000 in
theorem y9_wl {γ : Gh} {T : YT} {k v : Int32} (h : y9 (gS γ) T) (h1 : (γ 1030 2).toInt = 6) (k0 : 0 ≤ k.toInt) (k1 : k.toInt < (γ 1035 3).toInt) (hv : T 4 0 k.toInt.toNat = v.toInt) : y9 (gS (gUs γ [(1035, 1, v), (1035, 2, k)])) T := by
  have hp : yP6 (gS γ) T (Gi (gS γ) 0 0) := y9_o (k := 6) h h1
  exact ⟨h.1, ⟨6, h1, hp.1, hp.2.1, hp.2.2.1, ⟨fun _ => k0, fun _ => ⟨k1, hv⟩⟩, hp.2.2.2.2⟩, fun _ => h.2.2.1 (n10 (T := T) h1 (by decide)), h.2.2.2.1, h.2.2.2.2.1, h.2.2.2.2.2⟩
set_option maxRecDepth 100000 in
theorem y9_ww {γ : Gh} {T : YT} {f : Nat} {v : Int} (h : y9 (gS γ) T) (h1 : (γ 1030 2).toInt = 6) (hf : f = 7 ∨ f = 8) (x0 : 0 ≤ (γ 1035 1).toInt) (j0 : (γ 1035 0).toInt = 0) : y9 (gS (gUs γ [(1035, 5, 0)])) (yUp T 1 f (γ 1035 1).toInt.toNat v) := by
  have hp : yP6 (gS γ) T (Gi (gS γ) 0 0) := y9_o (k := 6) h h1
  have hD : (0 ≤ (γ 1035 1).toInt → 0 ≤ (γ 1035 2).toInt) ∧ (0 ≤ (γ 1035 2).toInt → (γ 1035 2).toInt < (γ 1035 3).toInt ∧ T 4 0 (γ 1035 2).toInt.toNat = (γ 1035 1).toInt) := hp.2.2.2.1
  have d2 := hD.1 x0
  have d3 := hD.2 d2
  refine ⟨h.1, ⟨6, h1, hp.1, hp.2.1, ?_, hp.2.2.2.1, ?_⟩, fun _ => h.2.2.1 (n10 (T := T) h1 (by decide)), h.2.2.2.1, h.2.2.2.2.1, h.2.2.2.2.2⟩
  · intro d hd
    obtain ⟨a, b, c⟩ := hp.2.2.1 d hd
    refine ⟨fun g hg g7 g8 => ?_, b, ?_⟩
    · show T 0 g d = yUp T 1 f (γ 1035 1).toInt.toNat v 1 g d
      have gf : g ≠ f := fun e => by
        rcases hf with hf | hf
        · exact g7 (e.trans hf)
        · exact g8 (e.trans hf)
      rw [yUp_ne (Or.inr (Or.inl gf))]
      exact a g hg g7 g8
    · by_cases e : d = (γ 1035 1).toInt.toNat
      · refine Or.inr ⟨(γ 1035 2).toInt.toNat, ?_, ?_, ?_⟩
        · show (γ 1035 0).toInt ≤ _
          omega
        · show _ < (γ 1035 3).toInt
          omega
        · show T 4 0 (γ 1035 2).toInt.toNat = _
          omega
      · have e7 : yUp T 1 f (γ 1035 1).toInt.toNat v 1 7 d = T 1 7 d := yUp_ne (Or.inr (Or.inr e))
        have e8 : yUp T 1 f (γ 1035 1).toInt.toNat v 1 8 d = T 1 8 d := yUp_ne (Or.inr (Or.inr e))
        rw [e7, e8]
        exact c
  · intro h0
    exact absurd (show (0 : Int) = 1 from h0) (by decide)
set_option maxRecDepth 100000 in
theorem y9_wr1 {γ : Gh} {T : YT} (h : y9 (gS γ) T) (h1 : (γ 1030 2).toInt = 6) (k0 : 0 ≤ (γ 1035 2).toInt) (jk : (γ 1035 0).toInt = (γ 1035 2).toInt) : y9 (gS (gUs γ [(1035, 5, 1)])) (yUp T 1 7 (γ 1035 1).toInt.toNat (-1)) := by
  have hp : yP6 (gS γ) T (Gi (gS γ) 0 0) := y9_o (k := 6) h h1
  have hD : (0 ≤ (γ 1035 1).toInt → 0 ≤ (γ 1035 2).toInt) ∧ (0 ≤ (γ 1035 2).toInt → (γ 1035 2).toInt < (γ 1035 3).toInt ∧ T 4 0 (γ 1035 2).toInt.toNat = (γ 1035 1).toInt) := hp.2.2.2.1
  have d3 := hD.2 k0
  have hB := (hp.2.1 (γ 1035 2).toInt.toNat (show (((γ 1035 2).toInt.toNat : Nat) : Int) < (γ 1035 3).toInt by omega)).1
  refine ⟨h.1, ⟨6, h1, hp.1, hp.2.1, ?_, hp.2.2.2.1, ?_⟩, fun _ => h.2.2.1 (n10 (T := T) h1 (by decide)), h.2.2.2.1, h.2.2.2.2.1, h.2.2.2.2.2⟩
  · intro d hd
    obtain ⟨a, b, c⟩ := hp.2.2.1 d hd
    refine ⟨fun g hg g7 g8 => ?_, b, ?_⟩
    · show T 0 g d = yUp T 1 7 (γ 1035 1).toInt.toNat (-1) 1 g d
      rw [yUp_ne (Or.inr (Or.inl g7))]
      exact a g hg g7 g8
    · by_cases e : d = (γ 1035 1).toInt.toNat
      · refine Or.inr ⟨(γ 1035 2).toInt.toNat, ?_, ?_, ?_⟩
        · show (γ 1035 0).toInt ≤ _
          omega
        · show _ < (γ 1035 3).toInt
          omega
        · show T 4 0 (γ 1035 2).toInt.toNat = _
          omega
      · have e7 : yUp T 1 7 (γ 1035 1).toInt.toNat (-1) 1 7 d = T 1 7 d := yUp_ne (Or.inr (Or.inr e))
        have e8 : yUp T 1 7 (γ 1035 1).toInt.toNat (-1) 1 8 d = T 1 8 d := yUp_ne (Or.inr (Or.inr e))
        rw [e7, e8]
        exact c
  · intro _ _
    show yUp T 1 7 (γ 1035 1).toInt.toNat (-1) 1 7 (T 4 0 (γ 1035 0).toInt.toNat).toNat = -1
    rw [jk, d3.2, yUp_eq]
set_option maxRecDepth 100000 in
theorem y9_wr2 {γ : Gh} {T : YT} {j : Int32} (h : y9 (gS γ) T) (h1 : (γ 1030 2).toInt = 6) (k0 : 0 ≤ (γ 1035 2).toInt) (jk : (γ 1035 0).toInt = (γ 1035 2).toInt) (ht : (γ 1035 5).toInt = 1) (hj : j.toInt = (γ 1035 0).toInt + 1) : y9 (gS (gUs γ [(1035, 0, j), (1035, 5, 0)])) (yUp T 1 8 (γ 1035 1).toInt.toNat (-1)) := by
  have hp : yP6 (gS γ) T (Gi (gS γ) 0 0) := y9_o (k := 6) h h1
  have hD : (0 ≤ (γ 1035 1).toInt → 0 ≤ (γ 1035 2).toInt) ∧ (0 ≤ (γ 1035 2).toInt → (γ 1035 2).toInt < (γ 1035 3).toInt ∧ T 4 0 (γ 1035 2).toInt.toNat = (γ 1035 1).toInt) := hp.2.2.2.1
  have d3 := hD.2 k0
  have hE : T 1 7 (T 4 0 (γ 1035 0).toInt.toNat).toNat = -1 := hp.2.2.2.2 ht (show (γ 1035 0).toInt < (γ 1035 3).toInt by omega)
  rw [jk, d3.2] at hE
  have hB := hp.2.1 (γ 1035 2).toInt.toNat (show (((γ 1035 2).toInt.toNat : Nat) : Int) < (γ 1035 3).toInt by omega)
  rw [d3.2] at hB
  have hA : 0 ≤ (γ 1035 3).toInt ∧ (γ 1035 3).toInt ≤ 4 ∧ 0 ≤ (γ 1035 0).toInt := hp.1
  refine ⟨h.1, ⟨6, h1, ⟨hA.1, hA.2.1, by show 0 ≤ j.toInt; omega⟩, hp.2.1, ?_, hp.2.2.2.1, ?_⟩, fun _ => h.2.2.1 (n10 (T := T) h1 (by decide)), h.2.2.2.1, h.2.2.2.2.1, h.2.2.2.2.2⟩
  · intro d hd
    obtain ⟨a, b, c⟩ := hp.2.2.1 d hd
    have e7 : yUp T 1 8 (γ 1035 1).toInt.toNat (-1) 1 7 d = T 1 7 d := yUp_ne (Or.inr (Or.inl (by decide)))
    refine ⟨fun g hg g7 g8 => ?_, b, ?_⟩
    · show T 0 g d = yUp T 1 8 (γ 1035 1).toInt.toNat (-1) 1 g d
      rw [yUp_ne (Or.inr (Or.inl g8))]
      exact a g hg g7 g8
    · rw [e7]
      by_cases e : d = (γ 1035 1).toInt.toNat
      · have e8 : yUp T 1 8 (γ 1035 1).toInt.toNat (-1) 1 8 d = -1 := by rw [e, yUp_eq]
        rw [e8]
        rw [← e] at hE hB
        exact Or.inl ⟨Or.inl ⟨hB.2.1, hE⟩, hB.2.2⟩
      · have e8 : yUp T 1 8 (γ 1035 1).toInt.toNat (-1) 1 8 d = T 1 8 d := yUp_ne (Or.inr (Or.inr e))
        rw [e8]
        rcases c with c | ⟨k, k1, k2, k3⟩
        · exact Or.inl c
        · refine Or.inr ⟨k, ?_, k2, k3⟩
          have k1 : (γ 1035 0).toInt ≤ k := k1
          show j.toInt ≤ k
          have kn : k ≠ (γ 1035 2).toInt.toNat := by
            intro ek
            subst ek
            omega
          omega
  · intro h0
    exact absurd (show (0 : Int) = 1 from h0) (by decide)
set_option maxRecDepth 100000 in
theorem y9_we {γ : Gh} {T : YT} (h : y9 (gS γ) T) (h1 : (γ 1030 2).toInt = 6) (hj : (γ 1035 3).toInt ≤ (γ 1035 0).toInt) : y9 (gS (gUs γ [(1030, 2, 0)])) T := by
  have hp : yP6 (gS γ) T (Gi (gS γ) 0 0) := y9_o (k := 6) h h1
  refine ⟨h.1, ⟨0, rfl, ?_⟩, fun _ => h.2.2.1 (n10 (T := T) h1 (by decide)), h.2.2.2.1, h.2.2.2.2.1, h.2.2.2.2.2⟩
  intro d hd
  obtain ⟨a, b, c⟩ := hp.2.2.1 d hd
  rcases c with c | ⟨k, k1, k2, _⟩
  · refine ⟨fun f hf => ?_, b⟩
    by_cases e7 : f = 7
    · subst e7; exact c.1
    · by_cases e8 : f = 8
      · subst e8; exact yRel_eq (by decide) c.2
      · exact yRel_eq e7 (a f hf e7 e8)
  · have k1 : (γ 1035 0).toInt ≤ k := k1
    have k2 : (k : Int) < (γ 1035 3).toInt := k2
    omega
/-! the same, class -/
set_option maxRecDepth 100000 in
theorem y9_cw0 {γ : Gh} {T : YT} (h : y9 (gS γ) T) (h1 : (γ 1030 2).toInt = 9) : y9 (gS (gUs γ [(1030, 2, 7), (1044, 0, 0), (1044, 1, -1), (1044, 2, -1), (1044, 4, 0)])) T := by
  have hp : yP9 (gS γ) T (Gi (gS γ) 0 0) := y9_o (k := 9) h h1
  refine ⟨h.1, ⟨7, rfl, ⟨hp.2.1.1, hp.2.1.2, by show (0 : Int) ≤ 0; decide⟩, ?_, ?_, ⟨?_, ?_⟩, ?_, ?_⟩, fun _ => h.2.2.1 (n10 (T := T) h1 (by decide)), h.2.2.2.1, h.2.2.2.2.1, h.2.2.2.2.2⟩
  · intro k hk
    obtain ⟨a, b, c⟩ := hp.2.2 k hk
    have hl := hp.1 (T 5 0 k).toNat (by omega)
    have h7 : T 1 7 (T 5 0 k).toNat = -1 := by
      have q : (T 0 7 (T 5 0 k).toNat = 1000000 ∧ T 1 7 (T 5 0 k).toNat = -1) ∨ (T 0 7 (T 5 0 k).toNat = T 1 7 (T 5 0 k).toNat ∧ 0 ≤ T 0 7 (T 5 0 k).toNat ∧ T 0 7 (T 5 0 k).toNat ≤ 1006) := hl.1 7 (by decide)
      omega
    have h8 : T 0 8 (T 5 0 k).toNat = T 1 8 (T 5 0 k).toNat := yRel_ne (by decide) (hl.1 8 (by decide))
    have h9 : T 0 9 (T 5 0 k).toNat = T 1 9 (T 5 0 k).toNat := yRel_ne (by decide) (hl.1 9 (by decide))
    have q : T 0 8 (T 5 0 k).toNat = -1 ∧ T 0 9 (T 5 0 k).toNat = 0 := hl.2.1 c
    exact ⟨⟨a, b⟩, h7, by omega, by omega⟩
  · intro d hd
    have hl := hp.1 d hd
    exact ⟨fun f hf => yRel_ne (by omega) (hl.1 f (by omega)), Or.inl ⟨hl.1 7 (by decide), yRel_ne (by decide) (hl.1 8 (by decide)), yRel_ne (by decide) (hl.1 9 (by decide)), hl.2⟩⟩
  · intro h0
    exact absurd (show (0 : Int) ≤ -1 from h0) (by decide)
  · intro h0
    exact absurd (show (0 : Int) ≤ -1 from h0) (by decide)
  · intro h0
    exact absurd (show (1 : Int) ≤ 0 from h0) (by decide)
  · intro h0
    exact absurd (show (2 : Int) ≤ 0 from h0) (by decide)
set_option maxRecDepth 100000 in
theorem y9_vl {γ : Gh} {T : YT} {k v : Int32} (h : y9 (gS γ) T) (h1 : (γ 1030 2).toInt = 7) (k0 : 0 ≤ k.toInt) (k1 : k.toInt < (γ 1044 3).toInt) (hv : T 5 0 k.toInt.toNat = v.toInt) : y9 (gS (gUs γ [(1044, 1, v), (1044, 2, k)])) T := by
  have hp : yP7 (gS γ) T (Gi (gS γ) 0 0) := y9_o (k := 7) h h1
  exact ⟨h.1, ⟨7, h1, hp.1, hp.2.1, hp.2.2.1, ⟨fun _ => k0, fun _ => ⟨k1, hv⟩⟩, hp.2.2.2.2⟩, fun _ => h.2.2.1 (n10 (T := T) h1 (by decide)), h.2.2.2.1, h.2.2.2.2.1, h.2.2.2.2.2⟩
set_option maxRecDepth 100000 in
/-- a store into the class's deed that is on its way: what is said of the others stays -/
theorem y7_st {γ : Gh} {T : YT} {f : Nat} {v : Int} (hp : yP7 (gS γ) T (Gi (gS γ) 0 0)) (hf : 7 ≤ f) (k0 : 0 ≤ (γ 1044 2).toInt) (jk : (γ 1044 0).toInt ≤ (γ 1044 2).toInt) : ∀ d : Nat, (d : Int) < Gi (gS γ) 0 0 → (∀ g, g < 7 → yUp T 0 f (γ 1044 1).toInt.toNat v 0 g d = T 1 g d) ∧ ((yRel 7 (yUp T 0 f (γ 1044 1).toInt.toNat v 0 7 d) (T 1 7 d) ∧ yUp T 0 f (γ 1044 1).toInt.toNat v 0 8 d = T 1 8 d ∧ yUp T 0 f (γ 1044 1).toInt.toNat v 0 9 d = T 1 9 d ∧ ((yUp T 0 f (γ 1044 1).toInt.toNat v 0 7 d = 1000000 → yUp T 0 f (γ 1044 1).toInt.toNat v 0 8 d = -1 ∧ yUp T 0 f (γ 1044 1).toInt.toNat v 0 9 d = 0) ∧ (yUp T 0 f (γ 1044 1).toInt.toNat v 0 7 d ≠ 1000000 → 0 ≤ yUp T 0 f (γ 1044 1).toInt.toNat v 0 8 d))) ∨ ∃ k : Nat, Gi (gS γ) 14 0 ≤ k ∧ (k : Int) < Gi (gS γ) 14 3 ∧ T 5 0 k = d) := by
  have hD : (0 ≤ (γ 1044 1).toInt → 0 ≤ (γ 1044 2).toInt) ∧ (0 ≤ (γ 1044 2).toInt → (γ 1044 2).toInt < (γ 1044 3).toInt ∧ T 5 0 (γ 1044 2).toInt.toNat = (γ 1044 1).toInt) := hp.2.2.2.1
  have d3 := hD.2 k0
  have hB := (hp.2.1 (γ 1044 2).toInt.toNat (show (((γ 1044 2).toInt.toNat : Nat) : Int) < (γ 1044 3).toInt by omega)).1
  rw [d3.2] at hB
  intro d hd
  obtain ⟨a, c⟩ := hp.2.2.1 d hd
  refine ⟨fun g hg => ?_, ?_⟩
  · rw [yUp_ne (Or.inr (Or.inl (by omega)))]
    exact a g hg
  · by_cases e : d = (γ 1044 1).toInt.toNat
    · refine Or.inr ⟨(γ 1044 2).toInt.toNat, ?_, ?_, ?_⟩
      · show (γ 1044 0).toInt ≤ _
        omega
      · show _ < (γ 1044 3).toInt
        omega
      · omega
    · rw [yUp_ne (Or.inr (Or.inr e)), yUp_ne (Or.inr (Or.inr e)), yUp_ne (Or.inr (Or.inr e))]
      exact c
set_option maxRecDepth 100000 in
theorem y9_vw {γ : Gh} {T : YT} {f : Nat} {v : Int} (h : y9 (gS γ) T) (h1 : (γ 1030 2).toInt = 7) (hf : 7 ≤ f) (x0 : 0 ≤ (γ 1044 1).toInt) (j0 : (γ 1044 0).toInt = 0) : y9 (gS (gUs γ [(1044, 4, 0)])) (yUp T 0 f (γ 1044 1).toInt.toNat v) := by
  have hp : yP7 (gS γ) T (Gi (gS γ) 0 0) := y9_o (k := 7) h h1
  have k0 : 0 ≤ (γ 1044 2).toInt := hp.2.2.2.1.1 x0
  have q7 := y7_st (f := f) (v := v) hp hf k0 (by omega)
  refine ⟨h.1, ⟨7, h1, hp.1, hp.2.1, q7, hp.2.2.2.1, ?_, ?_⟩, fun _ => h.2.2.1 (n10 (T := T) h1 (by decide)), h.2.2.2.1, h.2.2.2.2.1, h.2.2.2.2.2⟩
  · intro h0
    exact absurd (show (1 : Int) ≤ 0 from h0) (by decide)
  · intro h0
    exact absurd (show (2 : Int) ≤ 0 from h0) (by decide)
set_option maxRecDepth 100000 in
theorem y9_vt7 {γ : Gh} {T : YT} (h : y9 (gS γ) T) (h1 : (γ 1030 2).toInt = 7) (k0 : 0 ≤ (γ 1044 2).toInt) (jk : (γ 1044 0).toInt = (γ 1044 2).toInt) : y9 (gS (gUs γ [(1044, 4, 1)])) (yUp T 0 7 (γ 1044 1).toInt.toNat 1000000) := by
  have hp : yP7 (gS γ) T (Gi (gS γ) 0 0) := y9_o (k := 7) h h1
  have d3 : (γ 1044 2).toInt < (γ 1044 3).toInt ∧ T 5 0 (γ 1044 2).toInt.toNat = (γ 1044 1).toInt := hp.2.2.2.1.2 k0
  have q7 := y7_st (f := 7) (v := 1000000) hp (by decide) k0 (by omega)
  refine ⟨h.1, ⟨7, h1, hp.1, hp.2.1, q7, hp.2.2.2.1, ?_, ?_⟩, fun _ => h.2.2.1 (n10 (T := T) h1 (by decide)), h.2.2.2.1, h.2.2.2.2.1, h.2.2.2.2.2⟩
  · intro _ _
    show yUp T 0 7 (γ 1044 1).toInt.toNat 1000000 0 7 (T 5 0 (γ 1044 0).toInt.toNat).toNat = 1000000
    rw [jk, d3.2, yUp_eq]
  · intro h0
    exact absurd (show (2 : Int) ≤ 1 from h0) (by decide)
set_option maxRecDepth 100000 in
theorem y9_vt8 {γ : Gh} {T : YT} (h : y9 (gS γ) T) (h1 : (γ 1030 2).toInt = 7) (k0 : 0 ≤ (γ 1044 2).toInt) (jk : (γ 1044 0).toInt = (γ 1044 2).toInt) (ht : (γ 1044 4).toInt = 1) : y9 (gS (gUs γ [(1044, 4, 2)])) (yUp T 0 8 (γ 1044 1).toInt.toNat (-1)) := by
  have hp : yP7 (gS γ) T (Gi (gS γ) 0 0) := y9_o (k := 7) h h1
  have d3 : (γ 1044 2).toInt < (γ 1044 3).toInt ∧ T 5 0 (γ 1044 2).toInt.toNat = (γ 1044 1).toInt := hp.2.2.2.1.2 k0
  have q7 := y7_st (f := 8) (v := (-1)) hp (by decide) k0 (by omega)
  refine ⟨h.1, ⟨7, h1, hp.1, hp.2.1, q7, hp.2.2.2.1, ?_, ?_⟩, fun _ => h.2.2.1 (n10 (T := T) h1 (by decide)), h.2.2.2.1, h.2.2.2.2.1, h.2.2.2.2.2⟩
  · intro _ hj
    show yUp T 0 8 (γ 1044 1).toInt.toNat (-1) 0 7 (T 5 0 (γ 1044 0).toInt.toNat).toNat = 1000000
    rw [yUp_ne (Or.inr (Or.inl (by decide)))]
    exact hp.2.2.2.2.1 (show 1 ≤ (γ 1044 4).toInt by omega) hj
  · intro _ _
    show yUp T 0 8 (γ 1044 1).toInt.toNat (-1) 0 8 (T 5 0 (γ 1044 0).toInt.toNat).toNat = -1
    rw [jk, d3.2, yUp_eq]
set_option maxRecDepth 100000 in
theorem y9_vt9 {γ : Gh} {T : YT} {j : Int32} (h : y9 (gS γ) T) (h1 : (γ 1030 2).toInt = 7) (k0 : 0 ≤ (γ 1044 2).toInt) (jk : (γ 1044 0).toInt = (γ 1044 2).toInt) (ht : (γ 1044 4).toInt = 2) (hj : j.toInt = (γ 1044 0).toInt + 1) : y9 (gS (gUs γ [(1044, 0, j), (1044, 4, 0)])) (yUp T 0 9 (γ 1044 1).toInt.toNat 0) := by
  have hp : yP7 (gS γ) T (Gi (gS γ) 0 0) := y9_o (k := 7) h h1
  have d3 : (γ 1044 2).toInt < (γ 1044 3).toInt ∧ T 5 0 (γ 1044 2).toInt.toNat = (γ 1044 1).toInt := hp.2.2.2.1.2 k0
  have h7 : T 0 7 (T 5 0 (γ 1044 0).toInt.toNat).toNat = 1000000 := hp.2.2.2.2.1 (show 1 ≤ (γ 1044 4).toInt by omega) (show (γ 1044 0).toInt < (γ 1044 3).toInt by omega)
  have h8 : T 0 8 (T 5 0 (γ 1044 0).toInt.toNat).toNat = -1 := hp.2.2.2.2.2 (show 2 ≤ (γ 1044 4).toInt by omega) (show (γ 1044 0).toInt < (γ 1044 3).toInt by omega)
  rw [jk, d3.2] at h7 h8
  have hB := hp.2.1 (γ 1044 2).toInt.toNat (show (((γ 1044 2).toInt.toNat : Nat) : Int) < (γ 1044 3).toInt by omega)
  rw [d3.2] at hB
  have hA : 0 ≤ (γ 1044 3).toInt ∧ (γ 1044 3).toInt ≤ 4 ∧ 0 ≤ (γ 1044 0).toInt := hp.1
  refine ⟨h.1, ⟨7, h1, ⟨hA.1, hA.2.1, by show 0 ≤ j.toInt; omega⟩, hp.2.1, ?_, hp.2.2.2.1, ?_, ?_⟩, fun _ => h.2.2.1 (n10 (T := T) h1 (by decide)), h.2.2.2.1, h.2.2.2.2.1, h.2.2.2.2.2⟩
  · intro d hd
    obtain ⟨a, c⟩ := hp.2.2.1 d hd
    have e7 : yUp T 0 9 (γ 1044 1).toInt.toNat 0 0 7 d = T 0 7 d := yUp_ne (Or.inr (Or.inl (by decide)))
    have e8 : yUp T 0 9 (γ 1044 1).toInt.toNat 0 0 8 d = T 0 8 d := yUp_ne (Or.inr (Or.inl (by decide)))
    refine ⟨fun g hg => ?_, ?_⟩
    · show yUp T 0 9 (γ 1044 1).toInt.toNat 0 0 g d = T 1 g d
      rw [yUp_ne (Or.inr (Or.inl (by omega)))]
      exact a g hg
    · rw [e7, e8]
      by_cases e : d = (γ 1044 1).toInt.toNat
      · have e9 : yUp T 0 9 (γ 1044 1).toInt.toNat 0 0 9 d = 0 := by rw [e, yUp_eq]
        rw [e9]
        rw [← e] at h7 h8 hB
        exact Or.inl ⟨Or.inl ⟨h7, hB.2.1⟩, h8.trans hB.2.2.1.symm, hB.2.2.2.symm, ⟨fun _ => ⟨h8, rfl⟩, fun hn => absurd h7 hn⟩⟩
      · have e9 : yUp T 0 9 (γ 1044 1).toInt.toNat 0 0 9 d = T 0 9 d := yUp_ne (Or.inr (Or.inr e))
        rw [e9]
        rcases c with c | ⟨k, k1, k2, k3⟩
        · exact Or.inl c
        · refine Or.inr ⟨k, ?_, k2, k3⟩
          have k1 : (γ 1044 0).toInt ≤ k := k1
          show j.toInt ≤ k
          have kn : k ≠ (γ 1044 2).toInt.toNat := by
            intro ek
            subst ek
            omega
          omega
  · intro h0
    exact absurd (show (1 : Int) ≤ 0 from h0) (by decide)
  · intro h0
    exact absurd (show (2 : Int) ≤ 0 from h0) (by decide)
set_option maxRecDepth 100000 in
theorem y9_ve {γ : Gh} {T : YT} (h : y9 (gS γ) T) (h1 : (γ 1030 2).toInt = 7) (hj : (γ 1044 3).toInt ≤ (γ 1044 0).toInt) : y9 (gS (gUs γ [(1030, 2, 0)])) T := by
  have hp : yP7 (gS γ) T (Gi (gS γ) 0 0) := y9_o (k := 7) h h1
  refine ⟨h.1, ⟨0, rfl, ?_⟩, fun _ => h.2.2.1 (n10 (T := T) h1 (by decide)), h.2.2.2.1, h.2.2.2.2.1, h.2.2.2.2.2⟩
  intro d hd
  obtain ⟨a, c⟩ := hp.2.2.1 d hd
  rcases c with c | ⟨k, k1, k2, _⟩
  · refine ⟨fun f hf => ?_, c.2.2.2⟩
    by_cases e7 : f = 7
    · subst e7; exact c.1
    · by_cases e8 : f = 8
      · subst e8; exact yRel_eq (by decide) c.2.1
      · by_cases e9 : f = 9
        · subst e9; exact yRel_eq (by decide) c.2.2.1
        · exact yRel_eq e7 (a f (by omega))
  · have k1 : (γ 1044 0).toInt ≤ k := k1
    have k2 : (k : Int) < (γ 1044 3).toInt := k2
    omega
/-! stores into the small tables -/
theorem yOk_s {t n d : Nat} (h : d < n) (e : yOk t 0 d = (Nat.beq 0 0 && Nat.blt d n)) : yOk t 0 d = true := by
  rw [e, show Nat.blt d n = true from Nat.ble_eq_true_of_le h]
  rfl
theorem putT {s : List Int32} {γ γ' : Gh} {M : Mem} (hA : aMem9 (s, γ) M) {t f d tg n : Nat} {x : Int32} (ok : yOk t f d = true) (h2 : 2 ≤ yC t f d) (h3 : yC t f d < tEnd) (ht : aTy (tTy (tGrp (yC t f d)) (ySl t f d)) (.int x)) (hh : mHd M (yC t f d) = some (tg, n)) (hn : ySl t f d < n) (h0 : tPro0 (tGrp (yC t f d)) (aSlK (yC t f d) (ySl t f d)) = false) (h8 : yC t f d ≠ 8) (h51 : yC t f d ≠ 51) (hl : ∀ g i, g < 1030 → γ' g i = γ g i) (hy : y9 (gS γ') (yUp (yV M) t f d x.toInt)) : aMem9 (s, γ') (mPut M (yC t f d) (ySl t f d) (.int x)) := by
  have hT := aTp_of (aMem_0 hA)
  have hx : x9 γ M := hA.1.2.2
  refine fin9 hA (hT.put h2 h3 ht) hl (xv_put0 h0) ⟨yT_put h8 h51 hx.1, ?_⟩
  rw [yV_put ok hh hn]
  exact hy
