/-! keeping and undoing -/
set_option maxRecDepth 100000 in
theorem y9_lk {γ : Gh} {T T' : YT} (h : y9 (gS γ) T) (h1 : (γ 1030 2).toInt = 0) (e : ∀ t, t ≠ 2 → T' t = T t) (e2 : ∀ d : Nat, (d : Int) < (γ 1030 0).toInt → ∀ f, f < 10 → T' 2 f d = T 0 f d) : y9 (gS (gUs γ [(1030, 2, 10), (1038, 2, 0), (1038, 3, 0)])) T' := by
  have hp : yAll (Gi (gS γ) 0 0) T := y9_o (k := 0) h h1
  have e0 := e 0 (by decide)
  have e1 := e 1 (by decide)
  refine ⟨h.1, ⟨10, rfl, ?_, ?_, ⟨?_, ?_⟩⟩, fun hq => absurd rfl hq, h.2.2.2.1, ?_, ?_⟩
  · intro d hd
    rw [e0, e1]
    exact hp d hd
  · intro d hd f hf
    rw [e0]
    exact e2 d hd f hf
  · intro p _ hq
    have hq : (p : Int) < 0 := hq
    omega
  · intro d _ hq
    have hq : (d : Int) < 0 := hq
    omega
  · have q := h.2.2.2.2.1
    unfold yS at q ⊢
    rw [e 8 (by decide), e 9 (by decide)]
    exact q
  · have q := h.2.2.2.2.2
    unfold yE at q ⊢
    rw [e 6 (by decide), e 7 (by decide)]
    exact q
set_option maxRecDepth 100000 in
theorem y9_lu {γ : Gh} {T T' : YT} (h : y9 (gS γ) T) (h1 : (γ 1030 2).toInt = 0) (e : ∀ t, t ≠ 0 → T' t = T t) (e2 : ∀ d : Nat, (d : Int) < (γ 1038 1).toInt → ∀ f, f < 10 → T' 0 f d = T 2 f d) : y9 (gS (gUs γ [(1030, 2, 11), (1038, 2, 0), (1038, 3, 0)])) T' := by
  have e3 := e 2 (by decide)
  have e4 := e 3 (by decide)
  refine ⟨h.1, ⟨11, rfl, ?_, ⟨?_, ?_⟩⟩, ?_, h.2.2.2.1, ?_, ?_⟩
  · intro d hd f hf
    rw [e3]
    exact e2 d hd f hf
  · intro p _ hq
    have hq : (p : Int) < 0 := hq
    omega
  · intro d _ hq
    have hq : (d : Int) < 0 := hq
    omega
  · intro _
    have q := h.2.2.1 (n10 (T := T) h1 (by decide))
    rw [e3, e4]
    exact q
  · have q := h.2.2.2.2.1
    unfold yS at q ⊢
    rw [e 8 (by decide), e 9 (by decide)]
    exact q
  · have q := h.2.2.2.2.2
    unfold yE at q ⊢
    rw [e 6 (by decide), e 7 (by decide)]
    exact q
theorem yPf_inj {p q : Nat} (h : yPf p = yPf q) : p = q := by
  unfold yPf at h
  cases hp : Nat.ble p 5 with
  | true =>
    have a := Nat.le_of_ble_eq_true hp
    rw [hp] at h
    cases hq : Nat.ble q 5 with
    | true => rw [hq] at h; exact h
    | false =>
      have b : ¬ q ≤ 5 := fun c => by rw [Nat.ble_eq_true_of_le c] at hq; cases hq
      rw [hq] at h
      have h : p = q + 1 := h
      omega
  | false =>
    have a : ¬ p ≤ 5 := fun c => by rw [Nat.ble_eq_true_of_le c] at hp; cases hp
    rw [hp] at h
    cases hq : Nat.ble q 5 with
    | true =>
      have b := Nat.le_of_ble_eq_true hq
      rw [hq] at h
      have h : p + 1 = q := h
      omega
    | false =>
      rw [hq] at h
      have h : p + 1 = q + 1 := h
      omega
/-- one more column is copied -/
theorem yCp_up {T T' : YT} {a b p f : Nat} {kp kp' kq : Int} (h : yCp T a b kp kq) (hp : kp = p) (hp' : kp' = (p : Int) + 1) (hf : yPf p = f) (f6 : f ≠ 6) (ea : ∀ g, g ≠ f → T' a g = T a g) (eb : T' b = T b) (ef : ∀ d, d < 40 → T' a f d = T b f d) : yCp T' a b kp' kq := by
  refine ⟨fun q hq hk d hd => ?_, fun d hd hk => ?_⟩
  · rw [eb]
    by_cases e : q = p
    · subst e
      rw [hf]
      exact ef d hd
    · rw [ea _ (fun c => e (yPf_inj (c.trans hf.symm)))]
      exact h.1 q hq (by omega) d hd
  · rw [eb, ea 6 (fun c => f6 c.symm)]
    exact h.2 d hd hk
set_option maxRecDepth 100000 in
theorem y9_ck {γ : Gh} {T T' : YT} {p f : Nat} {x : Int32} (h : y9 (gS γ) T) (h1 : (γ 1030 2).toInt = 10) (hp : (γ 1038 2).toInt = p) (hx : x.toInt = (p : Int) + 1) (hf : yPf p = f) (f6 : f ≠ 6) (e : ∀ t, t ≠ 3 → T' t = T t) (ea : ∀ g, g ≠ f → T' 3 g = T 3 g) (ef : ∀ d, d < 40 → T' 3 f d = T 1 f d) : y9 (gS (gUs γ [(1038, 2, x)])) T' := by
  have hq : yP10 (gS γ) T (Gi (gS γ) 0 0) := y9_o (k := 10) h h1
  have e0 := e 0 (by decide)
  have e1 := e 1 (by decide)
  have e2 := e 2 (by decide)
  refine ⟨h.1, ⟨10, h1, ?_, ?_, yCp_up hq.2.2 hp hx hf f6 ea e1 ef⟩, fun hn => absurd h1 hn, h.2.2.2.1, ?_, ?_⟩
  · intro d hd
    rw [e0, e1]
    exact hq.1 d hd
  · intro d hd g hg
    rw [e0, e2]
    exact hq.2.1 d hd g hg
  · have q := h.2.2.2.2.1
    unfold yS at q ⊢
    rw [e 8 (by decide), e 9 (by decide)]
    exact q
  · have q := h.2.2.2.2.2
    unfold yE at q ⊢
    rw [e 6 (by decide), e 7 (by decide)]
    exact q
set_option maxRecDepth 100000 in
theorem y9_cu {γ : Gh} {T T' : YT} {p f : Nat} {x : Int32} (h : y9 (gS γ) T) (h1 : (γ 1030 2).toInt = 11) (hp : (γ 1038 2).toInt = p) (hx : x.toInt = (p : Int) + 1) (hf : yPf p = f) (f6 : f ≠ 6) (e : ∀ t, t ≠ 1 → T' t = T t) (ea : ∀ g, g ≠ f → T' 1 g = T 1 g) (ef : ∀ d, d < 40 → T' 1 f d = T 3 f d) : y9 (gS (gUs γ [(1038, 2, x)])) T' := by
  have hq : yP11 (gS γ) T (Gi (gS γ) 8 1) := y9_o (k := 11) h h1
  have e0 := e 0 (by decide)
  have e2 := e 2 (by decide)
  have e3 := e 3 (by decide)
  refine ⟨h.1, ⟨11, h1, ?_, yCp_up hq.2 hp hx hf f6 ea e3 ef⟩, ?_, h.2.2.2.1, ?_, ?_⟩
  · intro d hd g hg
    rw [e0, e2]
    exact hq.1 d hd g hg
  · intro _
    have q := h.2.2.1 (n10 (T := T) h1 (by decide))
    rw [e2, e3]
    exact q
  · have q := h.2.2.2.2.1
    unfold yS at q ⊢
    rw [e 8 (by decide), e 9 (by decide)]
    exact q
  · have q := h.2.2.2.2.2
    unfold yE at q ⊢
    rw [e 6 (by decide), e 7 (by decide)]
    exact q
set_option maxRecDepth 100000 in
theorem y9_kz {γ : Gh} {T : YT} (h : y9 (gS γ) T) (h1 : (γ 1030 2).toInt = 10 ∨ (γ 1030 2).toInt = 11) : y9 (gS (gUs γ [(1038, 2, 0)])) T := by
  rcases h1 with h1 | h1
  · have hq : yP10 (gS γ) T (Gi (gS γ) 0 0) := y9_o (k := 10) h h1
    refine ⟨h.1, ⟨10, h1, hq.1, hq.2.1, ⟨fun p _ hk => ?_, hq.2.2.2⟩⟩, h.2.2.1, h.2.2.2.1, h.2.2.2.2.1, h.2.2.2.2.2⟩
    have hk : (p : Int) < 0 := hk
    omega
  · have hq : yP11 (gS γ) T (Gi (gS γ) 8 1) := y9_o (k := 11) h h1
    refine ⟨h.1, ⟨11, h1, hq.1, ⟨fun p _ hk => ?_, hq.2.2⟩⟩, h.2.2.1, h.2.2.2.1, h.2.2.2.2.1, h.2.2.2.2.2⟩
    have hk : (p : Int) < 0 := hk
    omega
set_option maxRecDepth 100000 in
theorem y9_fq {γ : Gh} {T : YT} (h : y9 (gS γ) T) (h1 : (γ 1030 2).toInt = 10 ∨ (γ 1030 2).toInt = 11) : y9 (gS (gUs γ [(1038, 3, 0)])) T := by
  rcases h1 with h1 | h1
  · have hq : yP10 (gS γ) T (Gi (gS γ) 0 0) := y9_o (k := 10) h h1
    refine ⟨h.1, ⟨10, h1, hq.1, hq.2.1, ⟨hq.2.2.1, fun p _ hk => ?_⟩⟩, h.2.2.1, h.2.2.2.1, h.2.2.2.2.1, h.2.2.2.2.2⟩
    have hk : (p : Int) < 0 := hk
    omega
  · have hq : yP11 (gS γ) T (Gi (gS γ) 8 1) := y9_o (k := 11) h h1
    refine ⟨h.1, ⟨11, h1, hq.1, ⟨hq.2.1, fun p _ hk => ?_⟩⟩, h.2.2.1, h.2.2.2.1, h.2.2.2.2.1, h.2.2.2.2.2⟩
    have hk : (p : Int) < 0 := hk
    omega
theorem yPf_6 {p : Nat} : yPf p ≠ 6 := by
  unfold yPf
  cases hp : Nat.ble p 5 with
  | true =>
    have a := Nat.le_of_ble_eq_true hp
    show p ≠ 6
    omega
  | false =>
    have a : ¬ p ≤ 5 := fun c => by rw [Nat.ble_eq_true_of_le c] at hp; cases hp
    show p + 1 ≠ 6
    omega
theorem yCp_st {T : YT} {a b i : Nat} {v kp kq kq' : Int} (h : yCp T a b kp kq) (ab : b ≠ a) (hq : kq = i) (hq' : kq' = (i : Int) + 1) (hv : T b 6 i = v) : yCp (yUp T a 6 i v) a b kp kq' := by
  refine ⟨fun q hq hk d hd => ?_, fun d hd hk => ?_⟩
  · rw [yUp_ne (Or.inr (Or.inl yPf_6)), yUp_ne (Or.inl ab)]
    exact h.1 q hq hk d hd
  · rw [yUp_ne (T := T) (t' := b) (Or.inl ab)]
    by_cases e : d = i
    · subst e
      rw [yUp_eq]
      exact hv.symm
    · rw [yUp_ne (Or.inr (Or.inr e))]
      exact h.2 d hd (by omega)
set_option maxRecDepth 100000 in
theorem y9_fsk {γ : Gh} {T : YT} {i : Nat} {x : Int32} {v : Int} (h : y9 (gS γ) T) (h1 : (γ 1030 2).toInt = 10) (hq : (γ 1038 3).toInt = i) (hx : x.toInt = (i : Int) + 1) (hv : T 1 6 i = v) : y9 (gS (gUs γ [(1038, 3, x)])) (yUp T 3 6 i v) := by
  have hp : yP10 (gS γ) T (Gi (gS γ) 0 0) := y9_o (k := 10) h h1
  exact ⟨h.1, ⟨10, h1, hp.1, hp.2.1, yCp_st hp.2.2 (by decide) hq hx hv⟩, fun hn => absurd h1 hn, h.2.2.2.1, h.2.2.2.2.1, h.2.2.2.2.2⟩
set_option maxRecDepth 100000 in
theorem y9_fsu {γ : Gh} {T : YT} {i : Nat} {x : Int32} {v : Int} (h : y9 (gS γ) T) (h1 : (γ 1030 2).toInt = 11) (hq : (γ 1038 3).toInt = i) (hx : x.toInt = (i : Int) + 1) (hv : T 3 6 i = v) : y9 (gS (gUs γ [(1038, 3, x)])) (yUp T 1 6 i v) := by
  have hp : yP11 (gS γ) T (Gi (gS γ) 8 1) := y9_o (k := 11) h h1
  exact ⟨h.1, ⟨11, h1, hp.1, yCp_st hp.2 (by decide) hq hx hv⟩, fun _ => h.2.2.1 (n10 (T := T) h1 (by decide)), h.2.2.2.1, h.2.2.2.2.1, h.2.2.2.2.2⟩
theorem yPf_all : ∀ f, f < 10 → f ≠ 6 → ∃ p, p < 9 ∧ yPf p = f := by
  intro f hf h6
  rcases f10 hf with rfl | rfl | rfl | rfl | rfl | rfl | rfl | rfl | rfl | rfl
  · exact ⟨0, by decide, rfl⟩
  · exact ⟨1, by decide, rfl⟩
  · exact ⟨2, by decide, rfl⟩
  · exact ⟨3, by decide, rfl⟩
  · exact ⟨4, by decide, rfl⟩
  · exact ⟨5, by decide, rfl⟩
  · exact absurd rfl h6
  · exact ⟨6, by decide, rfl⟩
  · exact ⟨7, by decide, rfl⟩
  · exact ⟨8, by decide, rfl⟩
theorem yCp_fin {T : YT} {a b : Nat} {kp kq : Int} (h : yCp T a b kp kq) (hp : kp = 9) (hq : kq = 40) {f d : Nat} (hf : f < 10) (hd : d < 40) : T a f d = T b f d := by
  by_cases e : f = 6
  · subst e
    exact h.2 d hd (by omega)
  · obtain ⟨p, p9, pf⟩ := yPf_all f hf e
    rw [← pf]
    exact h.1 p p9 (by omega) d hd
set_option maxRecDepth 100000 in
theorem y9_fk {γ : Gh} {T : YT} {x : Int32} (h : y9 (gS γ) T) (h1 : (γ 1030 2).toInt = 10) (hp : (γ 1038 2).toInt = 9) (hq : (γ 1038 3).toInt = 40) (hx : x.toInt = (γ 1030 0).toInt) : y9 (gS (gUs γ [(1030, 2, 0), (1038, 1, x)])) T := by
  have hw : yP10 (gS γ) T (Gi (gS γ) 0 0) := y9_o (k := 10) h h1
  have b : (0 ≤ (γ 1030 0).toInt ∧ (γ 1030 0).toInt ≤ 40) ∧ _ := h.1
  refine ⟨⟨b.1, by show 0 ≤ x.toInt; omega, by show x.toInt ≤ 40; omega⟩, ⟨0, rfl, hw.1⟩, ?_, h.2.2.2.1, h.2.2.2.2.1, h.2.2.2.2.2⟩
  intro _ d hd
  have hd : (d : Int) < x.toInt := hd
  have hd2 : (d : Int) < (γ 1030 0).toInt := by omega
  exact yLk_c (fun f hf => hw.2.1 d hd2 f hf) (fun f hf => yCp_fin hw.2.2 hp hq hf (by omega)) (hw.1 d hd2)
set_option maxRecDepth 100000 in
theorem y9_fu {γ : Gh} {T : YT} {x : Int32} (h : y9 (gS γ) T) (h1 : (γ 1030 2).toInt = 11) (hp : (γ 1038 2).toInt = 9) (hq : (γ 1038 3).toInt = 40) (hx : x.toInt = (γ 1038 1).toInt) : y9 (gS (gUs γ [(1030, 2, 0), (1030, 0, x)])) T := by
  have hw : yP11 (gS γ) T (Gi (gS γ) 8 1) := y9_o (k := 11) h h1
  have b : _ ∧ 0 ≤ (γ 1038 1).toInt ∧ (γ 1038 1).toInt ≤ 40 := h.1
  have hK := h.2.2.1 (n10 (T := T) h1 (by decide))
  refine ⟨⟨⟨by show 0 ≤ x.toInt; omega, by show x.toInt ≤ 40; omega⟩, b.2⟩, ⟨0, rfl, ?_⟩, fun _ => hK, h.2.2.2.1, h.2.2.2.2.1, h.2.2.2.2.2⟩
  intro d hd
  have hd : (d : Int) < x.toInt := hd
  have hd2 : (d : Int) < (γ 1038 1).toInt := by omega
  exact yLk_c (fun f hf => hw.1 d hd2 f hf) (fun f hf => yCp_fin hw.2 hp hq hf (by omega)) (hK d hd2)
/-! the kept seeds -/
set_option maxRecDepth 100000 in
theorem y9_ks1 {γ : Gh} {T : YT} {v : Int} (h : y9 (gS γ) T) : y9 (gS (gUs γ [(1039, 0, 0)])) (yUp T 8 0 0 v) := by
  obtain ⟨o, ho, hp⟩ := h.2.1
  have et : ∀ t, t < 6 → yUp T 8 0 0 v t = T t := fun t ht => by
    funext f d
    exact yUp_ne (Or.inl (by omega))
  refine ⟨h.1, ⟨o, ho, yP_t (yP_m hp (fun _ => rfl) (fun _ => rfl) (fun _ => rfl) (fun _ => rfl) (fun _ => rfl) (fun _ => rfl) (fun _ => rfl)) et⟩, h.2.2.1, h.2.2.2.1, ?_, h.2.2.2.2.2⟩
  intro h0
  exact absurd (show (0 : Int) = 1 from h0) (by decide)
set_option maxRecDepth 100000 in
theorem y9_ks2 {γ : Gh} {T : YT} {v : Int} (h : y9 (gS γ) T) (hv : T 8 0 0 = v) : y9 (gS (gUs γ [(1039, 0, 1)])) (yUp T 9 0 0 v) := by
  obtain ⟨o, ho, hp⟩ := h.2.1
  have et : ∀ t, t < 6 → yUp T 9 0 0 v t = T t := fun t ht => by
    funext f d
    exact yUp_ne (Or.inl (by omega))
  refine ⟨h.1, ⟨o, ho, yP_t (yP_m hp (fun _ => rfl) (fun _ => rfl) (fun _ => rfl) (fun _ => rfl) (fun _ => rfl) (fun _ => rfl) (fun _ => rfl)) et⟩, h.2.2.1, h.2.2.2.1, ?_, h.2.2.2.2.2⟩
  intro _
  rw [yUp_ne (Or.inl (by decide)), yUp_eq]
  exact hv
/-! a column is copied -/
def cCol (T : YT) (tt ss f i : Nat) : YT := fun t' f' d' => if t' = tt ∧ f' = f ∧ d' < i then T ss f d' else T t' f' d'
theorem cCol_0 {T : YT} {tt ss f : Nat} : cCol T tt ss f 0 = T := by
  funext t' f' d'
  unfold cCol
  rw [if_neg (fun h => Nat.not_lt_zero _ h.2.2)]
theorem cCol_up {T : YT} {tt ss f i : Nat} : yUp (cCol T tt ss f i) tt f i (T ss f i) = cCol T tt ss f (i + 1) := by
  funext t' f' d'
  by_cases e : t' = tt ∧ f' = f ∧ d' = i
  · obtain ⟨rfl, rfl, rfl⟩ := e
    rw [yUp_eq]
    unfold cCol
    rw [if_pos ⟨rfl, rfl, Nat.lt_succ_self _⟩]
  · rw [yUp_ne (by omega)]
    unfold cCol
    by_cases g : t' = tt ∧ f' = f ∧ d' < i
    · rw [if_pos g, if_pos ⟨g.1, g.2.1, by omega⟩]
    · rw [if_neg g, if_neg (fun h => g ⟨h.1, h.2.1, by omega⟩)]
theorem cCol_ne {T : YT} {tt ss f i t : Nat} (h : t ≠ tt) : cCol T tt ss f i t = T t := by
  funext f' d'
  unfold cCol
  rw [if_neg (fun g => h g.1)]
theorem cCol_nf {T : YT} {tt ss f i g : Nat} (h : g ≠ f) : cCol T tt ss f i tt g = T tt g := by
  funext d'
  unfold cCol
  rw [if_neg (fun q => h q.2.1)]
theorem cCol_eq {T : YT} {tt ss f i d : Nat} (hd : d < i) : cCol T tt ss f i tt f d = T ss f d := by
  unfold cCol
  rw [if_pos ⟨rfl, rfl, hd⟩]
theorem hdK : ∀ f, f < 10 → tSiz (tGrp (kA f)) = 40 ∧ 2 ≤ kA f ∧ kA f < tEnd ∧ tGrp (kA f) = kA f ∧ kA f ≠ 8 ∧ kA f ≠ 51 ∧ tPro0 (kA f) 0 = false := by
  intro f hf
  rcases f10 hf with rfl | rfl | rfl | rfl | rfl | rfl | rfl | rfl | rfl | rfl <;> exact ⟨rfl, by decide, by decide, rfl, by decide, by decide, rfl⟩
theorem slK {f i : Nat} (hf : f < 10) : aSlK (kA f) i = 0 := by
  rcases f10 hf with rfl | rfl | rfl | rfl | rfl | rfl | rfl | rfl | rfl | rfl <;> rfl
theorem tyK {f i : Nat} (hf : f < 10) : tTy (tGrp (kA f)) i = (1, rLo f, rHi f, []) := by
  rcases f10 hf with rfl | rfl | rfl | rfl | rfl | rfl | rfl | rfl | rfl | rfl <;> rfl
section
variable {s : List Int32} {mod : List (Nat × Nat)} {M0 M : Mem} {T : YT}
theorem tK (hT : aTp s M) {d f : Nat} (hd : d < 40) (hf : f < 10) : ∃ x : Int32, mSlot M (kA f) d = some (.int x) ∧ yV M 3 f d = x.toInt ∧ rLo f ≤ x.toInt ∧ x.toInt ≤ rHi f := by
  obtain ⟨a, b, c, _⟩ := hdK f hf
  obtain ⟨x, x1, x2, x3⟩ := hT.int (c := kA f) (i := d) b c (by rw [a]; exact hd) (lo := rLo f) (hi' := rHi f) (gs := []) (tyK hf)
  exact ⟨x, x1, yV_get (t := 3) (f := f) (d := d) (yOk_4 (by decide) hf hd) x1, x2, x3⟩
theorem CI_R (h : CI s mod M0 T M) {d f : Nat} {x : Int32} (hd : d < 40) (hf : f < 10) (h1 : rLo f ≤ x.toInt) (h2 : x.toInt ≤ rHi f) (hm : memP (rA f) 0 mod = true) : CI s mod M0 (yUp T 1 f d x.toInt) (mPut M (rA f) d (.int x)) := by
  obtain ⟨a, b, c, a4, a5, a6, a7⟩ := hdR f hf
  have hh := h.1.hd b c
  rw [a] at hh
  refine CI_put (t := 1) (f := f) (d := d) h (yOk_4 (by decide) hf hd) b c ?_ hh hd ?_ a5 a6 ?_
  · show aTy (tTy (tGrp (rA f)) d) (.int x)
    rw [tyRa hf]
    exact ⟨x, rfl, h1, h2⟩
  · show tPro0 (tGrp (rA f)) (aSlK (rA f) d) = false
    rw [slR hf, a4]
    exact a7
  · show memP (tGrp (rA f)) (aSlK (rA f) d) mod = true
    rw [slR hf, a4]
    exact hm
theorem CI_K (h : CI s mod M0 T M) {d f : Nat} {x : Int32} (hd : d < 40) (hf : f < 10) (h1 : rLo f ≤ x.toInt) (h2 : x.toInt ≤ rHi f) (hm : memP (kA f) 0 mod = true) : CI s mod M0 (yUp T 3 f d x.toInt) (mPut M (kA f) d (.int x)) := by
  obtain ⟨a, b, c, a4, a5, a6, a7⟩ := hdK f hf
  have hh := h.1.hd b c
  rw [a] at hh
  refine CI_put (t := 3) (f := f) (d := d) h (yOk_4 (by decide) hf hd) b c ?_ hh hd ?_ a5 a6 ?_
  · show aTy (tTy (tGrp (kA f)) d) (.int x)
    rw [tyK hf]
    exact ⟨x, rfl, h1, h2⟩
  · show tPro0 (tGrp (kA f)) (aSlK (kA f) d) = false
    rw [slK hf, a4]
    exact a7
  · show memP (tGrp (kA f)) (aSlK (kA f) d) mod = true
    rw [slK hf, a4]
    exact hm
end
/-- the loop of copies: from cell a (table ss) to cell b (table tt), column f -/
theorem cp_loop {s : List Int32} {mod : List (Nat × Nat)} {M0 : Mem} {T : YT} {d a b tt ss f : Nat} {Q : Option Value → Mem → Prop} (ne : ss ≠ tt) (b0 : b ≠ 0) (ld : ∀ (M : Mem) (i : Nat), aTp s M → i < 40 → ∃ x : Int32, mSlot M a i = some (.int x) ∧ yV M ss f i = x.toInt ∧ rLo f ≤ x.toInt ∧ x.toInt ≤ rHi f) (ha : ∀ M, aTp s M → mHd M a = some (64, 40)) (hb : ∀ M, aTp s M → mHd M b = some (64, 40)) (pt : ∀ (T' : YT) (M : Mem) (i : Nat) (x : Int32), CI s mod M0 T' M → i < 40 → rLo f ≤ x.toInt → x.toInt ≤ rHi f → CI s mod M0 (yUp T' tt f i x.toInt) (mPut M b i (.int x))) (K : ∀ M', CI s mod M0 (cCol T tt ss f 40) M' → Q none M') : ∀ (n : Nat) (L : MLoc) (M : Mem) (i : Int32), 40 - i.toInt ≤ n → 0 ≤ i.toInt → i.toInt ≤ 40 → mLd L 0 = some (.ref a) → mLd L 1 = some (.ref b) → mLd L 2 = some (.int 40) → mLd L 3 = some (.int i) → CI s mod M0 (cCol T tt ss f i.toInt.toNat) M → Ok d 271 2 L [] M Q := by
  have e40 : (40 : Int32).toInt = 40 := rfl
  have fin : ∀ (L : MLoc) (M : Mem) (i : Int32), 40 ≤ i.toInt → i.toInt ≤ 40 → CI s mod M0 (cCol T tt ss f i.toInt.toNat) M → Ok d 271 19 L [] M Q := by
    intro L M i h1 h2 h
    have e : i.toInt.toNat = 40 := by omega
    rw [e] at h
    exact kRetV (mi := 271) (pc := 19) (len := 1) rfl rfl (K M h)
  intro n
  induction n with
  | zero =>
    intro L M i h1 h2 h3 l0 l1 l2 l3 h
    refine kIload (mi := 271) (pc := 2) (len := 1) (i := 3) rfl l3 ?_
    refine kIload (len := 1) (i := 2) rfl l2 ?_
    refine kIcT (len := 3) (t := 19) rfl rfl (c_ge (by omega)) ?_
    exact fin L M i (by omega) h3 h
  | succ n ih =>
    intro L M i h1 h2 h3 l0 l1 l2 l3 h
    refine kIload (mi := 271) (pc := 2) (len := 1) (i := 3) rfl l3 ?_
    refine kIload (len := 1) (i := 2) rfl l2 ?_
    by_cases g : 40 ≤ i.toInt
    · refine kIcT (len := 3) (t := 19) rfl rfl (c_ge (by omega)) ?_
      exact fin L M i g h3 h
    · refine kIcF (len := 3) (t := 19) rfl rfl (c_nge (by omega)) ?_
      have ei : (i + 1).toInt = i.toInt + 1 := i32_inc (by omega) (by omega)
      obtain ⟨x, x1, x2, x3, x4⟩ := ld M i.toInt.toNat h.1 (by omega)
      refine kAload (len := 1) (i := 1) rfl l1 ?_
      refine kIload (len := 1) (i := 3) rfl l3 ?_
      refine kAload (len := 1) (i := 0) rfl l0 ?_
      refine kIload (len := 1) (i := 3) rfl l3 ?_
      refine kIald (len := 1) (n := 40) rfl (ha M h.1) (by omega) (by show i.toInt < 40; omega) x1 ?_
      refine kIast (len := 1) (n := 40) rfl (hb M h.1) b0 (by omega) (by show i.toInt < 40; omega) ?_
      refine kIinc (len := 3) rfl l3 (by decide) ?_
      refine kGoto (len := 3) (t := 2) rfl rfl ?_
      refine ih _ _ (i + 1) (by omega) (by omega) (by omega) (mLd_st1_ref (by decide) l0) (mLd_st1_ref (by decide) l1) (mLd_st1_int (by decide) l2) mLd_st1_i ?_
      have c := pt _ M i.toInt.toNat x h (by omega) x3 x4
      rw [← x2, h.2.2.2.2, cCol_ne (tt := tt) (t := ss) ne, cCol_up] at c
      rw [show (i + 1).toInt.toNat = i.toInt.toNat + 1 by omega]
      exact c
