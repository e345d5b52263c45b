/-! the parser's picture, its ghosts as numbers -/
def xB (W O N T H P S : Int) (f wa : Nat → Int) (w m p sg : Nat) : Prop := (0 ≤ P ∧ p ≤ w ∧ 0 ≤ S ∧ sg ≤ m) ∧
  ((∀ k, k < w → 0 ≤ wa k) ∧ (∀ k, k < p → 10 ≤ wa k / xU ∧ wa k / xU ≤ 13) ∧ (∀ k, p ≤ k → k < w → (2 ≤ wa k / xU ∧ wa k / xU ≤ 6) ∨ wa k / xU = 14) ∧ (0 < p → wa 0 / xU = 13)) ∧
  (T = (if w = 0 then -1 else wa (w - 1) / xU) ∧ O = xCw xAr wa w ∧ N = xCw xSm wa w ∧ W = m + xCw xAr wa w + xCw xNt wa w ∧ H = xHg f sg (m - sg) - xCw xAr wa w) ∧
  (∀ k, sg ≤ k → k < m → xOk f 0 sg m k (fun o k => ∃ j, j < p ∧ wa j = o * xU + (k : Int))) ∧
  (∀ j, j < p → 11 ≤ wa j / xU → wa j / xU ≤ 12 → ∃ a : Nat, wa j = wa j / xU * xU + (a : Int) ∧ sg ≤ a ∧ a < m ∧ f a / xU = wa j / xU ∧ xHg f sg (a - sg) = 1)
theorem xHg_c {f g : Nat → Int} {a : Nat} : ∀ n, (∀ i, i < n → xEff (g (a + i)) = xEff (f (a + i))) → xHg g a n = xHg f a n
  | 0, _ => rfl
  | n + 1, h => by
    unfold xHg
    rw [xHg_c n (fun i hi => h i (by omega)), h n (by omega)]
theorem xCw_c {q : Int → Bool} {f g : Nat → Int} : ∀ n, (∀ i, i < n → g i = f i) → xCw q g n = xCw q f n
  | 0, _ => rfl
  | n + 1, h => by
    unfold xCw
    rw [xCw_c n (fun i hi => h i (by omega)), h n (by omega)]
theorem xCw_nn {q : Int → Bool} {f : Nat → Int} : ∀ n, 0 ≤ xCw q f n
  | 0 => Int.le_refl _
  | n + 1 => by
    have := xCw_nn (q := q) (f := f) n
    unfold xCw
    cases q (f n / xU) with
    | false => show 0 ≤ _ + (0 : Int); omega
    | true => show 0 ≤ _ + (1 : Int); omega
theorem xCw_t {q : Int → Bool} {f : Nat → Int} {n : Nat} (h : q (f n / xU) = true) : xCw q f (n + 1) = xCw q f n + 1 := by
  conv => lhs; unfold xCw
  rw [h]
  rfl
theorem xCw_f {q : Int → Bool} {f : Nat → Int} {n : Nat} (h : q (f n / xU) = false) : xCw q f (n + 1) = xCw q f n := by
  conv => lhs; unfold xCw
  rw [h]
  show _ + (0 : Int) = _
  omega
theorem ar_t {t : Int} (h : 2 ≤ t ∧ t ≤ 6) : xAr t = true := decide_eq_true h
theorem ar_f {t : Int} (h : ¬ (2 ≤ t ∧ t ≤ 6)) : xAr t = false := decide_eq_false h
theorem sm_t {t : Int} (h : t = 14) : xSm t = true := decide_eq_true h
theorem sm_f {t : Int} (h : t ≠ 14) : xSm t = false := decide_eq_false h
theorem nt_t {t : Int} (h : t = 10) : xNt t = true := decide_eq_true h
theorem nt_f {t : Int} (h : t ≠ 10) : xNt t = false := decide_eq_false h
theorem cw_low {f : Nat → Int} : ∀ n, (∀ k, k < n → 10 ≤ f k / xU ∧ f k / xU ≤ 13) → xCw xAr f n = 0 ∧ xCw xSm f n = 0
  | 0, _ => ⟨rfl, rfl⟩
  | n + 1, h => by
    have i := cw_low (f := f) n (fun k hk => h k (by omega))
    have := h n (by omega)
    rw [xCw_f (ar_f (by omega)), xCw_f (sm_f (by omega))]
    exact i
theorem cw_sum {f : Nat → Int} {p : Nat} (hl : ∀ k, k < p → 10 ≤ f k / xU ∧ f k / xU ≤ 13) : ∀ r, (∀ k, p ≤ k → k < p + r → (2 ≤ f k / xU ∧ f k / xU ≤ 6) ∨ f k / xU = 14) → xCw xAr f (p + r) + xCw xSm f (p + r) = (r : Int)
  | 0, _ => by
    have := cw_low p hl
    show xCw xAr f p + xCw xSm f p = 0
    omega
  | r + 1, h => by
    have i := cw_sum hl r (fun k h1 h2 => h k h1 (by omega))
    rw [show p + (r + 1) = (p + r) + 1 by omega]
    rcases h (p + r) (by omega) (by omega) with c | c
    · rw [xCw_t (ar_t c), xCw_f (sm_f (by omega))]; omega
    · rw [xCw_f (ar_f (by omega)), xCw_t (sm_t c)]; omega
theorem xOk_c {f g : Nat → Int} {b a e e' k : Nat} {p q : Int → Nat → Prop} (hk : g k = f k) (hh : ∀ n, n ≤ e - a → xHg g a n = xHg f a n) (he : e ≤ e') (h1 : a ≤ k) (h2 : k < e) (hp : ∀ o, p o k → q o k) (h : xOk f b a e k p) : xOk g b a e' k q := by
  unfold xOk at h ⊢
  rw [hk, hh (k - a) (by omega)]
  obtain ⟨h0, h⟩ := h
  refine ⟨h0, ?_⟩
  rcases h with c | c | c | c | ⟨c1, c2, c3, c⟩
  · exact Or.inl c
  · exact Or.inr (Or.inl c)
  · exact Or.inr (Or.inr (Or.inl c))
  · exact Or.inr (Or.inr (Or.inr (Or.inl c)))
  · refine Or.inr (Or.inr (Or.inr (Or.inr ⟨c1, c2, c3, ?_⟩)))
    rcases c with ⟨d1, d2, d3⟩ | c
    · have hm : 0 ≤ f k % xU := Int.emod_nonneg _ (by decide)
      obtain ⟨r, hr⟩ : ∃ r : Int, r = f k % xU := ⟨_, rfl⟩
      rw [← hr] at d1 d2 d3 hm ⊢
      exact Or.inl ⟨d1, by omega, by rw [hh _ (by omega)]; exact d3⟩
    · exact Or.inr (hp _ c)
section
variable {W O N T H P S : Int} {f wa : Nat → Int} {w m p sg : Nat}
theorem xB_sum (h : xB W O N T H P S f wa w m p sg) : (p : Int) + O + N = w ∧ 0 ≤ O ∧ 0 ≤ N ∧ (m : Int) + O ≤ W := by
  obtain ⟨⟨_, h1, _⟩, ⟨_, h2, h3, _⟩, ⟨_, e1, e2, e3, _⟩, _⟩ := h
  have := cw_sum h2 (w - p) (fun k a b => h3 k a (by omega))
  rw [show p + (w - p) = w by omega] at this
  have n1 := xCw_nn (q := xAr) (f := wa) w
  have n2 := xCw_nn (q := xSm) (f := wa) w
  have n3 := xCw_nn (q := xNt) (f := wa) w
  rw [e1, e2, e3]
  omega
theorem xB_low (h : xB W O N T H P S f wa w m p sg) (e : p = w) : O = 0 ∧ N = 0 := by
  have := xB_sum h
  omega
theorem xB_push_ar (h : xB W O N T H P S f wa w m p sg) {wb : Nat → Int} (hs : ∀ k, k < w → wb k = wa k) (h0 : 0 ≤ wb w) (ht : 2 ≤ wb w / xU ∧ wb w / xU ≤ 6) : xB (W + 1) (O + 1) N (wb w / xU) (H - 1) P S f wb (w + 1) m p sg := by
  obtain ⟨⟨a1, a2, a3, a4⟩, ⟨b1, b2, b3, b4⟩, ⟨c1, c2, c3, c4, c5⟩, d, e⟩ := h
  refine ⟨⟨a1, by omega, a3, a4⟩, ⟨?_, ?_, ?_, ?_⟩, ⟨?_, ?_, ?_, ?_, ?_⟩, ?_, ?_⟩
  · intro k hk
    by_cases g : k = w
    · rw [g]; exact h0
    · rw [hs k (by omega)]; exact b1 k (by omega)
  · intro k hk; rw [hs k (by omega)]; exact b2 k hk
  · intro k h1 h2
    by_cases g : k = w
    · rw [g]; exact Or.inl ht
    · rw [hs k (by omega)]; exact b3 k h1 (by omega)
  · intro hp; rw [hs 0 (by omega)]; exact b4 hp
  · rw [if_neg (by omega)]; rfl
  · rw [xCw_t (ar_t ht), xCw_c w hs, c2]
  · rw [xCw_f (sm_f (by omega)), xCw_c w hs, c3]
  · rw [xCw_t (ar_t ht), xCw_f (nt_f (by omega)), xCw_c w hs, xCw_c w hs, c4]; omega
  · rw [xCw_t (ar_t ht), xCw_c w hs, c5]; omega
  · intro k h1 h2
    refine xOk_c rfl (fun _ _ => rfl) (Nat.le_refl _) h1 h2 ?_ (d k h1 h2)
    intro o ⟨j, j1, j2⟩
    exact ⟨j, j1, by rw [hs j (by omega)]; exact j2⟩
  · intro j j1 j2 j3
    rw [hs j (by omega)] at j2 j3 ⊢
    exact e j j1 j2 j3
theorem xB_push_sm (h : xB W O N T H P S f wa w m p sg) {wb : Nat → Int} (hs : ∀ k, k < w → wb k = wa k) (h0 : 0 ≤ wb w) (ht : wb w / xU = 14) : xB W O (N + 1) 14 H P S f wb (w + 1) m p sg := by
  obtain ⟨⟨a1, a2, a3, a4⟩, ⟨b1, b2, b3, b4⟩, ⟨c1, c2, c3, c4, c5⟩, d, e⟩ := h
  refine ⟨⟨a1, by omega, a3, a4⟩, ⟨?_, ?_, ?_, ?_⟩, ⟨?_, ?_, ?_, ?_, ?_⟩, ?_, ?_⟩
  · intro k hk
    by_cases g : k = w
    · rw [g]; exact h0
    · rw [hs k (by omega)]; exact b1 k (by omega)
  · intro k hk; rw [hs k (by omega)]; exact b2 k hk
  · intro k h1 h2
    by_cases g : k = w
    · rw [g]; exact Or.inr ht
    · rw [hs k (by omega)]; exact b3 k h1 (by omega)
  · intro hp; rw [hs 0 (by omega)]; exact b4 hp
  · rw [if_neg (by omega)]; exact ht.symm
  · rw [xCw_f (ar_f (by omega)), xCw_c w hs, c2]
  · rw [xCw_t (sm_t ht), xCw_c w hs, c3]
  · rw [xCw_f (ar_f (by omega)), xCw_f (nt_f (by omega)), xCw_c w hs, xCw_c w hs, c4]
  · rw [xCw_f (ar_f (by omega)), xCw_c w hs, c5]
  · intro k h1 h2
    refine xOk_c rfl (fun _ _ => rfl) (Nat.le_refl _) h1 h2 ?_ (d k h1 h2)
    intro o ⟨j, j1, j2⟩
    exact ⟨j, j1, by rw [hs j (by omega)]; exact j2⟩
  · intro j j1 j2 j3
    rw [hs j (by omega)] at j2 j3 ⊢
    exact e j j1 j2 j3
/-- an open bracket (13), or a not (10) -/
theorem xB_push_lo (h : xB W O N T H P S f wa w m p sg) (ep : p = w) {wb : Nat → Int} (hs : ∀ k, k < w → wb k = wa k) (h0 : 0 ≤ wb w) {n : Int} (ht : (wb w / xU = 13 ∧ n = 0) ∨ (wb w / xU = 10 ∧ 0 < w ∧ n = 1)) : xB (W + n) O N (wb w / xU) H (P + 1) S f wb (w + 1) m (p + 1) sg := by
  obtain ⟨⟨a1, a2, a3, a4⟩, ⟨b1, b2, b3, b4⟩, ⟨c1, c2, c3, c4, c5⟩, d, e⟩ := h
  have tt : wb w / xU = 13 ∨ wb w / xU = 10 := by rcases ht with t | t <;> omega
  refine ⟨⟨by omega, by omega, a3, a4⟩, ⟨?_, ?_, ?_, ?_⟩, ⟨?_, ?_, ?_, ?_, ?_⟩, ?_, ?_⟩
  · intro k hk
    by_cases g : k = w
    · rw [g]; exact h0
    · rw [hs k (by omega)]; exact b1 k (by omega)
  · intro k hk
    by_cases g : k = w
    · rw [g]; omega
    · rw [hs k (by omega)]; exact b2 k (by omega)
  · intro k h1 h2; omega
  · intro _
    by_cases g : w = 0
    · subst g
      rcases ht with t | t
      · exact t.1
      · omega
    · rw [hs 0 (by omega)]; exact b4 (by omega)
  · rw [if_neg (by omega)]; rfl
  · rw [xCw_f (ar_f (by omega)), xCw_c w hs, c2]
  · rw [xCw_f (sm_f (by omega)), xCw_c w hs, c3]
  · rw [xCw_f (ar_f (by omega)), xCw_c w hs, c4]
    rcases ht with t | t
    · rw [xCw_f (nt_f (by omega)), xCw_c w hs]; omega
    · rw [xCw_t (nt_t t.1), xCw_c w hs]; omega
  · rw [xCw_f (ar_f (by omega)), xCw_c w hs, c5]
  · intro k h1 h2
    refine xOk_c rfl (fun _ _ => rfl) (Nat.le_refl _) h1 h2 ?_ (d k h1 h2)
    intro o ⟨j, j1, j2⟩
    exact ⟨j, by omega, by rw [hs j (by omega)]; exact j2⟩
  · intro j j1 j2 j3
    by_cases g : j = w
    · rw [g] at j2 j3; omega
    · rw [hs j (by omega)] at j2 j3 ⊢
      exact e j (by omega) j2 j3
theorem xB_pop_ar (h : xB W O N T H P S f wa (w + 1) m p sg) (ht : 2 ≤ T ∧ T ≤ 6) : xB (W - 1) (O - 1) N (if w = 0 then -1 else wa (w - 1) / xU) (H + 1) P S f wa w m p sg ∧ p ≤ w := by
  obtain ⟨⟨a1, a2, a3, a4⟩, ⟨b1, b2, b3, b4⟩, ⟨c1, c2, c3, c4, c5⟩, d, e⟩ := h
  rw [if_neg (by omega)] at c1
  have c1 : T = wa w / xU := c1
  have hp : p ≤ w := by
    by_cases g : p = w + 1
    · have := b2 w (by omega); omega
    · omega
  refine ⟨⟨⟨a1, hp, a3, a4⟩, ⟨fun k hk => b1 k (by omega), b2, fun k h1 h2 => b3 k h1 (by omega), b4⟩, ⟨rfl, ?_, ?_, ?_, ?_⟩, d, e⟩, hp⟩
  · rw [xCw_t (ar_t (by omega))] at c2; omega
  · rw [xCw_f (sm_f (by omega))] at c3; exact c3
  · rw [xCw_t (ar_t (by omega)), xCw_f (nt_f (by omega))] at c4; omega
  · rw [xCw_t (ar_t (by omega))] at c5; omega
theorem xB_pop_sm (h : xB W O N T H P S f wa (w + 1) m p sg) (ht : T = 14) : xB W O (N - 1) (if w = 0 then -1 else wa (w - 1) / xU) H P S f wa w m p sg ∧ p ≤ w := by
  obtain ⟨⟨a1, a2, a3, a4⟩, ⟨b1, b2, b3, b4⟩, ⟨c1, c2, c3, c4, c5⟩, d, e⟩ := h
  rw [if_neg (by omega)] at c1
  have c1 : T = wa w / xU := c1
  have hp : p ≤ w := by
    by_cases g : p = w + 1
    · have := b2 w (by omega); omega
    · omega
  refine ⟨⟨⟨a1, hp, a3, a4⟩, ⟨fun k hk => b1 k (by omega), b2, fun k h1 h2 => b3 k h1 (by omega), b4⟩, ⟨rfl, ?_, ?_, ?_, ?_⟩, d, e⟩, hp⟩
  · rw [xCw_f (ar_f (by omega))] at c2; exact c2
  · rw [xCw_t (sm_t (by omega))] at c3; omega
  · rw [xCw_f (ar_f (by omega)), xCw_f (nt_f (by omega))] at c4; exact c4
  · rw [xCw_f (ar_f (by omega))] at c5; exact c5
theorem divU {o : Int} {k : Nat} (h : (k : Int) < 1048576) : (o * xU + (k : Int)) / xU = o := by
  show (o * 1048576 + (k : Int)) / 1048576 = o
  omega
theorem xB_pop_lo (h : xB W O N T H P S f wa (w + 1) m (p + 1) sg) (ep : p = w) (hm : m ≤ 1000) (hP : 1 ≤ P) {n : Int} (ht : (T = 13 ∧ n = 0) ∨ (T = 10 ∧ n = 1)) : xB (W - n) O N (if w = 0 then -1 else wa (w - 1) / xU) H (P - 1) S f wa w m p sg ∧ (T = 10 → 0 < w) := by
  obtain ⟨⟨a1, a2, a3, a4⟩, ⟨b1, b2, b3, b4⟩, ⟨c1, c2, c3, c4, c5⟩, d, e⟩ := h
  rw [if_neg (by omega)] at c1
  have c1 : T = wa w / xU := c1
  have tt : wa w / xU = 13 ∨ wa w / xU = 10 := by rcases ht with t | t <;> omega
  refine ⟨⟨⟨by omega, by omega, a3, a4⟩, ⟨fun k hk => b1 k (by omega), fun k hk => b2 k (by omega), fun k h1 h2 => by omega, fun _ => b4 (by omega)⟩, ⟨rfl, ?_, ?_, ?_, ?_⟩, ?_, fun j j1 => e j (by omega)⟩, ?_⟩
  · rw [xCw_f (ar_f (by omega))] at c2; exact c2
  · rw [xCw_f (sm_f (by omega))] at c3; exact c3
  · rw [xCw_f (ar_f (by omega))] at c4
    rcases ht with t | t
    · rw [xCw_f (nt_f (by omega))] at c4; omega
    · rw [xCw_t (nt_t (by omega))] at c4; omega
  · rw [xCw_f (ar_f (by omega))] at c5; exact c5
  · intro k h1 h2
    obtain ⟨q0, q⟩ := d k h1 h2
    refine ⟨q0, ?_⟩
    rcases q with c | c | c | c | ⟨g1, g2, g3, c⟩
    · exact Or.inl c
    · exact Or.inr (Or.inl c)
    · exact Or.inr (Or.inr (Or.inl c))
    · exact Or.inr (Or.inr (Or.inr (Or.inl c)))
    · refine Or.inr (Or.inr (Or.inr (Or.inr ⟨g1, g2, g3, ?_⟩)))
      rcases c with c | ⟨j, j1, j2⟩
      · exact Or.inl c
      · refine Or.inr ⟨j, ?_, j2⟩
        by_cases g : j = w
        · rw [g] at j2
          rw [j2, divU (by omega)] at tt
          omega
        · omega
  · intro hT
    by_cases g : w = 0
    · subst g
      have := b4 (by omega)
      omega
    · omega
/-- one code more -/
theorem xB_note (h : xB W O N T H P S f wa w m p sg) {g : Nat → Int} (hs : ∀ k, k < m → g k = f k) (ho : xOk g 0 sg (m + 1) m (fun o k => ∃ j, j < p ∧ wa j = o * xU + (k : Int))) : xB (W + 1) O N T (H + xEff (g m)) P S g wa w (m + 1) p sg := by
  obtain ⟨⟨a1, a2, a3, a4⟩, b, ⟨c1, c2, c3, c4, c5⟩, d, e⟩ := h
  have hh : ∀ n, n ≤ m - sg → xHg g sg n = xHg f sg n := fun n hn => xHg_c n (fun i hi => by rw [hs _ (by omega)])
  refine ⟨⟨a1, a2, a3, by omega⟩, b, ⟨c1, c2, c3, by omega, ?_⟩, ?_, ?_⟩
  · rw [show m + 1 - sg = (m - sg) + 1 by omega]
    unfold xHg
    rw [hh _ (Nat.le_refl _), show sg + (m - sg) = m by omega]
    omega
  · intro k h1 h2
    by_cases q : k = m
    · rw [q]; exact ho
    · exact xOk_c (hs k (by omega)) hh (by omega) h1 (by omega) (fun _ t => t) (d k h1 (by omega))
  · intro j j1 j2 j3
    obtain ⟨a, q1, q2, q3, q4, q5⟩ := e j j1 j2 j3
    exact ⟨a, q1, q2, by omega, by rw [hs a q3]; exact q4, by rw [hh _ (by omega)]; exact q5⟩
theorem xB_hg (h : xB W O N T H P S f wa w m p sg) {g : Nat → Int} (hs : ∀ k, k < m → g k = f k) : xHg g sg (m - sg) = H + O := by
  obtain ⟨⟨a1, a2, a3, a4⟩, b, ⟨c1, c2, c3, c4, c5⟩, d, e⟩ := h
  rw [xHg_c (m - sg) (f := f) (fun i hi => by rw [hs _ (by omega)])]
  omega
/-- a jump, its place still open -/
theorem xB_jump (h : xB W O N T H P S f wa w m p sg) (ep : p = w) (hw : 0 < w) (hm : m ≤ 1000) (hH : H = 1) {t : Int} (ht : t = 11 ∨ t = 12) {wb g : Nat → Int} (hs : ∀ k, k < w → wb k = wa k) (hw2 : wb w = t * xU + (m : Int)) (hg : ∀ k, k < m → g k = f k) (hg2 : g m = t * xU) : xB (W + 1) O N t 0 (P + 1) S g wb (w + 1) (m + 1) (p + 1) sg := by
  have lo := xB_low h ep
  have eh := xB_hg h hg
  obtain ⟨⟨a1, a2, a3, a4⟩, ⟨b1, b2, b3, b4⟩, ⟨c1, c2, c3, c4, c5⟩, d, e⟩ := h
  have hh : ∀ n, n ≤ m - sg → xHg g sg n = xHg f sg n := fun n hn => xHg_c n (fun i hi => by rw [hg _ (by omega)])
  have tw : wb w / xU = t := by rw [hw2]; exact divU (by omega)
  have tg : g m / xU = t := by rw [hg2]; show t * 1048576 / 1048576 = t; omega
  have ef : xEff (g m) = -1 := effm (by omega) (by omega)
  refine ⟨⟨by omega, by omega, a3, by omega⟩, ⟨?_, ?_, ?_, ?_⟩, ⟨?_, ?_, ?_, ?_, ?_⟩, ?_, ?_⟩
  · intro k hk
    by_cases q : k = w
    · rw [q, hw2]; show 0 ≤ t * 1048576 + (m : Int); omega
    · rw [hs k (by omega)]; exact b1 k (by omega)
  · intro k hk
    by_cases q : k = w
    · rw [q]; omega
    · rw [hs k (by omega)]; exact b2 k (by omega)
  · intro k h1 h2; omega
  · intro _; rw [hs 0 hw]; exact b4 (by omega)
  · rw [if_neg (by omega)]; exact tw.symm
  · rw [xCw_f (ar_f (by omega)), xCw_c w hs, c2]
  · rw [xCw_f (sm_f (by omega)), xCw_c w hs, c3]
  · rw [xCw_f (ar_f (by omega)), xCw_f (nt_f (by omega)), xCw_c w hs, xCw_c w hs]; omega
  · rw [xCw_f (ar_f (by omega)), xCw_c w hs, show m + 1 - sg = (m - sg) + 1 by omega]
    unfold xHg
    rw [show sg + (m - sg) = m by omega, ef]
    omega
  · intro k h1 h2
    by_cases q : k = m
    · rw [q]
      refine ⟨by rw [hg2]; show 0 ≤ t * 1048576; omega, Or.inr (Or.inr (Or.inr (Or.inr ⟨by omega, by omega, by omega, Or.inr ⟨w, by omega, ?_⟩⟩)))⟩
      rw [hw2, tg]
    · refine xOk_c (hg k (by omega)) hh (by omega) h1 (by omega) ?_ (d k h1 (by omega))
      intro o ⟨j, j1, j2⟩
      exact ⟨j, by omega, by rw [hs j (by omega)]; exact j2⟩
  · intro j j1 j2 j3
    by_cases q : j = w
    · subst q
      exact ⟨m, by rw [tw]; exact hw2, a4, by omega, by rw [tg, tw], by omega⟩
    · rw [hs j (by omega)] at j2 j3 ⊢
      obtain ⟨a, q1, q2, q3, q4, q5⟩ := e j (by omega) j2 j3
      exact ⟨a, q1, q2, by omega, by rw [hg a q3]; exact q4, by rw [hh _ (by omega)]; exact q5⟩
/-- a jump's place is told -/
theorem xB_land (h : xB W O N T H P S f wa (w + 1) m (p + 1) sg) (ep : p = w) (hm : m ≤ 1000) (hP : 1 ≤ P) (hH : H = 1) (ht : T = 11 ∨ T = 12) : ∃ a : Nat, wa w = T * xU + (a : Int) ∧ sg ≤ a ∧ a < m ∧ f a / xU = T ∧ 0 < w ∧ ∀ g : Nat → Int, (∀ k, k ≠ a → g k = f k) → g a = T * xU + (m : Int) → xB W O N (if w = 0 then -1 else wa (w - 1) / xU) H (P - 1) S g wa w m p sg := by
  have lo := xB_low h (by omega)
  obtain ⟨⟨a1, a2, a3, a4⟩, ⟨b1, b2, b3, b4⟩, ⟨c1, c2, c3, c4, c5⟩, d, e⟩ := h
  rw [if_neg (by omega)] at c1
  have c1 : T = wa w / xU := c1
  obtain ⟨a, q1, q2, q3, q4, q5⟩ := e w (by omega) (by omega) (by omega)
  rw [← c1] at q1 q4
  refine ⟨a, q1, q2, q3, q4, ?_, ?_⟩
  · by_cases z : w = 0
    · subst z
      have := b4 (by omega)
      omega
    · omega
  intro g hs hg
  have ga : g a / xU = T := by rw [hg]; exact divU (by omega)
  have hh : ∀ n, xHg g sg n = xHg f sg n := fun n => xHg_c n (fun i _ => by
    by_cases z : sg + i = a
    · rw [z, effm (by omega) (by omega), effm (by omega) (by omega)]
    · rw [hs _ z])
  refine ⟨⟨by omega, by omega, a3, a4⟩, ⟨fun k hk => b1 k (by omega), fun k hk => b2 k (by omega), fun k h1 h2 => by omega, fun _ => b4 (by omega)⟩, ⟨rfl, ?_, ?_, ?_, ?_⟩, ?_, ?_⟩
  · rw [xCw_f (ar_f (by omega))] at c2; exact c2
  · rw [xCw_f (sm_f (by omega))] at c3; exact c3
  · rw [xCw_f (ar_f (by omega)), xCw_f (nt_f (by omega))] at c4; exact c4
  · rw [xCw_f (ar_f (by omega))] at c5; rw [hh]; exact c5
  · intro k h1 h2
    by_cases z : k = a
    · rw [z]
      refine ⟨by rw [hg]; show 0 ≤ T * 1048576 + (m : Int); omega, Or.inr (Or.inr (Or.inr (Or.inr ⟨by omega, by omega, by rw [hh, q5]; decide, Or.inl ?_⟩)))⟩
      have gm : g a % xU = (m : Int) := by rw [hg]; show (T * 1048576 + (m : Int)) % 1048576 = m; omega
      rw [gm, hh, hh, q5]
      refine ⟨by omega, by omega, ?_⟩
      rw [show 0 + ((m : Int)).toNat - sg = m - sg by omega]
      omega
    · obtain ⟨r0, r⟩ := d k h1 h2
      unfold xOk
      rw [hs k z, hh]
      refine ⟨r0, ?_⟩
      rcases r with c | c | c | c | ⟨g1, g2, g3, c⟩
      · exact Or.inl c
      · exact Or.inr (Or.inl c)
      · exact Or.inr (Or.inr (Or.inl c))
      · exact Or.inr (Or.inr (Or.inr (Or.inl c)))
      · refine Or.inr (Or.inr (Or.inr (Or.inr ⟨g1, g2, g3, ?_⟩)))
        rcases c with ⟨d1, d2, d3⟩ | ⟨j, j1, j2⟩
        · exact Or.inl ⟨d1, d2, by rw [hh]; exact d3⟩
        · refine Or.inr ⟨j, ?_, j2⟩
          by_cases y : j = w
          · rw [y, q1] at j2
            have e1 := divU (o := T) (k := a) (by omega)
            have e2 := divU (o := f k / xU) (k := k) (by omega)
            rw [j2, e2] at e1
            rw [e1] at j2
            omega
          · omega
  · intro j j1 j2 j3
    obtain ⟨a', r1, r2, r3, r4, r5⟩ := e j (by omega) j2 j3
    refine ⟨a', r1, r2, r3, ?_, by rw [hh]; exact r5⟩
    by_cases z : a' = a
    · rw [z] at r4 ⊢
      omega
    · rw [hs a' z]; exact r4
end
theorem xB_new {f wa : Nat → Int} {m : Nat} : xB m 0 0 (-1) 0 0 m f wa 0 m 0 m := by
  refine ⟨⟨Int.le_refl _, Nat.le_refl _, by omega, Nat.le_refl _⟩, ⟨fun k hk => by omega, fun k hk => by omega, fun k _ hk => by omega, fun hk => by omega⟩, ⟨rfl, rfl, rfl, ?_, ?_⟩, fun k h1 h2 => by omega, fun j hj => by omega⟩
  · show (m : Int) = m + 0 + 0
    omega
  · rw [show m - m = 0 by omega]
    rfl
