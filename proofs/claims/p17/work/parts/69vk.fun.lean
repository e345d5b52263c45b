/-! the class's reader against the machine: the induction on the fuel (printed by fn13.py) -/
theorem prt_ok : ∀ (n : Nat), (∀ m, m < n → KPi m) → KPa n := by
  intro n hK d M r M1 t N sh z P hS hT hC hb0 hp h
  have hp : pTop P = 12 ∨ pTop P = 13 := hp
  cases n with
  | zero => exact (En.zero (mi := 79) (pc := 0) (len := 1) rfl h).elim
  | succ n =>
    replace h := eAloadS (mi := 79) (pc := 0) (len := 1) (i := 0) rfl rfl h
    obtain ⟨r1, N2, g3, h⟩ := eCall (mi := 79) (pc := 1) (len := 3) (j := 80) (as := [.ref 130]) (rest := []) rfl (Or.inr (Or.inl rfl)) (by decide) rfl rfl h
    obtain ⟨hQ3, hT3, hR3⟩ := hK n (Nat.lt_succ_self n) _ _ _ _ t N sh z P hS hT hC hb0 (by show 10 ≤ pTop P; omega) g3
    rcases hR3 with ⟨P3, er, hr3, hC3, hF3, eO3, eW3, hk3⟩ | ⟨er, hB3⟩
    · rw [er] at h
      replace h := eIstore (mi := 79) (pc := 4) (len := 1) (i := 1) rfl (by decide) h
      exact prt_lp n (fun m hm => hK m (by omega)) _ _ M _ _ _ t N sh z P P3 rfl rfl hQ3 hT3 hC3 hF3 eO3 eW3 (by omega) (hr3.tr (Rch.go (sE_on (by rw [pTop_eq hF3 eW3]; omega)) Rch.rf)) (by rw [pTop_eq hF3 eW3]; exact hp) True.intro h
    · rw [er] at h
      replace h := eIstore (mi := 79) (pc := 4) (len := 1) (i := 1) rfl (by decide) h
      replace h := eIload (mi := 79) (pc := 5) (len := 1) (i := 1) rfl rfl h
      rcases eIf (mi := 79) (pc := 6) (len := 3) (t := 71) rfl rfl h with ⟨c4, h⟩ | ⟨c4, h⟩
      · skip
        replace h := eIload (mi := 79) (pc := 71) (len := 1) (i := 1) rfl rfl h
        obtain ⟨e1, e2⟩ := eRetI (mi := 79) (pc := 72) (len := 1) rfl h
        rw [e2]
        exact ⟨hQ3, hT3, Or.inr ⟨e1, hB3⟩⟩
      · exact absurd c4 (by decide)
theorem cnd_ok : ∀ (n : Nat), (∀ m, m < n → KPa m) → KCo n := by
  intro n hK d M r M1 t N sh z P hS hT hC hb0 hp h
  have hp : pTop P = 13 := hp
  cases n with
  | zero => exact (En.zero (mi := 78) (pc := 0) (len := 1) rfl h).elim
  | succ n =>
    replace h := eAloadS (mi := 78) (pc := 0) (len := 1) (i := 0) rfl rfl h
    obtain ⟨r1, N2, g3, h⟩ := eCall (mi := 78) (pc := 1) (len := 3) (j := 79) (as := [.ref 130]) (rest := []) rfl (Or.inr (Or.inl rfl)) (by decide) rfl rfl h
    obtain ⟨hQ3, hT3, hR3⟩ := hK n (Nat.lt_succ_self n) _ _ _ _ t N sh z P hS hT hC hb0 (Or.inr hp) g3
    rcases hR3 with ⟨P3, er, hr3, hC3, hF3, eO3, eW3, hk3⟩ | ⟨er, hB3⟩
    · rw [er] at h
      replace h := eIstore (mi := 78) (pc := 4) (len := 1) (i := 1) rfl (by decide) h
      exact cnd_lp n (fun m hm => hK m (by omega)) _ _ M _ _ _ t N sh z P P3 rfl rfl hQ3 hT3 hC3 hF3 eO3 eW3 (by omega) hr3 (by rw [pTop_eq hF3 eW3]; exact hp) hk3 h
    · rw [er] at h
      replace h := eIstore (mi := 78) (pc := 4) (len := 1) (i := 1) rfl (by decide) h
      replace h := eIload (mi := 78) (pc := 5) (len := 1) (i := 1) rfl rfl h
      rcases eIf (mi := 78) (pc := 6) (len := 3) (t := 71) rfl rfl h with ⟨c4, h⟩ | ⟨c4, h⟩
      · skip
        replace h := eIload (mi := 78) (pc := 71) (len := 1) (i := 1) rfl rfl h
        obtain ⟨e1, e2⟩ := eRetI (mi := 78) (pc := 72) (len := 1) rfl h
        rw [e2]
        exact ⟨hQ3, hT3, Or.inr ⟨e1, hB3⟩⟩
      · exact absurd c4 (by decide)
theorem all_kd : ∀ (n m : Nat), m < n → KPi m ∧ KNg m ∧ KBr m ∧ KPa m ∧ KCo m := by
  intro n
  induction n with
  | zero => exact fun m hm => absurd hm (Nat.not_lt_zero m)
  | succ n ih =>
    intro m hm
    have q : ∀ k, k < m → KPi k ∧ KNg k ∧ KBr k ∧ KPa k ∧ KCo k := fun k hk => ih k (by omega)
    exact ⟨pie_ok m (fun k hk => ⟨(q k hk).2.1, (q k hk).2.2.1⟩), neg_ok m (fun k hk => (q k hk).1), brk_ok m (fun k hk => (q k hk).2.2.2.2), prt_ok m (fun k hk => (q k hk).1), cnd_ok m (fun k hk => (q k hk).2.2.2.1)⟩
theorem cnd_all (n : Nat) : KCo n := (all_kd (n + 1) n (Nat.lt_succ_self n)).2.2.2.2
