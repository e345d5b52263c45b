/-! the class's reader against the machine: pieces, parts, conditions (printed by fn11.py) -/
theorem eLsw2 {n d mi pc len t : Nat} {L : MLoc} {st : List Value} {M : Mem} {r : Option Value} {M1 : Mem} {ps : Array (Int × Int)} {d0 k1 o1 k2 o2 : Int} {x : Int32} (hat : mAt mi pc = some (len, .lookupswitch d0 ps)) (hp : ps.toList = [(k1, o1), (k2, o2)]) (hj : mJmp pc (if k1 = x.toInt then o1 else if k2 = x.toInt then o2 else d0) = some t) (h : En n d mi pc L (.int x :: st) M r M1) : En n d mi t L st M r M1 :=
  En.pl hat (by unfold mStep; dsimp only; rw [hp, Op.lookupswitch.offset_cons, Op.lookupswitch.offset_cons, Op.lookupswitch.offset_nil, hj]) h
theorem pie_ok : ∀ (n : Nat), (∀ m, m < n → KNg m ∧ KBr m) → KPi n := by
  intro n hK d M r M1 t N sh z P hS hT hC hb0 hp h
  cases n with
  | zero => exact (En.zero (mi := 80) (pc := 0) (len := 1) rfl h).elim
  | succ n =>
  replace h := eAloadS (mi := 80) (pc := 0) (len := 1) (i := 0) rfl rfl h
  replace h := eCallP (mi := 80) (pc := 1) (len := 3) (j := 73) (as := [.ref 130]) (rest := []) rfl (Or.inr (Or.inl rfl)) (by decide) rfl rfl (fun _ _ _ _ g => sgn_en hS hT.1 g) h
  have ts : (sgn M).toInt = t P.1.1 := sgn_t hT hC
  by_cases c33 : t P.1.1 = 33
  · skip
    replace h := eLsw2 (mi := 80) (pc := 4) (len := 28) (t := 32) rfl rfl (by rw [ts, c33]; rfl) h
    replace h := eAload (mi := 80) (pc := 32) (len := 1) (i := 0) rfl rfl h
    obtain ⟨r1, N2, g3, h⟩ := eCall (mi := 80) (pc := 33) (len := 3) (j := 81) (as := [.ref 130]) (rest := []) rfl (Or.inr (Or.inl rfl)) (by decide) rfl rfl h
    obtain ⟨hQ3, hT3, hR3⟩ := (hK n (Nat.lt_succ_self n)).1 _ _ _ _ t N sh z P hS hT hC hb0 ⟨c33, hp⟩ g3
    rcases hR3 with ⟨P3, er, hR3⟩ | ⟨er, hB3⟩
    · rw [er] at h
      obtain ⟨e1, e2⟩ := eRetI (mi := 80) (pc := 36) (len := 1) rfl h
      rw [e2]
      exact ⟨hQ3, hT3, Or.inl ⟨P3, e1, hR3⟩⟩
    · rw [er] at h
      obtain ⟨e1, e2⟩ := eRetI (mi := 80) (pc := 36) (len := 1) rfl h
      rw [e2]
      exact ⟨hQ3, hT3, Or.inr ⟨e1, hB3⟩⟩
  by_cases c40 : t P.1.1 = 40
  · skip
    replace h := eLsw2 (mi := 80) (pc := 4) (len := 28) (t := 37) rfl rfl (by rw [ts, c40]; rfl) h
    replace h := eAload (mi := 80) (pc := 37) (len := 1) (i := 0) rfl rfl h
    obtain ⟨r1, N2, g3, h⟩ := eCall (mi := 80) (pc := 38) (len := 3) (j := 77) (as := [.ref 130]) (rest := []) rfl (Or.inr (Or.inl rfl)) (by decide) rfl rfl h
    obtain ⟨hQ3, hT3, hR3⟩ := (hK n (Nat.lt_succ_self n)).2 _ _ _ _ t N sh z P hS hT hC hb0 ⟨c40, hp⟩ g3
    rcases hR3 with ⟨P3, er, hR3⟩ | ⟨er, hB3⟩
    · rw [er] at h
      obtain ⟨e1, e2⟩ := eRetI (mi := 80) (pc := 41) (len := 1) rfl h
      rw [e2]
      exact ⟨hQ3, hT3, Or.inl ⟨P3, e1, hR3⟩⟩
    · rw [er] at h
      obtain ⟨e1, e2⟩ := eRetI (mi := 80) (pc := 41) (len := 1) rfl h
      rw [e2]
      exact ⟨hQ3, hT3, Or.inr ⟨e1, hB3⟩⟩
  · skip
    replace h := eLsw2 (mi := 80) (pc := 4) (len := 28) (t := 42) rfl rfl (by rw [ts, if_neg (fun q => c33 q.symm), if_neg (fun q => c40 q.symm)]; rfl) h
    replace h := eAload (mi := 80) (pc := 42) (len := 1) (i := 0) rfl rfl h
    obtain ⟨r1, N2, g3, h⟩ := eCall (mi := 80) (pc := 43) (len := 3) (j := 82) (as := [.ref 130]) (rest := []) rfl (Or.inr (Or.inl rfl)) (by decide) rfl rfl h
    obtain ⟨hQ3, hT3, hR3⟩ := cmp_ok n _ _ _ _ t N sh z P hS hT hC hb0 ⟨⟨c33, c40⟩, hp⟩ g3
    rcases hR3 with ⟨P3, er, hR3⟩ | ⟨er, hB3⟩
    · rw [er] at h
      obtain ⟨e1, e2⟩ := eRetI (mi := 80) (pc := 46) (len := 1) rfl h
      rw [e2]
      exact ⟨hQ3, hT3, Or.inl ⟨P3, e1, hR3⟩⟩
    · rw [er] at h
      obtain ⟨e1, e2⟩ := eRetI (mi := 80) (pc := 46) (len := 1) rfl h
      rw [e2]
      exact ⟨hQ3, hT3, Or.inr ⟨e1, hB3⟩⟩
theorem low_off {a : Nat} {x : Int32} (hx : x.toInt = (a : Int) * 1048576) (ha : a < 128) : x &&& (-1048576 : Int32) = x := by
  have q : ∀ k, k < 128 → (Int32.ofNat (k * 1048576)) &&& (-1048576 : Int32) = Int32.ofNat (k * 1048576) := by decide +kernel
  have e := q a ha
  have ex : x = Int32.ofNat (a * 1048576) := by
    rw [← i32_natR (x := x) (by omega)]
    congr 1
    omega
  rw [ex]
  exact e
theorem pTop_jmp {P : PS} {op : Nat} (h : (P.1.2.2.1 : Int) < 1048576) (v : Int) : pTop (pEm (pAdv (pPush P ((op : Int) * 1048576 + (P.1.2.2.1 : Int)))) v) = op := by
  show (if P.1.2.2.2 + 1 = 0 then (-1 : Int) else pUp P.2.2 P.1.2.2.2 ((op : Int) * 1048576 + (P.1.2.2.1 : Int)) (P.1.2.2.2 + 1 - 1) / 1048576) = op
  rw [if_neg (by omega)]
  unfold pUp
  rw [if_pos (by omega)]
  omega
/-- a jump lands -/
theorem jland_ok {A M : Mem} {t : Int → Int} {n sh z : Int} {P0 P : PS} {op jd a : Nat} (ho : (op = 11 ∧ a = 38) ∨ (op = 12 ∧ a = 124)) (hS : Sh M) (h : CT0 M t n) (hc : CR M P sh n z) (f : FR A P0 M P sh) (j0 : P0.1.2.2.1 ≤ jd) (j1 : jd < P.1.2.2.1) (hs : P.2.1 jd = (op : Int) * 1048576) (hw : P.2.2 (P.1.2.2.2 - 1) = (op : Int) * 1048576 + (jd : Int)) (hw1 : P0.1.2.2.2 ≤ P.1.2.2.2 - 1) {v : Int32} (hv : v.toInt = (jd : Int) + sh) : (0 ≤ v.toInt ∧ v.toInt < (iv M 131 1).toInt) ∧ CQ M (mPut M 132 v.toInt.toNat (.int (((iv M 132 v.toInt.toNat) &&& ((-1048576) : Int32)) ||| (iv M 131 1)))) ∧ CT0 (mPut M 132 v.toInt.toNat (.int (((iv M 132 v.toInt.toNat) &&& ((-1048576) : Int32)) ||| (iv M 131 1)))) t n ∧ CR (mPut M 132 v.toInt.toNat (.int (((iv M 132 v.toInt.toNat) &&& ((-1048576) : Int32)) ||| (iv M 131 1)))) (pPop (pLand P op)) sh n z ∧ FR A P0 (mPut M 132 v.toInt.toNat (.int (((iv M 132 v.toInt.toNat) &&& ((-1048576) : Int32)) ||| (iv M 131 1)))) (pPop (pLand P op)) sh := by
  have hn := h.2.2.1
  obtain ⟨c1, c2, c3, c4, c5, c6⟩ := hc
  obtain ⟨f2, f3, f4, f5, f6, f7, f8⟩ := f
  have old := f7 jd j0 j1
  have ev : ((jd : Int) + sh).toNat = v.toInt.toNat := by rw [hv]
  rw [ev, hs] at old
  have eo : encC sh ((op : Int) * 1048576) = (a : Int) * 1048576 := by rcases ho with ⟨rfl, rfl⟩ | ⟨rfl, rfl⟩ <;> rfl
  rw [eo] at old
  have a9 : a < 128 := by omega
  have elo := low_off old a9
  have enew : (((iv M 132 v.toInt.toNat) &&& ((-1048576) : Int32)) ||| (iv M 131 1)).toInt = encC sh ((op : Int) * 1048576 + (P.1.2.2.1 : Int)) := by
    rw [elo, or_add old a9 (by omega) (by omega), old, c3]
    unfold encC
    have q1 : ((op : Int) * 1048576 + (P.1.2.2.1 : Int)) / 1048576 = op := by omega
    have q2 : ((op : Int) * 1048576 + (P.1.2.2.1 : Int)) % 1048576 = P.1.2.2.1 := by omega
    rw [q1, q2, if_neg (by omega), if_pos (by omega), if_neg (by omega)]
    have q3 : sgC (op : Int) = a := by rcases ho with ⟨rfl, rfl⟩ | ⟨rfl, rfl⟩ <;> rfl
    rw [q3]
  have ej : (P.2.2 (P.1.2.2.2 - 1) - (op : Int) * 1048576).toNat = jd := by rw [hw]; omega
  generalize (((iv M 132 v.toInt.toNat) &&& ((-1048576) : Int32)) ||| (iv M 131 1)) = w at enew ⊢
  have q1 := CQ.put (a := 132) (i := v.toInt.toNat) (v := w) hS (by omega)
  have s1 : ∀ k, k ≠ jd → (pPop (pLand P op)).2.1 k = P.2.1 k := fun k hk => by
    show pUp P.2.1 (P.2.2 (P.1.2.2.2 - 1) - (op : Int) * 1048576).toNat _ k = _
    rw [ej]
    unfold pUp
    rw [if_neg hk]
  have s2 : (pPop (pLand P op)).2.1 jd = (op : Int) * 1048576 + (P.1.2.2.1 : Int) := by
    show pUp P.2.1 (P.2.2 (P.1.2.2.2 - 1) - (op : Int) * 1048576).toNat _ jd = _
    rw [ej]
    unfold pUp
    rw [if_pos rfl]
  refine ⟨⟨by omega, by omega⟩, q1, h.put hS (by omega), ⟨?_, ?_, ?_, c4, c5, c6⟩, ⟨hw1, f3, f4, fun k hk => ?_, fun i hi => ?_, fun k k1 k2 => ?_, ?_⟩⟩
  · rw [iv_put_ne (Or.inl (by decide))]
    exact c1
  · rw [iv_put_ne (Or.inl (by decide))]
    exact c2
  · rw [iv_put_ne (Or.inl (by decide))]
    exact c3
  · rw [s1 k (by omega)]
    exact f5 k hk
  · rw [iv_put_ne (Or.inr (by omega))]
    exact f6 i hi
  · have k2 : k < P.1.2.2.1 := k2
    by_cases e : k = jd
    · subst e
      rw [ev, iv_put_eq hS (by decide) (by decide) (by show _ < 160; omega), s2]
      exact enew
    · rw [s1 k e, iv_put_ne (Or.inr (by omega))]
      exact f7 k k1 k2
  · rw [iv_put_ne (Or.inl (by decide))]
    exact f8
