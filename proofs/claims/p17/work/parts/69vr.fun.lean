/-! the reference's reader against the machine: clauses (printed by fn20.py) -/
/-- between clauses: what is open or waits doesn't matter -/
def RC (M : Mem) (r : PS) : Prop := Sh M ∧ (iv M 181 26).toInt = r.1.1 ∧ (iv M 181 30).toInt = (r.1.2.2.1 : Int) ∧ r.1.2.2.1 ≤ 180 ∧ (∀ k, k < 180 → (iv M 203 k).toInt = r.2.1 k) ∧ ∀ k, k < 180 → (iv M 204 k).toInt = r.2.2 k
theorem RR.rc {M : Mem} {r : PS} (h : RR M r) : RC M (pZ r) := ⟨h.1, h.2.1, h.2.2.2.1, h.2.2.2.2.2.1.1, h.2.2.2.2.2.2.1, h.2.2.2.2.2.2.2⟩
theorem RC.mk {M N : Mem} {r : PS} (h : RC M r) (hS : Sh N) (h1 : ∀ i, i = 26 ∨ i = 30 → iv N 181 i = iv M 181 i) (h2 : ∀ k, iv N 203 k = iv M 203 k ∧ iv N 204 k = iv M 204 k) : RC N r :=
  ⟨hS, by rw [h1 26 (Or.inl rfl)]; exact h.2.1, by rw [h1 30 (Or.inr rfl)]; exact h.2.2.1, h.2.2.2.1, fun k hk => by rw [(h2 k).1]; exact h.2.2.2.2.1 k hk, fun k hk => by rw [(h2 k).2]; exact h.2.2.2.2.2 k hk⟩
/-- stores that it doesn't look at -/
def rOth (a i : Nat) : Prop := (a = 181 ∧ (i = 25 ∨ i = 27 ∨ i = 28 ∨ i = 29 ∨ i = 31 ∨ i = 32 ∨ i = 33)) ∨ a = 205 ∨ a = 206 ∨ a = 207 ∨ a = 208
theorem Sh.poth {M : Mem} {a i : Nat} {v : Int32} (h : Sh M) (ha : rOth a i) : Sh (mPut M a i (.int v)) := by
  rcases ha with ⟨rfl, q⟩ | rfl | rfl | rfl | rfl
  · rcases q with rfl | rfl | rfl | rfl | rfl | rfl | rfl <;> exact h.put (by decide) (by decide) rfl
  · exact h.put (by decide) (by decide) rfl
  · exact h.put (by decide) (by decide) rfl
  · exact h.put (by decide) (by decide) rfl
  · exact h.put (by decide) (by decide) rfl
theorem RC.pot {M : Mem} {r : PS} {a i : Nat} {v : Int32} (h : RC M r) (ha : rOth a i) : RC (mPut M a i (.int v)) r := by
  refine h.mk (h.1.poth ha) (fun j hj => iv_put_ne ?_) (fun k => ⟨iv_put_ne (Or.inl ?_), iv_put_ne (Or.inl ?_)⟩)
  · rcases ha with ⟨rfl, q⟩ | rfl | rfl | rfl | rfl <;> omega
  · rcases ha with ⟨rfl, q⟩ | rfl | rfl | rfl | rfl <;> decide
  · rcases ha with ⟨rfl, q⟩ | rfl | rfl | rfl | rfl <;> decide
theorem RC.p26 {M : Mem} {r : PS} {v : Int32} {p : Int} (h : RC M r) (hv : v.toInt = p) : RC (mPut M 181 26 (.int v)) ((p, r.1.2), r.2) :=
  ⟨h.1.put (by decide) (by decide) rfl, by rw [iv_put_eq h.1 (by decide) (by decide) (by decide)]; exact hv, by rw [iv_put_ne (Or.inr (by decide))]; exact h.2.2.1, h.2.2.2.1, fun k hk => by rw [iv_put_ne (Or.inl (by decide))]; exact h.2.2.2.2.1 k hk, fun k hk => by rw [iv_put_ne (Or.inl (by decide))]; exact h.2.2.2.2.2 k hk⟩
theorem RC.zz {M : Mem} {r : PS} (h : RC M r) (h1 : (iv M 181 29).toInt = 0) (h2 : (iv M 181 31).toInt = 0) : RR M (pZ r) := ⟨h.1, h.2.1, h1, h.2.2.1, h2, ⟨h.2.2.2.1, Nat.zero_le _⟩, h.2.2.2.2.1, h.2.2.2.2.2⟩
theorem RR.pox {M : Mem} {r : PS} {a i : Nat} {v : Int32} (h : RR M r) (ha : (a = 181 ∧ i = 32) ∨ a = 205 ∨ a = 206 ∨ a = 207 ∨ a = 208) : RR (mPut M a i (.int v)) r := by
  have hS : Sh (mPut M a i (.int v)) := h.1.poth (by unfold rOth; omega)
  have n1 : ∀ j, j ≠ 32 → iv (mPut M a i (.int v)) 181 j = iv M 181 j := fun j hj => iv_put_ne (by omega)
  have n2 : ∀ k, iv (mPut M a i (.int v)) 203 k = iv M 203 k := fun k => iv_put_ne (Or.inl (by omega))
  have n3 : ∀ k, iv (mPut M a i (.int v)) 204 k = iv M 204 k := fun k => iv_put_ne (Or.inl (by omega))
  exact ⟨hS, by rw [n1 26 (by decide)]; exact h.2.1, by rw [n1 29 (by decide)]; exact h.2.2.1, by rw [n1 30 (by decide)]; exact h.2.2.2.1, by rw [n1 31 (by decide)]; exact h.2.2.2.2.1, h.2.2.2.2.2.1, fun k hk => by rw [n2]; exact h.2.2.2.2.2.2.1 k hk, fun k hk => by rw [n3]; exact h.2.2.2.2.2.2.2 k hk⟩
/-- what the reading of clauses leaves as it is -/
def RY (M M' : Mem) : Prop := ∀ c i, (c = 181 → i ≠ 26 ∧ i ≠ 28 ∧ i ≠ 29 ∧ i ≠ 30 ∧ i ≠ 31 ∧ i ≠ 32 ∧ i ≠ 33) → (c < 203 ∨ 208 < c) → mSlot M' c i = mSlot M c i
theorem RY.rf {M : Mem} : RY M M := fun _ _ _ _ => rfl
theorem RY.tr {A B C : Mem} (h1 : RY A B) (h2 : RY B C) : RY A C := fun c i a b => (h2 c i a b).trans (h1 c i a b)
theorem RX.y {A B : Mem} (h : RX A B) : RY A B := fun c i a b => h c i (fun q => by have := a q; omega) (by omega) (by omega)
theorem RY.put {M : Mem} {a i : Nat} {v : Value} (h : (a = 181 ∧ (i = 26 ∨ i = 28 ∨ i = 29 ∨ i = 30 ∨ i = 31 ∨ i = 32 ∨ i = 33)) ∨ (203 ≤ a ∧ a ≤ 208)) : RY M (mPut M a i v) := fun c j h1 h2 => mSlot_put_ne (by
  by_cases e : c = a
  · refine Or.inr (fun e2 => ?_)
    subst e
    subst e2
    rcases h with ⟨h, q⟩ | h
    · have := h1 h
      omega
    · omega
  · exact Or.inl e)
theorem RT.y {M M' : Mem} {t : Int → Int} {n : Int} (h : RT M t n) (x : RY M M') : RT M' t n :=
  ⟨by rw [iv_sl (x 181 27 (by decide) (by decide))]; exact h.1, h.2.1, fun k hk => by rw [iv_sl (x 202 k (fun q => absurd q (by decide)) (by decide))]; exact h.2.2.1 k hk, h.2.2.2⟩
/-- what holds between clauses -/
def KI (n : Int) (P : PS) : Prop := (0 ≤ P.1.1 ∧ P.1.1 ≤ n) ∧ (P.1.2.2.1 : Int) ≤ 2 * P.1.1 ∧ ∀ k, k < P.1.2.2.1 → 0 ≤ P.2.1 k ∧ P.2.1 k < 16777216
theorem MI.ci {n h : Int} {m b : Nat} {P : PS} (hM : MI n (m, b, h, P)) : KI n (pZ P) := by
  obtain ⟨p0, p1, _, _, hW⟩ := hM.f
  have hc : (P.1.2.2.1 : Int) + (P.1.2.2.2 : Int) ≤ 2 * P.1.1 := hM.2.2.1.1
  exact ⟨⟨p0, p1⟩, by show (P.1.2.2.1 : Int) ≤ 2 * P.1.1; omega, hW.2.1⟩
theorem sum_mi {N : Int} {P : PS} (h : KI N P) (e1 : P.1.2.1 = 0) (e2 : P.1.2.2.2 = 0) (lt : P.1.1 < N) : MI N (0, 0, 0, pAdv P) := by
  obtain ⟨⟨p0, p1⟩, hc, hW⟩ := h
  have w0 : WS (pAdv P) := ⟨fun k hk => by have hk : k < P.1.2.2.2 := hk; omega, hW, fun k hk => by have hk : k < P.1.2.2.2 := hk; omega⟩
  refine ⟨⟨?_, ?_⟩, ⟨?_, ?_⟩, ⟨?_, ?_⟩, w0, ?_, ?_⟩
  · show 0 ≤ P.1.1 + 1
    omega
  · show P.1.1 + 1 ≤ N
    omega
  · show P.1.2.1 ≤ 6
    omega
  · show (P.1.2.2.2 : Int) ≤ P.1.2.1 + (P.1.1 + 1)
    omega
  · show (P.1.2.2.1 : Int) + (P.1.2.2.2 : Int) ≤ 2 * (P.1.1 + 1)
    omega
  · exact fun q => absurd (show (7 : Int) ≤ 0 from q.2) (by decide)
  · exact fun _ => Or.inl rfl
  · intro q
    exfalso
    rcases q with q | q
    · exact absurd (show 2 ≤ 0 from q.1) (by decide)
    · exact absurd (show (1 : Int) ≤ 0 from q.2) (by decide)
theorem rcl_110 {t : Int → Int} {N : Int} {P : PS} {k : Nat} (hn : N ≤ 160) {n d : Nat} {L : MLoc} {M : Mem} {r : Option Value} {M1 : Mem} (l0 : mLd L 0 = some (.ref 181)) (hR : RR M P) (hT : RT M t N) (hI : KI N P) (ek : (iv M 181 32).toInt = (k : Int)) (hk : k < 12) (h : En n d 211 110 L [] M r M1) : RY M M1 ∧ ((∃ R', r = some (.int 1) ∧ t P.1.1 = 40 ∧ Rch t (2, 0, 0, pZ P) (7, 0, 0, R') ∧ RR M1 R' ∧ (iv M1 181 32).toInt = (k : Int) + 1 ∧ (iv M1 207 k).toInt = (P.1.2.2.1 : Int) ∧ (iv M1 208 k).toInt = (R'.1.2.2.1 : Int) ∧ (∀ j, j ≠ k → iv M1 207 j = iv M 207 j ∧ iv M1 208 j = iv M 208 j) ∧ ∀ j, iv M1 205 j = iv M 205 j ∧ iv M1 206 j = iv M 206 j) ∨ (r = some (.int 0) ∧ Sh M1 ∧ ClX t (pZ P) (iv M1 181 28).toInt)) := by
  replace h := eAload (mi := 211) (pc := 110) (len := 1) (i := 0) rfl l0 h
  replace h := eGetR (a := 181) (j := 1138) (g := 207) hR.1 (by decide) (by decide) rfl rfl rfl (mi := 211) (pc := 111) (len := 3) rfl h
  replace h := eAload (mi := 211) (pc := 114) (len := 1) (i := 0) rfl l0 h
  replace h := eGetI (a := 181) (j := 1132) hR.1 (by decide) (by decide) rfl (mi := 211) (pc := 115) (len := 3) rfl h
  replace h := eAload (mi := 211) (pc := 118) (len := 1) (i := 0) rfl l0 h
  replace h := eGetI (a := 181) (j := 1130) hR.1 (by decide) (by decide) rfl (mi := 211) (pc := 119) (len := 3) rfl h
  obtain ⟨N2, eN2⟩ : ∃ X_, X_ = mPut M 207 (iv M 181 32).toInt.toNat (.int (iv M 181 30)) := ⟨_, rfl⟩
  obtain ⟨b1, h⟩ := eIast (x := (iv M 181 32)) (N := N2) hR.1 (a := 207) (by decide) (by decide) eN2 (mi := 211) (pc := 122) (len := 1) rfl h
  have hS3 : Sh N2 := by rw [eN2]; exact hR.1.put (by decide) (by decide) rfl
  have ekn : (iv M 181 32).toInt.toNat = k := by omega
  have R4 : RR N2 P := by rw [eN2, ekn]; exact hR.pox (by omega)
  have X5 : RY M N2 := RY.rf.tr (by rw [eN2]; exact RY.put (Or.inr (by decide)))
  have v207 : (iv N2 207 k).toInt = (P.1.2.2.1 : Int) := by rw [eN2, ekn, iv_put_eq hR.1 (by decide) (by decide) (by show k < 12; omega)]; exact hR.2.2.2.1
  have n207 : ∀ c i, (c ≠ 207 ∨ i ≠ k) → iv N2 c i = iv M c i := fun c i q => by rw [eN2, ekn]; exact iv_put_ne q
  replace h := eAload (mi := 211) (pc := 123) (len := 1) (i := 0) rfl l0 h
  obtain ⟨r6, N7, g8, h⟩ := eCall (mi := 211) (pc := 124) (len := 3) (j := 210) (as := [.ref 181]) (rest := []) rfl (Or.inr (Or.inl rfl)) (by decide) rfl rfl h
  obtain ⟨XC, hF⟩ := cndr_ok hn R4 (hT.y X5) hI.1.1 hI.1.2 hI.2.1 hI.2.2 g8
  rcases hF with ⟨R4, q4, t40, hr4, RC4⟩ | ⟨q4, S4, B4⟩
  · rw [q4] at h
    rcases eIf (mi := 211) (pc := 127) (len := 3) (t := 132) rfl rfl h with ⟨c9, h⟩ | ⟨c9, h⟩
    · skip
      replace h := eAload (mi := 211) (pc := 132) (len := 1) (i := 0) rfl l0 h
      replace h := eGetR (a := 181) (j := 1139) (g := 208) RC4.1 (by decide) (by decide) rfl rfl rfl (mi := 211) (pc := 133) (len := 3) rfl h
      replace h := eAload (mi := 211) (pc := 136) (len := 1) (i := 0) rfl l0 h
      replace h := eGetI (a := 181) (j := 1132) RC4.1 (by decide) (by decide) rfl (mi := 211) (pc := 137) (len := 3) rfl h
      replace h := eAload (mi := 211) (pc := 140) (len := 1) (i := 0) rfl l0 h
      replace h := eGetI (a := 181) (j := 1130) RC4.1 (by decide) (by decide) rfl (mi := 211) (pc := 141) (len := 3) rfl h
      obtain ⟨N11, eN11⟩ : ∃ X_, X_ = mPut N7 208 (iv N7 181 32).toInt.toNat (.int (iv N7 181 30)) := ⟨_, rfl⟩
      obtain ⟨b10, h⟩ := eIast (x := (iv N7 181 32)) (N := N11) RC4.1 (a := 208) (by decide) (by decide) eN11 (mi := 211) (pc := 144) (len := 1) rfl h
      have hS12 : Sh N11 := by rw [eN11]; exact RC4.1.put (by decide) (by decide) rfl
      have ek4 : iv N7 181 32 = iv N2 181 32 := iv_sl (XC 181 32 (by decide) (by decide) (by decide))
      have ekn4 : (iv N7 181 32).toInt.toNat = k := by rw [ek4, n207 181 32 (Or.inl (by decide))]; exact ekn
      have R13 : RR N11 R4 := by rw [eN11, ekn4]; exact RC4.pox (by omega)
      have X14 : RY M N11 := (X5.tr XC.y).tr (by rw [eN11]; exact RY.put (Or.inr (by decide)))
      have v208 : (iv N11 208 k).toInt = (R4.1.2.2.1 : Int) := by rw [eN11, ekn4, iv_put_eq RC4.1 (by decide) (by decide) (by show k < 12; omega)]; exact RC4.2.2.2.1
      have n208 : ∀ c i, (c ≠ 208 ∨ i ≠ k) → iv N11 c i = iv N7 c i := fun c i q => by rw [eN11, ekn4]; exact iv_put_ne q
      replace h := eAload (mi := 211) (pc := 145) (len := 1) (i := 0) rfl l0 h
      replace h := eAload (mi := 211) (pc := 146) (len := 1) (i := 0) rfl l0 h
      replace h := eGetI (a := 181) (j := 1132) R13.1 (by decide) (by decide) rfl (mi := 211) (pc := 147) (len := 3) rfl h
      replace h := eConst (mi := 211) (pc := 150) (len := 1) (v := 1) rfl h
      replace h := eAdd (mi := 211) (pc := 151) (len := 1) rfl h
      obtain ⟨N15, eN15⟩ : ∃ X_, X_ = mPut N11 181 32 (.int ((iv N11 181 32) + (1 : Int32))) := ⟨_, rfl⟩
      replace h := ePutE (a := 181) (f := 32) (N := N15) rfl eN15 (mi := 211) (pc := 152) (len := 3) (j := 1132) rfl h
      have hS16 : Sh N15 := by rw [eN15]; exact R13.1.put (by decide) (by decide) rfl
      have R17 : RR N15 R4 := by rw [eN15]; exact R13.pox (by omega)
      have X18 : RY M N15 := X14.tr (by rw [eN15]; exact RY.put (Or.inl ⟨rfl, by decide⟩))
      have n32 : ∀ c i, (c ≠ 181 ∨ i ≠ 32) → iv N15 c i = iv N11 c i := fun c i q => by rw [eN15]; exact iv_put_ne q
      have v32 : (iv N15 181 32).toInt = (k : Int) + 1 := by rw [eN15, iv_put_eq R13.1 (by decide) (by decide) (by decide)]; exact ic1 (by rw [n208 181 32 (Or.inl (by decide)), ek4, n207 181 32 (Or.inl (by decide))]; exact ek) (by omega) (by omega)
      replace h := eConst (mi := 211) (pc := 155) (len := 1) (v := 1) rfl h
      obtain ⟨e1, e2⟩ := eRetI (mi := 211) (pc := 156) (len := 1) rfl h
      rw [e2]
      have nx : ∀ c i, 205 ≤ c → c ≤ 208 → iv N7 c i = iv N2 c i := fun c i c1 c2 => iv_sl (XC c i (fun q => by omega) (by omega) (by omega))
      refine ⟨X18, Or.inl ⟨R4, e1, t40, hr4, R17, v32, ?_, ?_, fun j hj => ⟨?_, ?_⟩, fun j => ⟨?_, ?_⟩⟩⟩
      · rw [n32 207 k (Or.inl (by decide)), n208 207 k (Or.inl (by decide)), nx 207 k (by decide) (by decide)]
        exact v207
      · rw [n32 208 k (Or.inl (by decide))]
        exact v208
      · rw [n32 207 j (Or.inl (by decide)), n208 207 j (Or.inl (by decide)), nx 207 j (by decide) (by decide), n207 207 j (Or.inr hj)]
      · rw [n32 208 j (Or.inl (by decide)), n208 208 j (Or.inr hj), nx 208 j (by decide) (by decide), n207 208 j (Or.inl (by decide))]
      · rw [n32 205 j (Or.inl (by decide)), n208 205 j (Or.inl (by decide)), nx 205 j (by decide) (by decide), n207 205 j (Or.inl (by decide))]
      · rw [n32 206 j (Or.inl (by decide)), n208 206 j (Or.inl (by decide)), nx 206 j (by decide) (by decide), n207 206 j (Or.inl (by decide))]
    · exact absurd c9 (by decide)
  · rw [q4] at h
    rcases eIf (mi := 211) (pc := 127) (len := 3) (t := 132) rfl rfl h with ⟨c19, h⟩ | ⟨c19, h⟩
    · exact absurd c19 (by decide)
    · skip
      replace h := eConst (mi := 211) (pc := 130) (len := 1) (v := 0) rfl h
      obtain ⟨e1, e2⟩ := eRetI (mi := 211) (pc := 131) (len := 1) rfl h
      rw [e2]
      refine ⟨X5.tr XC.y, Or.inr ⟨e1, S4, ?_⟩⟩
      rcases B4 with B4 | B4
      · exact Or.inl B4
      · exact Or.inr B4
/-- a clause as the reference keeps it -/
def RG (M : Mem) (j : Nat) (c : Int) (a b e : Nat) : Prop := (iv M 205 j).toInt = c ∧ (iv M 206 j).toInt = (a : Int) ∧ (iv M 207 j).toInt = (b : Int) ∧ (iv M 208 j).toInt = (e : Int)
/-- a clause that the reference reads -/
def KRc (t : Int → Int) (N : Int) (k : Nat) (M : Mem) (P : PS) (r : Option Value) (M1 : Mem) : Prop := RY M M1 ∧ ((∃ Q P', r = some (.int 1) ∧ k < 12 ∧ ClQ t P Q ∧ ClE t Q P' ∧ RC M1 P' ∧ KI N P' ∧ (P'.1.2.1 = 0 ∧ P'.1.2.2.2 = 0) ∧ (iv M1 181 32).toInt = (k : Int) + 1 ∧ RG M1 k (t P.1.1) P.1.2.2.1 Q.1.2.2.1 P'.1.2.2.1 ∧ ∀ j, j ≠ k → iv M1 205 j = iv M 205 j ∧ iv M1 206 j = iv M 206 j ∧ iv M1 207 j = iv M 207 j ∧ iv M1 208 j = iv M 208 j) ∨ (r = some (.int 0) ∧ Sh M1 ∧ ClB t k P (iv M1 181 28).toInt))
theorem wr_v {k : Int32} {M M1 : Mem} {p : Int} (hS : Sh M) (hp : (iv M 181 26).toInt = p) (p0 : 0 ≤ p) (p1 : p ≤ 160) (k0 : 0 ≤ k.toInt) (k1 : k.toInt ≤ 5) (e2 : M1 = mPut M 181 28 (.int ((-1000) * k - iv M 181 26))) : (iv M1 181 28).toInt = -1000 * k.toInt - p := by
  rw [e2, iv_put_eq hS (by decide) (by decide) (by decide)]
  have q : ((-1000 : Int32) * k).toInt = -1000 * k.toInt := i32_mul (x := -1000) (by show -2147483648 ≤ -1000 * k.toInt; omega) (by show -1000 * k.toInt ≤ 2147483647; omega)
  rw [i32_sub (by rw [q, hp]; omega) (by rw [q, hp]; omega), q, hp]
theorem cnd_ci {t : Int → Int} {N : Int} {P R : PS} (hn : N ≤ 160) (hL : TL t N) (hI : KI N P) (h40 : t P.1.1 = 40) (hr : Rch t (2, 0, 0, pZ P) (7, 0, 0, R)) : KI N (pZ R) := by
  have lt : P.1.1 < N := hL _ (by omega)
  have sx : sm t (2, 0, 0, pZ P) = (2, 0, 0, pAdv (pOpn (pPush (pZ P) 13631488) 1)) := sP_brk h40 (by show ¬ (0 : Int) = 6; decide)
  have hM := cnd_mi lt hI.1.1 hI.2.1 hI.2.2
  obtain ⟨k, hk⟩ := hr
  cases k with
  | zero =>
    have hk : ((2, 0, 0, pZ P) : CF) = (7, 0, 0, R) := hk
    have := congrArg (fun q : CF => q.1) hk
    have : (2 : Nat) = 7 := this
    omega
  | succ k =>
    have hk : smN t k (sm t (2, 0, 0, pZ P)) = (7, 0, 0, R) := hk
    rw [sx] at hk
    exact (Rch.mi hn hL hM ⟨k, hk⟩).ci
theorem rcl_33 {t : Int → Int} {N : Int} {k : Nat} {x : Int32} (hn : N ≤ 160) {n d : Nat} {L : MLoc} {M : Mem} {r : Option Value} {M1 : Mem} {P : PS} (l0 : mLd L 0 = some (.ref 181)) (l1 : mLd L 1 = some (.int x)) (ex : x.toInt = t P.1.1) (hl : (t P.1.1 = 98 ∨ t P.1.1 = 115 ∨ t P.1.1 = 121)) (hR : RC M P) (hz : P.1.2.1 = 0 ∧ P.1.2.2.2 = 0) (hT : RT M t N) (hI : KI N P) (ek : (iv M 181 32).toInt = (k : Int)) (hk : k ≤ 12) (h : En n d 211 33 L [] M r M1) : KRc t N k M P r M1 := by
  have p0 := hI.1.1
  have p1 := hI.1.2
  have lt : P.1.1 < N := hT.tl _ (by omega)
  replace h := eAload (mi := 211) (pc := 33) (len := 1) (i := 0) rfl l0 h
  replace h := eGetI (a := 181) (j := 1132) hR.1 (by decide) (by decide) rfl (mi := 211) (pc := 34) (len := 3) rfl h
  replace h := eConst (mi := 211) (pc := 37) (len := 2) (v := 12) rfl h
  rcases eIc (mi := 211) (pc := 39) (len := 3) (t := 52) rfl rfl h with ⟨c1, h⟩ | ⟨c1, h⟩
  · replace c1 : ¬ (iv M 181 32).toInt = 12 := mC_ne.1 c1
    replace h := eAload (mi := 211) (pc := 52) (len := 1) (i := 0) rfl l0 h
    replace h := eGetR (a := 181) (j := 1136) (g := 205) hR.1 (by decide) (by decide) rfl rfl rfl (mi := 211) (pc := 53) (len := 3) rfl h
    replace h := eAload (mi := 211) (pc := 56) (len := 1) (i := 0) rfl l0 h
    replace h := eGetI (a := 181) (j := 1132) hR.1 (by decide) (by decide) rfl (mi := 211) (pc := 57) (len := 3) rfl h
    replace h := eIload (mi := 211) (pc := 60) (len := 1) (i := 1) rfl l1 h
    obtain ⟨N3, eN3⟩ : ∃ X_, X_ = mPut M 205 (iv M 181 32).toInt.toNat (.int x) := ⟨_, rfl⟩
    obtain ⟨b2, h⟩ := eIast (x := (iv M 181 32)) (N := N3) hR.1 (a := 205) (by decide) (by decide) eN3 (mi := 211) (pc := 61) (len := 1) rfl h
    have hS4 : Sh N3 := by rw [eN3]; exact hR.1.put (by decide) (by decide) rfl
    have ekn : (iv M 181 32).toInt.toNat = k := by omega
    have k12 : k < 12 := by have q := c1; rw [ek] at q; have q : ¬ (k : Int) = 12 := q; omega
    have R5 : RC N3 P := by rw [eN3, ekn]; exact hR.pot (by unfold rOth; omega)
    have X6 : RY M N3 := RY.rf.tr (by rw [eN3]; exact RY.put (Or.inr (by decide)))
    have v205 : iv N3 205 k = x := by rw [eN3, ekn]; exact iv_put_eq hR.1 (by decide) (by decide) (by show k < 12; omega)
    have n205 : ∀ c i, (c ≠ 205 ∨ i ≠ k) → iv N3 c i = iv M c i := fun c i q => by rw [eN3, ekn]; exact iv_put_ne q
    replace h := eAload (mi := 211) (pc := 62) (len := 1) (i := 0) rfl l0 h
    replace h := eAload (mi := 211) (pc := 63) (len := 1) (i := 0) rfl l0 h
    replace h := eGetI (a := 181) (j := 1126) R5.1 (by decide) (by decide) rfl (mi := 211) (pc := 64) (len := 3) rfl h
    replace h := eConst (mi := 211) (pc := 67) (len := 1) (v := 1) rfl h
    replace h := eAdd (mi := 211) (pc := 68) (len := 1) rfl h
    obtain ⟨N7, eN7⟩ : ∃ X_, X_ = mPut N3 181 26 (.int ((iv N3 181 26) + (1 : Int32))) := ⟨_, rfl⟩
    replace h := ePutE (a := 181) (f := 26) (N := N7) rfl eN7 (mi := 211) (pc := 69) (len := 3) (j := 1126) rfl h
    have hS8 : Sh N7 := by rw [eN7]; exact R5.1.put (by decide) (by decide) rfl
    have R9 : RC N7 (pAdv P) := by rw [eN7]; exact R5.p26 (p := P.1.1 + 1) (ic1 R5.2.1 (by show -1000 ≤ P.1.1; omega) (by show P.1.1 ≤ 1000; omega))
    have X10 : RY M N7 := X6.tr (by rw [eN7]; exact RY.put (Or.inl ⟨rfl, by decide⟩))
    have n26 : ∀ c i, (c ≠ 181 ∨ i ≠ 26) → iv N7 c i = iv N3 c i := fun c i q => by rw [eN7]; exact iv_put_ne q
    replace h := eAload (mi := 211) (pc := 72) (len := 1) (i := 0) rfl l0 h
    replace h := eGetR (a := 181) (j := 1137) (g := 206) R9.1 (by decide) (by decide) rfl rfl rfl (mi := 211) (pc := 73) (len := 3) rfl h
    replace h := eAload (mi := 211) (pc := 76) (len := 1) (i := 0) rfl l0 h
    replace h := eGetI (a := 181) (j := 1132) R9.1 (by decide) (by decide) rfl (mi := 211) (pc := 77) (len := 3) rfl h
    replace h := eAload (mi := 211) (pc := 80) (len := 1) (i := 0) rfl l0 h
    replace h := eGetI (a := 181) (j := 1130) R9.1 (by decide) (by decide) rfl (mi := 211) (pc := 81) (len := 3) rfl h
    obtain ⟨N12, eN12⟩ : ∃ X_, X_ = mPut N7 206 (iv N7 181 32).toInt.toNat (.int (iv N7 181 30)) := ⟨_, rfl⟩
    obtain ⟨b11, h⟩ := eIast (x := (iv N7 181 32)) (N := N12) R9.1 (a := 206) (by decide) (by decide) eN12 (mi := 211) (pc := 84) (len := 1) rfl h
    have hS13 : Sh N12 := by rw [eN12]; exact R9.1.put (by decide) (by decide) rfl
    have ekn2 : (iv N7 181 32).toInt.toNat = k := by rw [n26 181 32 (Or.inr (by decide)), n205 181 32 (Or.inl (by decide))]; exact ekn
    have R14 : RC N12 (pAdv P) := by rw [eN12, ekn2]; exact R9.pot (by unfold rOth; omega)
    have X15 : RY M N12 := X10.tr (by rw [eN12]; exact RY.put (Or.inr (by decide)))
    have v206 : (iv N12 206 k).toInt = (P.1.2.2.1 : Int) := by rw [eN12, ekn2, iv_put_eq R9.1 (by decide) (by decide) (by show k < 12; omega)]; exact R9.2.2.1
    have n206 : ∀ c i, (c ≠ 206 ∨ i ≠ k) → iv N12 c i = iv N7 c i := fun c i q => by rw [eN12, ekn2]; exact iv_put_ne q
    replace h := eAload (mi := 211) (pc := 85) (len := 1) (i := 0) rfl l0 h
    replace h := eConst (mi := 211) (pc := 86) (len := 1) (v := 0) rfl h
    obtain ⟨N16, eN16⟩ : ∃ X_, X_ = mPut N12 181 29 (.int (0 : Int32)) := ⟨_, rfl⟩
    replace h := ePutE (a := 181) (f := 29) (N := N16) rfl eN16 (mi := 211) (pc := 87) (len := 3) (j := 1129) rfl h
    have hS17 : Sh N16 := by rw [eN16]; exact R14.1.put (by decide) (by decide) rfl
    have R18 : RC N16 (pAdv P) := by rw [eN16]; exact R14.pot (by unfold rOth; omega)
    have X19 : RY M N16 := X15.tr (by rw [eN16]; exact RY.put (Or.inl ⟨rfl, by decide⟩))
    have v29 : (iv N16 181 29).toInt = 0 := by rw [eN16, iv_put_eq R14.1 (by decide) (by decide) (by decide)]; rfl
    have n29 : ∀ c i, (c ≠ 181 ∨ i ≠ 29) → iv N16 c i = iv N12 c i := fun c i q => by rw [eN16]; exact iv_put_ne q
    replace h := eAload (mi := 211) (pc := 90) (len := 1) (i := 0) rfl l0 h
    replace h := eConst (mi := 211) (pc := 91) (len := 1) (v := 0) rfl h
    obtain ⟨N20, eN20⟩ : ∃ X_, X_ = mPut N16 181 31 (.int (0 : Int32)) := ⟨_, rfl⟩
    replace h := ePutE (a := 181) (f := 31) (N := N20) rfl eN20 (mi := 211) (pc := 92) (len := 3) (j := 1131) rfl h
    have hS21 : Sh N20 := by rw [eN20]; exact R18.1.put (by decide) (by decide) rfl
    have R22 : RC N20 (pAdv P) := by rw [eN20]; exact R18.pot (by unfold rOth; omega)
    have X23 : RY M N20 := X19.tr (by rw [eN20]; exact RY.put (Or.inl ⟨rfl, by decide⟩))
    have n31 : ∀ c i, (c ≠ 181 ∨ i ≠ 31) → iv N20 c i = iv N16 c i := fun c i q => by rw [eN20]; exact iv_put_ne q
    have v31 : (iv N20 181 31).toInt = 0 := by rw [eN20, iv_put_eq R18.1 (by decide) (by decide) (by decide)]; rfl
    have RZ := R22.zz (by rw [n31 181 29 (Or.inr (by decide))]; exact v29) v31
    have zP : pZ (pAdv P) = pAdv P := pZ_id hz.1 hz.2
    rw [zP] at RZ
    have all5 : ∀ c i, (c = 205 ∨ c = 207 ∨ c = 208) → (c ≠ 205 ∨ i ≠ k) → iv N20 c i = iv M c i := fun c i q q2 => by rw [n31 c i (Or.inl (by omega)), n29 c i (Or.inl (by omega)), n206 c i (Or.inl (by omega)), n26 c i (Or.inl (by omega)), n205 c i (by omega)]
    have all6 : ∀ i, i ≠ k → iv N20 206 i = iv M 206 i := fun i q => by rw [n31 206 i (Or.inl (by decide)), n29 206 i (Or.inl (by decide)), n206 206 i (Or.inr q), n26 206 i (Or.inl (by decide)), n205 206 i (Or.inl (by decide))]
    have ek5 : (iv N20 181 32).toInt = (k : Int) := by rw [n31 181 32 (Or.inr (by decide)), n29 181 32 (Or.inr (by decide)), n206 181 32 (Or.inl (by decide)), n26 181 32 (Or.inr (by decide)), n205 181 32 (Or.inl (by decide))]; exact ek
    have w205 : (iv N20 205 k).toInt = t P.1.1 := by rw [n31 205 k (Or.inl (by decide)), n29 205 k (Or.inl (by decide)), n206 205 k (Or.inl (by decide)), n26 205 k (Or.inl (by decide)), v205]; exact ex
    have w206 : (iv N20 206 k).toInt = (P.1.2.2.1 : Int) := by rw [n31 206 k (Or.inl (by decide)), n29 206 k (Or.inl (by decide))]; exact v206
    replace h := eIload (mi := 211) (pc := 95) (len := 1) (i := 1) rfl l1 h
    replace h := eConst (mi := 211) (pc := 96) (len := 2) (v := 121) rfl h
    rcases eIc (mi := 211) (pc := 98) (len := 3) (t := 110) rfl rfl h with ⟨c24, h⟩ | ⟨c24, h⟩
    · replace c24 : ¬ x.toInt = 121 := mC_ne.1 c24
      have ny : ¬ t P.1.1 = 121 := fun q => c24 (ex.trans q)
      have lb : t P.1.1 = 98 ∨ t P.1.1 = 115 := by omega
      have hq : ClQ t P (pAdv P) := Or.inr ⟨lb, rfl⟩
      have hI2 : KI N (pAdv P) := ⟨⟨by show 0 ≤ P.1.1 + 1; omega, by show P.1.1 + 1 ≤ N; omega⟩, by show (P.1.2.2.1 : Int) ≤ 2 * (P.1.1 + 1); have := hI.2.1; omega, hI.2.2⟩
      have nS : ∀ c i, 205 ≤ c → c ≤ 208 → iv N20 c i = iv N20 c i := fun c i c1 c2 => rfl
      obtain ⟨j1, j2⟩ := rcl_110 hn l0 RZ (hT.y X23) hI2 ek5 k12 h
      rw [zP] at j2
      refine ⟨X23.tr j1, ?_⟩
      rcases j2 with ⟨R5, q5, t40, hr5, R5r, v5, a7, a8, a78, a56⟩ | ⟨q5, S5, B5⟩
      · have hM5 : KI N (pZ R5) := cnd_ci hn hT.tl hI2 t40 (by rw [zP]; exact hr5)
        refine Or.inl ⟨pAdv P, pZ R5, q5, k12, hq, ⟨t40, R5, hr5, rfl⟩, R5r.rc, hM5, ⟨rfl, rfl⟩, v5, ⟨?_, ?_, a7, a8⟩, fun j hj => ⟨?_, ?_, ?_, ?_⟩⟩
        · rw [(a56 k).1, nS 205 k (by decide) (by decide)]
          exact w205
        · rw [(a56 k).2, nS 206 k (by decide) (by decide)]
          exact w206
        · rw [(a56 j).1, nS 205 j (by decide) (by decide), all5 205 j (Or.inl rfl) (Or.inr hj)]
        · rw [(a56 j).2, nS 206 j (by decide) (by decide), all6 j hj]
        · rw [(a78 j hj).1, nS 207 j (by decide) (by decide), all5 207 j (Or.inr (Or.inl rfl)) (Or.inl (by decide))]
        · rw [(a78 j hj).2, nS 208 j (by decide) (by decide), all5 208 j (Or.inr (Or.inr rfl)) (Or.inl (by decide))]
      · exact Or.inr ⟨q5, S5, Or.inr (Or.inr ⟨hl, k12, Or.inr ⟨pAdv P, hq, B5⟩⟩)⟩
    · replace c24 : x.toInt = 121 := mC_ne.2 c24
      replace h := eAload (mi := 211) (pc := 101) (len := 1) (i := 0) rfl l0 h
      obtain ⟨r25, N7, g27, h⟩ := eCall (mi := 211) (pc := 102) (len := 3) (j := 205) (as := [.ref 181]) (rest := []) rfl (Or.inr (Or.inl rfl)) (by decide) rfl rfl h
      have ty : t P.1.1 = 121 := ex.symm.trans c24
      have hM := sum_mi hI hz.1 hz.2 lt
      obtain ⟨XS, hF⟩ := rsum_ok (b := 0) (h0 := 0) hn RZ (hT.y X23) hM (show P.1.2.2.2 = 0 from hz.2) g27
      rcases hF with ⟨P4, q4, ⟨hr4, k41, k42, k43⟩, R4⟩ | ⟨q4, B4⟩
      · rw [q4] at h
        rcases eIf (mi := 211) (pc := 105) (len := 3) (t := 110) rfl rfl h with ⟨c28, h⟩ | ⟨c28, h⟩
        · skip
          have hr9 : Rch t (0, 0, 0, pAdv P) (7, 0, 0, P4) := hr4.tr (Rch.go (sA_spn k42 k41 k43) Rch.rf)
          have hq : ClQ t P (pZ P4) := Or.inl ⟨ty, P4, hr9, rfl⟩
          have hM4 := hr9.mi hn hT.tl hM
          have ekS : (iv N7 181 32).toInt = (k : Int) := by rw [iv_sl (XS 181 32 (by decide) (by decide) (by decide))]; exact ek5
          have nS : ∀ c i, 205 ≤ c → c ≤ 208 → iv N7 c i = iv N20 c i := fun c i c1 c2 => iv_sl (XS c i (fun q => by omega) (by omega) (by omega))
          obtain ⟨j1, j2⟩ := rcl_110 hn l0 R4 (hT.y (X23.tr XS.y)) hM4.ci ekS k12 h
          refine ⟨(X23.tr XS.y).tr j1, ?_⟩
          rcases j2 with ⟨R5, q5, t40, hr5, R5r, v5, a7, a8, a78, a56⟩ | ⟨q5, S5, B5⟩
          · have hM5 : KI N (pZ R5) := cnd_ci hn hT.tl hM4.ci t40 hr5
            refine Or.inl ⟨pZ P4, pZ R5, q5, k12, hq, ⟨t40, R5, hr5, rfl⟩, R5r.rc, hM5, ⟨rfl, rfl⟩, v5, ⟨?_, ?_, a7, a8⟩, fun j hj => ⟨?_, ?_, ?_, ?_⟩⟩
            · rw [(a56 k).1, nS 205 k (by decide) (by decide)]
              exact w205
            · rw [(a56 k).2, nS 206 k (by decide) (by decide)]
              exact w206
            · rw [(a56 j).1, nS 205 j (by decide) (by decide), all5 205 j (Or.inl rfl) (Or.inr hj)]
            · rw [(a56 j).2, nS 206 j (by decide) (by decide), all6 j hj]
            · rw [(a78 j hj).1, nS 207 j (by decide) (by decide), all5 207 j (Or.inr (Or.inl rfl)) (Or.inl (by decide))]
            · rw [(a78 j hj).2, nS 208 j (by decide) (by decide), all5 208 j (Or.inr (Or.inr rfl)) (Or.inl (by decide))]
          · exact Or.inr ⟨q5, S5, Or.inr (Or.inr ⟨hl, k12, Or.inr ⟨pZ P4, hq, B5⟩⟩)⟩
        · exact absurd c28 (by decide)
      · rw [q4] at h
        rcases eIf (mi := 211) (pc := 105) (len := 3) (t := 110) rfl rfl h with ⟨c29, h⟩ | ⟨c29, h⟩
        · exact absurd c29 (by decide)
        · skip
          replace h := eConst (mi := 211) (pc := 108) (len := 1) (v := 0) rfl h
          obtain ⟨e1, e2⟩ := eRetI (mi := 211) (pc := 109) (len := 1) rfl h
          rw [e2]
          exact ⟨X23.tr XS.y, Or.inr ⟨e1, B4.1, Or.inr (Or.inr ⟨hl, k12, Or.inl ⟨ty, B4.2⟩⟩)⟩⟩
  · replace c1 : (iv M 181 32).toInt = 12 := mC_ne.2 c1
    replace h := eAload (mi := 211) (pc := 42) (len := 1) (i := 0) rfl l0 h
    replace h := eConst (mi := 211) (pc := 43) (len := 1) (v := 4) rfl h
    replace h := eAload (mi := 211) (pc := 44) (len := 1) (i := 0) rfl l0 h
    replace h := eGetI (a := 181) (j := 1126) hR.1 (by decide) (by decide) rfl (mi := 211) (pc := 45) (len := 3) rfl h
    obtain ⟨r30, N31, g32, h⟩ := eCall (mi := 211) (pc := 48) (len := 3) (j := 194) (as := [.ref 181, .int (4 : Int32), .int (iv M 181 26)]) (rest := []) rfl (Or.inr (Or.inl rfl)) (by decide) rfl rfl h
    obtain ⟨q1, q2⟩ := wr_en hR.1 g32
    rw [q1] at h
    have v9 := wr_v (k := 4) hR.1 hR.2.1 hI.1.1 (by omega) (by decide) (by decide) q2
    obtain ⟨e1, e2⟩ := eRetI (mi := 211) (pc := 51) (len := 1) rfl h
    rw [e2]
    exact ⟨by rw [q2]; exact RY.put (by decide), Or.inr ⟨e1, by rw [q2]; exact hR.1.put (by decide) (by decide) rfl, Or.inr (Or.inl ⟨hl, by have q := c1; rw [ek] at q; have q : (k : Int) = 12 := q; omega, v9⟩)⟩⟩
theorem here_c {M : Mem} {t : Int → Int} {n : Int} {P : PS} (hR : RC M P) (hT : RT M t n) (h0 : 0 ≤ P.1.1) : (hereV M).toInt = t P.1.1 := by
  unfold hereV
  rw [hR.2.1, hT.1]
  by_cases q : P.1.1 < n
  · rw [decide_eq_true q, cond_true]
    have e := (hT.2.2.1 P.1.1.toNat (by omega)).1
    rw [show ((P.1.1.toNat : Nat) : Int) = P.1.1 by omega] at e
    exact e
  · rw [decide_eq_false q, cond_false, hT.2.2.2 _ (by omega)]
    rfl
theorem rcl_ok {t : Int → Int} {N : Int} {k : Nat} (hn : N ≤ 160) {n d : Nat} {M : Mem} {r : Option Value} {M1 : Mem} {P : PS} (hR : RC M P) (hz : P.1.2.1 = 0 ∧ P.1.2.2.2 = 0) (hT : RT M t N) (hI : KI N P) (ek : (iv M 181 32).toInt = (k : Int)) (hk : k ≤ 12) (h : En n d 211 0 (lv_args 0 [.ref 181]) [] M r M1) : KRc t N k M P r M1 := by
  have th : (hereV M).toInt = t P.1.1 := here_c hR hT hI.1.1
  replace h := eAload (mi := 211) (pc := 0) (len := 1) (i := 0) rfl rfl h
  replace h := eCallP (mi := 211) (pc := 1) (len := 3) (j := 192) (as := [.ref 181]) (rest := []) rfl (Or.inr (Or.inl rfl)) (by decide) rfl rfl (fun _ _ _ _ g => hereV_en hR.1 g) h
  replace h := eIstore (mi := 211) (pc := 4) (len := 1) (i := 1) rfl (by decide) h
  replace h := eIload (mi := 211) (pc := 5) (len := 1) (i := 1) rfl rfl h
  replace h := eConst (mi := 211) (pc := 6) (len := 2) (v := 98) rfl h
  rcases eIc (mi := 211) (pc := 8) (len := 3) (t := 33) rfl rfl h with ⟨c1, h⟩ | ⟨c1, h⟩
  · replace c1 : (hereV M).toInt = 98 := mC_eq.1 c1
    exact rcl_33 hn rfl rfl th (Or.inl (th.symm.trans c1)) hR hz hT hI ek hk h
  · replace c1 : ¬ (hereV M).toInt = 98 := mC_eq.2 c1
    replace h := eIload (mi := 211) (pc := 11) (len := 1) (i := 1) rfl rfl h
    replace h := eConst (mi := 211) (pc := 12) (len := 2) (v := 115) rfl h
    rcases eIc (mi := 211) (pc := 14) (len := 3) (t := 33) rfl rfl h with ⟨c2, h⟩ | ⟨c2, h⟩
    · replace c2 : (hereV M).toInt = 115 := mC_eq.1 c2
      exact rcl_33 hn rfl rfl th (Or.inr (Or.inl (th.symm.trans c2))) hR hz hT hI ek hk h
    · replace c2 : ¬ (hereV M).toInt = 115 := mC_eq.2 c2
      replace h := eIload (mi := 211) (pc := 17) (len := 1) (i := 1) rfl rfl h
      replace h := eConst (mi := 211) (pc := 18) (len := 2) (v := 121) rfl h
      rcases eIc (mi := 211) (pc := 20) (len := 3) (t := 33) rfl rfl h with ⟨c3, h⟩ | ⟨c3, h⟩
      · replace c3 : (hereV M).toInt = 121 := mC_eq.1 c3
        exact rcl_33 hn rfl rfl th (Or.inr (Or.inr (th.symm.trans c3))) hR hz hT hI ek hk h
      · replace c3 : ¬ (hereV M).toInt = 121 := mC_eq.2 c3
        replace h := eAload (mi := 211) (pc := 23) (len := 1) (i := 0) rfl rfl h
        replace h := eConst (mi := 211) (pc := 24) (len := 1) (v := 1) rfl h
        replace h := eAload (mi := 211) (pc := 25) (len := 1) (i := 0) rfl rfl h
        replace h := eGetI (a := 181) (j := 1126) hR.1 (by decide) (by decide) rfl (mi := 211) (pc := 26) (len := 3) rfl h
        obtain ⟨r4, N5, g6, h⟩ := eCall (mi := 211) (pc := 29) (len := 3) (j := 194) (as := [.ref 181, .int (1 : Int32), .int (iv M 181 26)]) (rest := []) rfl (Or.inr (Or.inl rfl)) (by decide) rfl rfl h
        obtain ⟨q1, q2⟩ := wr_en hR.1 g6
        rw [q1] at h
        have v9 := wr_v (k := 1) hR.1 hR.2.1 hI.1.1 (by have := hI.1.2; omega) (by decide) (by decide) q2
        obtain ⟨e1, e2⟩ := eRetI (mi := 211) (pc := 32) (len := 1) rfl h
        rw [e2]
        exact ⟨by rw [q2]; exact RY.put (by decide), Or.inr ⟨e1, by rw [q2]; exact hR.1.put (by decide) (by decide) rfl, Or.inl ⟨fun q => by rcases q with q | q | q; exact c1 (th.trans q); exact c2 (th.trans q); exact c3 (th.trans q), v9⟩⟩⟩
