/-! arraycopy -/
theorem mCpy_get {c0 c1 : List Value} {sp dp n : Nat} (h0 : sp + n ≤ c0.length) {i : Nat} {w : Value} (h : (mCpy c0 c1 sp dp n)[i]? = some w) : (∃ j : Nat, c0[j]? = some w) ∨ (∃ j : Nat, c1[j]? = some w) := by
  unfold mCpy at h
  rw [List.getElem?_map] at h
  cases hi : (List.range c1.length)[i]? with
  | none => rw [hi] at h; cases h
  | some k =>
    rw [hi] at h
    have hk : k < c1.length := by
      obtain ⟨h1, h2⟩ := List.getElem?_eq_some_iff.mp hi
      rw [List.getElem_range] at h2
      rw [List.length_range] at h1
      omega
    have h : (if dp ≤ k ∧ k < dp + n then c0.getD (sp + (k - dp)) (.int 0) else c1.getD k (.int 0)) = w := Option.some.inj h
    by_cases c : dp ≤ k ∧ k < dp + n
    · rw [if_pos c] at h
      have hj : sp + (k - dp) < c0.length := by omega
      rw [List.getD_eq_getElem?_getD, List.getElem?_eq_getElem hj] at h
      exact Or.inl ⟨sp + (k - dp), by rw [List.getElem?_eq_getElem hj]; exact congrArg some h⟩
    · rw [if_neg c] at h
      rw [List.getD_eq_getElem?_getD, List.getElem?_eq_getElem hk] at h
      exact Or.inr ⟨k, by rw [List.getElem?_eq_getElem hk]; exact congrArg some h⟩
section
variable {scr : SG} {σ : Nat → Int} {S : AS} {L : MLoc} {st : List Value} {M : Mem} {mod : List (Nat × Nat)} {outs : List AS}
def aCpyB (K : AK) (n dp k1 sp k0 : AV) (r : List AV) : Bool :=
  (Nat.beq n.1 1 && Nat.beq dp.1 1 && Nat.beq sp.1 1 && Nat.beq k1.1 2 && Nat.beq k0.1 2) && (Nat.beq (tTag k0.2.1) 64 && Nat.beq (tTag k1.2.1) 64 && Nat.ble (aCats r) 8 && aNoF k1.2.1 K.2.2.2 && !(tPro k1.2.1 0)) && (ile 0 (aLo K n.2.1 n.2.2) && ile 0 (aLo K dp.2.1 dp.2.2) && ile 0 (aLo K sp.2.1 sp.2.2) && ile (aHi K sp.2.1 sp.2.2 + aHi K n.2.1 n.2.2) (tSiz k0.2.1 : Int) && ile (aHi K dp.2.1 dp.2.2 + aHi K n.2.1 n.2.2) (tSiz k1.2.1 : Int)) && (Nat.beq (tTyA k0.2.1).1 1 && Nat.beq (tTyA k1.2.1).1 1 && ile (tTyA k1.2.1).2.1 (tTyA k0.2.1).2.1 && ile (tTyA k0.2.1).2.2.1 (tTyA k1.2.1).2.2.1)
def aCpy (S : AS) : Option (List AS) := match S.2.2 with
  | n :: dp :: k1 :: sp :: k0 :: r => bif aCpyB S.1 n dp k1 sp k0 r then some [(S.1, S.2.1, r)] else none
  | _ => none
theorem aTy_sub {t t' : AT} {w : Value} (h1 : Nat.beq t.1 1 = true) (h2 : Nat.beq t'.1 1 = true) (h3 : t'.2.1 ≤ t.2.1) (h4 : t.2.2.1 ≤ t'.2.2.1) (h : aTy t w) : aTy t' w := by
  obtain ⟨k, lo, hi, gs⟩ := t
  obtain ⟨k', lo', hi', gs'⟩ := t'
  have e1 := Nat.eq_of_beq_eq_true h1
  have e2 := Nat.eq_of_beq_eq_true h2
  dsimp only at e1 e2 h3 h4
  subst e1; subst e2
  obtain ⟨x, x1, x2, x3⟩ := h
  have x2 : lo ≤ x.toInt := x2
  have x3 : x.toInt ≤ hi := x3
  exact ⟨x, x1, by show lo' ≤ x.toInt; omega, by show x.toInt ≤ hi'; omega⟩
theorem aCpy_ok {d : Nat} (hd : 1 ≤ d) (h : aHold scr σ S L st M) (ho : aCpy S = some outs) : aGoP scr σ S.1.1.length mod L M outs (mPrim d 901 st M) := by
  obtain ⟨K, A, T⟩ := S
  unfold aCpy at ho
  dsimp only at ho
  match T, h, ho with
  | [], _, ho => cases ho
  | [_], _, ho => cases ho
  | [_, _], _, ho => cases ho
  | [_, _, _], _, ho => cases ho
  | [_, _, _, _], _, ho => cases ho
  | n :: dp :: k1 :: sp :: k0 :: r, h, ho =>
    obtain ⟨n', r1, rfl, g1, s1⟩ := aSs_cons h.2.2.1
    obtain ⟨dp', r2, rfl, g2, s2⟩ := aSs_cons s1
    obtain ⟨k1', r3, rfl, g3, s3⟩ := aSs_cons s2
    obtain ⟨sp', r4, rfl, g4, s4⟩ := aSs_cons s3
    obtain ⟨k0', r5, rfl, g5, s5⟩ := aSs_cons s4
    dsimp only at ho
    cases hq : aCpyB K n dp k1 sp k0 r with
    | false => rw [hq] at ho; cases ho
    | true =>
      rw [hq] at ho
      cases ho
      unfold aCpyB at hq
      simp only [Bool.and_eq_true, ile_iff] at hq
      obtain ⟨⟨⟨⟨⟨⟨⟨q1, q2⟩, q3⟩, q4⟩, q5⟩, ⟨⟨⟨⟨p1, p2⟩, p3⟩, p4⟩, p5⟩⟩, ⟨⟨⟨⟨t1, t2⟩, t3⟩, t4⟩, t5⟩⟩, ⟨⟨⟨u1, u2⟩, u3⟩, u4⟩⟩ := hq
      obtain ⟨xn, rfl, n1, n2⟩ := aG_int g1 q1
      obtain ⟨xd, rfl, d1, d2⟩ := aG_int g2 q2
      obtain ⟨xs, rfl, e1, e2⟩ := aG_int g4 q3
      obtain ⟨a1, rfl, a11, a12, a13⟩ := aG_ref g3 q4
      obtain ⟨a0, rfl, a01, a02, a03⟩ := aG_ref g5 q5
      have bn := aLoHi (K := K) h.1 n1 n2
      have bd := aLoHi (K := K) h.1 d1 d2
      have bs := aLoHi (K := K) h.1 e1 e2
      obtain ⟨f0, m1, m2, m3⟩ := h.2.2.2.2.2.1 a0 a01 a02
      obtain ⟨f1, l1, l2, l3⟩ := h.2.2.2.2.2.1 a1 a11 a12
      rw [a03] at m1 m2 m3
      have w0 := Nat.eq_of_beq_eq_true p1
      have w1 := Nat.eq_of_beq_eq_true p2
      have z0 : M[a0]? = some (64, f0) := by rw [m1, w0]
      have z1 : M[a1]? = some (64, f1) := by rw [l1, a13, w1]
      rw [a13] at l2
      have hc := aCats_ok s5
      have h8 := Nat.le_of_ble_eq_true p3
      have hp : tPro (tGrp a1) 0 = false := by
        rw [a13]
        cases hx : tPro k1.2.1 0 with
        | false => rfl
        | true => rw [hx] at p5; cases p5
      have h64 : Nat.ble 64 (tTag (tGrp a1)) = true := by rw [a13, w1]; rfl
      have b64 : Nat.ble 64 (tTag k0.2.1) = true := by rw [w0]; rfl
      have b1 : xs.toInt.toNat + xn.toInt.toNat ≤ f0.length := by omega
      have b2 : xd.toInt.toNat + xn.toInt.toNat ≤ f1.length := by omega
      have key := aArr_ok (mod := mod) h.2.2.2 h.1 a11 a12 z1 (fs' := mCpy f0 f1 xs.toInt.toNat xd.toInt.toNat xn.toInt.toNat) (mCpy_len _ _ _ _ _) (by rw [a13]; exact aNoF_ok p4) h64 hp (by
        intro i w hw
        rcases mCpy_get b1 hw with ⟨j, hj⟩ | ⟨j, hj⟩
        · have t := m3 j w hj
          unfold tTy at t
          rw [b64] at t
          rw [a13]
          exact aTy_sub u1 u2 u3 u4 t
        · have t := l3 j w hj
          unfold tTy at t
          rw [h64] at t
          exact t)
      refine ⟨_, List.mem_cons_self, σ, r5, _, ?_, aExt.rf, Nat.le_refl _, ⟨key.1, h.2.1, s5, key.2.1⟩, key.2.2⟩
      unfold mPrim
      rw [if_neg (by decide), if_pos rfl]
      dsimp only
      rw [z0, z1]
      exact if_pos ⟨hd, by omega, (fun e => by rw [e] at a01; exact absurd a01 (by decide)), (fun e => by rw [e] at a11; exact absurd a11 (by decide)), by omega, by omega, by omega, b1, b2⟩
end
