/-! indexOf -/
theorem mIxOf_rng (x : Int32) : -1 ≤ (mIxOf x).toInt ∧ (mIxOf x).toInt ≤ 13 := by
  unfold mIxOf
  cases h : mLet.findIdx? (fun y => y == x) with
  | none => exact ⟨by decide, by decide⟩
  | some k =>
    have hk : k < 14 := by
      obtain ⟨h1, _⟩ := List.findIdx?_eq_some_iff_getElem.mp h
      exact h1
    show -1 ≤ (Int32.ofNat k).toInt ∧ (Int32.ofNat k).toInt ≤ 13
    rw [Int32.toInt_ofNat_of_lt (by omega)]
    omega
section
variable {scr : SG} {σ : Nat → Int} {S : AS} {L : MLoc} {st : List Value} {M : Mem} {mod : List (Nat × Nat)} {outs : List AS}
def aIxO (S : AS) : Option (List AS) := match S.2.2 with
  | w :: v :: r => bif Nat.beq v.1 4 && Nat.beq w.1 1 && Nat.ble (aCats r) 8 then some [aPush (aFi S.1 (-1) 13) S.2.1 r] else none
  | _ => none
theorem aIxO_ok {d : Nat} (hd : 6 ≤ d) (h : aHold scr σ S L st M) (ho : aIxO S = some outs) : aGoP scr σ S.1.1.length mod L M outs (mPrim d 902 st M) := by
  obtain ⟨K, A, T⟩ := S
  unfold aIxO at ho
  dsimp only at ho
  match T, h, ho with
  | [], _, ho => cases ho
  | [_], _, ho => cases ho
  | w :: v :: r, h, ho =>
    obtain ⟨w', r1, rfl, g1, s1⟩ := aSs_cons h.2.2.1
    obtain ⟨v', r2, rfl, g2, s2⟩ := aSs_cons s1
    dsimp only at ho
    cases hq : (Nat.beq v.1 4 && Nat.beq w.1 1 && Nat.ble (aCats r) 8) with
    | false => rw [hq] at ho; cases ho
    | true =>
      rw [hq] at ho
      cases ho
      rw [Bool.and_eq_true, Bool.and_eq_true] at hq
      obtain ⟨vk, vs, vc⟩ := v
      have e4 := Nat.eq_of_beq_eq_true hq.1.1
      dsimp only at e4
      subst e4
      have g2 : v' = .ref 1 := g2
      subst g2
      obtain ⟨x, rfl, x1, x2⟩ := aG_int g1 hq.1.2
      have hc := aCats_ok s2
      have h8 := Nat.le_of_ble_eq_true hq.2
      have e : mPrim d 902 (.int x :: .ref 1 :: r2) M = some (.int (mIxOf x) :: r2, M) := by
        unfold mPrim
        rw [if_neg (by decide), if_neg (by decide), if_pos rfl]
        exact if_pos ⟨hd, by omega⟩
      rw [e]
      obtain ⟨σ', e1, e2, e3, e4, e5⟩ := aFi_ok h.1 (mIxOf_rng x).1 (mIxOf_rng x).2
      exact ⟨_, List.mem_cons_self, σ', _, M, rfl, e1, e2, ⟨e3, aLs_ext e1 e2 h.2.1, ⟨⟨e4, _, rfl, e5⟩, aSs_ext e1 e2 s2⟩, h.2.2.2⟩, aFr.rf⟩
end
