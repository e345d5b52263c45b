/-! one instruction: division, jumps, lengths; then aStep -/
section
variable {scr : SG} {σ : Nat → Int} {S : AS} {L : MLoc} {st : List Value} {M : Mem} {mod : List (Nat × Nat)} {pc nx : Nat} {outs : List (Nat × AS)}
def aDvI (f : AK → Nat → Int → Nat → Int → AO) (nx : Nat) (S : AS) : Option (List (Nat × AS)) := match S.2.2 with
  | w :: v :: r => bif Nat.beq v.1 1 && Nat.beq w.1 1 && aNz S.1 w.2.1 w.2.2 then some [(nx, aPush (f S.1 v.2.1 v.2.2 w.2.1 w.2.2) S.2.1 r)] else none
  | _ => none
theorem aDvI_ok {f : AK → Nat → Int → Nat → Int → AO} (h : aHold scr σ S L st M) (ho : aDvI f nx S = some outs) : ∃ (x y : Int32) (r2 : List Value), st = .int y :: .int x :: r2 ∧ ¬ y = 0 ∧ ∀ (g : Int32 → Int32 → Int32), (∀ {a b : Nat} {p q : Int} {x y : Int32}, a < S.1.1.length → b < S.1.1.length → x.toInt = σ a + p → y.toInt = σ b + q → aRes scr σ S.1 M (f S.1 a p b q) (g x y).toInt) → aGo scr σ S.1.1.length mod M outs (some (nx, L, .int (g x y) :: r2, M)) := by
  obtain ⟨K, A, T⟩ := S
  unfold aDvI at ho
  dsimp only at ho
  match T, h, ho with
  | [], _, ho => cases ho
  | [_], _, ho => cases ho
  | w :: v :: r, h, ho =>
    obtain ⟨w', r1, rfl, g1, s1⟩ := aSs_cons h.2.2.1
    obtain ⟨v', r2, rfl, g2, s2⟩ := aSs_cons s1
    dsimp only at ho
    cases hq : (Nat.beq v.1 1 && Nat.beq w.1 1 && aNz K w.2.1 w.2.2) with
    | false => rw [hq] at ho; cases ho
    | true =>
      rw [hq] at ho
      cases ho
      rw [Bool.and_eq_true, Bool.and_eq_true] at hq
      obtain ⟨x, rfl, x1, x2⟩ := aG_int g2 hq.1.1
      obtain ⟨y, rfl, y1, y2⟩ := aG_int g1 hq.1.2
      refine ⟨x, y, r2, rfl, aNz_ok h.1 y1 y2 hq.2, ?_⟩
      intro g hg
      exact aGo_push h.2.2.2 (hg x1 y1 x2 y2) h.2.1 s2 rfl
def aIfc (c : Jvm.ClassFile.Cond) (o : Int) (pc nx : Nat) (S : AS) : Option (List (Nat × AS)) := match S.2.2, mJmp pc o with
  | v :: r, some t => aBr c t nx S v (1, 0, 0) r
  | _, _ => none
theorem aIfc_ok {mL : Nat} {c : Jvm.ClassFile.Cond} {o : Int} (h : aHold scr σ S L st M) (ho : aIfc c o pc nx S = some outs) : aGo scr σ S.1.1.length mod M outs (mStep mL (.ifCond c o) pc nx L st M) := by
  obtain ⟨K, A, T⟩ := S
  unfold aIfc at ho
  dsimp only at ho
  match T, h, ho with
  | [], _, ho => cases ho
  | v :: r, h, ho =>
    obtain ⟨v', r1, rfl, g1, s1⟩ := aSs_cons h.2.2.1
    cases hj : mJmp pc o with
    | none => rw [hj] at ho; cases ho
    | some t =>
      rw [hj] at ho
      dsimp only at ho
      have h0 := h.1.2.1.1
      obtain ⟨x, y, rfl, e2, e3⟩ := aBr_ok (mod := mod) h g1 (w := (1, 0, 0)) (y' := .int 0) ⟨h.1.1, 0, rfl, by rw [h0]; rfl⟩ s1 ho
      cases e2
      unfold mStep
      dsimp only
      rw [hj]
      exact e3
def aIcm (c : Jvm.ClassFile.Cond) (o : Int) (pc nx : Nat) (S : AS) : Option (List (Nat × AS)) := match S.2.2, mJmp pc o with
  | w :: v :: r, some t => aBr c t nx S v w r
  | _, _ => none
theorem aIcm_ok {mL : Nat} {c : Jvm.ClassFile.Cond} {o : Int} (h : aHold scr σ S L st M) (ho : aIcm c o pc nx S = some outs) : aGo scr σ S.1.1.length mod M outs (mStep mL (.if_icmp c o) pc nx L st M) := by
  obtain ⟨K, A, T⟩ := S
  unfold aIcm at ho
  dsimp only at ho
  match T, h, ho with
  | [], _, ho => cases ho
  | [_], _, ho => cases ho
  | w :: v :: r, h, ho =>
    obtain ⟨w', r1, rfl, g1, s1⟩ := aSs_cons h.2.2.1
    obtain ⟨v', r2, rfl, g2, s2⟩ := aSs_cons s1
    cases hj : mJmp pc o with
    | none => rw [hj] at ho; cases ho
    | some t =>
      rw [hj] at ho
      dsimp only at ho
      obtain ⟨x, y, rfl, rfl, e3⟩ := aBr_ok (mod := mod) h g2 g1 s2 ho
      unfold mStep
      dsimp only
      rw [hj]
      exact e3
def aLsw (d : Int) (ps : List (Int × Int)) (pc : Nat) (S : AS) : Option (List (Nat × AS)) := match S.2.2 with
  | v :: r => bif Nat.beq v.1 1 then aLks pc d S.1 v.2.1 v.2.2 S.2.1 r ps else none
  | _ => none
theorem aLsw_ok {mL : Nat} {d : Int} {ps : Array (Int × Int)} (h : aHold scr σ S L st M) (ho : aLsw d ps.toList pc S = some outs) : aGo scr σ S.1.1.length mod M outs (mStep mL (.lookupswitch d ps) pc nx L st M) := by
  obtain ⟨K, A, T⟩ := S
  unfold aLsw at ho
  dsimp only at ho
  match T, h, ho with
  | [], _, ho => cases ho
  | v :: r, h, ho =>
    obtain ⟨v', r1, rfl, g1, s1⟩ := aSs_cons h.2.2.1
    dsimp only at ho
    cases hq : Nat.beq v.1 1 with
    | false => rw [hq] at ho; cases ho
    | true =>
      rw [hq] at ho
      dsimp only [cond_true] at ho
      obtain ⟨x, rfl, x1, x2⟩ := aG_int g1 hq
      exact aLks_ok (mod := mod) h.2.2.2 x2 x1 h.1 h.2.1 s1 ho
def aTsw (d lo hi : Int) (os : List Int) (pc : Nat) (S : AS) : Option (List (Nat × AS)) := match S.2.2 with
  | v :: r => bif Nat.beq v.1 1 && ile (hi - lo + 1) (os.length : Int) then (match mJmp pc d, aTbl pc S.1 v.2.1 v.2.2 S.2.1 r lo os with
    | some t, some qs => some (qs ++ (aOpt t (aSup S.1 v.2.1 0 (lo - 1 - v.2.2)) S.2.1 r ++ aOpt t (aSup S.1 0 v.2.1 (v.2.2 - hi - 1)) S.2.1 r))
    | _, _ => none) else none
  | _ => none
theorem aTsw_ok {mL : Nat} {d lo hi : Int} {os : Array Int} (h : aHold scr σ S L st M) (ho : aTsw d lo hi os.toList pc S = some outs) : aGo scr σ S.1.1.length mod M outs (mStep mL (.tableswitch d lo hi os) pc nx L st M) := by
  obtain ⟨K, A, T⟩ := S
  unfold aTsw at ho
  dsimp only at ho
  match T, h, ho with
  | [], _, ho => cases ho
  | v :: r, h, ho =>
    obtain ⟨v', r1, rfl, g1, s1⟩ := aSs_cons h.2.2.1
    dsimp only at ho
    cases hq : (Nat.beq v.1 1 && ile (hi - lo + 1) (os.toList.length : Int)) with
    | false => rw [hq] at ho; cases ho
    | true =>
      rw [hq] at ho
      dsimp only [cond_true] at ho
      rw [Bool.and_eq_true, ile_iff] at hq
      obtain ⟨x, rfl, x1, x2⟩ := aG_int g1 hq.1
      have h0 := h.1.2.1.1
      cases hj : mJmp pc d with
      | none => rw [hj] at ho; cases ho
      | some t =>
        cases ht : aTbl pc K v.2.1 v.2.2 A r lo os.toList with
        | none => rw [hj, ht] at ho; cases ho
        | some qs =>
          rw [hj, ht] at ho
          cases ho
          unfold mStep
          dsimp only
          by_cases c1 : x.toInt < lo
          · rw [if_pos (Or.inl c1)]
            dsimp only
            rw [hj]
            exact aOpt_go h.2.2.2 h.2.1 s1 (aSup_ok h.1 x1 h.1.1 (by omega)) (fun q hq => List.mem_append_right _ (List.mem_append_left _ hq)) rfl
          · by_cases c2 : hi < x.toInt
            · rw [if_pos (Or.inr c2)]
              dsimp only
              rw [hj]
              exact aOpt_go h.2.2.2 h.2.1 s1 (aSup_ok h.1 h.1.1 x1 (by omega)) (fun q hq => List.mem_append_right _ (List.mem_append_right _ hq)) rfl
            · rw [if_neg (by omega)]
              obtain ⟨o, o1, o2⟩ := aTbl_ok (mod := mod) h.2.2.2 x2 x1 h.1 h.2.1 s1 ht (by omega) (by omega)
              have o1 : os[(x.toInt - lo).toNat]? = some o := by rw [← Array.getElem?_toList]; exact o1
              rw [o1]
              exact aGo_sub o2 (fun q hq => List.mem_append_left _ hq)
def aLen (nx : Nat) (S : AS) : Option (List (Nat × AS)) := match S.2.2 with
  | v :: r => bif Nat.beq v.1 2 then (bif Nat.ble 64 (tTag v.2.1) && Nat.ble (tTag v.2.1) 70 && Nat.ble (tSiz v.2.1) 1000 then some [(nx, S.1, S.2.1, (1, 0, (tSiz v.2.1 : Int)) :: r)] else none)
    else bif Nat.beq v.1 5 && ile (aHi S.1 v.2.1 0) 1000 then some [(nx, S.1, S.2.1, (1, v.2.1, 0) :: r)] else none
  | _ => none
theorem aLen_ok {mL : Nat} (h : aHold scr σ S L st M) (ho : aLen nx S = some outs) : aGo scr σ S.1.1.length mod M outs (mStep mL .arraylength pc nx L st M) := by
  obtain ⟨K, A, T⟩ := S
  unfold aLen at ho
  dsimp only at ho
  match T, h, ho with
  | [], _, ho => cases ho
  | v :: r, h, ho =>
    obtain ⟨v', r1, rfl, g1, s1⟩ := aSs_cons h.2.2.1
    dsimp only at ho
    have h0 := h.1.2.1.1
    cases hk : Nat.beq v.1 2 with
    | true =>
      rw [hk] at ho
      dsimp only [cond_true] at ho
      cases hq : (Nat.ble 64 (tTag v.2.1) && Nat.ble (tTag v.2.1) 70 && Nat.ble (tSiz v.2.1) 1000) with
      | false => rw [hq] at ho; cases ho
      | true =>
        rw [hq] at ho
        cases ho
        rw [Bool.and_eq_true, Bool.and_eq_true] at hq
        obtain ⟨⟨q1, q2⟩, q3⟩ := hq
        have q1 := Nat.le_of_ble_eq_true q1
        have q2 := Nat.le_of_ble_eq_true q2
        have q3 := Nat.le_of_ble_eq_true q3
        obtain ⟨a, rfl, a1, a2, a3⟩ := aG_ref g1 hk
        obtain ⟨fs, m1, m2, m3⟩ := h.2.2.2.2.2.1 a a1 a2
        rw [a3] at m1 m2
        refine aGo_same h (L' := L) (st' := .int (Int32.ofNat fs.length) :: r1) ?_ h.2.1 ⟨⟨h.1.1, _, rfl, ?_⟩, s1⟩
        · unfold mStep
          dsimp only
          rw [m1]
          exact if_pos ⟨q1, q2⟩
        · show (Int32.ofNat fs.length).toInt = σ 0 + (tSiz v.2.1 : Int)
          rw [Int32.toInt_ofNat_of_lt (by omega), h0, m2]; omega
    | false =>
      rw [hk] at ho
      dsimp only [cond_false] at ho
      cases hq : (Nat.beq v.1 5 && ile (aHi K v.2.1 0) 1000) with
      | false => rw [hq] at ho; cases ho
      | true =>
        rw [hq] at ho
        cases ho
        rw [Bool.and_eq_true, ile_iff] at hq
        obtain ⟨vk, vs, vc⟩ := v
        have e1 := Nat.eq_of_beq_eq_true hq.1
        dsimp only at e1
        subst e1
        obtain ⟨o1, rfl, o3⟩ := g1
        have o3 : σ vs = (scr.1.length : Int) := o3
        have b : aLo K vs 0 ≤ σ vs ∧ σ vs ≤ aHi K vs 0 := aLoHi h.1 o1 (p := 0) (x := σ vs) (by show σ vs = σ vs + 0; omega)
        have b2 : aHi K vs 0 ≤ 1000 := hq.2
        refine aGo_same h (L' := L) (st' := .int (Int32.ofNat (scr.1.map Value.int).length) :: r1) ?_ h.2.1 ⟨⟨o1, _, rfl, ?_⟩, s1⟩
        · unfold mStep
          dsimp only
          rw [h.2.2.2.1.1]
          exact if_pos ⟨by omega, by omega⟩
        · show (Int32.ofNat (scr.1.map Value.int).length).toInt = σ vs + 0
          rw [List.length_map, Int32.toInt_ofNat_of_lt (by omega)]; omega
end
