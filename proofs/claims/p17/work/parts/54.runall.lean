/-! the run: every end is handed to k: (0, 0, state) where the method answers, (1, place, state) where it comes to a cut -/
def aCal (ins : Instr) : Option Nat := match ins with
  | .invokestatic j => some j
  | .invokevirtual j => some j
  | .invokespecial j => some j
  | _ => none
theorem aCal_ok {ins : Instr} {j : Nat} (h : aCal ins = some j) : ins = .invokestatic j ∨ ins = .invokevirtual j ∨ ins = .invokespecial j := by
  cases ins <;> first | (cases h; done) | (cases h; exact Or.inl rfl) | (cases h; exact Or.inr (Or.inl rfl)) | (cases h; exact Or.inr (Or.inr rfl))
def aIsC (j : Nat) : List CT → Bool
  | [] => false
  | c :: C => bif Nat.beq c.1 j then true else aIsC j C
def aIsCut (pc : Nat) : List Nat → Bool
  | [] => false
  | c :: r => bif Nat.beq c pc then true else aIsCut pc r
def aPad (n : Nat) (A : List AV) : List AV := A ++ List.replicate (n - A.length) (0, 0, 0)
def aAll {α : Type} (f : α → Bool) : List α → Bool
  | [] => true
  | x :: r => bif f x then aAll f r else false
theorem aAll_mem {α : Type} {f : α → Bool} : ∀ {l : List α}, aAll f l = true → ∀ x, x ∈ l → f x = true
  | [], _, _, h => nomatch h
  | y :: r, h, x, hx => by
    unfold aAll at h
    cases hy : f y with
    | false => rw [hy] at h; cases h
    | true =>
      rw [hy] at h
      cases List.mem_cons.mp hx with
      | inl e => rw [e]; exact hy
      | inr e => exact aAll_mem h x e
def aRun (C : List CT) (G : List CG) (mod : List (Nat × Nat)) : Nat → Nat → Nat → List Nat → Bool → Nat → AS → (Nat × Nat × AS → Bool) → Bool
  | 0, _, _, _, _, _, _, _ => false
  | n + 1, h, mi, cuts, fst, pc, S, k => bif !fst && aIsCut pc cuts then k (1, pc, S) else match aSeg mod h mi pc S G with
    | some o => aAll (fun q => aRun C G mod n h mi cuts false o.1 q k) o.2
    | none => match mAt mi pc with
    | none => false
    | some (len, ins) => match aCal ins with
      | some j => bif Nat.ble 900 j then (match aPrim h j S with
          | none => false
          | some outs => aAll (fun q => aRun C G mod n h mi cuts false (pc + len) q k) outs)
        else bif aCallOk h j S then (match aCon mod h j S C with
          | some outs => aAll (fun q => aRun C G mod n h mi cuts false (pc + len) q k) outs
          | none => bif aIsC j C then false else aRun C G mod n (h - 1) j [] true 0 (S.1, aPad (mIT j).2.1 (aArgs (aTak j S.2.2)), []) (fun e => bif Nat.beq e.1 0 then aRun C G mod n h mi cuts false (pc + len) (e.2.2.1, S.2.1, e.2.2.2.2 ++ S.2.2.drop (mIT j).1) k else false))
        else false
      | none => bif aRetOk mi ins S then k (0, 0, S) else match aStep mod (mIT mi).2.1 ins pc (pc + len) S with
        | none => false
        | some outs => aAll (fun q => aRun C G mod n h mi cuts false q.1 q.2 k) outs
theorem aLs_pad {scr : SG} {σ : Nat → Int} {n m : Nat} {A : List AV} {L : MLoc} (h : aLs scr σ n A L) : aLs scr σ n (aPad m A) L := by
  intro i v hv
  unfold aPad at hv
  cases Nat.lt_or_ge i A.length with
  | inl hi => rw [List.getElem?_append_left hi] at hv; exact h i v hv
  | inr hi =>
    rw [List.getElem?_append_right hi] at hv
    have := List.eq_of_mem_replicate (List.mem_of_getElem? hv)
    rw [this]
    exact Or.inl rfl
set_option maxHeartbeats 2000000 in
theorem aRun_ok {s : List Int32} {C : List CT} {G : List CG} {mod : List (Nat × Nat)} (hC : ∀ c, c ∈ C → cSound s c) (hG : ∀ c, c ∈ G → gSound s c) : ∀ (n h mi : Nat) (cuts : List Nat) (fst : Bool) (pc : Nat) (S : AS) (k : Nat × Nat × AS → Bool), aRun C G mod n h mi cuts fst pc S k = true → ∀ (γ : Nat → Nat → Int32) (d : Nat) (σ : Nat → Int) (L : MLoc) (st : List Value) (M : Mem) (Q : Option Value → Mem → Prop), h ≤ d → aHold (s, γ) σ S L st M →
    (∀ (S' : AS) (γ' : Nat → Nat → Int32) (σ' : Nat → Int) (L' : MLoc) (r : Option Value) (M' : Mem), k (0, 0, S') = true → aExt S.1.1.length σ σ' → S.1.1.length ≤ S'.1.1.length → aHold (s, γ') σ' S' L' r.toList M' → aFr mod M M' → gFr mod γ γ' → Q r M') →
    (∀ (pc' : Nat) (S' : AS) (γ' : Nat → Nat → Int32) (σ' : Nat → Int) (L' : MLoc) (st' : List Value) (M' : Mem), k (1, pc', S') = true → aExt S.1.1.length σ σ' → S.1.1.length ≤ S'.1.1.length → aHold (s, γ') σ' S' L' st' M' → aFr mod M M' → gFr mod γ γ' → Ok d mi pc' L' st' M' Q) →
    Ok d mi pc L st M Q := by
  intro n
  induction n with
  | zero => intro h mi cuts fst pc S k hr; cases hr
  | succ n ih =>
    intro h mi cuts fst pc S k hr γ d σ L st M Q hd hH hR hK
    unfold aRun at hr
    cases hcut : (!fst && aIsCut pc cuts) with
    | true =>
      rw [hcut] at hr
      exact hK pc S γ σ L st M hr aExt.rf (Nat.le_refl _) hH aFr.rf gFr.rf
    | false =>
      rw [hcut] at hr
      dsimp only [cond_false] at hr
      -- going on from one of the outcomes
      have next : ∀ (pc1 : Nat) (S1 : AS) (γ1 : Nat → Nat → Int32) (σ1 : Nat → Int) (L1 : MLoc) (st1 : List Value) (M1 : Mem), aRun C G mod n h mi cuts false pc1 S1 k = true → aExt S.1.1.length σ σ1 → S.1.1.length ≤ S1.1.1.length → aHold (s, γ1) σ1 S1 L1 st1 M1 → aFr mod M M1 → gFr mod γ γ1 → Ok d mi pc1 L1 st1 M1 Q := by
        intro pc1 S1 γ1 σ1 L1 st1 M1 hr1 x1 x2 hH1 f1 gf1
        refine ih h mi cuts false pc1 S1 k hr1 γ1 d σ1 L1 st1 M1 Q hd hH1 ?_ ?_
        · intro S' γ' σ' L' r M' k1 y1 y2 hH' f2 gf2
          exact hR S' γ' σ' L' r M' k1 (x1.tr y1 x2) (Nat.le_trans x2 y2) hH' (f1.tr f2) (gf1.tr gf2)
        · intro pc' S' γ' σ' L' st' M' k1 y1 y2 hH' f2 gf2
          exact hK pc' S' γ' σ' L' st' M' k1 (x1.tr y1 x2) (Nat.le_trans x2 y2) hH' (f1.tr f2) (gf1.tr gf2)
      cases hseg : aSeg mod h mi pc S G with
      | some o =>
        rw [hseg] at hr
        dsimp only at hr
        obtain ⟨c, cm, c4⟩ := aSeg_mem hseg
        refine aSeg1_ok (hG c cm) hd hH c4 ?_
        intro q q1 γ1 σ1 L1 st1 M1 x1 x2 hH1 f1 gf1
        exact next o.1 q γ1 σ1 L1 st1 M1 (aAll_mem hr q q1) x1 x2 hH1 f1 gf1
      | none =>
      rw [hseg] at hr
      dsimp only at hr
      cases hat : mAt mi pc with
      | none => rw [hat] at hr; cases hr
      | some li =>
        obtain ⟨len, ins⟩ := li
        rw [hat] at hr
        dsimp only at hr
        cases hcal : aCal ins with
        | none =>
          rw [hcal] at hr
          dsimp only at hr
          cases hret : aRetOk mi ins S with
          | true =>
            rw [hret] at hr
            obtain ⟨r, r1, r2⟩ := aRetOk_ok (mi := mi) (ins := ins) hH hret
            subst r2
            exact Ok.ret hat r1 (hR S γ σ L r M hr aExt.rf (Nat.le_refl _) hH aFr.rf gFr.rf)
          | false =>
            rw [hret] at hr
            dsimp only [cond_false] at hr
            cases hst : aStep mod (mIT mi).2.1 ins pc (pc + len) S with
            | none => rw [hst] at hr; cases hr
            | some outs =>
              rw [hst] at hr
              dsimp only at hr
              obtain ⟨q, q1, σ1, L1, st1, M1, e1, x1, x2, hH1, f1⟩ := aStep_ok hH hst
              exact Ok.step hat (mStep_plain e1) e1 (next q.1 q.2 γ σ1 L1 st1 M1 (aAll_mem hr q q1) x1 x2 hH1 f1 gFr.rf)
        | some j =>
          rw [hcal] at hr
          dsimp only at hr
          have hi := aCal_ok hcal
          cases h9 : Nat.ble 900 j with
          | true =>
            rw [h9] at hr
            dsimp only [cond_true] at hr
            cases hp : aPrim h j S with
            | none => rw [hp] at hr; cases hr
            | some outs =>
              rw [hp] at hr
              dsimp only at hr
              obtain ⟨q, q1, σ1, st1, M1, e1, x1, x2, hH1, f1⟩ := aPrim_ok (mod := mod) hd hH hp
              exact Ok.prim hat hi (Nat.le_of_ble_eq_true h9) e1 (next (pc + len) q γ σ1 L st1 M1 (aAll_mem hr q q1) x1 x2 hH1 f1 gFr.rf)
          | false =>
            rw [h9] at hr
            dsimp only [cond_false] at hr
            have h9' : ¬ 900 ≤ j := fun e => by rw [Nat.ble_eq_true_of_le e] at h9; cases h9
            cases hco : aCallOk h j S with
            | false => rw [hco] at hr; cases hr
            | true =>
              rw [hco] at hr
              dsimp only [cond_true] at hr
              obtain ⟨p1, as, rest, c1, c2, c3⟩ := aCallOk_ok hd hH hco
              refine Ok.call hat hi h9' c1 ?_
              cases hcn : aCon mod h j S C with
              | some outs =>
                rw [hcn] at hr
                dsimp only at hr
                obtain ⟨c, cm, c4⟩ := aCon_mem hcn
                refine (aCon1_ok (hC c cm) hd hH c2 c3 c4).mono ?_
                intro r M1 ⟨q, q1, γ1, σ1, x1, x2, hH1, f1, gf1⟩
                exact next (pc + len) q γ1 σ1 L _ M1 (aAll_mem hr q q1) x1 x2 hH1 f1 gf1
              | none =>
                rw [hcn] at hr
                dsimp only at hr
                cases hic : aIsC j C with
                | true => rw [hic] at hr; cases hr
                | false =>
                  rw [hic] at hr
                  dsimp only [cond_false] at hr
                  refine ih (h - 1) j [] true 0 _ _ hr γ (d - 1) σ (lv_args 0 as) [] M _ (by omega) ⟨hH.1, aLs_pad c3, True.intro, hH.2.2.2⟩ ?_ ?_
                  · intro S' γ' σ' L' r M' k1 y1 y2 hH' f2 gf2
                    dsimp only at k1
                    have k1 : aRun C G mod n h mi cuts false (pc + len) (S'.1, S.2.1, S'.2.2 ++ S.2.2.drop (mIT j).1) k = true := k1
                    have y1 : aExt S.1.1.length σ σ' := y1
                    have y2 : S.1.1.length ≤ S'.1.1.length := y2
                    exact next (pc + len) _ γ' σ' L _ M' k1 y1 y2 ⟨hH'.1, aLs_scr (scr := (s, γ)) (scr' := (s, γ')) rfl (aLs_ext y1 y2 hH.2.1), aSs_app hH'.2.2.1 (aSs_scr (scr := (s, γ)) (scr' := (s, γ')) rfl (aSs_ext y1 y2 c2)), hH'.2.2.2⟩ f2 gf2
                  · intro pc' S' γ' σ' L' st' M' k1
                    cases k1
