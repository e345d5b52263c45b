/-! pieces about what is alike: what they share -/
def gUs (γ : Gh) : List (Nat × Nat × Int32) → Gh
  | [] => γ
  | q :: r => gUs (gUp γ q.1 q.2.1 q.2.2) r
def gUsF (mod : List (Nat × Nat)) : List (Nat × Nat × Int32) → Bool
  | [] => true
  | q :: r => memP q.1 q.2.1 mod && gUsF mod r
theorem gUs_fr {mod : List (Nat × Nat)} {γ0 : Gh} : ∀ (l : List (Nat × Nat × Int32)) {γ : Gh}, gUsF mod l = true → gFr mod γ0 γ → gFr mod γ0 (gUs γ l)
  | [], _, _, h => h
  | q :: r, γ, hl, h => by
    have hl := bAnd (show (memP q.1 q.2.1 mod && gUsF mod r) = true from hl)
    exact gUs_fr r hl.2 (gFr_up hl.1 h)
def gUsL : List (Nat × Nat × Int32) → Bool
  | [] => true
  | q :: r => Nat.ble 1030 q.1 && gUsL r
theorem gUp_ne {γ : Gh} {g' k g i : Nat} {x : Int32} (h : g ≠ g' ∨ i ≠ k) : gUp γ g' k x g i = γ g i := by
  unfold gUp
  cases hq : (Nat.beq g g' && Nat.beq i k) with
  | false => rfl
  | true =>
    have hq := bAnd hq
    have a := Nat.eq_of_beq_eq_true hq.1
    have b := Nat.eq_of_beq_eq_true hq.2
    omega
theorem gUs_lt {γ0 : Gh} : ∀ (l : List (Nat × Nat × Int32)) {γ : Gh}, gUsL l = true → (∀ g i, g < 1030 → γ g i = γ0 g i) → ∀ g i, g < 1030 → gUs γ l g i = γ0 g i
  | [], _, _, h => h
  | q :: r, γ, hl, h => by
    have hl := bAnd (show (Nat.ble 1030 q.1 && gUsL r) = true from hl)
    have h1 := Nat.le_of_ble_eq_true hl.1
    exact gUs_lt r hl.2 (fun g i hg => (gUp_ne (Or.inl (by omega))).trans (h g i hg))
theorem x8_l {s : List Int32} {γ γ' : Gh} (hg : ∀ g i, g < 1030 → γ' g i = γ g i) (h : x8 (s, γ)) : x8 (s, γ') := by
  refine ⟨?_, ?_, ?_⟩
  · intro h0 c c1 c8
    have h0 : 0 ≤ (γ' 1010 0).toInt := h0
    rw [hg 1010 0 (by decide)] at h0
    have := h.1 h0 c c1 c8
    show s[(γ' 1010 0).toInt.toNat + c]? = some (γ' 1011 c)
    rw [hg 1010 0 (by decide), hg 1011 c (by decide)]
    exact this
  · show (γ' 1012 1).toInt = (γ' 1012 0).toInt / 4
    rw [hg 1012 1 (by decide), hg 1012 0 (by decide)]
    exact h.2.1
  · show γ' 1013 1 = bcI (γ' 1013 0)
    rw [hg 1013 1 (by decide), hg 1013 0 (by decide)]
    exact h.2.2
theorem tXI_l {γ γ' : Gh} {M : Mem} (h : ∀ g i, g < 1030 → γ' g i = γ g i) (hX : tXI γ M) : tXI γ' M := by
  unfold tXI tXJ x2 x3 x4 x5 x6 x7 xp xA at hX ⊢
  simp only [h 1002 0 (by decide), h 1002 1 (by decide), h 1002 2 (by decide), h 1002 3 (by decide), h 1003 0 (by decide), h 1003 1 (by decide), h 1003 2 (by decide), h 1004 0 (by decide), h 1004 1 (by decide), h 1004 2 (by decide), h 1004 3 (by decide), h 1004 4 (by decide), h 1004 5 (by decide), h 1005 0 (by decide), h 1005 1 (by decide), h 1005 2 (by decide), h 1005 3 (by decide), h 1005 4 (by decide), h 1005 5 (by decide), h 1006 0 (by decide), h 1006 1 (by decide), h 1006 2 (by decide), h 1006 4 (by decide), h 1006 5 (by decide), h 1006 6 (by decide), h 1006 7 (by decide), h 1006 8 (by decide), h 1007 0 (by decide), h 1007 1 (by decide), h 1001 0 (by decide), h 1001 1 (by decide), h 1001 2 (by decide), h 1001 3 (by decide), h 1001 4 (by decide), h 1001 5 (by decide), h 1001 6 (by decide), h 1001 7 (by decide), h 1001 8 (by decide), h 1001 9 (by decide), h 1001 10 (by decide)]
  exact hX
theorem xv_put0 {M : Mem} {a i : Nat} {v : Value} (h : tPro0 (tGrp a) (aSlK a i) = false) : xv (mPut M a i v) = xv M := by
  funext c j
  unfold xv
  cases hq : tPro0 (tGrp c) (aSlK c j) with
  | false => rfl
  | true =>
    dsimp only [cond_true]
    refine mSlot_put_ne ?_
    by_cases e : c = a
    · refine Or.inr (fun e2 => ?_)
      subst e; subst e2
      rw [h] at hq
      cases hq
    · exact Or.inl e
theorem aHold_0 {scr : SG} {σ : Nat → Int} {S : AS} {L : MLoc} {st : List Value} {M : Mem} (h : aHold9 scr σ S L st M) : aHold0 scr σ S L st M := ⟨h.1, h.2.1, h.2.2.1, aMem_0 h.2.2.2⟩
theorem mkHold9 {scr : SG} {σ : Nat → Int} {B : AB} {Z : AZ} {F : AF} {T : List AV} {st : List Value} {M : Mem} (h0 : 0 < B.length) (s0 : σ 0 = 0) (b : hB σ 0 B) (z : hZ σ B.length Z) (f : hF scr σ B.length M F) (ss : aSs scr σ B.length T st) (m : aMem9 scr M) : aHold9 scr σ ((B, Z, [], F), [], T) [] st M :=
  have q := mkHold h0 s0 b z f ss (aMem_0 m)
  ⟨q.1, q.2.1, q.2.2.1, m⟩
theorem fin9 {s : List Int32} {γ γ' : Gh} {M M' : Mem} (hA : aMem9 (s, γ) M) (hT : aTp s M') (hl : ∀ g i, g < 1030 → γ' g i = γ g i) (hv : xv M' = xv M) (hx : x9 γ' M') : aMem9 (s, γ') M' := by
  refine ⟨⟨hT.1, x8_l hl hA.1.2.1, hx⟩, hT.2.1, hT.2.2, ?_⟩
  have q : tXI γ M' := by
    have h : tXI γ M := hA.2.2.2
    unfold tXI at h ⊢
    rw [hv]
    exact h
  exact tXI_l hl q
theorem eS1 {scr : SG} {σ : Nat → Int} {K : AK} {A : List AV} {v : AV} {L : MLoc} {st : List Value} {M : Mem} (h : aHold0 scr σ (K, A, [v]) L st M) : ∃ w, st = [w] ∧ aG scr σ K.1.length v w := by
  have q : aSs scr σ K.1.length [v] st := h.2.2.1
  match st, q with
  | [], q => exact q.elim
  | [w], q => exact ⟨w, rfl, q.1⟩
  | _ :: _ :: _, q => exact q.2.elim
theorem eS2 {scr : SG} {σ : Nat → Int} {K : AK} {A : List AV} {v v2 : AV} {L : MLoc} {st : List Value} {M : Mem} (h : aHold0 scr σ (K, A, [v, v2]) L st M) : ∃ w w2, st = [w, w2] ∧ aG scr σ K.1.length v w ∧ aG scr σ K.1.length v2 w2 := by
  have q : aSs scr σ K.1.length [v, v2] st := h.2.2.1
  match st, q with
  | [], q => exact q.elim
  | [_], q => exact q.2.elim
  | [w, w2], q => exact ⟨w, w2, rfl, q.1, q.2.1⟩
  | _ :: _ :: _ :: _, q => exact q.2.2.elim
theorem eS3 {scr : SG} {σ : Nat → Int} {K : AK} {A : List AV} {v v2 v3 : AV} {L : MLoc} {st : List Value} {M : Mem} (h : aHold0 scr σ (K, A, [v, v2, v3]) L st M) : ∃ w w2 w3, st = [w, w2, w3] ∧ aG scr σ K.1.length v w ∧ aG scr σ K.1.length v2 w2 ∧ aG scr σ K.1.length v3 w3 := by
  have q : aSs scr σ K.1.length [v, v2, v3] st := h.2.2.1
  match st, q with
  | [], q => exact q.elim
  | [_], q => exact q.2.elim
  | [_, _], q => exact q.2.2.elim
  | [w, w2, w3], q => exact ⟨w, w2, w3, rfl, q.1, q.2.1, q.2.2.1⟩
  | _ :: _ :: _ :: _ :: _, q => exact q.2.2.2.elim
theorem gI {scr : SG} {σ : Nat → Int} {n sy : Nat} {c : Int} {w : Value} (h : aG scr σ n (1, sy, c) w) : ∃ x : Int32, w = .int x ∧ x.toInt = σ sy + c := h.2
theorem gR {scr : SG} {σ : Nat → Int} {n g : Nat} {c : Int} {w : Value} (h : aG scr σ n (2, g, c) w) (hg : tSin g = true) : w = .ref g := by
  obtain ⟨a, rfl, a1, a2, a3, _⟩ := h
  have a3 : tGrp a = g := a3
  have e2 : tGrp a = a := tSin_grp (by rw [a3]; exact hg)
  rw [← e2, a3]
theorem gD {scr : SG} {σ : Nat → Int} {n g : Nat} {sy : Nat} {w : Value} (h : aG scr σ n (2, g, .ofNat sy) w) (hs : 0 < sy) : ∃ a : Nat, w = .ref a ∧ (a : Int) = g + σ sy := by
  obtain ⟨a, rfl, _, _, _, a4⟩ := h
  have a4 := a4 (Int.ofNat_lt.mpr hs)
  exact ⟨a, rfl, a4.2⟩
set_option maxRecDepth 100000 in
theorem y9_o {γ : Gh} {T : YT} {k : Nat} (h : y9 γ T) (e : Gi γ 0 2 = k) : yP k γ T := by
  obtain ⟨o, ho, hp⟩ := h.2.1
  have h : o = k := by omega
  subst h
  exact hp
theorem yV_i32 {M : Mem} {t f d : Nat} : (Int32.ofInt (yV M t f d)).toInt = yV M t f d := by
  unfold yV
  cases yOk t f d with
  | false => rfl
  | true =>
    show (Int32.ofInt (vI (mSlot M (yC t f d) (ySl t f d)))).toInt = vI (mSlot M (yC t f d) (ySl t f d))
    unfold vI
    split
    · rename_i x _
      have := i32_rng x
      exact i32_ofInt this.1 this.2
    · rfl
theorem yT_put {M : Mem} {a i : Nat} {v : Value} (h8 : a ≠ 8) (h51 : a ≠ 51) (h : yT M) : yT (mPut M a i v) := by
  intro d hd
  rw [mSlot_put_ne (Or.inl (fun e => h8 e.symm)), mSlot_put_ne (Or.inl (fun e => h51 e.symm))]
  exact h d hd
theorem yLk_c {C C' R R' : Nat → Int} (h1 : ∀ f, f < 10 → C f = C' f) (h2 : ∀ f, f < 10 → R f = R' f) (h : yLk C' R') : yLk C R :=
  ⟨fun f hf => by rw [h1 f hf, h2 f hf]; exact h.1 f hf, by rw [h1 7 (by decide), h1 8 (by decide), h1 9 (by decide)]; exact h.2⟩
theorem yRel_ne {f : Nat} {a b : Int} (hf : f ≠ 7) (h : yRel f a b) : a = b := by
  unfold yRel at h
  rw [if_neg hf] at h
  exact h
theorem yRel_eq {f : Nat} {a b : Int} (hf : f ≠ 7) (h : a = b) : yRel f a b := by
  unfold yRel
  rw [if_neg hf]
  exact h
theorem yRel_7 {a b : Int} (h : yRel 7 a b) : (a = 1000000 ∧ b = -1) ∨ (a = b ∧ 0 ≤ a ∧ a ≤ 1006) := h
theorem yLk_a {C R : Nat → Int} (h0 : C 0 = R 0) (h1 : C 1 = R 1) (h2 : C 2 = R 2) (h3 : C 3 = R 3) (h4 : C 4 = R 4) (h5 : C 5 = R 5) (h6 : C 6 = R 6) (h7 : C 7 = 1000000) (h7' : R 7 = -1) (h8 : C 8 = -1) (h8' : R 8 = -1) (h9 : C 9 = 0) (h9' : R 9 = 0) : yLk C R := by
  refine ⟨fun f hf => ?_, fun _ => ⟨h8, h9⟩, fun hn => absurd h7 hn⟩
  rcases (show f = 0 ∨ f = 1 ∨ f = 2 ∨ f = 3 ∨ f = 4 ∨ f = 5 ∨ f = 6 ∨ f = 7 ∨ f = 8 ∨ f = 9 by omega) with rfl | rfl | rfl | rfl | rfl | rfl | rfl | rfl | rfl | rfl
  · exact h0
  · exact h1
  · exact h2
  · exact h3
  · exact h4
  · exact h5
  · exact h6
  · exact Or.inl ⟨h7, h7'⟩
  · exact h8.trans h8'.symm
  · exact h9.trans h9'.symm
theorem yLk_b {C R : Nat → Int} (h0 : C 0 = R 0) (h1 : C 1 = R 1) (h2 : C 2 = R 2) (h3 : C 3 = R 3) (h4 : C 4 = R 4) (h5 : C 5 = R 5) (h6 : C 6 = R 6) (h7 : C 7 = R 7) (h70 : 0 ≤ C 7) (h71 : C 7 ≤ 1006) (h8 : C 8 = R 8) (h9 : C 9 = R 9) (h80 : 0 ≤ C 8) : yLk C R := by
  refine ⟨fun f hf => ?_, fun h => by omega, fun _ => h80⟩
  rcases (show f = 0 ∨ f = 1 ∨ f = 2 ∨ f = 3 ∨ f = 4 ∨ f = 5 ∨ f = 6 ∨ f = 7 ∨ f = 8 ∨ f = 9 by omega) with rfl | rfl | rfl | rfl | rfl | rfl | rfl | rfl | rfl | rfl
  · exact h0
  · exact h1
  · exact h2
  · exact h3
  · exact h4
  · exact h5
  · exact h6
  · exact Or.inr ⟨h7, h70, h71⟩
  · exact h8
  · exact h9
/-- what is read when a deed is opened -/
def opL (x : Int32) (T : YT) (d : Nat) : List (Nat × Nat × Int32) := [(1030, 1, x), (1030, 2, 1), (1031, 0, Int32.ofInt (T 0 0 d)), (1031, 1, Int32.ofInt (T 0 1 d)), (1031, 2, Int32.ofInt (T 0 2 d)), (1031, 3, Int32.ofInt (T 0 3 d)), (1031, 4, Int32.ofInt (T 0 4 d)), (1031, 5, Int32.ofInt (T 0 5 d)), (1031, 6, Int32.ofInt (T 0 6 d)), (1031, 7, Int32.ofInt (T 0 7 d)), (1031, 8, Int32.ofInt (T 0 8 d)), (1031, 9, Int32.ofInt (T 0 9 d)),
  (1032, 0, Int32.ofInt (T 1 0 d)), (1032, 1, Int32.ofInt (T 1 1 d)), (1032, 2, Int32.ofInt (T 1 2 d)), (1032, 3, Int32.ofInt (T 1 3 d)), (1032, 4, Int32.ofInt (T 1 4 d)), (1032, 5, Int32.ofInt (T 1 5 d)), (1032, 6, Int32.ofInt (T 1 6 d)), (1032, 7, Int32.ofInt (T 1 7 d)), (1032, 8, Int32.ofInt (T 1 8 d)), (1032, 9, Int32.ofInt (T 1 9 d))]
theorem f10 {f : Nat} (h : f < 10) : f = 0 ∨ f = 1 ∨ f = 2 ∨ f = 3 ∨ f = 4 ∨ f = 5 ∨ f = 6 ∨ f = 7 ∨ f = 8 ∨ f = 9 := by omega
set_option maxRecDepth 100000 in
theorem opL_v {γ : Gh} {x : Int32} {M : Mem} {d : Nat} : ∀ f, f < 10 → Gi (gS (gUs γ (opL x (yV M) d))) 1 f = yV M 0 f d ∧ Gi (gS (gUs γ (opL x (yV M) d))) 2 f = yV M 1 f d := by
  intro f hf
  rcases f10 hf with rfl | rfl | rfl | rfl | rfl | rfl | rfl | rfl | rfl | rfl <;> exact ⟨yV_i32, yV_i32⟩
set_option maxRecDepth 100000 in
theorem y9_op {γ : Gh} {x : Int32} {M : Mem} {d : Nat} (h : y9 (gS γ) (yV M)) (h0 : (γ 1030 2).toInt = 0) (hd : d < 40) (hx : x.toInt = d) : y9 (gS (gUs γ (opL x (yV M) d))) (yV M) := by
  have ha : yAll (Gi (gS γ) 0 0) (yV M) := y9_o (k := 0) h h0
  have h10 : Gi (gS γ) 0 2 ≠ 10 := by
    have e : Gi (gS γ) 0 2 = 0 := h0
    rw [e]; decide
  refine ⟨h.1, ⟨1, rfl, ?_⟩, fun _ => h.2.2.1 h10, h.2.2.2.1, h.2.2.2.2.1, h.2.2.2.2.2⟩
  have he : Gi (gS (gUs γ (opL x (yV M) d))) 0 1 = d := hx
  refine ⟨⟨by rw [he]; omega, by rw [he]; omega⟩, fun d' h1 _ => ha d' h1, fun f hf => ?_⟩
  have hv := opL_v (γ := γ) (x := x) (M := M) (d := d) f hf
  rw [he, Int.toNat_natCast]
  exact ⟨hv.1.symm, hv.2.symm⟩
set_option maxRecDepth 100000 in
/-- a field of the open deed, class -/
theorem y9_p0 {γ : Gh} {T : YT} {f : Nat} {x : Int32} (h : y9 (gS γ) T) (h1 : (γ 1030 2).toInt = 1) : y9 (gS (gUp γ 1031 f x)) (yUp T 0 f (γ 1030 1).toInt.toNat x.toInt) := by
  have hp : yP1 (gS γ) T (Gi (gS γ) 0 0) (Gi (gS γ) 0 1) := y9_o (k := 1) h h1
  have h10 : Gi (gS γ) 0 2 ≠ 10 := by
    have e : Gi (gS γ) 0 2 = 1 := h1
    rw [e]; decide
  refine ⟨h.1, ⟨1, h1, ?_⟩, fun _ => h.2.2.1 h10, h.2.2.2.1, h.2.2.2.2.1, h.2.2.2.2.2⟩
  have b : 0 ≤ (γ 1030 1).toInt ∧ (γ 1030 1).toInt < 40 := hp.1
  refine ⟨hp.1, fun d' a1 a2 => ?_, fun g hg => ?_⟩
  · have q := hp.2.1 d' a1 a2
    have a2 : (d' : Int) ≠ (γ 1030 1).toInt := a2
    have e : (fun g => yUp T 0 f (γ 1030 1).toInt.toNat x.toInt 0 g d') = (fun g => T 0 g d') := by
      funext g
      exact yUp_ne (Or.inr (Or.inr (by omega)))
    rw [e]
    exact q
  · have q := hp.2.2 g hg
    show yUp T 0 f (γ 1030 1).toInt.toNat x.toInt 0 g (γ 1030 1).toInt.toNat = (gUp γ 1031 f x 1031 g).toInt ∧ T 1 g (γ 1030 1).toInt.toNat = (γ 1032 g).toInt
    refine ⟨?_, q.2⟩
    by_cases e : g = f
    · subst e
      rw [yUp_eq]
      unfold gUp
      rw [Nat.beq_refl, Nat.beq_refl]
      rfl
    · rw [yUp_ne (Or.inr (Or.inl e)), gUp_ne (Or.inr e)]
      exact q.1
set_option maxRecDepth 100000 in
/-- a field of the open deed, reference -/
theorem y9_p1 {γ : Gh} {T : YT} {f : Nat} {x : Int32} (h : y9 (gS γ) T) (h1 : (γ 1030 2).toInt = 1) : y9 (gS (gUp γ 1032 f x)) (yUp T 1 f (γ 1030 1).toInt.toNat x.toInt) := by
  have hp : yP1 (gS γ) T (Gi (gS γ) 0 0) (Gi (gS γ) 0 1) := y9_o (k := 1) h h1
  have h10 : Gi (gS γ) 0 2 ≠ 10 := by
    have e : Gi (gS γ) 0 2 = 1 := h1
    rw [e]; decide
  refine ⟨h.1, ⟨1, h1, ?_⟩, fun _ => h.2.2.1 h10, h.2.2.2.1, h.2.2.2.2.1, h.2.2.2.2.2⟩
  have b : 0 ≤ (γ 1030 1).toInt ∧ (γ 1030 1).toInt < 40 := hp.1
  refine ⟨hp.1, fun d' a1 a2 => ?_, fun g hg => ?_⟩
  · have q := hp.2.1 d' a1 a2
    have a2 : (d' : Int) ≠ (γ 1030 1).toInt := a2
    have e : (fun g => yUp T 1 f (γ 1030 1).toInt.toNat x.toInt 1 g d') = (fun g => T 1 g d') := by
      funext g
      exact yUp_ne (Or.inr (Or.inr (by omega)))
    rw [e]
    exact q
  · have q := hp.2.2 g hg
    show T 0 g (γ 1030 1).toInt.toNat = (γ 1031 g).toInt ∧ yUp T 1 f (γ 1030 1).toInt.toNat x.toInt 1 g (γ 1030 1).toInt.toNat = (gUp γ 1032 f x 1032 g).toInt
    refine ⟨q.1, ?_⟩
    by_cases e : g = f
    · subst e
      rw [yUp_eq]
      unfold gUp
      rw [Nat.beq_refl, Nat.beq_refl]
      rfl
    · rw [yUp_ne (Or.inr (Or.inl e)), gUp_ne (Or.inr e)]
      exact q.2
set_option maxRecDepth 100000 in
/-- what an open deed's field is -/
theorem y9_g {γ : Gh} {T : YT} (h : y9 (gS γ) T) (h1 : (γ 1030 2).toInt = 1) {f : Nat} (hf : f < 10) : T 0 f (γ 1030 1).toInt.toNat = (γ 1031 f).toInt ∧ T 1 f (γ 1030 1).toInt.toNat = (γ 1032 f).toInt := (show yP1 (gS γ) T (Gi (gS γ) 0 0) (Gi (gS γ) 0 1) from y9_o (k := 1) h h1).2.2 f hf
set_option maxRecDepth 100000 in
/-- the open deed is alike again, or counts no more; n: so many are alike then -/
theorem y9_cl {γ : Gh} {T : YT} (h : y9 (gS γ) T) (h1 : (γ 1030 2).toInt = 1) (hl : (γ 1030 1).toInt < (γ 1030 0).toInt → yLk (fun f => (γ 1031 f).toInt) (fun f => (γ 1032 f).toInt)) : y9 (gS (gUp γ 1030 2 0)) T := by
  have hp : yP1 (gS γ) T (Gi (gS γ) 0 0) (Gi (gS γ) 0 1) := y9_o (k := 1) h h1
  have h10 : Gi (gS γ) 0 2 ≠ 10 := by
    have e : Gi (gS γ) 0 2 = 1 := h1
    rw [e]; decide
  refine ⟨h.1, ⟨0, rfl, ?_⟩, fun _ => h.2.2.1 h10, h.2.2.2.1, h.2.2.2.2.1, h.2.2.2.2.2⟩
  intro d hd
  have hd : (d : Int) < (γ 1030 0).toInt := hd
  by_cases e : (d : Int) = (γ 1030 1).toInt
  · have hl := hl (by omega)
    have e2 : d = (γ 1030 1).toInt.toNat := by omega
    have q : ∀ f, f < 10 → T 0 f (γ 1030 1).toInt.toNat = (γ 1031 f).toInt ∧ T 1 f (γ 1030 1).toInt.toNat = (γ 1032 f).toInt := hp.2.2
    subst e2
    exact yLk_c (fun f hf => (q f hf).1) (fun f hf => (q f hf).2) hl
  · exact hp.2.1 d hd e
set_option maxRecDepth 100000 in
/-- a new deed is alike -/
theorem y9_gr {γ : Gh} {T : YT} {x : Int32} (h : y9 (gS γ) T) (h1 : (γ 1030 2).toInt = 1) (h2 : (γ 1030 1).toInt = (γ 1030 0).toInt) (h3 : (γ 1030 0).toInt < 40) (hx : x.toInt = (γ 1030 0).toInt + 1) (hl : yLk (fun f => (γ 1031 f).toInt) (fun f => (γ 1032 f).toInt)) : y9 (gS (gUs γ [(1030, 2, 0), (1030, 0, x)])) T := by
  have hp : yP1 (gS γ) T (Gi (gS γ) 0 0) (Gi (gS γ) 0 1) := y9_o (k := 1) h h1
  have h10 : Gi (gS γ) 0 2 ≠ 10 := by
    have e : Gi (gS γ) 0 2 = 1 := h1
    rw [e]; decide
  have b : (0 ≤ (γ 1030 0).toInt ∧ (γ 1030 0).toInt ≤ 40) ∧ _ := h.1
  refine ⟨⟨⟨by show 0 ≤ x.toInt; omega, by show x.toInt ≤ 40; omega⟩, b.2⟩, ⟨0, rfl, ?_⟩, fun _ => h.2.2.1 h10, h.2.2.2.1, h.2.2.2.2.1, h.2.2.2.2.2⟩
  intro d hd
  have hd : (d : Int) < x.toInt := hd
  by_cases e : (d : Int) = (γ 1030 1).toInt
  · have e2 : d = (γ 1030 1).toInt.toNat := by omega
    have q : ∀ f, f < 10 → T 0 f (γ 1030 1).toInt.toNat = (γ 1031 f).toInt ∧ T 1 f (γ 1030 1).toInt.toNat = (γ 1032 f).toInt := hp.2.2
    subst e2
    exact yLk_c (fun f hf => (q f hf).1) (fun f hf => (q f hf).2) hl
  · exact hp.2.1 d (show (d : Int) < (γ 1030 0).toInt by omega) e
/-! the tables' cells -/
def yHi (f : Nat) : Int := match f with
  | 0 => 9
  | 1 => 9
  | 2 => 2147483647
  | 3 => 999
  | 4 => 2
  | 5 => 9999
  | 6 => 1
  | 7 => 1000000
  | 8 => 9
  | _ => 16383
def yLo (f : Nat) : Int := match f with
  | 2 => -2147483648
  | 8 => -1
  | _ => 0
def rHi (f : Nat) : Int := match f with
  | 7 => 1006
  | f => yHi f
def rLo (f : Nat) : Int := match f with
  | 7 => -1
  | f => yLo f
theorem yOk_4 {t f d : Nat} (ht : t < 4) (hf : f < 10) (hd : d < 40) : yOk t f d = true := by
  have a : Nat.blt f 10 = true := Nat.ble_eq_true_of_le hf
  have b : Nat.blt d 40 = true := Nat.ble_eq_true_of_le hd
  rcases (show t = 0 ∨ t = 1 ∨ t = 2 ∨ t = 3 by omega) with rfl | rfl | rfl | rfl <;> (show (Nat.blt f 10 && Nat.blt d 40) = true; rw [a, b]; rfl)
section
variable {s : List Int32} {M : Mem}
theorem hdD (hT : aTp s M) {d : Nat} (hd : d < 40) : mHd M (10 + d) = some (1, 10) := by
  have h := hT.hd (c := 10 + d) (by omega) (by show 10 + d < 242; omega)
  rw [grp10 d hd] at h
  exact h
theorem slD {d : Nat} (hd : d < 40) (f : Nat) : aSlK (10 + d) f = f := by
  unfold aSlK
  rw [grp10 d hd]
  rfl
theorem tyD : ∀ f, f < 10 → tTy 10 f = (1, yLo f, yHi f, []) := by
  intro f hf
  rcases f10 hf with rfl | rfl | rfl | rfl | rfl | rfl | rfl | rfl | rfl | rfl <;> rfl
theorem tyR : ∀ f, f < 10 → tTy (tGrp (rA f)) 0 = (1, rLo f, rHi f, []) := by
  intro f hf
  rcases f10 hf with rfl | rfl | rfl | rfl | rfl | rfl | rfl | rfl | rfl | rfl <;> rfl
theorem tyRa {f i : Nat} (hf : f < 10) : tTy (tGrp (rA f)) i = (1, rLo f, rHi f, []) := by
  rw [← tyR f hf]
  rcases f10 hf with rfl | rfl | rfl | rfl | rfl | rfl | rfl | rfl | rfl | rfl <;> rfl
theorem hdR : ∀ f, f < 10 → tSiz (tGrp (rA f)) = 40 ∧ 2 ≤ rA f ∧ rA f < tEnd ∧ tGrp (rA f) = rA f ∧ rA f ≠ 8 ∧ rA f ≠ 51 ∧ tPro0 (rA f) 0 = false := by
  intro f hf
  rcases f10 hf with rfl | rfl | rfl | rfl | rfl | rfl | rfl | rfl | rfl | rfl <;> exact ⟨rfl, by decide, by decide, rfl, by decide, by decide, rfl⟩
theorem slR {f i : Nat} (hf : f < 10) : aSlK (rA f) i = 0 := by
  rcases f10 hf with rfl | rfl | rfl | rfl | rfl | rfl | rfl | rfl | rfl | rfl <;> rfl
/-- a deed's field, class -/
theorem tD (hT : aTp s M) {d f : Nat} (hd : d < 40) (hf : f < 10) : ∃ x : Int32, mSlot M (10 + d) f = some (.int x) ∧ yV M 0 f d = x.toInt ∧ yLo f ≤ x.toInt ∧ x.toInt ≤ yHi f := by
  obtain ⟨x, x1, x2, x3⟩ := hT.int (c := 10 + d) (i := f) (by omega) (by show 10 + d < 242; omega) (by rw [grp10 d hd]; exact hf) (lo := yLo f) (hi' := yHi f) (gs := []) (by rw [grp10 d hd]; exact tyD f hf)
  exact ⟨x, x1, yV_get (t := 0) (f := f) (d := d) (yOk_4 (by decide) hf hd) x1, x2, x3⟩
/-- a deed's field, reference -/
theorem tR (hT : aTp s M) {d f : Nat} (hd : d < 40) (hf : f < 10) : ∃ x : Int32, mSlot M (rA f) d = some (.int x) ∧ yV M 1 f d = x.toInt ∧ rLo f ≤ x.toInt ∧ x.toInt ≤ rHi f := by
  obtain ⟨a, b, c, _⟩ := hdR f hf
  obtain ⟨x, x1, x2, x3⟩ := hT.int (c := rA f) (i := d) b c (by rw [a]; exact hd) (lo := rLo f) (hi' := rHi f) (gs := []) (tyRa hf)
  exact ⟨x, x1, yV_get (t := 1) (f := f) (d := d) (yOk_4 (by decide) hf hd) x1, x2, x3⟩
theorem tDb (hT : aTp s M) {d : Nat} (hd : d < 40) {f : Nat} (hf : f < 10) : yLo f ≤ yV M 0 f d ∧ yV M 0 f d ≤ yHi f := by
  obtain ⟨x, _, e, h⟩ := tD hT hd hf
  rw [e]
  exact h
theorem tRb (hT : aTp s M) {d : Nat} (hd : d < 40) {f : Nat} (hf : f < 10) : rLo f ≤ yV M 1 f d ∧ yV M 1 f d ≤ rHi f := by
  obtain ⟨x, _, e, h⟩ := tR hT hd hf
  rw [e]
  exact h
/-- the memory after a store into a deed's field, class -/
theorem putD {γ γ' : Gh} (hA : aMem9 (s, γ) M) {d f : Nat} {x : Int32} (hd : d < 40) (hf : f < 10) (h1 : yLo f ≤ x.toInt) (h2 : x.toInt ≤ yHi f) (hl : ∀ g i, g < 1030 → γ' g i = γ g i) (hy : y9 (gS γ') (yUp (yV M) 0 f d x.toInt)) : aMem9 (s, γ') (mPut M (10 + d) f (.int x)) := by
  have hT := aTp_of (aMem_0 hA)
  have hx : x9 γ M := hA.1.2.2
  refine fin9 hA (hT.put (by omega) (by show 10 + d < 242; omega) ?_) hl (xv_put0 ?_) ⟨yT_put (by omega) (by omega) hx.1, ?_⟩
  · rw [grp10 d hd, tyD f hf]
    exact ⟨x, rfl, h1, h2⟩
  · rw [slD hd, grp10 d hd]
    rcases f10 hf with rfl | rfl | rfl | rfl | rfl | rfl | rfl | rfl | rfl | rfl <;> rfl
  · have e : yV (mPut M (10 + d) f (.int x)) = _ := yV_put (t := 0) (f := f) (d := d) (yOk_4 (by decide) hf hd) (hdD hT hd) hf
    rw [e]
    exact hy
theorem frD {mod : List (Nat × Nat)} {d f : Nat} {v : Value} (hd : d < 40) (h : memP 10 f mod = true) : aFr mod M (mPut M (10 + d) f v) := aFr_put (by rw [slD hd, grp10 d hd]; exact h)
/-- the memory after a store into a deed's field, reference -/
theorem putR {γ γ' : Gh} (hA : aMem9 (s, γ) M) {d f : Nat} {x : Int32} (hd : d < 40) (hf : f < 10) (h1 : rLo f ≤ x.toInt) (h2 : x.toInt ≤ rHi f) (hl : ∀ g i, g < 1030 → γ' g i = γ g i) (hy : y9 (gS γ') (yUp (yV M) 1 f d x.toInt)) : aMem9 (s, γ') (mPut M (rA f) d (.int x)) := by
  have hT := aTp_of (aMem_0 hA)
  have hx : x9 γ M := hA.1.2.2
  obtain ⟨a, b, c, a4, a5, a6, a7⟩ := hdR f hf
  refine fin9 hA (hT.put b c ?_) hl (xv_put0 ?_) ⟨yT_put a5 a6 hx.1, ?_⟩
  · rw [tyRa hf]
    exact ⟨x, rfl, h1, h2⟩
  · rw [slR hf, a4]
    exact a7
  · have hh := hT.hd b c
    rw [a] at hh
    have e : yV (mPut M (rA f) d (.int x)) = _ := yV_put (t := 1) (f := f) (d := d) (yOk_4 (by decide) hf hd) hh hd
    rw [e]
    exact hy
theorem frR {mod : List (Nat × Nat)} {d f : Nat} {v : Value} (hf : f < 10) (h : memP (rA f) 0 mod = true) : aFr mod M (mPut M (rA f) d v) := aFr_put (by rw [slR hf, (hdR f hf).2.2.2.1]; exact h)
end
theorem kAaldT {d mi pc len a n t b : Nat} {x : Int32} {L : MLoc} {st : List Value} {M : Mem} {Q : Option Value → Mem → Prop} (hat : mAt mi pc = some (len, .aaload)) (hh : mHd M a = some (t, n)) (ht : (t == 68 || t == 69 || t == 70) = true) (h0 : 0 ≤ x.toInt) (h1 : x.toInt < (n : Int)) (hs : mSlot M a x.toInt.toNat = some (.ref b)) (k : Ok d mi (pc + len) L (.ref b :: st) M Q) : Ok d mi pc L (.int x :: .ref a :: st) M Q := Ok.pl hat (mAld_run hh h0 h1 hs (by rw [Bool.and_eq_true]; exact ⟨ht, rfl⟩)) k
