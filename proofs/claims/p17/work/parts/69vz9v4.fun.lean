/-! holds, reign: either side (printed by fn39.py) -/
/-- the strips that a person holds -/
def hldsN (hd : Nat → Int32) (p : Int32) : Nat → Int32
  | 0 => 0
  | k + 1 => bif decide ((hd k).toInt = p.toInt) then hldsN hd p k ||| ((1 : Int32) <<< (Int32.ofNat k &&& 31)) else hldsN hd p k
/-- the days on which a person holds -/
def rgnN (hd : Nat → Int32) (p : Int32) : Nat → Int32
  | 0 => 0
  | k + 1 => bif decide ((hd k).toInt = p.toInt) then rgnN hd p k + 1 else rgnN hd p k
def holdsC (M : Mem) (W : Nat → WL) (p t : Int32) (b : Int32) : Prop := b = (bif bPer p && bDay t then hldsN (fun k => (holdF M W (Int32.ofNat k) t).1) p 8 else -1)
def reignC (M : Mem) (W : Nat → WL) (s p f u : Int32) (b : Int32) : Prop := b = (bif (bStr s && (bPer p && (bDay f && bDay u))) && decide (f.toInt ≤ u.toInt ∧ u.toInt - f.toInt < 100) then rgnN (fun k => (holdF M W s (Int32.ofNat (f.toInt.toNat + k))).1) p (u.toInt - f.toInt + 1).toNat else -1)
theorem hldsC_lp {M : Mem} {W : Nat → WL} {p t : Int32} (hR : Rf M) (hg : gvC M) (hW : lwOk M W) (hO : ordC M) : ∀ (n : Nat) {d : Nat} {L : MLoc} {N : Mem} {r : Option Value} {M1 : Mem} {z k : Int32}, Sh N → FzC M N → mLd L 0 = some (.ref 2) → mLd L 1 = some (.int p) → mLd L 2 = some (.int t) → mLd L 3 = some (.int z) → mLd L 4 = some (.int k) → 0 ≤ k.toInt → k.toInt ≤ 8 → z = hldsN (fun k => (holdF M W (Int32.ofNat k) t).1) p k.toInt.toNat → En n d 139 21 L [] N r M1 → r = some (.int (hldsN (fun k => (holdF M W (Int32.ofNat k) t).1) p 8)) ∧ FzC M M1 := by
  intro n
  induction n with
  | zero => intro d L N r M1 z k _ _ _ _ _ _ _ _ _ _ h; exact (En.zero (mi := 139) (pc := 21) (len := 2) rfl h).elim
  | succ n ih =>
    intro d L N r M1 z k hS fz l0 l1 l2 l3 l4 k0 k9 hz h
    replace h := eIloadS (mi := 139) (pc := 21) (len := 2) (i := 4) rfl l4 h
    replace h := eConst (mi := 139) (pc := 23) (len := 2) (v := 8) rfl h
    rcases eIc (mi := 139) (pc := 25) (len := 3) (t := 55) rfl rfl h with ⟨c1, h⟩ | ⟨c1, h⟩
    · replace c1 : ¬ k.toInt < 8 := mC_ge.1 c1
      replace h := eIload (mi := 139) (pc := 55) (len := 1) (i := 3) rfl l3 h
      obtain ⟨e1, e2⟩ := eRetI (mi := 139) (pc := 56) (len := 1) rfl h
      have k8 : k.toInt.toNat = 8 := by have := c1; omega
      rw [← k8, ← hz, e2]
      exact ⟨e1, fz⟩
    · replace c1 : k.toInt < 8 := mC_ge.2 c1
      replace h := eAload (mi := 139) (pc := 28) (len := 1) (i := 0) rfl l0 h
      replace h := eGetR (a := 2) (j := 1008) (g := 170) hS (by decide) (by decide) rfl rfl rfl (mi := 139) (pc := 29) (len := 3) rfl h
      replace h := eIload (mi := 139) (pc := 32) (len := 2) (i := 4) rfl l4 h
      replace h := eIload (mi := 139) (pc := 34) (len := 1) (i := 2) rfl l2 h
      obtain ⟨r2, N3, g4, h⟩ := eCall (mi := 139) (pc := 35) (len := 3) (j := 2) (as := [.ref 170, .int k, .int t]) (rest := []) rfl (Or.inr (Or.inl rfl)) (by decide) rfl rfl h
      obtain ⟨erN3, hZN3, _, _⟩ := hldBy_en hS fz hR hg hW hO g4
      rw [erN3] at h
      have fzN3 : FzC M N3 := hZN3.2.1
      replace h := eIload (mi := 139) (pc := 38) (len := 1) (i := 1) rfl l1 h
      rcases eIc (mi := 139) (pc := 39) (len := 3) (t := 49) rfl rfl h with ⟨c5, h⟩ | ⟨c5, h⟩
      · replace c5 : ¬ (holdF M W k t).1.toInt = p.toInt := mC_ne.1 c5
        replace h := eIinc (mi := 139) (pc := 49) (len := 3) (i := 4) (k := 1) rfl l4 (by decide) h
        replace h := eGoto (mi := 139) (pc := 52) (len := 3) (t := 21) rfl rfl h
        have ek : (k + 1).toInt = k.toInt + 1 := i32_inc k0 (by omega)
        have en : (k + 1).toInt.toNat = k.toInt.toNat + 1 := by omega
        have k8 : k.toInt < 8 := c1
        refine ih (k := k + 1) hZN3.1 fzN3 (mLd_st1_ref (by decide) l0) (mLd_st1_int (by decide) l1) (mLd_st1_int (by decide) l2) (mLd_st1_int (by decide) l3) mLd_st1_i (by omega) (by omega) ?_ h
        rw [en]
        show _ = (bif decide (((holdF M W (Int32.ofNat k.toInt.toNat) t).1).toInt = p.toInt) then hldsN (fun k => (holdF M W (Int32.ofNat k) t).1) p k.toInt.toNat ||| ((1 : Int32) <<< (Int32.ofNat k.toInt.toNat &&& 31)) else hldsN (fun k => (holdF M W (Int32.ofNat k) t).1) p k.toInt.toNat)
        rw [i32_natR k0, decide_eq_false c5, ← hz]
        rfl
      · replace c5 : (holdF M W k t).1.toInt = p.toInt := mC_ne.2 c5
        replace h := eIload (mi := 139) (pc := 42) (len := 1) (i := 3) rfl l3 h
        replace h := eConst (mi := 139) (pc := 43) (len := 1) (v := 1) rfl h
        replace h := eIload (mi := 139) (pc := 44) (len := 2) (i := 4) rfl l4 h
        replace h := eShl (mi := 139) (pc := 46) (len := 1) rfl h
        replace h := eOr (mi := 139) (pc := 47) (len := 1) rfl h
        replace h := eIstore (mi := 139) (pc := 48) (len := 1) (i := 3) rfl (by decide) h
        replace h := eIinc (mi := 139) (pc := 49) (len := 3) (i := 4) (k := 1) rfl (mLd_st1_int (by decide) l4) (by decide) h
        replace h := eGoto (mi := 139) (pc := 52) (len := 3) (t := 21) rfl rfl h
        have ek : (k + 1).toInt = k.toInt + 1 := i32_inc k0 (by omega)
        have en : (k + 1).toInt.toNat = k.toInt.toNat + 1 := by omega
        have k8 : k.toInt < 8 := c1
        refine ih (k := k + 1) hZN3.1 fzN3 (mLd_st1_ref (by decide) (mLd_st1_ref (by decide) l0)) (mLd_st1_int (by decide) (mLd_st1_int (by decide) l1)) (mLd_st1_int (by decide) (mLd_st1_int (by decide) l2)) (mLd_st1_int (by decide) mLd_st1_i) mLd_st1_i (by omega) (by omega) ?_ h
        rw [en]
        show _ = (bif decide (((holdF M W (Int32.ofNat k.toInt.toNat) t).1).toInt = p.toInt) then hldsN (fun k => (holdF M W (Int32.ofNat k) t).1) p k.toInt.toNat ||| ((1 : Int32) <<< (Int32.ofNat k.toInt.toNat &&& 31)) else hldsN (fun k => (holdF M W (Int32.ofNat k) t).1) p k.toInt.toNat)
        rw [i32_natR k0, decide_eq_true c5, ← hz]
        rfl
theorem hldsR_lp {M : Mem} {W : Nat → WL} {n0 : Nat} {p t : Int32} (hL : lysA M n0) (hn : n0 = nC M) (hO : ordC M) (hW : lwOk M W) (hL6 : ∀ s, s < 8 → 0 ≤ (iv M 6 s).toInt ∧ (iv M 6 s).toInt ≤ 2) (hd9 : ∀ e, e < n0 → (iv M (10 + e) 3).toInt ≤ 999) (ht : t.toInt < 1000) : ∀ (n : Nat) {d : Nat} {L : MLoc} {N : Mem} {r : Option Value} {M1 : Mem} {z k : Int32}, RSw M N → mLd L 0 = some (.ref 181) → mLd L 1 = some (.int p) → mLd L 2 = some (.int t) → mLd L 3 = some (.int z) → mLd L 4 = some (.int k) → 0 ≤ k.toInt → k.toInt ≤ 8 → z = hldsN (fun k => (holdF M W (Int32.ofNat k) t).1) p k.toInt.toNat → En n d 268 21 L [] N r M1 → r = some (.int (hldsN (fun k => (holdF M W (Int32.ofNat k) t).1) p 8)) := by
  intro n
  induction n with
  | zero => intro d L N r M1 z k _ _ _ _ _ _ _ _ _ h; exact (En.zero (mi := 268) (pc := 21) (len := 2) rfl h).elim
  | succ n ih =>
    intro d L N r M1 z k hB l0 l1 l2 l3 l4 k0 k9 hz h
    have hS := hB.1
    replace h := eIloadS (mi := 268) (pc := 21) (len := 2) (i := 4) rfl l4 h
    replace h := eConst (mi := 268) (pc := 23) (len := 2) (v := 8) rfl h
    rcases eIc (mi := 268) (pc := 25) (len := 3) (t := 56) rfl rfl h with ⟨c1, h⟩ | ⟨c1, h⟩
    · replace c1 : ¬ k.toInt < 8 := mC_ge.1 c1
      replace h := eIload (mi := 268) (pc := 56) (len := 1) (i := 3) rfl l3 h
      obtain ⟨e1, e2⟩ := eRetI (mi := 268) (pc := 57) (len := 1) rfl h
      have k8 : k.toInt.toNat = 8 := by have := c1; omega
      rw [← k8, ← hz]
      exact e1
    · replace c1 : k.toInt < 8 := mC_ge.2 c1
      have k8 : k.toInt.toNat < 8 := by have : k.toInt < 8 := c1; omega
      replace h := eAload (mi := 268) (pc := 28) (len := 1) (i := 0) rfl l0 h
      replace h := eIload (mi := 268) (pc := 29) (len := 2) (i := 4) rfl l4 h
      replace h := eIload (mi := 268) (pc := 31) (len := 1) (i := 2) rfl l2 h
      obtain ⟨r2, N3, g4, h⟩ := eCall (mi := 268) (pc := 32) (len := 3) (j := 229) (as := [.ref 181, .int k, .int t]) (rest := []) rfl (Or.inr (Or.inl rfl)) (by decide) rfl rfl h
      obtain ⟨erN3, hBN3, _, _⟩ := hldOf_en (W := W) hB hL hn hO hW k8 (hL6 _ k8) hd9 ht g4
      rw [erN3] at h
      replace h := eIload (mi := 268) (pc := 35) (len := 1) (i := 1) rfl l1 h
      rcases eIc (mi := 268) (pc := 36) (len := 3) (t := 48) rfl rfl h with ⟨c5, h⟩ | ⟨c5, h⟩
      · replace c5 : ¬ (holdF M W k t).1.toInt = p.toInt := mC_ne.1 c5
        replace h := eIload (mi := 268) (pc := 48) (len := 1) (i := 3) rfl l3 h
        replace h := eIstore (mi := 268) (pc := 49) (len := 1) (i := 3) rfl (by decide) h
        replace h := eIinc (mi := 268) (pc := 50) (len := 3) (i := 4) (k := 1) rfl (mLd_st1_int (by decide) l4) (by decide) h
        replace h := eGoto (mi := 268) (pc := 53) (len := 3) (t := 21) rfl rfl h
        have ek : (k + 1).toInt = k.toInt + 1 := i32_inc k0 (by omega)
        have en : (k + 1).toInt.toNat = k.toInt.toNat + 1 := by omega
        have k8 : k.toInt < 8 := c1
        refine ih (k := k + 1) hBN3 (mLd_st1_ref (by decide) (mLd_st1_ref (by decide) l0)) (mLd_st1_int (by decide) (mLd_st1_int (by decide) l1)) (mLd_st1_int (by decide) (mLd_st1_int (by decide) l2)) (mLd_st1_int (by decide) mLd_st1_i) mLd_st1_i (by omega) (by omega) ?_ h
        rw [en]
        show _ = (bif decide (((holdF M W (Int32.ofNat k.toInt.toNat) t).1).toInt = p.toInt) then hldsN (fun k => (holdF M W (Int32.ofNat k) t).1) p k.toInt.toNat ||| ((1 : Int32) <<< (Int32.ofNat k.toInt.toNat &&& 31)) else hldsN (fun k => (holdF M W (Int32.ofNat k) t).1) p k.toInt.toNat)
        rw [i32_natR k0, decide_eq_false c5, ← hz]
        rfl
      · replace c5 : (holdF M W k t).1.toInt = p.toInt := mC_ne.2 c5
        replace h := eIload (mi := 268) (pc := 39) (len := 1) (i := 3) rfl l3 h
        replace h := eConst (mi := 268) (pc := 40) (len := 1) (v := 1) rfl h
        replace h := eIload (mi := 268) (pc := 41) (len := 2) (i := 4) rfl l4 h
        replace h := eShl (mi := 268) (pc := 43) (len := 1) rfl h
        replace h := eOr (mi := 268) (pc := 44) (len := 1) rfl h
        replace h := eGoto (mi := 268) (pc := 45) (len := 3) (t := 49) rfl rfl h
        replace h := eIstore (mi := 268) (pc := 49) (len := 1) (i := 3) rfl (by decide) h
        replace h := eIinc (mi := 268) (pc := 50) (len := 3) (i := 4) (k := 1) rfl (mLd_st1_int (by decide) l4) (by decide) h
        replace h := eGoto (mi := 268) (pc := 53) (len := 3) (t := 21) rfl rfl h
        have ek : (k + 1).toInt = k.toInt + 1 := i32_inc k0 (by omega)
        have en : (k + 1).toInt.toNat = k.toInt.toNat + 1 := by omega
        have k8 : k.toInt < 8 := c1
        refine ih (k := k + 1) hBN3 (mLd_st1_ref (by decide) (mLd_st1_ref (by decide) l0)) (mLd_st1_int (by decide) (mLd_st1_int (by decide) l1)) (mLd_st1_int (by decide) (mLd_st1_int (by decide) l2)) (mLd_st1_int (by decide) mLd_st1_i) mLd_st1_i (by omega) (by omega) ?_ h
        rw [en]
        show _ = (bif decide (((holdF M W (Int32.ofNat k.toInt.toNat) t).1).toInt = p.toInt) then hldsN (fun k => (holdF M W (Int32.ofNat k) t).1) p k.toInt.toNat ||| ((1 : Int32) <<< (Int32.ofNat k.toInt.toNat &&& 31)) else hldsN (fun k => (holdF M W (Int32.ofNat k) t).1) p k.toInt.toNat)
        rw [i32_natR k0, decide_eq_true c5, ← hz]
        rfl
theorem holdsC_en {M : Mem} {W : Nat → WL} {p t : Int32} (hS : Sh M) (hR : Rf M) (hg : gvC M) (hW : lwOk M W) (hO : ordC M) {n d : Nat} {r : Option Value} {M1 : Mem} (h : En n d 139 0 (lv_args 0 [.ref 2, .int p, .int t]) [] M r M1) : ∃ b, r = some (.int b) ∧ holdsC M W p t b ∧ FzC M M1 := by
  replace h := eIload (mi := 139) (pc := 0) (len := 1) (i := 1) rfl rfl h
  replace h := eCallP (mi := 139) (pc := 1) (len := 3) (j := 149) (as := [.int p]) (rest := []) rfl (Or.inl rfl) (by decide) rfl rfl (fun _ _ _ _ g => bPer_en hS g) h
  rcases eIf (mi := 139) (pc := 4) (len := 3) (t := 14) rfl rfl h with ⟨c1, h⟩ | ⟨c1, h⟩
  · replace c1 : bPer p = false := mB_eq.1 c1
    replace h := eConst (mi := 139) (pc := 14) (len := 1) (v := (-1)) rfl h
    obtain ⟨e1, e2⟩ := eRetI (mi := 139) (pc := 15) (len := 1) rfl h
    refine ⟨_, e1, ?_, by rw [e2]; exact FzC.rf⟩
    unfold holdsC
    simp only [c1, Bool.true_and, Bool.false_and, Bool.and_true, Bool.and_false, cond_true, cond_false] <;> rfl
  · replace c1 : bPer p = true := mB_eq.2 c1
    replace h := eIload (mi := 139) (pc := 7) (len := 1) (i := 2) rfl rfl h
    replace h := eCallP (mi := 139) (pc := 8) (len := 3) (j := 151) (as := [.int t]) (rest := []) rfl (Or.inl rfl) (by decide) rfl rfl (fun _ _ _ _ g => bDay_en hS g) h
    rcases eIf (mi := 139) (pc := 11) (len := 3) (t := 16) rfl rfl h with ⟨c2, h⟩ | ⟨c2, h⟩
    · replace c2 : bDay t = true := mB_ne.1 c2
      replace h := eConst (mi := 139) (pc := 16) (len := 1) (v := 0) rfl h
      replace h := eIstore (mi := 139) (pc := 17) (len := 1) (i := 3) rfl (by decide) h
      replace h := eConst (mi := 139) (pc := 18) (len := 1) (v := 0) rfl h
      replace h := eIstore (mi := 139) (pc := 19) (len := 2) (i := 4) rfl (by decide) h
      have z := hldsC_lp hR hg hW hO _ (k := 0) hS FzC.rf rfl rfl rfl rfl rfl (by decide) (by decide) rfl h
      refine ⟨_, z.1, ?_, z.2⟩
      unfold holdsC
      simp only [c1, c2, Bool.true_and, Bool.false_and, Bool.and_true, Bool.and_false, cond_true, cond_false] <;> rfl
    · replace c2 : bDay t = false := mB_ne.2 c2
      replace h := eConst (mi := 139) (pc := 14) (len := 1) (v := (-1)) rfl h
      obtain ⟨e1, e2⟩ := eRetI (mi := 139) (pc := 15) (len := 1) rfl h
      refine ⟨_, e1, ?_, by rw [e2]; exact FzC.rf⟩
      unfold holdsC
      simp only [c1, c2, Bool.true_and, Bool.false_and, Bool.and_true, Bool.and_false, cond_true, cond_false] <;> rfl
theorem holdsR_en {M : Mem} {W : Nat → WL} {n0 : Nat} {N : Mem} {p t : Int32} (hB : RSw M N) (hL : lysA M n0) (hn : n0 = nC M) (hO : ordC M) (hW : lwOk M W) (hL6 : ∀ s, s < 8 → 0 ≤ (iv M 6 s).toInt ∧ (iv M 6 s).toInt ≤ 2) (hd9 : ∀ e, e < n0 → (iv M (10 + e) 3).toInt ≤ 999) {n d : Nat} {r : Option Value} {M1 : Mem} (h : En n d 268 0 (lv_args 0 [.ref 181, .int p, .int t]) [] N r M1) : ∃ b, r = some (.int b) ∧ holdsC M W p t b := by
  replace h := eIload (mi := 268) (pc := 0) (len := 1) (i := 1) rfl rfl h
  replace h := eCallP (mi := 268) (pc := 1) (len := 3) (j := 162) (as := [.int p]) (rest := []) rfl (Or.inl rfl) (by decide) rfl rfl (fun _ _ _ _ g => rPer_en hB.1 g) h
  rcases eIf (mi := 268) (pc := 4) (len := 3) (t := 14) rfl rfl h with ⟨c1, h⟩ | ⟨c1, h⟩
  · replace c1 : rPer p = false := mB_eq.1 c1
    replace h := eConst (mi := 268) (pc := 14) (len := 1) (v := (-1)) rfl h
    obtain ⟨e1, e2⟩ := eRetI (mi := 268) (pc := 15) (len := 1) rfl h
    refine ⟨_, e1, ?_⟩
    unfold holdsC
    rw [← rPer_eq, ← rDay_eq]
    simp only [c1, Bool.true_and, Bool.false_and, Bool.and_true, Bool.and_false, cond_true, cond_false] <;> rfl
  · replace c1 : rPer p = true := mB_eq.2 c1
    replace h := eIload (mi := 268) (pc := 7) (len := 1) (i := 2) rfl rfl h
    replace h := eCallP (mi := 268) (pc := 8) (len := 3) (j := 161) (as := [.int t]) (rest := []) rfl (Or.inl rfl) (by decide) rfl rfl (fun _ _ _ _ g => rDay_en hB.1 g) h
    rcases eIf (mi := 268) (pc := 11) (len := 3) (t := 16) rfl rfl h with ⟨c2, h⟩ | ⟨c2, h⟩
    · replace c2 : rDay t = true := mB_ne.1 c2
      replace h := eConst (mi := 268) (pc := 16) (len := 1) (v := 0) rfl h
      replace h := eIstore (mi := 268) (pc := 17) (len := 1) (i := 3) rfl (by decide) h
      replace h := eConst (mi := 268) (pc := 18) (len := 1) (v := 0) rfl h
      replace h := eIstore (mi := 268) (pc := 19) (len := 2) (i := 4) rfl (by decide) h
      have ht := day_lt ((rDay_eq t).symm.trans c2)
      have z := hldsR_lp hL hn hO hW hL6 hd9 ht _ (k := 0) hB rfl rfl rfl rfl rfl (by decide) (by decide) rfl h
      refine ⟨_, z, ?_⟩
      unfold holdsC
      rw [← rPer_eq, ← rDay_eq]
      simp only [c1, c2, Bool.true_and, Bool.false_and, Bool.and_true, Bool.and_false, cond_true, cond_false] <;> rfl
    · replace c2 : rDay t = false := mB_ne.2 c2
      replace h := eConst (mi := 268) (pc := 14) (len := 1) (v := (-1)) rfl h
      obtain ⟨e1, e2⟩ := eRetI (mi := 268) (pc := 15) (len := 1) rfl h
      refine ⟨_, e1, ?_⟩
      unfold holdsC
      rw [← rPer_eq, ← rDay_eq]
      simp only [c1, c2, Bool.true_and, Bool.false_and, Bool.and_true, Bool.and_false, cond_true, cond_false] <;> rfl
theorem rgnC_lp {M : Mem} {W : Nat → WL} {s p f u : Int32} (hR : Rf M) (hg : gvC M) (hW : lwOk M W) (hO : ordC M) (f0 : 0 ≤ f.toInt) (fu : f.toInt ≤ u.toInt) (u9 : u.toInt < 1000) : ∀ (n : Nat) {d : Nat} {L : MLoc} {N : Mem} {r : Option Value} {M1 : Mem} {z k : Int32} (kk : Nat), Sh N → FzC M N → mLd L 0 = some (.ref 2) → mLd L 1 = some (.int s) → mLd L 2 = some (.int p) → mLd L 3 = some (.int f) → mLd L 4 = some (.int u) → mLd L 5 = some (.int z) → mLd L 6 = some (.int k) → 0 ≤ k.toInt → k.toInt = f.toInt + (kk : Int) → k.toInt ≤ u.toInt + 1 → z = rgnN (fun k => (holdF M W s (Int32.ofNat (f.toInt.toNat + k))).1) p kk → En n d 140 54 L [] N r M1 → r = some (.int (rgnN (fun k => (holdF M W s (Int32.ofNat (f.toInt.toNat + k))).1) p (u.toInt - f.toInt + 1).toNat)) ∧ FzC M M1 := by
  intro n
  induction n with
  | zero => intro d L N r M1 z k kk _ _ _ _ _ _ _ _ _ _ _ _ _ h; exact (En.zero (mi := 140) (pc := 54) (len := 2) rfl h).elim
  | succ n ih =>
    intro d L N r M1 z k kk hS fz l0 l1 l2 l3 l4 l5 l6 k0 hk ku hz h
    replace h := eIloadS (mi := 140) (pc := 54) (len := 2) (i := 6) rfl l6 h
    replace h := eIload (mi := 140) (pc := 56) (len := 2) (i := 4) rfl l4 h
    rcases eIc (mi := 140) (pc := 58) (len := 3) (t := 84) rfl rfl h with ⟨c1, h⟩ | ⟨c1, h⟩
    · replace c1 : u.toInt < k.toInt := mC_gt.1 c1
      replace h := eIload (mi := 140) (pc := 84) (len := 2) (i := 5) rfl l5 h
      obtain ⟨e1, e2⟩ := eRetI (mi := 140) (pc := 86) (len := 1) rfl h
      have k8 : (u.toInt - f.toInt + 1).toNat = kk := by have := c1; omega
      rw [k8, ← hz, e2]
      exact ⟨e1, fz⟩
    · replace c1 : ¬ u.toInt < k.toInt := mC_gt.2 c1
      replace h := eAload (mi := 140) (pc := 61) (len := 1) (i := 0) rfl l0 h
      replace h := eGetR (a := 2) (j := 1008) (g := 170) hS (by decide) (by decide) rfl rfl rfl (mi := 140) (pc := 62) (len := 3) rfl h
      replace h := eIload (mi := 140) (pc := 65) (len := 1) (i := 1) rfl l1 h
      replace h := eIload (mi := 140) (pc := 66) (len := 2) (i := 6) rfl l6 h
      obtain ⟨r2, N3, g4, h⟩ := eCall (mi := 140) (pc := 68) (len := 3) (j := 2) (as := [.ref 170, .int s, .int k]) (rest := []) rfl (Or.inr (Or.inl rfl)) (by decide) rfl rfl h
      obtain ⟨erN3, hZN3, _, _⟩ := hldBy_en hS fz hR hg hW hO g4
      rw [erN3] at h
      have fzN3 : FzC M N3 := hZN3.2.1
      replace h := eIload (mi := 140) (pc := 71) (len := 1) (i := 2) rfl l2 h
      rcases eIc (mi := 140) (pc := 72) (len := 3) (t := 78) rfl rfl h with ⟨c5, h⟩ | ⟨c5, h⟩
      · replace c5 : ¬ (holdF M W s k).1.toInt = p.toInt := mC_ne.1 c5
        replace h := eIinc (mi := 140) (pc := 78) (len := 3) (i := 6) (k := 1) rfl l6 (by decide) h
        replace h := eGoto (mi := 140) (pc := 81) (len := 3) (t := 54) rfl rfl h
        have ek : (k + 1).toInt = k.toInt + 1 := i32_inc k0 (by omega)
        have ekk : (k + 1).toInt = f.toInt + ((kk + 1 : Nat) : Int) := by omega
        refine ih (k := k + 1) (kk + 1) hZN3.1 fzN3 (mLd_st1_ref (by decide) l0) (mLd_st1_int (by decide) l1) (mLd_st1_int (by decide) l2) (mLd_st1_int (by decide) l3) (mLd_st1_int (by decide) l4) (mLd_st1_int (by decide) l5) mLd_st1_i (by omega) ekk (by omega) ?_ h
        show _ = (bif decide (((holdF M W s (Int32.ofNat (f.toInt.toNat + kk))).1).toInt = p.toInt) then rgnN (fun k => (holdF M W s (Int32.ofNat (f.toInt.toNat + k))).1) p kk + 1 else rgnN (fun k => (holdF M W s (Int32.ofNat (f.toInt.toNat + k))).1) p kk)
        rw [show f.toInt.toNat + kk = k.toInt.toNat by omega, i32_natR k0, decide_eq_false c5, ← hz]
        rfl
      · replace c5 : (holdF M W s k).1.toInt = p.toInt := mC_ne.2 c5
        replace h := eIinc (mi := 140) (pc := 75) (len := 3) (i := 5) (k := 1) rfl l5 (by decide) h
        replace h := eIinc (mi := 140) (pc := 78) (len := 3) (i := 6) (k := 1) rfl (mLd_st1_int (by decide) l6) (by decide) h
        replace h := eGoto (mi := 140) (pc := 81) (len := 3) (t := 54) rfl rfl h
        have ek : (k + 1).toInt = k.toInt + 1 := i32_inc k0 (by omega)
        have ekk : (k + 1).toInt = f.toInt + ((kk + 1 : Nat) : Int) := by omega
        refine ih (k := k + 1) (kk + 1) hZN3.1 fzN3 (mLd_st1_ref (by decide) (mLd_st1_ref (by decide) l0)) (mLd_st1_int (by decide) (mLd_st1_int (by decide) l1)) (mLd_st1_int (by decide) (mLd_st1_int (by decide) l2)) (mLd_st1_int (by decide) (mLd_st1_int (by decide) l3)) (mLd_st1_int (by decide) (mLd_st1_int (by decide) l4)) (mLd_st1_int (by decide) mLd_st1_i) mLd_st1_i (by omega) ekk (by omega) ?_ h
        show _ = (bif decide (((holdF M W s (Int32.ofNat (f.toInt.toNat + kk))).1).toInt = p.toInt) then rgnN (fun k => (holdF M W s (Int32.ofNat (f.toInt.toNat + k))).1) p kk + 1 else rgnN (fun k => (holdF M W s (Int32.ofNat (f.toInt.toNat + k))).1) p kk)
        rw [show f.toInt.toNat + kk = k.toInt.toNat by omega, i32_natR k0, decide_eq_true c5, ← hz]
        rfl
theorem rgnR_lp {M : Mem} {W : Nat → WL} {n0 : Nat} {s p f u : Int32} (hL : lysA M n0) (hn : n0 = nC M) (hO : ordC M) (hW : lwOk M W) (hL6 : ∀ s, s < 8 → 0 ≤ (iv M 6 s).toInt ∧ (iv M 6 s).toInt ≤ 2) (hd9 : ∀ e, e < n0 → (iv M (10 + e) 3).toInt ≤ 999) (hs : s.toInt.toNat < 8) (f0 : 0 ≤ f.toInt) (fu : f.toInt ≤ u.toInt) (u9 : u.toInt < 1000) : ∀ (n : Nat) {d : Nat} {L : MLoc} {N : Mem} {r : Option Value} {M1 : Mem} {z k : Int32} (kk : Nat), RCw M N n0 → mLd L 0 = some (.ref 181) → mLd L 1 = some (.int s) → mLd L 2 = some (.int p) → mLd L 3 = some (.int f) → mLd L 4 = some (.int u) → mLd L 5 = some (.int z) → mLd L 6 = some (.int k) → 0 ≤ k.toInt → k.toInt = f.toInt + (kk : Int) → k.toInt ≤ u.toInt + 1 → z = rgnN (fun k => (holdF M W s (Int32.ofNat (f.toInt.toNat + k))).1) p kk → En n d 269 56 L [] N r M1 → r = some (.int (rgnN (fun k => (holdF M W s (Int32.ofNat (f.toInt.toNat + k))).1) p (u.toInt - f.toInt + 1).toNat)) := by
  intro n
  induction n with
  | zero => intro d L N r M1 z k kk _ _ _ _ _ _ _ _ _ _ _ _ h; exact (En.zero (mi := 269) (pc := 56) (len := 2) rfl h).elim
  | succ n ih =>
    intro d L N r M1 z k kk hC l0 l1 l2 l3 l4 l5 l6 k0 hk ku hz h
    have hS := hC.1
    replace h := eIloadS (mi := 269) (pc := 56) (len := 2) (i := 6) rfl l6 h
    replace h := eIload (mi := 269) (pc := 58) (len := 2) (i := 4) rfl l4 h
    rcases eIc (mi := 269) (pc := 60) (len := 3) (t := 90) rfl rfl h with ⟨c1, h⟩ | ⟨c1, h⟩
    · replace c1 : u.toInt < k.toInt := mC_gt.1 c1
      replace h := eIload (mi := 269) (pc := 90) (len := 2) (i := 5) rfl l5 h
      obtain ⟨e1, e2⟩ := eRetI (mi := 269) (pc := 92) (len := 1) rfl h
      have k8 : (u.toInt - f.toInt + 1).toNat = kk := by have := c1; omega
      rw [k8, ← hz]
      exact e1
    · replace c1 : ¬ u.toInt < k.toInt := mC_gt.2 c1
      replace h := eIload (mi := 269) (pc := 63) (len := 2) (i := 5) rfl l5 h
      replace h := eAload (mi := 269) (pc := 65) (len := 1) (i := 0) rfl l0 h
      replace h := eIload (mi := 269) (pc := 66) (len := 1) (i := 1) rfl l1 h
      replace h := eIload (mi := 269) (pc := 67) (len := 2) (i := 6) rfl l6 h
      obtain ⟨r2, N3, g4, h⟩ := eCall (mi := 269) (pc := 69) (len := 3) (j := 227) (as := [.ref 181, .int s, .int k]) (rest := [.int z]) rfl (Or.inr (Or.inl rfl)) (by decide) rfl rfl h
      obtain ⟨erN3, hCN3, _, _⟩ := wk_en hn hO hW hs (hL6 _ hs) hd9 (show k.toInt < 1000 by have := c1; omega) hC g4
      rw [erN3] at h
      replace h := eIload (mi := 269) (pc := 72) (len := 1) (i := 2) rfl l2 h
      rcases eIc (mi := 269) (pc := 73) (len := 3) (t := 80) rfl rfl h with ⟨c5, h⟩ | ⟨c5, h⟩
      · replace c5 : ¬ (holdF M W s k).1.toInt = p.toInt := mC_ne.1 c5
        replace h := eConst (mi := 269) (pc := 80) (len := 1) (v := 0) rfl h
        replace h := eAdd (mi := 269) (pc := 81) (len := 1) rfl h
        replace h := eIstore (mi := 269) (pc := 82) (len := 2) (i := 5) rfl (by decide) h
        replace h := eIinc (mi := 269) (pc := 84) (len := 3) (i := 6) (k := 1) rfl (mLd_st1_int (by decide) l6) (by decide) h
        replace h := eGoto (mi := 269) (pc := 87) (len := 3) (t := 56) rfl rfl h
        have ek : (k + 1).toInt = k.toInt + 1 := i32_inc k0 (by omega)
        have ekk : (k + 1).toInt = f.toInt + ((kk + 1 : Nat) : Int) := by omega
        refine ih (k := k + 1) (kk + 1) hCN3 (mLd_st1_ref (by decide) (mLd_st1_ref (by decide) l0)) (mLd_st1_int (by decide) (mLd_st1_int (by decide) l1)) (mLd_st1_int (by decide) (mLd_st1_int (by decide) l2)) (mLd_st1_int (by decide) (mLd_st1_int (by decide) l3)) (mLd_st1_int (by decide) (mLd_st1_int (by decide) l4)) (mLd_st1_int (by decide) mLd_st1_i) mLd_st1_i (by omega) ekk (by omega) ?_ h
        show _ = (bif decide (((holdF M W s (Int32.ofNat (f.toInt.toNat + kk))).1).toInt = p.toInt) then rgnN (fun k => (holdF M W s (Int32.ofNat (f.toInt.toNat + k))).1) p kk + 1 else rgnN (fun k => (holdF M W s (Int32.ofNat (f.toInt.toNat + k))).1) p kk)
        rw [show f.toInt.toNat + kk = k.toInt.toNat by omega, i32_natR k0, decide_eq_false c5, ← hz]
        exact Int32.add_zero z
      · replace c5 : (holdF M W s k).1.toInt = p.toInt := mC_ne.2 c5
        replace h := eConst (mi := 269) (pc := 76) (len := 1) (v := 1) rfl h
        replace h := eGoto (mi := 269) (pc := 77) (len := 3) (t := 81) rfl rfl h
        replace h := eAdd (mi := 269) (pc := 81) (len := 1) rfl h
        replace h := eIstore (mi := 269) (pc := 82) (len := 2) (i := 5) rfl (by decide) h
        replace h := eIinc (mi := 269) (pc := 84) (len := 3) (i := 6) (k := 1) rfl (mLd_st1_int (by decide) l6) (by decide) h
        replace h := eGoto (mi := 269) (pc := 87) (len := 3) (t := 56) rfl rfl h
        have ek : (k + 1).toInt = k.toInt + 1 := i32_inc k0 (by omega)
        have ekk : (k + 1).toInt = f.toInt + ((kk + 1 : Nat) : Int) := by omega
        refine ih (k := k + 1) (kk + 1) hCN3 (mLd_st1_ref (by decide) (mLd_st1_ref (by decide) l0)) (mLd_st1_int (by decide) (mLd_st1_int (by decide) l1)) (mLd_st1_int (by decide) (mLd_st1_int (by decide) l2)) (mLd_st1_int (by decide) (mLd_st1_int (by decide) l3)) (mLd_st1_int (by decide) (mLd_st1_int (by decide) l4)) (mLd_st1_int (by decide) mLd_st1_i) mLd_st1_i (by omega) ekk (by omega) ?_ h
        show _ = (bif decide (((holdF M W s (Int32.ofNat (f.toInt.toNat + kk))).1).toInt = p.toInt) then rgnN (fun k => (holdF M W s (Int32.ofNat (f.toInt.toNat + k))).1) p kk + 1 else rgnN (fun k => (holdF M W s (Int32.ofNat (f.toInt.toNat + k))).1) p kk)
        rw [show f.toInt.toNat + kk = k.toInt.toNat by omega, i32_natR k0, decide_eq_true c5, ← hz]
        rfl
theorem per_g {p : Int32} (h : bPer p = true) : 0 ≤ p.toInt := (bIn_true (show bIn p 10 = true from h)).1
theorem day_g {t : Int32} (h : bDay t = true) : 0 ≤ t.toInt := (bIn_true (show bIn t 1000 = true from h)).1
theorem reignC_en {M : Mem} {W : Nat → WL} {s p f u : Int32} (hS : Sh M) (hR : Rf M) (hg : gvC M) (hW : lwOk M W) (hO : ordC M) {n d : Nat} {r : Option Value} {M1 : Mem} (h : En n d 140 0 (lv_args 0 [.ref 2, .int s, .int p, .int f, .int u]) [] M r M1) : ∃ b, r = some (.int b) ∧ reignC M W s p f u b ∧ FzC M M1 := by
  replace h := eIload (mi := 140) (pc := 0) (len := 1) (i := 1) rfl rfl h
  replace h := eCallP (mi := 140) (pc := 1) (len := 3) (j := 150) (as := [.int s]) (rest := []) rfl (Or.inl rfl) (by decide) rfl rfl (fun _ _ _ _ g => bStr_en hS g) h
  rcases eIf (mi := 140) (pc := 4) (len := 3) (t := 29) rfl rfl h with ⟨c1, h⟩ | ⟨c1, h⟩
  · replace c1 : bStr s = false := mB_eq.1 c1
    replace h := eConst (mi := 140) (pc := 29) (len := 1) (v := (-1)) rfl h
    obtain ⟨e1, e2⟩ := eRetI (mi := 140) (pc := 30) (len := 1) rfl h
    refine ⟨_, e1, ?_, by rw [e2]; exact FzC.rf⟩
    unfold reignC
    simp only [c1, Bool.true_and, Bool.false_and, Bool.and_true, Bool.and_false, cond_true, cond_false] <;> rfl
  · replace c1 : bStr s = true := mB_eq.2 c1
    replace h := eIload (mi := 140) (pc := 7) (len := 1) (i := 2) rfl rfl h
    replace h := eCallP (mi := 140) (pc := 8) (len := 3) (j := 149) (as := [.int p]) (rest := []) rfl (Or.inl rfl) (by decide) rfl rfl (fun _ _ _ _ g => bPer_en hS g) h
    rcases eIf (mi := 140) (pc := 11) (len := 3) (t := 29) rfl rfl h with ⟨c2, h⟩ | ⟨c2, h⟩
    · replace c2 : bPer p = false := mB_eq.1 c2
      replace h := eConst (mi := 140) (pc := 29) (len := 1) (v := (-1)) rfl h
      obtain ⟨e1, e2⟩ := eRetI (mi := 140) (pc := 30) (len := 1) rfl h
      refine ⟨_, e1, ?_, by rw [e2]; exact FzC.rf⟩
      unfold reignC
      simp only [c1, c2, Bool.true_and, Bool.false_and, Bool.and_true, Bool.and_false, cond_true, cond_false] <;> rfl
    · replace c2 : bPer p = true := mB_eq.2 c2
      replace h := eIload (mi := 140) (pc := 14) (len := 1) (i := 3) rfl rfl h
      replace h := eCallP (mi := 140) (pc := 15) (len := 3) (j := 151) (as := [.int f]) (rest := []) rfl (Or.inl rfl) (by decide) rfl rfl (fun _ _ _ _ g => bDay_en hS g) h
      rcases eIf (mi := 140) (pc := 18) (len := 3) (t := 29) rfl rfl h with ⟨c3, h⟩ | ⟨c3, h⟩
      · replace c3 : bDay f = false := mB_eq.1 c3
        replace h := eConst (mi := 140) (pc := 29) (len := 1) (v := (-1)) rfl h
        obtain ⟨e1, e2⟩ := eRetI (mi := 140) (pc := 30) (len := 1) rfl h
        refine ⟨_, e1, ?_, by rw [e2]; exact FzC.rf⟩
        unfold reignC
        simp only [c1, c2, c3, Bool.true_and, Bool.false_and, Bool.and_true, Bool.and_false, cond_true, cond_false] <;> rfl
      · replace c3 : bDay f = true := mB_eq.2 c3
        replace h := eIload (mi := 140) (pc := 21) (len := 2) (i := 4) rfl rfl h
        replace h := eCallP (mi := 140) (pc := 23) (len := 3) (j := 151) (as := [.int u]) (rest := []) rfl (Or.inl rfl) (by decide) rfl rfl (fun _ _ _ _ g => bDay_en hS g) h
        rcases eIf (mi := 140) (pc := 26) (len := 3) (t := 31) rfl rfl h with ⟨c4, h⟩ | ⟨c4, h⟩
        · replace c4 : bDay u = true := mB_ne.1 c4
          replace h := eIload (mi := 140) (pc := 31) (len := 1) (i := 3) rfl rfl h
          replace h := eIload (mi := 140) (pc := 32) (len := 2) (i := 4) rfl rfl h
          rcases eIc (mi := 140) (pc := 34) (len := 3) (t := 46) rfl rfl h with ⟨c5, h⟩ | ⟨c5, h⟩
          · replace c5 : u.toInt < f.toInt := mC_gt.1 c5
            replace h := eConst (mi := 140) (pc := 46) (len := 1) (v := (-1)) rfl h
            obtain ⟨e1, e2⟩ := eRetI (mi := 140) (pc := 47) (len := 1) rfl h
            refine ⟨_, e1, ?_, by rw [e2]; exact FzC.rf⟩
            unfold reignC
            have f0 := day_g c3
            have u0 := day_g c4
            have f9 := day_lt c3
            have u9 := day_lt c4
            have w1 : f.toInt ≤ u.toInt → (u - f).toInt = u.toInt - f.toInt := fun q => i32_subK f0 q
            have hq : decide (f.toInt ≤ u.toInt ∧ u.toInt - f.toInt < 100) = false := decide_eq_false (by omega)
            rw [c1, c2, c3, c4, hq]
            rfl
          · replace c5 : ¬ u.toInt < f.toInt := mC_gt.2 c5
            replace h := eIload (mi := 140) (pc := 37) (len := 2) (i := 4) rfl rfl h
            replace h := eIload (mi := 140) (pc := 39) (len := 1) (i := 3) rfl rfl h
            replace h := eSub (mi := 140) (pc := 40) (len := 1) rfl h
            replace h := eConst (mi := 140) (pc := 41) (len := 2) (v := 100) rfl h
            rcases eIc (mi := 140) (pc := 43) (len := 3) (t := 48) rfl rfl h with ⟨c6, h⟩ | ⟨c6, h⟩
            · replace c6 : (u - f).toInt < 100 := mC_lt.1 c6
              replace h := eConst (mi := 140) (pc := 48) (len := 1) (v := 0) rfl h
              replace h := eIstore (mi := 140) (pc := 49) (len := 2) (i := 5) rfl (by decide) h
              replace h := eIload (mi := 140) (pc := 51) (len := 1) (i := 3) rfl rfl h
              replace h := eIstore (mi := 140) (pc := 52) (len := 2) (i := 6) rfl (by decide) h
              have f0 := day_g c3
              have u0 := day_g c4
              have f9 := day_lt c3
              have u9 := day_lt c4
              have w1 : f.toInt ≤ u.toInt → (u - f).toInt = u.toInt - f.toInt := fun q => i32_subK f0 q
              have fu : f.toInt ≤ u.toInt := by have := c5; omega
              have w2 := w1 fu
              have w3 : u.toInt - f.toInt < 100 := by
                have q := c6
                rw [w2] at q
                have e1 : (100 : Int32).toInt = 100 := rfl
                omega
              have z := rgnC_lp hR hg hW hO f0 fu u9 _ (k := f) 0 hS FzC.rf rfl rfl rfl rfl rfl rfl rfl f0 (by omega) (by omega) rfl h
              refine ⟨_, z.1, ?_, z.2⟩
              unfold reignC
              have hq : decide (f.toInt ≤ u.toInt ∧ u.toInt - f.toInt < 100) = true := decide_eq_true (by omega)
              rw [c1, c2, c3, c4, hq]
              rfl
            · replace c6 : ¬ (u - f).toInt < 100 := mC_lt.2 c6
              replace h := eConst (mi := 140) (pc := 46) (len := 1) (v := (-1)) rfl h
              obtain ⟨e1, e2⟩ := eRetI (mi := 140) (pc := 47) (len := 1) rfl h
              refine ⟨_, e1, ?_, by rw [e2]; exact FzC.rf⟩
              unfold reignC
              have f0 := day_g c3
              have u0 := day_g c4
              have f9 := day_lt c3
              have u9 := day_lt c4
              have w1 : f.toInt ≤ u.toInt → (u - f).toInt = u.toInt - f.toInt := fun q => i32_subK f0 q
              have fu : f.toInt ≤ u.toInt := by have := c5; omega
              have w2 := w1 fu
              have q := c6
              rw [w2] at q
              have e1 : (100 : Int32).toInt = 100 := rfl
              have hq : decide (f.toInt ≤ u.toInt ∧ u.toInt - f.toInt < 100) = false := decide_eq_false (by omega)
              rw [c1, c2, c3, c4, hq]
              rfl
        · replace c4 : bDay u = false := mB_ne.2 c4
          replace h := eConst (mi := 140) (pc := 29) (len := 1) (v := (-1)) rfl h
          obtain ⟨e1, e2⟩ := eRetI (mi := 140) (pc := 30) (len := 1) rfl h
          refine ⟨_, e1, ?_, by rw [e2]; exact FzC.rf⟩
          unfold reignC
          simp only [c1, c2, c3, c4, Bool.true_and, Bool.false_and, Bool.and_true, Bool.and_false, cond_true, cond_false] <;> rfl
theorem reignR_en {M : Mem} {W : Nat → WL} {n0 : Nat} {N : Mem} {s p f u : Int32} (hB : RSw M N) (hL : lysA M n0) (hn : n0 = nC M) (hO : ordC M) (hW : lwOk M W) (hL6 : ∀ s, s < 8 → 0 ≤ (iv M 6 s).toInt ∧ (iv M 6 s).toInt ≤ 2) (hd9 : ∀ e, e < n0 → (iv M (10 + e) 3).toInt ≤ 999) {n d : Nat} {r : Option Value} {M1 : Mem} (h : En n d 269 0 (lv_args 0 [.ref 181, .int s, .int p, .int f, .int u]) [] N r M1) : ∃ b, r = some (.int b) ∧ reignC M W s p f u b := by
  replace h := eIload (mi := 269) (pc := 0) (len := 1) (i := 1) rfl rfl h
  replace h := eCallP (mi := 269) (pc := 1) (len := 3) (j := 163) (as := [.int s]) (rest := []) rfl (Or.inl rfl) (by decide) rfl rfl (fun _ _ _ _ g => rStr_en hB.1 g) h
  rcases eIf (mi := 269) (pc := 4) (len := 3) (t := 44) rfl rfl h with ⟨c1, h⟩ | ⟨c1, h⟩
  · replace c1 : rStr s = false := mB_eq.1 c1
    replace h := eConst (mi := 269) (pc := 44) (len := 1) (v := (-1)) rfl h
    obtain ⟨e1, e2⟩ := eRetI (mi := 269) (pc := 45) (len := 1) rfl h
    refine ⟨_, e1, ?_⟩
    unfold reignC
    rw [← rStr_eq, ← rPer_eq, ← rDay_eq, ← rDay_eq]
    simp only [c1, Bool.true_and, Bool.false_and, Bool.and_true, Bool.and_false, cond_true, cond_false] <;> rfl
  · replace c1 : rStr s = true := mB_eq.2 c1
    replace h := eIload (mi := 269) (pc := 7) (len := 1) (i := 2) rfl rfl h
    replace h := eCallP (mi := 269) (pc := 8) (len := 3) (j := 162) (as := [.int p]) (rest := []) rfl (Or.inl rfl) (by decide) rfl rfl (fun _ _ _ _ g => rPer_en hB.1 g) h
    rcases eIf (mi := 269) (pc := 11) (len := 3) (t := 44) rfl rfl h with ⟨c2, h⟩ | ⟨c2, h⟩
    · replace c2 : rPer p = false := mB_eq.1 c2
      replace h := eConst (mi := 269) (pc := 44) (len := 1) (v := (-1)) rfl h
      obtain ⟨e1, e2⟩ := eRetI (mi := 269) (pc := 45) (len := 1) rfl h
      refine ⟨_, e1, ?_⟩
      unfold reignC
      rw [← rStr_eq, ← rPer_eq, ← rDay_eq, ← rDay_eq]
      simp only [c1, c2, Bool.true_and, Bool.false_and, Bool.and_true, Bool.and_false, cond_true, cond_false] <;> rfl
    · replace c2 : rPer p = true := mB_eq.2 c2
      replace h := eIload (mi := 269) (pc := 14) (len := 1) (i := 3) rfl rfl h
      replace h := eCallP (mi := 269) (pc := 15) (len := 3) (j := 161) (as := [.int f]) (rest := []) rfl (Or.inl rfl) (by decide) rfl rfl (fun _ _ _ _ g => rDay_en hB.1 g) h
      rcases eIf (mi := 269) (pc := 18) (len := 3) (t := 44) rfl rfl h with ⟨c3, h⟩ | ⟨c3, h⟩
      · replace c3 : rDay f = false := mB_eq.1 c3
        replace h := eConst (mi := 269) (pc := 44) (len := 1) (v := (-1)) rfl h
        obtain ⟨e1, e2⟩ := eRetI (mi := 269) (pc := 45) (len := 1) rfl h
        refine ⟨_, e1, ?_⟩
        unfold reignC
        rw [← rStr_eq, ← rPer_eq, ← rDay_eq, ← rDay_eq]
        simp only [c1, c2, c3, Bool.true_and, Bool.false_and, Bool.and_true, Bool.and_false, cond_true, cond_false] <;> rfl
      · replace c3 : rDay f = true := mB_eq.2 c3
        replace h := eIload (mi := 269) (pc := 21) (len := 2) (i := 4) rfl rfl h
        replace h := eCallP (mi := 269) (pc := 23) (len := 3) (j := 161) (as := [.int u]) (rest := []) rfl (Or.inl rfl) (by decide) rfl rfl (fun _ _ _ _ g => rDay_en hB.1 g) h
        rcases eIf (mi := 269) (pc := 26) (len := 3) (t := 44) rfl rfl h with ⟨c4, h⟩ | ⟨c4, h⟩
        · replace c4 : rDay u = false := mB_eq.1 c4
          replace h := eConst (mi := 269) (pc := 44) (len := 1) (v := (-1)) rfl h
          obtain ⟨e1, e2⟩ := eRetI (mi := 269) (pc := 45) (len := 1) rfl h
          refine ⟨_, e1, ?_⟩
          unfold reignC
          rw [← rStr_eq, ← rPer_eq, ← rDay_eq, ← rDay_eq]
          simp only [c1, c2, c3, c4, Bool.true_and, Bool.false_and, Bool.and_true, Bool.and_false, cond_true, cond_false] <;> rfl
        · replace c4 : rDay u = true := mB_eq.2 c4
          replace h := eIload (mi := 269) (pc := 29) (len := 2) (i := 4) rfl rfl h
          replace h := eIload (mi := 269) (pc := 31) (len := 1) (i := 3) rfl rfl h
          rcases eIc (mi := 269) (pc := 32) (len := 3) (t := 44) rfl rfl h with ⟨c5, h⟩ | ⟨c5, h⟩
          · replace c5 : u.toInt < f.toInt := mC_lt.1 c5
            replace h := eConst (mi := 269) (pc := 44) (len := 1) (v := (-1)) rfl h
            obtain ⟨e1, e2⟩ := eRetI (mi := 269) (pc := 45) (len := 1) rfl h
            refine ⟨_, e1, ?_⟩
            unfold reignC
            rw [rStr_eq] at c1
            rw [rPer_eq] at c2
            rw [rDay_eq] at c3 c4
            have f0 := day_g c3
            have u0 := day_g c4
            have f9 := day_lt c3
            have u9 := day_lt c4
            have w1 : f.toInt ≤ u.toInt → (u - f).toInt = u.toInt - f.toInt := fun q => i32_subK f0 q
            have hq : decide (f.toInt ≤ u.toInt ∧ u.toInt - f.toInt < 100) = false := decide_eq_false (by omega)
            rw [c1, c2, c3, c4, hq]
            rfl
          · replace c5 : ¬ u.toInt < f.toInt := mC_lt.2 c5
            replace h := eIload (mi := 269) (pc := 35) (len := 2) (i := 4) rfl rfl h
            replace h := eIload (mi := 269) (pc := 37) (len := 1) (i := 3) rfl rfl h
            replace h := eSub (mi := 269) (pc := 38) (len := 1) rfl h
            replace h := eConst (mi := 269) (pc := 39) (len := 2) (v := 99) rfl h
            rcases eIc (mi := 269) (pc := 41) (len := 3) (t := 46) rfl rfl h with ⟨c6, h⟩ | ⟨c6, h⟩
            · replace c6 : ¬ 99 < (u - f).toInt := mC_le.1 c6
              rw [rStr_eq] at c1
              rw [rPer_eq] at c2
              rw [rDay_eq] at c3 c4
              have f0 := day_g c3
              have u0 := day_g c4
              have f9 := day_lt c3
              have u9 := day_lt c4
              have w1 : f.toInt ≤ u.toInt → (u - f).toInt = u.toInt - f.toInt := fun q => i32_subK f0 q
              have gs := str_lt c1
              replace h := eAload (mi := 269) (pc := 46) (len := 1) (i := 0) rfl rfl h
              obtain ⟨r7, N8, g9, h⟩ := eCall (mi := 269) (pc := 47) (len := 3) (j := 228) (as := [.ref 181]) (rest := []) rfl (Or.inr (Or.inl rfl)) (by decide) rfl rfl h
              obtain ⟨erN8, hCN8, _, _⟩ := lys_en hB hL hn hO g9
              rw [erN8] at h
              replace h := eConst (mi := 269) (pc := 50) (len := 1) (v := 0) rfl h
              replace h := eIstore (mi := 269) (pc := 51) (len := 2) (i := 5) rfl (by decide) h
              replace h := eIload (mi := 269) (pc := 53) (len := 1) (i := 3) rfl rfl h
              replace h := eIstore (mi := 269) (pc := 54) (len := 2) (i := 6) rfl (by decide) h
              have fu : f.toInt ≤ u.toInt := by have := c5; omega
              have w2 := w1 fu
              have w3 : u.toInt - f.toInt < 100 := by
                have q := c6
                rw [w2] at q
                have e1 : (99 : Int32).toInt = 99 := rfl
                omega
              have z := rgnR_lp hL hn hO hW hL6 hd9 gs.2 f0 fu u9 _ (k := f) 0 hCN8 rfl rfl rfl rfl rfl rfl rfl f0 (by omega) (by omega) rfl h
              refine ⟨_, z, ?_⟩
              unfold reignC
              have hq : decide (f.toInt ≤ u.toInt ∧ u.toInt - f.toInt < 100) = true := decide_eq_true (by omega)
              rw [c1, c2, c3, c4, hq]
              rfl
            · replace c6 : 99 < (u - f).toInt := mC_le.2 c6
              replace h := eConst (mi := 269) (pc := 44) (len := 1) (v := (-1)) rfl h
              obtain ⟨e1, e2⟩ := eRetI (mi := 269) (pc := 45) (len := 1) rfl h
              refine ⟨_, e1, ?_⟩
              unfold reignC
              rw [rStr_eq] at c1
              rw [rPer_eq] at c2
              rw [rDay_eq] at c3 c4
              have f0 := day_g c3
              have u0 := day_g c4
              have f9 := day_lt c3
              have u9 := day_lt c4
              have w1 : f.toInt ≤ u.toInt → (u - f).toInt = u.toInt - f.toInt := fun q => i32_subK f0 q
              have fu : f.toInt ≤ u.toInt := by have := c5; omega
              have w2 := w1 fu
              have q := c6
              rw [w2] at q
              have e1 : (99 : Int32).toInt = 99 := rfl
              have hq : decide (f.toInt ≤ u.toInt ∧ u.toInt - f.toInt < 100) = false := decide_eq_false (by omega)
              rw [c1, c2, c3, c4, hq]
              rfl
