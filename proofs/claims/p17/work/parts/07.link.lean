theorem mAt_ok {mi pc len : Nat} {ins : Instr} (h : mAt mi pc = some (len, ins)) : ∃ (q : MInf) (ini : Bool) (cd : MethodName × ByteArray × Nat × Option FieldType) (i0 : Instr), mInf[mi]? = some q ∧ mIni[mi]? = some ini ∧ mCd mi = some cd ∧ decode cd.2.1 pc = .ok (i0, len) ∧ mNrm q.2.2.2.1 ini len i0 = some ins := by
  have h0 := h
  unfold mAt at h
  cases hc : (Nat.blt mi 283 && Nat.blt pc (mSzT mi)) with
  | false => rw [hc] at h; cases h
  | true =>
    rw [Bool.and_eq_true] at hc
    have h1 : mi < 283 := by simpa [Nat.blt_eq] using hc.1
    have h2 : pc < mSzT mi := by simpa [Nat.blt_eq] using hc.2
    have hw := mwk_all mi h1
    unfold mWkM at hw
    split at hw
    · rename_i q ini cd e1 e2 e3
      rw [Bool.and_eq_true, decide_eq_true_eq] at hw
      obtain ⟨w1, w2⟩ := hw
      have hcc : cd.2.1 = ⟨⟨cd.2.1.data.toList⟩⟩ := rfl
      obtain ⟨i0, d1, d2⟩ := mWalk_ok (L := cd.2.1.data.toList) hcc (mRaw mi) 0 w1 pc (Nat.zero_le _) (by rw [w2]; exact h2) len ins h0
      exact ⟨q, ini, cd, i0, e1, e2, e3, by rw [hcc]; exact d1, d2⟩
    · cases hw
/-- the tables' words that stay: what every method here is given -/
def mTB : List Cond := lw_tbl.filter goodWord
theorem mTB_in {w : Cond} (h : w ∈ lw_tbl) (g : goodWord w = true) : w ∈ mTB := List.mem_filter.mpr ⟨h, g⟩
theorem mTB_good : ∀ w ∈ mTB, (w.onTables && w.keeps) = true ∨ ∃ ty, w = .arrayClass ty := fun w h => good_of_word (List.mem_filter.mp h).2
def mOw (o : Nat) : String := mOwn.getD o ""
def mFC (o i j : Nat) : Cond := match vwCl[j / 100]? with
  | some q => .fieldLink (mOw o) i (q.2.1 (j % 100)).1 (q.2.1 (j % 100)).2.1 (q.2.1 (j % 100)).2.2.1
  | none => .tt
theorem mFR_ok : mFR.all (fun q => decide (lw_tbl[q.2.2.2]? = some (mFC q.1 q.2.1 q.2.2.1) ∧ q.2.2.1 / 100 < 12 ∧ q.2.2.1 % 100 < mN (q.2.2.1 / 100))) = true := by decide +kernel
def mMN (j : Nat) : MethodName := if j = 900 then Lib.objectInit else if j = 901 then arraycopyName else if j = 902 then ⟨"java/lang/String", "indexOf", "(I)I"⟩ else if j = 903 then Lib.Math.max.name else if j = 904 then Lib.Math.min.name else mNm.getD j ⟨"", "", ""⟩
def mMC (o i j nest : Nat) : Cond := if nest = 0 then .methodLink (mOw o) i (mMN j) else .methodLinkNest (mOw o) i (mMN j) "WidowDeeds"
theorem mMR_ok : mMR.all (fun q => decide (lw_tbl[q.2.2.2.2]? = some (mMC q.1 q.2.1 q.2.2.1 q.2.2.2.1) ∧ (q.2.2.2.1 = 0 ∨ q.2.2.2.1 = 1) ∧ (900 ≤ q.2.2.1 ∨ q.2.2.1 < 282) ∧ (q.2.2.2.1 = 1 → q.2.2.1 < 282 ∧ mKd q.2.2.1 = 2))) = true := by decide +kernel
def mCC (o i j : Nat) : Cond := .classLink (mOw o) i (match vwCl[j]? with
  | some q => q.1
  | none => if j = 68 then RX1 else if j = 69 then RX4 else "[[I")
theorem mCR_ok : mCR.all (fun q => decide (lw_tbl[q.2.2.2]? = some (mCC q.1 q.2.1 q.2.2.1) ∧ q.2.2.1 < 12)) = true := by decide +kernel
theorem mAR_ok : mAR.all (fun q => decide (lw_tbl[q.2.2.2]? = some (mCC q.1 q.2.1 q.2.2.1) ∧ (q.2.2.1 = 68 ∨ q.2.2.1 = 69 ∨ q.2.2.1 = 70))) = true := by decide +kernel
theorem mKR_ok : mKR.all (fun q => decide (lw_tbl[q.2.2.2]? = some (.constant (mOw q.1) q.2.1 (Int32.ofInt q.2.2.1)))) = true := by decide +kernel
theorem mLR_ok : mLR.all (fun q => decide (lw_tbl[q.2.2.2]? = some (.constantLong (mOw q.1) q.2.1 (mKL.getD q.2.2.1 0)))) = true := by decide +kernel
/-- a method's own words -/
def mWs4 (j : Nat) : Bool := match mInf[j]?, mCd j, mPl[j]?, mNm[j]? with
  | some q, some (y, _, n, r), some p, some y0 => decide (y = y0 ∧ n = q.2.1 ∧ lw_tbl[p.2.1]? = some (.initialized y.cls) ∧ y.cls = mOw q.2.2.2.1 ∧ plainName y.cls = true ∧ (y.cls ≠ "java/lang/invoke/MethodHandle" ∧ y.cls ≠ "java/lang/invoke/VarHandle") ∧
      (if q.2.2.2.2 = 0 then lw_tbl[p.2.2.1]? = some (.static y) ∧ (parseMethodDescriptor y.desc).map (fun d => d.parameters.length) = some q.1
       else if q.2.2.2.2 = 1 then lw_tbl[p.2.2.1]? = some (.instanceMethod y) ∧ lw_tbl[p.2.2.2]? = some (.selects y.cls y y) ∧ (parseMethodDescriptor y.desc).map (fun d => d.parameters.length + 1) = some q.1 ∧ q.2.2.2.1 < 12
       else lw_tbl[p.2.2.1]? = some (.instanceMethod y) ∧ y.name = "<init>" ∧ mIni[j]? = some true ∧ r = none ∧ (parseMethodDescriptor y.desc).map (fun d => d.parameters.length + 1) = some q.1 ∧ q.2.2.2.2 = 2) ∧
      (q.2.2.1 = 0 → r = none) ∧ (q.2.2.1 = 1 → r = some .int) ∧ (q.2.2.1 = 2 → r = some .boolean) ∧ (q.2.2.1 = 3 → r = some .long) ∧ (mIni[j]? = some true → y.name = "<init>") ∧ q.2.1 ≤ 40)
  | _, _, _, _ => false
theorem mWs4_a : ((List.range 95).map (fun k => k + 0)).all mWs4 = true := by decide +kernel
theorem mWs4_b : ((List.range 95).map (fun k => k + 95)).all mWs4 = true := by decide +kernel
theorem mWs4_c : ((List.range 92).map (fun k => k + 190)).all mWs4 = true := by decide +kernel
theorem mWs4_all (mi : Nat) (h : mi < 282) : mWs4 mi = true := by
  have key : ∀ (lo n : Nat), ((List.range n).map (fun k => k + lo)).all mWs4 = true → lo ≤ mi → mi < lo + n → mWs4 mi = true := fun lo n h0 h1 h2 => List.all_eq_true.mp h0 mi (List.mem_map.mpr ⟨mi - lo, List.mem_range.mpr (by omega), by omega⟩)
  by_cases c1 : mi < 95
  · exact key 0 95 mWs4_a (by omega) (by omega)
  by_cases c2 : mi < 190
  · exact key 95 95 mWs4_b (by omega) (by omega)
  exact key 190 92 mWs4_c (by omega) (by omega)
