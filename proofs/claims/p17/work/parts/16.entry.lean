/-! at the law's entry -/
theorem mLays_ok : ([Cond.laysStatic "java/lang/String" "COMPACT_STRINGS" "Z", Cond.initialized "java/lang/String", Cond.stringRef RX5 111 "nfcuvpgxkwiqht", Cond.arrayOver (.object RX1), Cond.arrayOver (.object RX4), Cond.arrayOver (.array .int), Cond.arrayClass .int, Cond.arrayClass .long, Cond.arrayClass .byte, Cond.arrayClass .boolean].all (fun w => decide (w ∈ lw_tbl))) = true := by decide +kernel
theorem mLays {w : Cond} (h : w ∈ ([Cond.laysStatic "java/lang/String" "COMPACT_STRINGS" "Z", Cond.initialized "java/lang/String", Cond.stringRef RX5 111 "nfcuvpgxkwiqht", Cond.arrayOver (.object RX1), Cond.arrayOver (.object RX4), Cond.arrayOver (.array .int), Cond.arrayClass .int, Cond.arrayClass .long, Cond.arrayClass .byte, Cond.arrayClass .boolean] : List Cond)) : w ∈ lw_tbl := of_decide_eq_true (List.all_eq_true.mp mLays_ok w h)
theorem mArr_prim {s : State} {args : Array Value} {ty : FieldType} (h : (Cond.arrayClass ty).before args s = true) (hty : ∀ c, va_RA s c ty = (s.vm.findClass ("[" ++ ty.toString) = some c)) : ∃ c, ArrOfT s c ty ∧ va_RA s c ty := by
  obtain ⟨c, k, comp, h1, h2, h3⟩ := Cond.arrayClass_spec h
  exact ⟨c, fun n z => ⟨fun k h => (by cases h), k, h2, comp, h3⟩, by rw [hty]; exact h1⟩
theorem mArr_obj {s : State} {args : Array Value} {C : String} (h : (Cond.arrayOver (.object C)).before args s = true) : ∃ c, ArrOfT s c (.object C) ∧ va_RA s c (.object C) := by
  obtain ⟨comp, c, k, h1, h2, h3, h4, h5⟩ := Cond.arrayOver_spec h
  exact ⟨c, fun n z => ⟨fun k h => (by cases h), k, h3, comp, h4⟩, k, comp, h3, h4, h1, h5⟩
theorem mArr_arr {s : State} {args : Array Value} (h : (Cond.arrayOver (.array .int)).before args s = true) : ∃ c, ArrOfT s c (.array .int) ∧ va_RA s c (.array .int) := by
  obtain ⟨comp, c, k, h1, h3, h4, h5⟩ := Cond.arrayOver_specA h
  exact ⟨c, fun n z => ⟨fun k h => (by cases h), k, h3, comp, h4⟩, h5⟩
theorem mKnown {s : State} {args : Array Value} (hts : ∀ w ∈ mTB, w.before args s = true) : ∃ D : va_G, ∀ (c : Nat) (q : vw_C), vwCl[c]? = some q → u_Kn s q.1 q.2.1 q.2.2 (D.1 c) (D.2 c) := by
  have h : ∀ c : Nat, ∃ (cC : ClassId) (iS : Nat → Nat), ∀ q : vw_C, vwCl[c]? = some q → u_Kn s q.1 q.2.1 q.2.2 cC iS := by
    intro c
    by_cases hc : c < 12
    · obtain ⟨q, hq, hok⟩ := mCl_ok hc
      obtain ⟨cC, iS, hk⟩ := u_known hts hok.1 (hts _ hok.2.2.2.2.2.2.1)
      refine ⟨cC, iS, fun q' hq' => ?_⟩
      cases Option.some.inj (hq.symm.trans hq')
      exact hk
    · exact ⟨0, fun _ => 0, fun q hq => absurd (List.getElem?_eq_some_iff.mp hq).1 hc⟩
  exact ⟨(fun c => (h c).choose, fun c => (h c).choose_spec.choose), fun c q hq => (h c).choose_spec.choose_spec q hq⟩
theorem mStart {b : Nat} {args : Array Value} {s : State} {scr : List Int32} (hts : ∀ w ∈ lw_tbl, w.before args s = true) (hX : va_X b scr.length (fun j => scr.getD j 0) s s.heap) (hb : b < s.heap.size) (hg : (Jvm.Cond.and given_1 narrow_1).before args s = true) : ∃ (cs : Nat) (D : va_G) (aC : Nat → ClassId), mFx (s.heap.size, b, cs) D aC scr s s.heap := by
  have hts2 : ∀ w ∈ mTB, w.before args s = true := fun w h => hts w (List.mem_filter.mp h).1
  have hs := flat_of_before _ hg
  obtain ⟨D, hD⟩ := mKnown hts2
  obtain ⟨c64, p64⟩ := mArr_prim (s := s) (ty := .int) (hts _ (mLays (by simp))) (fun _ => rfl)
  obtain ⟨c65, p65⟩ := mArr_prim (s := s) (ty := .long) (hts _ (mLays (by simp))) (fun _ => rfl)
  obtain ⟨c66, p66⟩ := mArr_prim (s := s) (ty := .byte) (hts _ (mLays (by simp))) (fun _ => rfl)
  obtain ⟨c67, p67⟩ := mArr_prim (s := s) (ty := .boolean) (hts _ (mLays (by simp))) (fun _ => rfl)
  obtain ⟨c68, p68⟩ := mArr_obj (s := s) (C := RX1) (hts _ (mLays (by simp)))
  obtain ⟨c69, p69⟩ := mArr_obj (s := s) (C := RX4) (hts _ (mLays (by simp)))
  obtain ⟨c70, p70⟩ := mArr_arr (s := s) (hts _ (mLays (by simp)))
  have hA : ∀ a : Nat, a < s.heap.size → ¬ s.heap.size ≤ a := fun a h1 h2 => by omega
  have h0 : ∀ i : Nat, i < 1 → i = 0 := fun i h => by omega
  obtain ⟨adK, adV, hS, hev⟩ := vk_Sof (args := args) (s := s) (N := 1) (tm := fun _ => .string RX5 111) (len := [14]) (byt := [mLet]) (A := fun q => s.heap.size ≤ q)
    (fun i hi => by rw [h0 i hi]; decide) (fun i hi => hs _ (by decide +kernel)) (fun i hi => hs _ (by decide +kernel)) (fun i hi => hs _ (by decide +kernel))
    (fun i hi => by rw [h0 i hi]; exact hs _ (by decide +kernel))
    (fun i hi j hj => by
      rw [h0 i hi] at hj ⊢
      have hj : j < 14 := hj
      match j, hj with
      | 0, _ => exact hs _ (by decide +kernel)
      | 1, _ => exact hs _ (by decide +kernel)
      | 2, _ => exact hs _ (by decide +kernel)
      | 3, _ => exact hs _ (by decide +kernel)
      | 4, _ => exact hs _ (by decide +kernel)
      | 5, _ => exact hs _ (by decide +kernel)
      | 6, _ => exact hs _ (by decide +kernel)
      | 7, _ => exact hs _ (by decide +kernel)
      | 8, _ => exact hs _ (by decide +kernel)
      | 9, _ => exact hs _ (by decide +kernel)
      | 10, _ => exact hs _ (by decide +kernel)
      | 11, _ => exact hs _ (by decide +kernel)
      | 12, _ => exact hs _ (by decide +kernel)
      | 13, _ => exact hs _ (by decide +kernel))
    (fun i j hi hj hne => absurd ((h0 i hi).trans (h0 j hj).symm) hne) hA
  have hcomp : (Cond.eq (.static "java/lang/String" "COMPACT_STRINGS" "Z") (.int 1)).before args s = true := hs _ (by decide +kernel)
  refine ⟨adK 0, D, fun k => if k = 64 then c64 else if k = 65 then c65 else if k = 66 then c66 else if k = 67 then c67 else if k = 68 then c68 else if k = 69 then c69 else c70, ⟨hD, fun k q hk => ?_⟩, hX, hb, ⟨fun q hq hq1 => ?_, va_AO.of (hts _ (mLays (by simp))), va_AO.of (hts _ (mLays (by simp))), ?_⟩, ?_, adV 0, ?_, ?_⟩
  · match k, hk with
    | 0, hk => cases hk; exact p64
    | 1, hk => cases hk; exact p65
    | 2, hk => cases hk; exact p66
    | 3, hk => cases hk; exact p67
    | 4, hk => cases hk; exact p68
    | 5, hk => cases hk; exact p69
    | 6, hk => cases hk; exact p70
    | k + 7, hk => simp [mTys] at hk
  · have hq2 := of_decide_eq_true (List.all_eq_true.mp mMR_ok q hq)
    have hm := List.mem_of_getElem? hq2.1
    rw [hq1] at hm
    exact va_Nw.of rfl (hts _ hm)
  · exact hts _ (mLays (w := Cond.arrayOver (.array .int)) (by simp))
  · exact vk_R.of (A := args) (hts _ (mLays (by simp))) (hev 0 (by omega))
  · refine ⟨fun i hi => ?_, fun i j hi hj _ => by omega⟩
    have := hS.1 i hi
    rw [h0 i hi] at this ⊢
    exact this
  · refine va_Zof (hts _ (mLays (by simp))) (hts _ (mLays (by simp))) (va_eqi hcomp) hA
