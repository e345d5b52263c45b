/-! THE CLAIM OUT OF ONE WALK OF THE LAW'S BODY. Your part is whole_start (and what it stands on); all else here is the same for every law, but numbers. -/
def R_law : String := "WidowDeedsLaw"
def lw_P (b : Addr) (xs : List Int32) (args : Array Value) (s : State) : Prop := args = #[.ref b] ∧ s.IntsAt b xs ∧ xs.length ≤ 576 ∧ (Jvm.Cond.and given_1 narrow_1).before args s = true
def lw_Q (_ : Array Value) (s : State) (o : Outcome) (t : State) : Prop := o = .returned (some (.int 1)) ∧ Framed s o t [] 600000 7302250
def lw_Z (below : List Frame) (a : Array Value) (s : State) : State → Prop := fun t => ∃ o, t.status = .running ∧ Ended t below o ∧ lw_Q a s o t
/-- the law's own end, with 1 on the stack, nothing written that was there before, its room as the claim has it -/
theorem lw_ret {p : Program} {l : Launch} {e : Env} {s : State} {m : MethodId} {below : List Frame} {meth : Method} {c : Code} {b : Nat} (hx : p.tables.exec = Jvm.exec) (hb : c.code = code) (hr : meth.sig.returnType = ret) (hlocks : meth.locks = false) {pc : Nat} {H : Heap} {ls : Array Slot} (hdg : decode code pc = .ok (.ireturn, 1)) : W p l e room_1 s m #[Value.ref b] below meth c H [] 600000 7302250 (lw_Z below #[Value.ref b] s) (F0 m pc ls [.int 1]) := by
  intro T hT X
  obtain ⟨fs, hret, hrun, hended, hW, hframe⟩ := X.leave (v := some (.int 1)) (hlocks := hlocks) (fun h => by rw [hr] at h; cases h)
  have hmeth' : T.vm.method? m = some meth := X.method'
  refine ⟨T.setFrames fs, ?_, .returned (some (.int 1)), hrun, hended, rfl, ⟨_, rfl⟩, hW, hframe⟩
  jvm_step X.here [X.here.top, hx, hb, hdg, hmeth', hr, ret, narrow_b1]
  (try refine ⟨rfl, ?_⟩); (try refine ⟨rfl, ?_⟩)
  first | (intro acts; rw [hret _ acts rfl rfl rfl]) | rw [hret _ _ rfl rfl rfl]
  exact Steps.refl _
/-- what holds at the law's entry: the machine, the code, the tables' words (any of lw_tbl by 'hts w (by decide +kernel)'), the script of L ints xs at the cell b, what the Statement gives of the start (any of its parts by flat_of_before) -/
def lw_At (p : Program) (s : State) (m : MethodId) (meth : Method) (c : Code) (b L : Nat) (xs : Nat → Int32) : Prop :=
  p.tables.exec = Jvm.exec ∧ c.code = code ∧ meth.sig.returnType = ret ∧ c.maxLocals = 4 ∧ s.vm.findClass R_law = some m.cls ∧ (∀ w ∈ lw_tbl, w.before #[Value.ref b] s = true) ∧ va_X b L xs s s.heap ∧ b < s.heap.size ∧ meth.locks = false ∧ (Jvm.Cond.and given_1 narrow_1).before #[Value.ref b] s = true
theorem mLaw_w : mInf[282]? = some (1, 4, 2, 12, 0) ∧ mIni[282]? = some false ∧ mOw 12 = R_law := by decide +kernel
theorem mLaw_ret : ret = some .boolean ∧ maxLocals = 4 := by decide +kernel
/-- the law, out of a run of the small machine -/
theorem whole_of (hIx : ∀ (l : Launch) (g : MG) (D : va_G) (aC : Nat → ClassId) (scr : List Int32), MIx l g D aC scr)
    (hRun : ∀ scr : List Int32, scr.length ≤ 576 → ∃ n d M1, d ≤ 1300 ∧ mRun n d 282 0 [(0, .ref 0)] [] [(64, scr.map .int), (63, [])] = some (some (.int 1), M1) ∧ M1.length ≤ 600002 ∧ mSl M1 ≤ 7302250)
    {p : Program} {e : Env} {s : State} {m : MethodId} {below : List Frame} {meth : Method} {c : Code} (l : Launch) {b L : Nat} {xs : Nat → Int32} (hL : L ≤ 576) (C0 : lw_At p s m meth c b L xs) : W p l e room_1 s m #[Value.ref b] below meth c s.heap [] 0 0 (lw_Z below #[Value.ref b] s) (entryFrame m ([Value.ref b] : List Value).toArray 4) := by
  obtain ⟨hx, hb, hr, hml, hown, hts, hX, hbl, hlocks, hgv⟩ := C0
  have hlen : ((List.range L).map xs).length = L := by rw [List.length_map, List.length_range]
  obtain ⟨n, d, M1, hd, hrun, hz1, hz2⟩ := hRun ((List.range L).map xs) (by rw [hlen]; exact hL)
  generalize hscr : (List.range L).map xs = scr at hrun hlen
  have hX2 : va_X b scr.length (fun j => scr.getD j 0) s s.heap := by
    obtain ⟨cell, h1, h2, h3, h4, h5⟩ := hX
    refine ⟨cell, h1, h2, h3, by rw [hlen]; exact h4, fun j hj => ?_⟩
    rw [hlen] at hj
    rw [h5 j hj, ← hscr]
    show _ = some (Value.int (((List.range L).map xs).getD j 0))
    rw [List.getD_eq_getElem?_getD, List.getElem?_map, List.getElem?_range hj]
    rfl
  obtain ⟨cs, D, aC, hF⟩ := mStart hts hX2 hbl hgv
  have hle := mRun_M _ _ _ _ _ _ _ _ hrun
  have hit : mIT 282 = (1, 4, 2, 12, 0) := Option.some.inj ((mIT_ok (mi := 282) (by omega)).symm.trans mLaw_w.1)
  have hl := lv_entry ([.ref b]) (n := 4) (Nat.le_of_ble_eq_true rfl)
  rw [lg_entry_eq]
  generalize (lg_sl ([.ref b]) ++ List.replicate (4 - (lg_sl ([.ref b])).length) Slot.unset).toArray = ls at hl ⊢
  have hl : lv_has ls (mIT 282).2.1 (mCL (s.heap.size, b, cs) [(0, .ref 0)]) := by rw [hit]; exact hl
  have hsl0 : mSl [(64, scr.map Value.int), (63, [])] = scr.length := by
    show (scr.map Value.int).length + (0 + 0) = _
    rw [List.length_map]
    rfl
  have h2 : 2 ≤ M1.length := hle.1
  have h3 : scr.length ≤ mSl M1 := by rw [← hsl0]; exact hle.2
  have hW := mSim n d 282 0 [(0, .ref 0)] [] [(64, scr.map .int), (63, [])] (some (.int 1)) M1 hrun p l e room_1 s m #[Value.ref b] below meth c s.heap [] 0 0 (s.heap.size, b, cs) D aC scr false (x, code, maxLocals, ret) 2 scr.length (M1.length - 2) (mSl M1 - scr.length) ls mLaw_w.2.1 rfl
    (by rw [mRk, hit]; exact ⟨(fun h => nomatch h), (fun h => nomatch h), (fun _ => mLaw_ret.1), (fun h => nomatch h), (fun h => nomatch h)⟩)
    (by rw [hit]; exact ⟨hx, hb, hml, (by show s.vm.findClass (mOw 12) = _; rw [mLaw_w.2.2]; exact hown), (fun w h => hts w (List.mem_filter.mp h).1), (fun h => nomatch h), hr, hlocks⟩)
    hF rfl (Nat.le_refl 2) (by show d ≤ 2048; omega) (by show 64 * d ≤ 84000; omega) (by show M1.length - 2 ≤ 600000; omega) (by show mSl M1 - scr.length ≤ 7302250; omega) (by omega) (by omega) (hIx l _ D aC scr)
    ⟨fun k q hk => (by
      have h : (mWs (s.heap.size, b, cs) aC [(64, scr.map Value.int), (63, [])])[k]? = some q := hk
      rw [mWs_at] at h
      cases h), va_S.rf, ⟨[], rfl⟩, rfl, by rw [hsl0]; exact Nat.zero_add _⟩ hl
  intro T hT X
  obtain ⟨t, h1, o, h4, h5, ⟨h6, -⟩, LL, ⟨h7, h8, h9⟩, h10⟩ := hW T hT X
  refine ⟨t, h1, o, h4, h5, h6, h7, h8, ?_⟩
  exact h9.weaken (fun y hy hlt => absurd hlt (Nat.not_lt.mpr (h10 y hy))) (by omega) (by omega)
