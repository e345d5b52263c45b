/-! String.indexOf at our one String: the JDK's own methods, walked by hand -/
abbrev JCd : Type := MethodName × ByteArray × Nat × Option FieldType
def jIx1 : JCd := (mIxY, prog_18_method_79_code, 2, some .int)
def jIx2 : JCd := (⟨"java/lang/String", "indexOf", "(II)I"⟩, prog_18_method_80_code, 3, some .int)
def jLat : JCd := (⟨"java/lang/String", "isLatin1", "()Z"⟩, prog_18_method_154_code, 1, some .boolean)
def jLen : JCd := (⟨"java/lang/String", "length", "()I"⟩, prog_18_method_54_code, 1, some .int)
def jCod : JCd := (⟨"java/lang/String", "coder", "()B"⟩, prog_18_method_152_code, 1, some .byte)
def jLix : JCd := (⟨"java/lang/StringLatin1", "indexOf", "([BIII)I"⟩, prog_19_method_22_code, 4, some .int)
def jCan : JCd := (⟨"java/lang/StringLatin1", "canEncode", "(I)Z"⟩, prog_19_method_4_code, 1, some .boolean)
def jChr : JCd := (⟨"java/lang/StringLatin1", "indexOfChar", "([BIII)I"⟩, prog_19_method_23_code, 6, some .int)
def jCodeW (cd : JCd) : Cond := .code cd.1 cd.2.1 cd.2.2.1 cd.2.2.2
def jWords : List Cond := [jCodeW jIx1, jCodeW jIx2, jCodeW jLat, jCodeW jLen, jCodeW jCod, jCodeW jLix, jCodeW jCan, jCodeW jChr, .initialized "java/lang/String", .initialized "java/lang/StringLatin1", .initialized "java/lang/Math",
  .methodLink "java/lang/String" 633 jIx2.1, .instanceMethod jIx2.1, .selects "java/lang/String" jIx2.1 jIx2.1, .methodLink "java/lang/String" 492 jLat.1, .instanceMethod jLat.1, .selects "java/lang/String" jLat.1 jLat.1, .methodLink "java/lang/String" 505 jLen.1, .instanceMethod jLen.1, .selects "java/lang/String" jLen.1 jLen.1, .methodLink "java/lang/String" 335 jCod.1, .instanceMethod jCod.1, .selects "java/lang/String" jCod.1 jCod.1,
  .methodLink "java/lang/String" 637 jLix.1, .static jLix.1, .methodLink "java/lang/StringLatin1" 88 jCan.1, .static jCan.1, .methodLink "java/lang/StringLatin1" 95 jChr.1, .static jChr.1, .methodLink "java/lang/StringLatin1" 92 Lib.Math.max.name, .methodLink "java/lang/StringLatin1" 38 Lib.Math.min.name,
  .fieldLink "java/lang/String" 38 "java/lang/String" "COMPACT_STRINGS" "Z", .fieldLink "java/lang/String" 15 "java/lang/String" "coder" "B", .fieldLink "java/lang/String" 9 "java/lang/String" "value" "[B"]
theorem jWords_ok : jWords.all (fun w => decide (w ∈ mTB)) = true := by decide +kernel
theorem jW (k : Nat) {w : Cond} (h : jWords[k]? = some w) : w ∈ mTB := of_decide_eq_true (List.all_eq_true.mp jWords_ok w (List.mem_of_getElem? h))
section JIX
variable {l : Launch} {cs cv : Nat} {A : Nat → Prop}
def jP (cs cv : Nat) (A : Nat → Prop) (as : List Value) : Array Value → State → Prop := fun v U => v = as.toArray ∧ vk_S 1 [14] [mLet] (fun _ => cs) (fun _ => cv) A U U.heap ∧ va_Z "java/lang/String" "COMPACT_STRINGS" "Z" (.int 1) A U U.heap
def jQ (r : Int32) : Array Value → State → Outcome → State → Prop := fun _ st oc t => oc = .returned (some (.int r)) ∧ t.heap = st.heap
abbrev jMet (l : Launch) (cs cv : Nat) (A : Nat → Prop) (cd : JCd) (d : Nat) (as : List Value) (r : Int32) : Prop := Met l cd.1 (mTW cd) (mRm d 0 0) (jP cs cv A as) (jQ r) 0 0 A
theorem jP_blind {as : List Value} : FrameBlind (jP cs cv A as) := by
  intro a U f mk h
  obtain ⟨h1, h2, h3⟩ := h
  have ha : U.vm.Alike (U.calling f mk a).vm := Vm.Alike.refl U.vm
  exact ⟨h1, h2.moved ha, h3.moved ha⟩
def jCx (p : Program) (s : State) (m : MethodId) (args : Array Value) (meth : Method) (c : Code) (cs cv : Nat) (A : Nat → Prop) (cd : JCd) : Prop :=
  p.tables.exec = Jvm.exec ∧ c.code = cd.2.1 ∧ c.maxLocals = cd.2.2.1 ∧ s.vm.findClass cd.1.cls = some m.cls ∧ (∀ w ∈ mTB, w.before args s = true) ∧ meth.sig.returnType = cd.2.2.2 ∧ meth.locks = false ∧ vk_S 1 [14] [mLet] (fun _ => cs) (fun _ => cv) A s s.heap ∧ va_Z "java/lang/String" "COMPACT_STRINGS" "Z" (.int 1) A s s.heap
theorem jOf {cd : JCd} {d : Nat} {as : List Value} {r : Int32} (hp : plainName cd.1.cls = true) (hla : (lg_sl as).length ≤ cd.2.2.1)
    (body : ∀ (p : Program) (e : Env) (s : State) (m : MethodId) (below : List Frame) (meth : Method) (c : Code) (ls : Array Slot), jCx p s m as.toArray meth c cs cv A cd → lv_has ls cd.2.2.1 (lv_args 0 as) → W p l e (mRm d 0 0) s m as.toArray below meth c s.heap [] 0 0 (MQ below (jQ r) as.toArray s 0 0 A) (F0 m 0 ls [])) : jMet l cs cv A cd d as r := by
  refine Met.ofW (cc := cd.2.1) (maxL := cd.2.2.1) (ret := cd.2.2.2) hp rfl ?_
  intro p e s m args below meth c s₁ B hml hv
  obtain ⟨rfl, h1, h2⟩ := hv
  have hts0 := atoms_spec (ws := mTW cd) B.pre
  have hl := lv_entry as (n := cd.2.2.1) hla
  rw [lg_entry_eq]
  generalize (lg_sl as ++ List.replicate (cd.2.2.1 - (lg_sl as).length) Slot.unset).toArray = ls at hl ⊢
  exact body p e s m below meth c ls ⟨B.exec, B.bytes, hml, findClass_of_methodNamed B.named, fun w h => hts0 w (List.mem_cons_of_mem _ h), B.returns, B.notSynchronized, h1, h2⟩ hl
section JRUN
variable {p : Program} {e : Env} {R : Room} {s : State} {m : MethodId} {args : Array Value} {below : List Frame} {meth : Method} {c : Code} {locs : List Loc} {Q : State → Prop}
theorem jGo {pc : Nat} {ls : Array Slot} {st0 rest : List Value} {a0 : Array Value} {r : Int32} (hr : va_Run p l e R s m args below meth c s.heap locs 0 0 0 0 (F0 m pc ls st0) rest (jQ r a0) A) (hlo : ∀ q ∈ locs, A q.base)
    (kk : ∀ locs1 : List Loc, (∀ q ∈ locs1, A q.base) → W p l e R s m args below meth c s.heap locs1 0 0 Q (F0 m (pc + 3) ls (.int r :: rest))) : W p l e R s m args below meth c s.heap locs 0 0 Q (F0 m pc ls st0) := by
  intro T hT X
  obtain ⟨v, st₀, t, T', L, h0, X', hL, e1, e2, ⟨hv, hh⟩, st⟩ := hr T hT X
  cases hv
  obtain ⟨t2, a1, b1⟩ := kk (locs ++ L) (fun q hq => (List.mem_append.mp hq).elim (hlo q) (hL q)) T' (by rw [e1, hh, h0]) X'
  exact ⟨t2, st t2 a1, b1⟩
theorem jPre {as : List Value} {cd : JCd} (hc : jCx p s m args meth c cs cv A cd) : ∀ U : State, U.heap = s.heap → s.WarmedH U.vm → jP cs cv A as as.toArray U := by
  intro U hU hW
  obtain ⟨-, -, -, -, -, -, -, h1, h2⟩ := hc
  exact ⟨rfl, by rw [hU]; exact h1.moved hW.alike, by rw [hU]; exact h2.moved hW.alike⟩
theorem jS {locs : List Loc} (hlo : ∀ q ∈ locs, A q.base) : va_S A s.heap s.heap locs := ⟨Nat.le_refl _, fun _ _ _ => rfl, hlo⟩
/-- a static call -/
theorem jCallS {cd cj : JCd} {pc i n d dj : Nat} {ls : Array Slot} {as rest : List Value} {r : Int32} (hc : jCx p s m args meth c cs cv A cd) (hM : jMet l cs cv A cj dj as r) (hw : jCodeW cj ∈ mTB) (hini : Cond.initialized cj.1.cls ∈ mTB) (hlk : Cond.methodLink cd.1.cls i cj.1 ∈ mTB) (hst : Cond.static cj.1 ∈ mTB)
    (hd : cj.1.cls ≠ "java/lang/invoke/MethodHandle" ∧ cj.1.cls ≠ "java/lang/invoke/VarHandle" ∧ (parseMethodDescriptor cj.1.desc).map (fun d => d.parameters.length) = some as.length) (hR : dj + 1 ≤ d) (hmx : cj.2.2.1 ≤ 40) (hls : ls.size = cd.2.2.1) (hsum : (rest.map fun v => v.category).sum ≤ 8) (hdg : decode cd.2.1 pc = .ok (.invokestatic i, 3)) (hlo : ∀ q ∈ locs, A q.base)
    (kk : ∀ locs1 : List Loc, (∀ q ∈ locs1, A q.base) → W p l e (mRm d 0 0) s m args below meth c s.heap locs1 0 0 Q (F0 m (pc + 3) ls (.int r :: rest))) : W p l e (mRm d 0 0) s m args below meth c s.heap locs 0 0 Q (F0 m pc ls (as.reverse ++ rest)) := by
  obtain ⟨hx, hb, hml, hown, hts, hr, hlocks, h1, h2⟩ := id hc
  refine jGo (va_runS (As := as) (rest := rest) ⟨hx, hb, hml, hown, hts⟩ hM ⟨callB_of as.length hts (mGood cj hw) rfl rfl rfl (hts _ hini) (hts _ hlk) hd ⟨hR, by show 8 + (cj.2.2.1 + 11) + 64 * dj ≤ 64 * d; omega⟩, hts _ hst⟩ ⟨jP_blind, jPre hc⟩ rfl rfl hls rfl (by show 2 * 0 + _ ≤ 8; omega) hdg ⟨Nat.le_refl _, Nat.le_refl _⟩) hlo kk
/-- a call on the String -/
theorem jCallV {cd cj : JCd} {pc i n d dj : Nat} {ls : Array Slot} {as rest : List Value} {r : Int32} (hc : jCx p s m args meth c cs cv A cd) (hM : jMet l cs cv A cj dj (.ref cs :: as) r) (hcl : cj.1.cls = "java/lang/String") (hw : jCodeW cj ∈ mTB) (hini : Cond.initialized cj.1.cls ∈ mTB) (hlk : Cond.methodLink cd.1.cls i cj.1 ∈ mTB) (hin : Cond.instanceMethod cj.1 ∈ mTB) (hsel : Cond.selects "java/lang/String" cj.1 cj.1 ∈ mTB)
    (hd : cj.1.cls ≠ "java/lang/invoke/MethodHandle" ∧ cj.1.cls ≠ "java/lang/invoke/VarHandle" ∧ (parseMethodDescriptor cj.1.desc).map (fun d => d.parameters.length) = some as.length) (hR : dj + 1 ≤ d) (hmx : cj.2.2.1 ≤ 40) (hls : ls.size = cd.2.2.1) (hsum : (rest.map fun v => v.category).sum ≤ 8) (hdg : decode cd.2.1 pc = .ok (.invokevirtual i, 3)) (hlo : ∀ q ∈ locs, A q.base)
    (kk : ∀ locs1 : List Loc, (∀ q ∈ locs1, A q.base) → W p l e (mRm d 0 0) s m args below meth c s.heap locs1 0 0 Q (F0 m (pc + 3) ls (.int r :: rest))) : W p l e (mRm d 0 0) s m args below meth c s.heap locs 0 0 Q (F0 m pc ls (as.reverse ++ .ref cs :: rest)) := by
  obtain ⟨hx, hb, hml, hown, hts, hr, hlocks, h1, h2⟩ := id hc
  refine jGo (va_runV (C := "java/lang/String") (b := cs) (As := as) (rest := rest) ⟨hx, hb, hml, hown, hts⟩ hM ⟨callB_of as.length hts (mGood cj hw) rfl rfl rfl (hts _ hini) (hts _ hlk) hd ⟨hR, by show 8 + (cj.2.2.1 + 11) + 64 * dj ≤ 64 * d; omega⟩, hts _ hin, hts _ hsel⟩ ⟨jP_blind, vk_recv (i := 0) h1 (by omega) (jS hlo), jPre hc⟩ rfl rfl hls rfl (by show 2 * 0 + _ ≤ 8; omega) hdg ⟨Nat.le_refl _, Nat.le_refl _⟩) hlo kk
end JRUN
theorem jNil {A : Nat → Prop} : ∀ q ∈ ([] : List Loc), A q.base := fun q h => by cases h
set_option maxRecDepth 100000 in
theorem jcan (x : Int32) : jMet l cs cv A jCan 0 [.int x] (if x < 0 then 0 else if 255 < x then 0 else 1) := by
  refine jOf (by decide) (Nat.le_of_ble_eq_true rfl) fun p e s m below meth c ls hc hl => ?_
  obtain ⟨hx, hb, hml, hown, hts, hr, hlocks, h1, h2⟩ := id hc
  have hret : ∀ v : Int32, (v = 0 ∨ v = 1) → (if x < 0 then (0 : Int32) else if 255 < x then 0 else 1) = v → W p l e (mRm 0 0 0) s m [Value.int x].toArray below meth c s.heap [] 0 0 (MQ below (jQ (if x < 0 then (0 : Int32) else if 255 < x then 0 else 1)) [Value.int x].toArray s 0 0 A) (F0 m 16 ls [.int v]) := by
    intro v hv he
    rw [he]
    exact W.zret (ty := .boolean) hx hb hr (by rcases hv with rfl | rfl <;> rfl) (fun t ht hW => ⟨rfl, ht⟩) jNil (show decode jCan.2.1 16 = .ok (.ireturn, 1) by decide +kernel)
  refine lv_iload_n (i := 0) hx hb (show decode jCan.2.1 0 = .ok (.iload_n 0, 1) by decide +kernel) rfl (lv_at hl 0 rfl) ?_
  refine lv_if_lt (tgt := 15) hx hb (show decode jCan.2.1 1 = .ok (.ifCond .lt 14, 3) by decide +kernel) (by decide) (fun h => ?_) (fun h => ?_)
  · refine lv_iconst (v := 0) hx hb (show decode jCan.2.1 15 = .ok (.iconst 0, 1) by decide +kernel) (by decide) ?_
    exact hret 0 (Or.inl rfl) (if_pos h)
  · refine lv_iload_n (i := 0) hx hb (show decode jCan.2.1 4 = .ok (.iload_n 0, 1) by decide +kernel) rfl (lv_at hl 0 rfl) ?_
    refine lv_sipush (v := 255) hx hb (show decode jCan.2.1 5 = .ok (.sipush 255, 3) by decide +kernel) (by decide) ?_
    refine lv_icmp_gt (tgt := 15) hx hb (show decode jCan.2.1 8 = .ok (.if_icmp .gt 7, 3) by decide +kernel) (by decide) (fun h3 => ?_) (fun h3 => ?_)
    · refine lv_iconst (v := 0) hx hb (show decode jCan.2.1 15 = .ok (.iconst 0, 1) by decide +kernel) (by decide) ?_
      exact hret 0 (Or.inl rfl) (by rw [if_neg h, if_pos h3])
    · refine lv_iconst (v := 1) hx hb (show decode jCan.2.1 11 = .ok (.iconst 1, 1) by decide +kernel) (by decide) ?_
      refine lv_goto (tgt := 16) hx hb (show decode jCan.2.1 12 = .ok (.goto 4, 3) by decide +kernel) (by decide) ?_
      exact hret 1 (Or.inr rfl) (by rw [if_neg h, if_neg h3])
end JIX
