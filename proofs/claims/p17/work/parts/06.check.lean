/-! every place of every table, against the bytes: by reckoning -/
def mWkM (mi : Nat) : Bool := match mInf[mi]?, mIni[mi]?, mCd mi with
  | some q, some i, some b => mWalk q.2.2.2.1 i (mAt mi) b.2.1 (mRaw mi) b.2.1.data.toList 0 && decide (b.2.1.data.toList.length = mSzT mi)
  | _, _, _ => false
set_option maxRecDepth 100000 in
theorem mwk_0 : ((List.range 5).map (fun k => k + 0)).all mWkM = true := by decide +kernel
set_option maxRecDepth 100000 in
theorem mwk_5 : ((List.range 5).map (fun k => k + 5)).all mWkM = true := by decide +kernel
set_option maxRecDepth 100000 in
theorem mwk_10 : ((List.range 7).map (fun k => k + 10)).all mWkM = true := by decide +kernel
set_option maxRecDepth 100000 in
theorem mwk_17 : ((List.range 14).map (fun k => k + 17)).all mWkM = true := by decide +kernel
set_option maxRecDepth 100000 in
theorem mwk_31 : ((List.range 7).map (fun k => k + 31)).all mWkM = true := by decide +kernel
set_option maxRecDepth 100000 in
theorem mwk_38 : ((List.range 6).map (fun k => k + 38)).all mWkM = true := by decide +kernel
set_option maxRecDepth 100000 in
theorem mwk_44 : ((List.range 10).map (fun k => k + 44)).all mWkM = true := by decide +kernel
set_option maxRecDepth 100000 in
theorem mwk_54 : ((List.range 11).map (fun k => k + 54)).all mWkM = true := by decide +kernel
set_option maxRecDepth 100000 in
theorem mwk_65 : ((List.range 6).map (fun k => k + 65)).all mWkM = true := by decide +kernel
set_option maxRecDepth 100000 in
theorem mwk_71 : ((List.range 9).map (fun k => k + 71)).all mWkM = true := by decide +kernel
set_option maxRecDepth 100000 in
theorem mwk_80 : ((List.range 8).map (fun k => k + 80)).all mWkM = true := by decide +kernel
set_option maxRecDepth 100000 in
theorem mwk_88 : ((List.range 9).map (fun k => k + 88)).all mWkM = true := by decide +kernel
set_option maxRecDepth 100000 in
theorem mwk_97 : ((List.range 10).map (fun k => k + 97)).all mWkM = true := by decide +kernel
set_option maxRecDepth 100000 in
theorem mwk_107 : ((List.range 9).map (fun k => k + 107)).all mWkM = true := by decide +kernel
set_option maxRecDepth 100000 in
theorem mwk_116 : ((List.range 8).map (fun k => k + 116)).all mWkM = true := by decide +kernel
set_option maxRecDepth 100000 in
theorem mwk_124 : ((List.range 9).map (fun k => k + 124)).all mWkM = true := by decide +kernel
set_option maxRecDepth 100000 in
theorem mwk_133 : ((List.range 9).map (fun k => k + 133)).all mWkM = true := by decide +kernel
set_option maxRecDepth 100000 in
theorem mwk_142 : ((List.range 15).map (fun k => k + 142)).all mWkM = true := by decide +kernel
set_option maxRecDepth 100000 in
theorem mwk_157 : ((List.range 2).map (fun k => k + 157)).all mWkM = true := by decide +kernel
set_option maxRecDepth 100000 in
theorem mwk_159 : ((List.range 5).map (fun k => k + 159)).all mWkM = true := by decide +kernel
set_option maxRecDepth 100000 in
theorem mwk_164 : ((List.range 9).map (fun k => k + 164)).all mWkM = true := by decide +kernel
set_option maxRecDepth 100000 in
theorem mwk_173 : ((List.range 11).map (fun k => k + 173)).all mWkM = true := by decide +kernel
set_option maxRecDepth 100000 in
theorem mwk_184 : ((List.range 6).map (fun k => k + 184)).all mWkM = true := by decide +kernel
set_option maxRecDepth 100000 in
theorem mwk_190 : ((List.range 12).map (fun k => k + 190)).all mWkM = true := by decide +kernel
set_option maxRecDepth 100000 in
theorem mwk_202 : ((List.range 7).map (fun k => k + 202)).all mWkM = true := by decide +kernel
set_option maxRecDepth 100000 in
theorem mwk_209 : ((List.range 3).map (fun k => k + 209)).all mWkM = true := by decide +kernel
set_option maxRecDepth 100000 in
theorem mwk_212 : ((List.range 2).map (fun k => k + 212)).all mWkM = true := by decide +kernel
set_option maxRecDepth 100000 in
theorem mwk_214 : ((List.range 5).map (fun k => k + 214)).all mWkM = true := by decide +kernel
set_option maxRecDepth 100000 in
theorem mwk_219 : ((List.range 3).map (fun k => k + 219)).all mWkM = true := by decide +kernel
set_option maxRecDepth 100000 in
theorem mwk_222 : ((List.range 8).map (fun k => k + 222)).all mWkM = true := by decide +kernel
set_option maxRecDepth 100000 in
theorem mwk_230 : ((List.range 8).map (fun k => k + 230)).all mWkM = true := by decide +kernel
set_option maxRecDepth 100000 in
theorem mwk_238 : ((List.range 8).map (fun k => k + 238)).all mWkM = true := by decide +kernel
set_option maxRecDepth 100000 in
theorem mwk_246 : ((List.range 5).map (fun k => k + 246)).all mWkM = true := by decide +kernel
set_option maxRecDepth 100000 in
theorem mwk_251 : ((List.range 4).map (fun k => k + 251)).all mWkM = true := by decide +kernel
set_option maxRecDepth 100000 in
theorem mwk_255 : ((List.range 4).map (fun k => k + 255)).all mWkM = true := by decide +kernel
set_option maxRecDepth 100000 in
theorem mwk_259 : ((List.range 5).map (fun k => k + 259)).all mWkM = true := by decide +kernel
set_option maxRecDepth 100000 in
theorem mwk_264 : ((List.range 8).map (fun k => k + 264)).all mWkM = true := by decide +kernel
set_option maxRecDepth 100000 in
theorem mwk_272 : ((List.range 3).map (fun k => k + 272)).all mWkM = true := by decide +kernel
set_option maxRecDepth 100000 in
theorem mwk_275 : ((List.range 7).map (fun k => k + 275)).all mWkM = true := by decide +kernel
set_option maxRecDepth 100000 in
theorem mwk_282 : ((List.range 1).map (fun k => k + 282)).all mWkM = true := by decide +kernel
theorem mwk_all (mi : Nat) (h : mi < 283) : mWkM mi = true := by
  have key : ∀ (lo n : Nat), ((List.range n).map (fun k => k + lo)).all mWkM = true → lo ≤ mi → mi < lo + n → mWkM mi = true := fun lo n h0 h1 h2 => List.all_eq_true.mp h0 mi (List.mem_map.mpr ⟨mi - lo, List.mem_range.mpr (by omega), by omega⟩)
  by_cases c0 : mi < 5
  · exact key 0 5 mwk_0 (by omega) (by omega)
  by_cases c5 : mi < 10
  · exact key 5 5 mwk_5 (by omega) (by omega)
  by_cases c10 : mi < 17
  · exact key 10 7 mwk_10 (by omega) (by omega)
  by_cases c17 : mi < 31
  · exact key 17 14 mwk_17 (by omega) (by omega)
  by_cases c31 : mi < 38
  · exact key 31 7 mwk_31 (by omega) (by omega)
  by_cases c38 : mi < 44
  · exact key 38 6 mwk_38 (by omega) (by omega)
  by_cases c44 : mi < 54
  · exact key 44 10 mwk_44 (by omega) (by omega)
  by_cases c54 : mi < 65
  · exact key 54 11 mwk_54 (by omega) (by omega)
  by_cases c65 : mi < 71
  · exact key 65 6 mwk_65 (by omega) (by omega)
  by_cases c71 : mi < 80
  · exact key 71 9 mwk_71 (by omega) (by omega)
  by_cases c80 : mi < 88
  · exact key 80 8 mwk_80 (by omega) (by omega)
  by_cases c88 : mi < 97
  · exact key 88 9 mwk_88 (by omega) (by omega)
  by_cases c97 : mi < 107
  · exact key 97 10 mwk_97 (by omega) (by omega)
  by_cases c107 : mi < 116
  · exact key 107 9 mwk_107 (by omega) (by omega)
  by_cases c116 : mi < 124
  · exact key 116 8 mwk_116 (by omega) (by omega)
  by_cases c124 : mi < 133
  · exact key 124 9 mwk_124 (by omega) (by omega)
  by_cases c133 : mi < 142
  · exact key 133 9 mwk_133 (by omega) (by omega)
  by_cases c142 : mi < 157
  · exact key 142 15 mwk_142 (by omega) (by omega)
  by_cases c157 : mi < 159
  · exact key 157 2 mwk_157 (by omega) (by omega)
  by_cases c159 : mi < 164
  · exact key 159 5 mwk_159 (by omega) (by omega)
  by_cases c164 : mi < 173
  · exact key 164 9 mwk_164 (by omega) (by omega)
  by_cases c173 : mi < 184
  · exact key 173 11 mwk_173 (by omega) (by omega)
  by_cases c184 : mi < 190
  · exact key 184 6 mwk_184 (by omega) (by omega)
  by_cases c190 : mi < 202
  · exact key 190 12 mwk_190 (by omega) (by omega)
  by_cases c202 : mi < 209
  · exact key 202 7 mwk_202 (by omega) (by omega)
  by_cases c209 : mi < 212
  · exact key 209 3 mwk_209 (by omega) (by omega)
  by_cases c212 : mi < 214
  · exact key 212 2 mwk_212 (by omega) (by omega)
  by_cases c214 : mi < 219
  · exact key 214 5 mwk_214 (by omega) (by omega)
  by_cases c219 : mi < 222
  · exact key 219 3 mwk_219 (by omega) (by omega)
  by_cases c222 : mi < 230
  · exact key 222 8 mwk_222 (by omega) (by omega)
  by_cases c230 : mi < 238
  · exact key 230 8 mwk_230 (by omega) (by omega)
  by_cases c238 : mi < 246
  · exact key 238 8 mwk_238 (by omega) (by omega)
  by_cases c246 : mi < 251
  · exact key 246 5 mwk_246 (by omega) (by omega)
  by_cases c251 : mi < 255
  · exact key 251 4 mwk_251 (by omega) (by omega)
  by_cases c255 : mi < 259
  · exact key 255 4 mwk_255 (by omega) (by omega)
  by_cases c259 : mi < 264
  · exact key 259 5 mwk_259 (by omega) (by omega)
  by_cases c264 : mi < 272
  · exact key 264 8 mwk_264 (by omega) (by omega)
  by_cases c272 : mi < 275
  · exact key 272 3 mwk_272 (by omega) (by omega)
  by_cases c275 : mi < 282
  · exact key 275 7 mwk_275 (by omega) (by omega)
  exact key 282 1 mwk_282 (by omega) (by omega)
