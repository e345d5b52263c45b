/-! contracts, on -/
/-- WidowDeedsModel.copies -/
def ct_210 : CT := (271, 0, 0, (([(.ofNat 0, .ofNat 0), (.ofNat 40, .ofNat 40)], [], [], []), [(2, 190, .ofNat 0), (2, 232, .ofNat 0), (1, 1, .ofNat 0), (0, 0, .ofNat 0)], []), [(([(.ofNat 0, .ofNat 0), (.ofNat 40, .ofNat 40)], [], [], []), [], [])], [])
def cu_210 : List CU := [(2, (([(.ofNat 0, .ofNat 0), (.ofNat 40, .ofNat 40), (.ofNat 0, .ofNat 40)], [], [], []), [(2, 190, .ofNat 0), (2, 232, .ofNat 0), (1, 1, .ofNat 0), (1, 2, .ofNat 0)], []), [(0, 0, .ofNat 0), (1, 2, .ofNat 1)])]
theorem ck_210 : cChk [] [] ct_210 cu_210 2000 2 = true := by decide +kernel
theorem cs_210 {s : List Int32} (hm : cMan s) : cSound s ct_210 := cChk_ok (C := []) hC0 hG0 ck_210
/-- WidowDeedsModel.copies -/
def ct_211 : CT := (271, 0, 0, (([(.ofNat 0, .ofNat 0), (.ofNat 40, .ofNat 40)], [], [], []), [(2, 191, .ofNat 0), (2, 233, .ofNat 0), (1, 1, .ofNat 0), (0, 0, .ofNat 0)], []), [(([(.ofNat 0, .ofNat 0), (.ofNat 40, .ofNat 40)], [], [], []), [], [])], [])
def cu_211 : List CU := [(2, (([(.ofNat 0, .ofNat 0), (.ofNat 40, .ofNat 40), (.ofNat 0, .ofNat 40)], [], [], []), [(2, 191, .ofNat 0), (2, 233, .ofNat 0), (1, 1, .ofNat 0), (1, 2, .ofNat 0)], []), [(0, 0, .ofNat 0), (1, 2, .ofNat 1)])]
theorem ck_211 : cChk [] [] ct_211 cu_211 2000 2 = true := by decide +kernel
theorem cs_211 {s : List Int32} (hm : cMan s) : cSound s ct_211 := cChk_ok (C := []) hC0 hG0 ck_211
/-- WidowDeedsModel.copies -/
def ct_212 : CT := (271, 0, 0, (([(.ofNat 0, .ofNat 0), (.ofNat 40, .ofNat 40)], [], [], []), [(2, 192, .ofNat 0), (2, 234, .ofNat 0), (1, 1, .ofNat 0), (0, 0, .ofNat 0)], []), [(([(.ofNat 0, .ofNat 0), (.ofNat 40, .ofNat 40)], [], [], []), [], [])], [])
def cu_212 : List CU := [(2, (([(.ofNat 0, .ofNat 0), (.ofNat 40, .ofNat 40), (.ofNat 0, .ofNat 40)], [], [], []), [(2, 192, .ofNat 0), (2, 234, .ofNat 0), (1, 1, .ofNat 0), (1, 2, .ofNat 0)], []), [(0, 0, .ofNat 0), (1, 2, .ofNat 1)])]
theorem ck_212 : cChk [] [] ct_212 cu_212 2000 2 = true := by decide +kernel
theorem cs_212 {s : List Int32} (hm : cMan s) : cSound s ct_212 := cChk_ok (C := []) hC0 hG0 ck_212
/-- WidowDeedsModel.copies -/
def ct_213 : CT := (271, 0, 0, (([(.ofNat 0, .ofNat 0), (.ofNat 40, .ofNat 40)], [], [], []), [(2, 193, .ofNat 0), (2, 235, .ofNat 0), (1, 1, .ofNat 0), (0, 0, .ofNat 0)], []), [(([(.ofNat 0, .ofNat 0), (.ofNat 40, .ofNat 40)], [], [], []), [], [])], [])
def cu_213 : List CU := [(2, (([(.ofNat 0, .ofNat 0), (.ofNat 40, .ofNat 40), (.ofNat 0, .ofNat 40)], [], [], []), [(2, 193, .ofNat 0), (2, 235, .ofNat 0), (1, 1, .ofNat 0), (1, 2, .ofNat 0)], []), [(0, 0, .ofNat 0), (1, 2, .ofNat 1)])]
theorem ck_213 : cChk [] [] ct_213 cu_213 2000 2 = true := by decide +kernel
theorem cs_213 {s : List Int32} (hm : cMan s) : cSound s ct_213 := cChk_ok (C := []) hC0 hG0 ck_213
/-- WidowDeedsModel.copies -/
def ct_214 : CT := (271, 0, 0, (([(.ofNat 0, .ofNat 0), (.ofNat 60, .ofNat 60)], [], [], []), [(2, 195, .ofNat 0), (2, 236, .ofNat 0), (1, 1, .ofNat 0), (0, 0, .ofNat 0)], []), [(([(.ofNat 0, .ofNat 0), (.ofNat 60, .ofNat 60)], [], [], []), [], [])], [])
def cu_214 : List CU := [(2, (([(.ofNat 0, .ofNat 0), (.ofNat 60, .ofNat 60), (.ofNat 0, .ofNat 60)], [], [], []), [(2, 195, .ofNat 0), (2, 236, .ofNat 0), (1, 1, .ofNat 0), (1, 2, .ofNat 0)], []), [(0, 0, .ofNat 0), (1, 2, .ofNat 1)])]
theorem ck_214 : cChk [] [] ct_214 cu_214 2000 2 = true := by decide +kernel
theorem cs_214 {s : List Int32} (hm : cMan s) : cSound s ct_214 := cChk_ok (C := []) hC0 hG0 ck_214
/-- WidowDeedsModel.copies -/
def ct_215 : CT := (271, 0, 0, (([(.ofNat 0, .ofNat 0), (.ofNat 60, .ofNat 60)], [], [], []), [(2, 196, .ofNat 0), (2, 237, .ofNat 0), (1, 1, .ofNat 0), (0, 0, .ofNat 0)], []), [(([(.ofNat 0, .ofNat 0), (.ofNat 60, .ofNat 60)], [], [], []), [], [])], [])
def cu_215 : List CU := [(2, (([(.ofNat 0, .ofNat 0), (.ofNat 60, .ofNat 60), (.ofNat 0, .ofNat 60)], [], [], []), [(2, 196, .ofNat 0), (2, 237, .ofNat 0), (1, 1, .ofNat 0), (1, 2, .ofNat 0)], []), [(0, 0, .ofNat 0), (1, 2, .ofNat 1)])]
theorem ck_215 : cChk [] [] ct_215 cu_215 2000 2 = true := by decide +kernel
theorem cs_215 {s : List Int32} (hm : cMan s) : cSound s ct_215 := cChk_ok (C := []) hC0 hG0 ck_215
/-- WidowDeedsModel.copies -/
def ct_216 : CT := (271, 0, 0, (([(.ofNat 0, .ofNat 0), (.ofNat 60, .ofNat 60)], [], [], []), [(2, 197, .ofNat 0), (2, 238, .ofNat 0), (1, 1, .ofNat 0), (0, 0, .ofNat 0)], []), [(([(.ofNat 0, .ofNat 0), (.ofNat 60, .ofNat 60)], [], [], []), [], [])], [])
def cu_216 : List CU := [(2, (([(.ofNat 0, .ofNat 0), (.ofNat 60, .ofNat 60), (.ofNat 0, .ofNat 60)], [], [], []), [(2, 197, .ofNat 0), (2, 238, .ofNat 0), (1, 1, .ofNat 0), (1, 2, .ofNat 0)], []), [(0, 0, .ofNat 0), (1, 2, .ofNat 1)])]
theorem ck_216 : cChk [] [] ct_216 cu_216 2000 2 = true := by decide +kernel
theorem cs_216 {s : List Int32} (hm : cMan s) : cSound s ct_216 := cChk_ok (C := []) hC0 hG0 ck_216
/-- WidowDeedsModel.copies -/
def ct_217 : CT := (271, 0, 0, (([(.ofNat 0, .ofNat 0), (.ofNat 20, .ofNat 20)], [], [], []), [(2, 198, .ofNat 0), (2, 239, .ofNat 0), (1, 1, .ofNat 0), (0, 0, .ofNat 0)], []), [(([(.ofNat 0, .ofNat 0), (.ofNat 20, .ofNat 20)], [], [], []), [], [])], [])
def cu_217 : List CU := [(2, (([(.ofNat 0, .ofNat 0), (.ofNat 20, .ofNat 20), (.ofNat 0, .ofNat 20)], [], [], []), [(2, 198, .ofNat 0), (2, 239, .ofNat 0), (1, 1, .ofNat 0), (1, 2, .ofNat 0)], []), [(0, 0, .ofNat 0), (1, 2, .ofNat 1)])]
theorem ck_217 : cChk [] [] ct_217 cu_217 2000 2 = true := by decide +kernel
theorem cs_217 {s : List Int32} (hm : cMan s) : cSound s ct_217 := cChk_ok (C := []) hC0 hG0 ck_217
/-- WidowDeedsModel.copies -/
def ct_218 : CT := (271, 0, 0, (([(.ofNat 0, .ofNat 0), (.ofNat 20, .ofNat 20)], [], [], []), [(2, 199, .ofNat 0), (2, 240, .ofNat 0), (1, 1, .ofNat 0), (0, 0, .ofNat 0)], []), [(([(.ofNat 0, .ofNat 0), (.ofNat 20, .ofNat 20)], [], [], []), [], [])], [])
def cu_218 : List CU := [(2, (([(.ofNat 0, .ofNat 0), (.ofNat 20, .ofNat 20), (.ofNat 0, .ofNat 20)], [], [], []), [(2, 199, .ofNat 0), (2, 240, .ofNat 0), (1, 1, .ofNat 0), (1, 2, .ofNat 0)], []), [(0, 0, .ofNat 0), (1, 2, .ofNat 1)])]
theorem ck_218 : cChk [] [] ct_218 cu_218 2000 2 = true := by decide +kernel
theorem cs_218 {s : List Int32} (hm : cMan s) : cSound s ct_218 := cChk_ok (C := []) hC0 hG0 ck_218
/-- WidowDeedsModel.keep -/
def ct_219 : CT := (272, 0, 1, (([(.ofNat 0, .ofNat 0)], [], [], []), [(2, 181, .ofNat 0), (0, 0, .ofNat 0)], []), [(([(.ofNat 0, .ofNat 0), (.ofNat 0, .ofNat 40)], [], [], []), [], [(1, 1, .ofNat 0)])], [(181, 64), (181, 65), (181, 66), (181, 67), (181, 68)])
def cu_219 : List CU := [(221, (([(.ofNat 0, .ofNat 0), (.ofNat 0, .ofNat 40), (.ofNat 0, .ofNat 40), (.ofNat 0, .ofNat 65535), (.ofNat 0, .ofNat 60), (.ofNat 0, .ofNat 20), (.ofNat 0, .ofNat 40), (.ofNat 0, .ofNat 60), (.ofNat 0, .ofNat 20), (.ofNat 0, .ofNat 65535)], [(2, 6, .ofNat 0), (3, 9, .ofNat 0), (4, 7, .ofNat 0), (5, 8, .ofNat 0), (6, 2, .ofNat 0), (7, 4, .ofNat 0), (8, 5, .ofNat 0), (9, 3, .ofNat 0)], [], [(181, 0, (1, 2, .ofNat 0)), (181, 1, (1, 3, .ofNat 0)), (181, 15, (1, 4, .ofNat 0)), (181, 16, (1, 5, .ofNat 0)), (181, 64, (1, 0, .ofNat 1)), (181, 65, (1, 6, .ofNat 0)), (181, 66, (1, 7, .ofNat 0)), (181, 67, (1, 8, .ofNat 0)), (181, 68, (1, 9, .ofNat 0))]), [(2, 181, .ofNat 0), (1, 1, .ofNat 0)], []), [(0, 0, .ofNat 0), (2, 1, .ofNat 41)])]
theorem ck_219 : cChk [ct_205, ct_206, ct_207, ct_208, ct_209, ct_210, ct_211, ct_212, ct_213, ct_214, ct_215, ct_216, ct_217, ct_218] [] ct_219 cu_219 2000 2 = true := by decide +kernel
theorem cs_219 {s : List Int32} (hm : cMan s) : cSound s ct_219 := cChk_ok (C := [ct_205, ct_206, ct_207, ct_208, ct_209, ct_210, ct_211, ct_212, ct_213, ct_214, ct_215, ct_216, ct_217, ct_218]) (hCc (cs_205 hm) (hCc (cs_206 hm) (hCc (cs_207 hm) (hCc (cs_208 hm) (hCc (cs_209 hm) (hCc (cs_210 hm) (hCc (cs_211 hm) (hCc (cs_212 hm) (hCc (cs_213 hm) (hCc (cs_214 hm) (hCc (cs_215 hm) (hCc (cs_216 hm) (hCc (cs_217 hm) (hCc (cs_218 hm) hC0)))))))))))))) hG0 ck_219
/-- WidowDeedsModel.copies -/
def ct_220 : CT := (271, 0, 0, (([(.ofNat 0, .ofNat 0), (.ofNat 40, .ofNat 40)], [], [], []), [(2, 227, .ofNat 0), (2, 185, .ofNat 0), (1, 1, .ofNat 0), (0, 0, .ofNat 0)], []), [(([(.ofNat 0, .ofNat 0), (.ofNat 40, .ofNat 40)], [], [], []), [], [])], [])
def cu_220 : List CU := [(2, (([(.ofNat 0, .ofNat 0), (.ofNat 40, .ofNat 40), (.ofNat 0, .ofNat 40)], [], [], []), [(2, 227, .ofNat 0), (2, 185, .ofNat 0), (1, 1, .ofNat 0), (1, 2, .ofNat 0)], []), [(0, 0, .ofNat 0), (1, 2, .ofNat 1)])]
theorem ck_220 : cChk [] [] ct_220 cu_220 2000 2 = true := by decide +kernel
theorem cs_220 {s : List Int32} (hm : cMan s) : cSound s ct_220 := cChk_ok (C := []) hC0 hG0 ck_220
/-- WidowDeedsModel.copies -/
def ct_221 : CT := (271, 0, 0, (([(.ofNat 0, .ofNat 0), (.ofNat 40, .ofNat 40)], [], [], []), [(2, 228, .ofNat 0), (2, 186, .ofNat 0), (1, 1, .ofNat 0), (0, 0, .ofNat 0)], []), [(([(.ofNat 0, .ofNat 0), (.ofNat 40, .ofNat 40)], [], [], []), [], [])], [])
def cu_221 : List CU := [(2, (([(.ofNat 0, .ofNat 0), (.ofNat 40, .ofNat 40), (.ofNat 0, .ofNat 40)], [], [], []), [(2, 228, .ofNat 0), (2, 186, .ofNat 0), (1, 1, .ofNat 0), (1, 2, .ofNat 0)], []), [(0, 0, .ofNat 0), (1, 2, .ofNat 1)])]
theorem ck_221 : cChk [] [] ct_221 cu_221 2000 2 = true := by decide +kernel
theorem cs_221 {s : List Int32} (hm : cMan s) : cSound s ct_221 := cChk_ok (C := []) hC0 hG0 ck_221
/-- WidowDeedsModel.copies -/
def ct_222 : CT := (271, 0, 0, (([(.ofNat 0, .ofNat 0), (.ofNat 40, .ofNat 40)], [], [], []), [(2, 229, .ofNat 0), (2, 187, .ofNat 0), (1, 1, .ofNat 0), (0, 0, .ofNat 0)], []), [(([(.ofNat 0, .ofNat 0), (.ofNat 40, .ofNat 40)], [], [], []), [], [])], [])
def cu_222 : List CU := [(2, (([(.ofNat 0, .ofNat 0), (.ofNat 40, .ofNat 40), (.ofNat 0, .ofNat 40)], [], [], []), [(2, 229, .ofNat 0), (2, 187, .ofNat 0), (1, 1, .ofNat 0), (1, 2, .ofNat 0)], []), [(0, 0, .ofNat 0), (1, 2, .ofNat 1)])]
theorem ck_222 : cChk [] [] ct_222 cu_222 2000 2 = true := by decide +kernel
theorem cs_222 {s : List Int32} (hm : cMan s) : cSound s ct_222 := cChk_ok (C := []) hC0 hG0 ck_222
/-- WidowDeedsModel.copies -/
def ct_223 : CT := (271, 0, 0, (([(.ofNat 0, .ofNat 0), (.ofNat 40, .ofNat 40)], [], [], []), [(2, 230, .ofNat 0), (2, 188, .ofNat 0), (1, 1, .ofNat 0), (0, 0, .ofNat 0)], []), [(([(.ofNat 0, .ofNat 0), (.ofNat 40, .ofNat 40)], [], [], []), [], [])], [])
def cu_223 : List CU := [(2, (([(.ofNat 0, .ofNat 0), (.ofNat 40, .ofNat 40), (.ofNat 0, .ofNat 40)], [], [], []), [(2, 230, .ofNat 0), (2, 188, .ofNat 0), (1, 1, .ofNat 0), (1, 2, .ofNat 0)], []), [(0, 0, .ofNat 0), (1, 2, .ofNat 1)])]
theorem ck_223 : cChk [] [] ct_223 cu_223 2000 2 = true := by decide +kernel
theorem cs_223 {s : List Int32} (hm : cMan s) : cSound s ct_223 := cChk_ok (C := []) hC0 hG0 ck_223
/-- WidowDeedsModel.copies -/
def ct_224 : CT := (271, 0, 0, (([(.ofNat 0, .ofNat 0), (.ofNat 40, .ofNat 40)], [], [], []), [(2, 231, .ofNat 0), (2, 189, .ofNat 0), (1, 1, .ofNat 0), (0, 0, .ofNat 0)], []), [(([(.ofNat 0, .ofNat 0), (.ofNat 40, .ofNat 40)], [], [], []), [], [])], [])
def cu_224 : List CU := [(2, (([(.ofNat 0, .ofNat 0), (.ofNat 40, .ofNat 40), (.ofNat 0, .ofNat 40)], [], [], []), [(2, 231, .ofNat 0), (2, 189, .ofNat 0), (1, 1, .ofNat 0), (1, 2, .ofNat 0)], []), [(0, 0, .ofNat 0), (1, 2, .ofNat 1)])]
theorem ck_224 : cChk [] [] ct_224 cu_224 2000 2 = true := by decide +kernel
theorem cs_224 {s : List Int32} (hm : cMan s) : cSound s ct_224 := cChk_ok (C := []) hC0 hG0 ck_224
/-- WidowDeedsModel.copies -/
def ct_225 : CT := (271, 0, 0, (([(.ofNat 0, .ofNat 0), (.ofNat 40, .ofNat 40)], [], [], []), [(2, 232, .ofNat 0), (2, 190, .ofNat 0), (1, 1, .ofNat 0), (0, 0, .ofNat 0)], []), [(([(.ofNat 0, .ofNat 0), (.ofNat 40, .ofNat 40)], [], [], []), [], [])], [])
def cu_225 : List CU := [(2, (([(.ofNat 0, .ofNat 0), (.ofNat 40, .ofNat 40), (.ofNat 0, .ofNat 40)], [], [], []), [(2, 232, .ofNat 0), (2, 190, .ofNat 0), (1, 1, .ofNat 0), (1, 2, .ofNat 0)], []), [(0, 0, .ofNat 0), (1, 2, .ofNat 1)])]
theorem ck_225 : cChk [] [] ct_225 cu_225 2000 2 = true := by decide +kernel
theorem cs_225 {s : List Int32} (hm : cMan s) : cSound s ct_225 := cChk_ok (C := []) hC0 hG0 ck_225
/-- WidowDeedsModel.copies -/
def ct_226 : CT := (271, 0, 0, (([(.ofNat 0, .ofNat 0), (.ofNat 40, .ofNat 40)], [], [], []), [(2, 233, .ofNat 0), (2, 191, .ofNat 0), (1, 1, .ofNat 0), (0, 0, .ofNat 0)], []), [(([(.ofNat 0, .ofNat 0), (.ofNat 40, .ofNat 40)], [], [], []), [], [])], [])
def cu_226 : List CU := [(2, (([(.ofNat 0, .ofNat 0), (.ofNat 40, .ofNat 40), (.ofNat 0, .ofNat 40)], [], [], []), [(2, 233, .ofNat 0), (2, 191, .ofNat 0), (1, 1, .ofNat 0), (1, 2, .ofNat 0)], []), [(0, 0, .ofNat 0), (1, 2, .ofNat 1)])]
theorem ck_226 : cChk [] [] ct_226 cu_226 2000 2 = true := by decide +kernel
theorem cs_226 {s : List Int32} (hm : cMan s) : cSound s ct_226 := cChk_ok (C := []) hC0 hG0 ck_226
/-- WidowDeedsModel.copies -/
def ct_227 : CT := (271, 0, 0, (([(.ofNat 0, .ofNat 0), (.ofNat 40, .ofNat 40)], [], [], []), [(2, 234, .ofNat 0), (2, 192, .ofNat 0), (1, 1, .ofNat 0), (0, 0, .ofNat 0)], []), [(([(.ofNat 0, .ofNat 0), (.ofNat 40, .ofNat 40)], [], [], []), [], [])], [])
def cu_227 : List CU := [(2, (([(.ofNat 0, .ofNat 0), (.ofNat 40, .ofNat 40), (.ofNat 0, .ofNat 40)], [], [], []), [(2, 234, .ofNat 0), (2, 192, .ofNat 0), (1, 1, .ofNat 0), (1, 2, .ofNat 0)], []), [(0, 0, .ofNat 0), (1, 2, .ofNat 1)])]
theorem ck_227 : cChk [] [] ct_227 cu_227 2000 2 = true := by decide +kernel
theorem cs_227 {s : List Int32} (hm : cMan s) : cSound s ct_227 := cChk_ok (C := []) hC0 hG0 ck_227
/-- WidowDeedsModel.copies -/
def ct_228 : CT := (271, 0, 0, (([(.ofNat 0, .ofNat 0), (.ofNat 40, .ofNat 40)], [], [], []), [(2, 235, .ofNat 0), (2, 193, .ofNat 0), (1, 1, .ofNat 0), (0, 0, .ofNat 0)], []), [(([(.ofNat 0, .ofNat 0), (.ofNat 40, .ofNat 40)], [], [], []), [], [])], [])
def cu_228 : List CU := [(2, (([(.ofNat 0, .ofNat 0), (.ofNat 40, .ofNat 40), (.ofNat 0, .ofNat 40)], [], [], []), [(2, 235, .ofNat 0), (2, 193, .ofNat 0), (1, 1, .ofNat 0), (1, 2, .ofNat 0)], []), [(0, 0, .ofNat 0), (1, 2, .ofNat 1)])]
theorem ck_228 : cChk [] [] ct_228 cu_228 2000 2 = true := by decide +kernel
theorem cs_228 {s : List Int32} (hm : cMan s) : cSound s ct_228 := cChk_ok (C := []) hC0 hG0 ck_228
/-- WidowDeedsModel.copies -/
def ct_229 : CT := (271, 0, 0, (([(.ofNat 0, .ofNat 0), (.ofNat 60, .ofNat 60)], [], [], []), [(2, 236, .ofNat 0), (2, 195, .ofNat 0), (1, 1, .ofNat 0), (0, 0, .ofNat 0)], []), [(([(.ofNat 0, .ofNat 0), (.ofNat 60, .ofNat 60)], [], [], []), [], [])], [])
def cu_229 : List CU := [(2, (([(.ofNat 0, .ofNat 0), (.ofNat 60, .ofNat 60), (.ofNat 0, .ofNat 60)], [], [], []), [(2, 236, .ofNat 0), (2, 195, .ofNat 0), (1, 1, .ofNat 0), (1, 2, .ofNat 0)], []), [(0, 0, .ofNat 0), (1, 2, .ofNat 1)])]
theorem ck_229 : cChk [] [] ct_229 cu_229 2000 2 = true := by decide +kernel
theorem cs_229 {s : List Int32} (hm : cMan s) : cSound s ct_229 := cChk_ok (C := []) hC0 hG0 ck_229
/-- WidowDeedsModel.copies -/
def ct_230 : CT := (271, 0, 0, (([(.ofNat 0, .ofNat 0), (.ofNat 60, .ofNat 60)], [], [], []), [(2, 237, .ofNat 0), (2, 196, .ofNat 0), (1, 1, .ofNat 0), (0, 0, .ofNat 0)], []), [(([(.ofNat 0, .ofNat 0), (.ofNat 60, .ofNat 60)], [], [], []), [], [])], [])
def cu_230 : List CU := [(2, (([(.ofNat 0, .ofNat 0), (.ofNat 60, .ofNat 60), (.ofNat 0, .ofNat 60)], [], [], []), [(2, 237, .ofNat 0), (2, 196, .ofNat 0), (1, 1, .ofNat 0), (1, 2, .ofNat 0)], []), [(0, 0, .ofNat 0), (1, 2, .ofNat 1)])]
theorem ck_230 : cChk [] [] ct_230 cu_230 2000 2 = true := by decide +kernel
theorem cs_230 {s : List Int32} (hm : cMan s) : cSound s ct_230 := cChk_ok (C := []) hC0 hG0 ck_230
/-- WidowDeedsModel.copies -/
def ct_231 : CT := (271, 0, 0, (([(.ofNat 0, .ofNat 0), (.ofNat 60, .ofNat 60)], [], [], []), [(2, 238, .ofNat 0), (2, 197, .ofNat 0), (1, 1, .ofNat 0), (0, 0, .ofNat 0)], []), [(([(.ofNat 0, .ofNat 0), (.ofNat 60, .ofNat 60)], [], [], []), [], [])], [])
def cu_231 : List CU := [(2, (([(.ofNat 0, .ofNat 0), (.ofNat 60, .ofNat 60), (.ofNat 0, .ofNat 60)], [], [], []), [(2, 238, .ofNat 0), (2, 197, .ofNat 0), (1, 1, .ofNat 0), (1, 2, .ofNat 0)], []), [(0, 0, .ofNat 0), (1, 2, .ofNat 1)])]
theorem ck_231 : cChk [] [] ct_231 cu_231 2000 2 = true := by decide +kernel
theorem cs_231 {s : List Int32} (hm : cMan s) : cSound s ct_231 := cChk_ok (C := []) hC0 hG0 ck_231
/-- WidowDeedsModel.copies -/
def ct_232 : CT := (271, 0, 0, (([(.ofNat 0, .ofNat 0), (.ofNat 20, .ofNat 20)], [], [], []), [(2, 239, .ofNat 0), (2, 198, .ofNat 0), (1, 1, .ofNat 0), (0, 0, .ofNat 0)], []), [(([(.ofNat 0, .ofNat 0), (.ofNat 20, .ofNat 20)], [], [], []), [], [])], [])
def cu_232 : List CU := [(2, (([(.ofNat 0, .ofNat 0), (.ofNat 20, .ofNat 20), (.ofNat 0, .ofNat 20)], [], [], []), [(2, 239, .ofNat 0), (2, 198, .ofNat 0), (1, 1, .ofNat 0), (1, 2, .ofNat 0)], []), [(0, 0, .ofNat 0), (1, 2, .ofNat 1)])]
theorem ck_232 : cChk [] [] ct_232 cu_232 2000 2 = true := by decide +kernel
theorem cs_232 {s : List Int32} (hm : cMan s) : cSound s ct_232 := cChk_ok (C := []) hC0 hG0 ck_232
/-- WidowDeedsModel.copies -/
def ct_233 : CT := (271, 0, 0, (([(.ofNat 0, .ofNat 0), (.ofNat 20, .ofNat 20)], [], [], []), [(2, 240, .ofNat 0), (2, 199, .ofNat 0), (1, 1, .ofNat 0), (0, 0, .ofNat 0)], []), [(([(.ofNat 0, .ofNat 0), (.ofNat 20, .ofNat 20)], [], [], []), [], [])], [])
def cu_233 : List CU := [(2, (([(.ofNat 0, .ofNat 0), (.ofNat 20, .ofNat 20), (.ofNat 0, .ofNat 20)], [], [], []), [(2, 240, .ofNat 0), (2, 199, .ofNat 0), (1, 1, .ofNat 0), (1, 2, .ofNat 0)], []), [(0, 0, .ofNat 0), (1, 2, .ofNat 1)])]
theorem ck_233 : cChk [] [] ct_233 cu_233 2000 2 = true := by decide +kernel
theorem cs_233 {s : List Int32} (hm : cMan s) : cSound s ct_233 := cChk_ok (C := []) hC0 hG0 ck_233
/-- WidowDeedsModel.undo -/
def ct_234 : CT := (273, 0, 1, (([(.ofNat 0, .ofNat 0)], [], [], []), [(2, 181, .ofNat 0), (0, 0, .ofNat 0)], []), [(([(.ofNat 0, .ofNat 0), (.ofNat 0, .ofNat 1)], [], [], []), [], [(1, 1, .ofNat 0)])], [(181, 0), (181, 1), (181, 15), (181, 16)])
def cu_234 : List CU := [(225, (([(.ofNat 0, .ofNat 0), (.ofNat 0, .ofNat 40), (.ofNat 0, .ofNat 40), (.ofNat 0, .ofNat 65535), (.ofNat 0, .ofNat 60), (.ofNat 0, .ofNat 20), (.ofNat 1, .ofNat 1), (.ofNat 0, .ofNat 40), (.ofNat 0, .ofNat 60), (.ofNat 0, .ofNat 20), (.ofNat 0, .ofNat 65535)], [(2, 7, .ofNat 0), (3, 10, .ofNat 0), (4, 8, .ofNat 0), (5, 9, .ofNat 0), (7, 2, .ofNat 0), (8, 4, .ofNat 0), (9, 5, .ofNat 0), (10, 3, .ofNat 0)], [], [(181, 0, (1, 2, .ofNat 0)), (181, 1, (1, 3, .ofNat 0)), (181, 15, (1, 4, .ofNat 0)), (181, 16, (1, 5, .ofNat 0)), (181, 64, (1, 6, .ofNat 0)), (181, 65, (1, 7, .ofNat 0)), (181, 66, (1, 8, .ofNat 0)), (181, 67, (1, 9, .ofNat 0)), (181, 68, (1, 10, .ofNat 0))]), [(2, 181, .ofNat 0), (1, 1, .ofNat 0)], []), [(0, 0, .ofNat 0), (2, 1, .ofNat 41)])]
theorem ck_234 : cChk [ct_220, ct_221, ct_222, ct_223, ct_224, ct_225, ct_226, ct_227, ct_228, ct_229, ct_230, ct_231, ct_232, ct_233] [] ct_234 cu_234 2000 2 = true := by decide +kernel
theorem cs_234 {s : List Int32} (hm : cMan s) : cSound s ct_234 := cChk_ok (C := [ct_220, ct_221, ct_222, ct_223, ct_224, ct_225, ct_226, ct_227, ct_228, ct_229, ct_230, ct_231, ct_232, ct_233]) (hCc (cs_220 hm) (hCc (cs_221 hm) (hCc (cs_222 hm) (hCc (cs_223 hm) (hCc (cs_224 hm) (hCc (cs_225 hm) (hCc (cs_226 hm) (hCc (cs_227 hm) (hCc (cs_228 hm) (hCc (cs_229 hm) (hCc (cs_230 hm) (hCc (cs_231 hm) (hCc (cs_232 hm) (hCc (cs_233 hm) hC0)))))))))))))) hG0 ck_234
/-- WidowDeedsModel.tapeNumber -/
def ct_235 : CT := (274, 0, 0, (([(.ofNat 0, .ofNat 0), (.ofNat 0, .ofNat 7)], [], [], []), [(2, 181, .ofNat 0), (1, 1, .ofNat 0), (0, 0, .ofNat 0), (0, 0, .ofNat 0)], []), [(([(.ofNat 0, .ofNat 0), (.ofNat 0, .ofNat 7), (.negSucc 2147483647, .ofNat 2147483647)], [], [], []), [], [(1, 2, .ofNat 0)])], [])
def cu_235 : List CU := [(6, (([(.ofNat 0, .ofNat 0), (.ofNat 0, .ofNat 7), (.negSucc 2147483647, .ofNat 2147483647), (.ofNat 0, .ofNat 39)], [], [], []), [(2, 181, .ofNat 0), (1, 1, .ofNat 0), (1, 2, .ofNat 0), (1, 3, .ofNat 0)], []), [(0, 0, .ofNat 0), (1, 3, .ofNat 40)])]
theorem ck_235 : cChk [] [] ct_235 cu_235 2000 2 = true := by decide +kernel
theorem cs_235 {s : List Int32} (hm : cMan s) : cSound s ct_235 := cChk_ok (C := []) hC0 hG0 ck_235
/-- WidowDeedsModel.check -/
def ct_236 : CT := (275, 0, 63, (([(.ofNat 0, .ofNat 0), (.negSucc 2147483647, .ofNat 2147483647), (.negSucc 2147483647, .ofNat 2147483647)], [], [], []), [(2, 181, .ofNat 0), (1, 1, .ofNat 0), (1, 2, .ofNat 0), (0, 0, .ofNat 0)], []), [(([(.ofNat 0, .ofNat 0), (.negSucc 2147483647, .ofNat 2147483647), (.negSucc 2147483647, .ofNat 2147483647), (.negSucc 1, .ofNat 8)], [], [], []), [], [(1, 3, .ofNat 0)])], [(181, 25), (181, 48), (181, 49)])
def cu_236 : List CU := [(31, (([(.ofNat 0, .ofNat 0), (.ofNat 0, .ofNat 999), (.ofNat 0, .ofNat 50), (.ofNat 0, .ofNat 8)], [], [], [(181, 25, (1, 0, .ofNat 0))]), [(2, 181, .ofNat 0), (1, 1, .ofNat 0), (1, 2, .ofNat 0), (1, 3, .ofNat 0)], []), [(0, 0, .ofNat 0), (0, 3, .ofNat 9)])]
theorem ck_236 : cChk [ct_235, cm_188, cm_223, cm_227] [] ct_236 cu_236 2000 2 = true := by decide +kernel
theorem cs_236 {s : List Int32} (hm : cMan s) : cSound s ct_236 := cChk_ok (C := [ct_235, cm_188, cm_223, cm_227]) (hCc (cs_235 hm) (hCc (cMan_188 hm) (hCc (cMan_223 hm) (hCc (cMan_227 hm) hC0)))) hG0 ck_236
/-- WidowDeedsModel.deedIs -/
def ct_237 : CT := (276, 0, 2, (([(.ofNat 0, .ofNat 0), (.negSucc 2147483647, .ofNat 2147483647), (.negSucc 2147483647, .ofNat 2147483647)], [], [], []), [(2, 181, .ofNat 0), (1, 1, .ofNat 0), (1, 2, .ofNat 0)], []), [(([(.ofNat 0, .ofNat 0), (.negSucc 2147483647, .ofNat 2147483647), (.negSucc 2147483647, .ofNat 2147483647), (.negSucc 2147483647, .ofNat 2147483647)], [], [], []), [], [(1, 3, .ofNat 0)])], [])
def cu_237 : List CU := []
theorem ck_237 : cChk [] [] ct_237 cu_237 2000 0 = true := by decide +kernel
theorem cs_237 {s : List Int32} (hm : cMan s) : cSound s ct_237 := cChk_ok (C := []) hC0 hG0 ck_237
/-- WidowDeedsModel.count -/
def ct_238 : CT := (277, 0, 1, (([(.ofNat 0, .ofNat 0), (.negSucc 2147483647, .ofNat 2147483647)], [], [], []), [(2, 181, .ofNat 0), (1, 1, .ofNat 0)], []), [(([(.ofNat 0, .ofNat 0), (.negSucc 2147483647, .ofNat 2147483647), (.negSucc 0, .ofNat 65535)], [], [], []), [], [(1, 2, .ofNat 0)])], [])
def cu_238 : List CU := []
theorem ck_238 : cChk [] [] ct_238 cu_238 2000 0 = true := by decide +kernel
theorem cs_238 {s : List Int32} (hm : cMan s) : cSound s ct_238 := cChk_ok (C := []) hC0 hG0 ck_238
