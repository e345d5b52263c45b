/-! contracts, on -/
/-- WidowDeedsModel.copies -/
def ct_240 : CT := (271, 0, 0, (([(.ofNat 0, .ofNat 0), (.ofNat 20, .ofNat 20)], [], [], []), [(2, 198, .ofNat 0), (2, 239, .ofNat 0), (1, 1, .ofNat 0), (0, 0, .ofNat 0)], []), [(([(.ofNat 0, .ofNat 0), (.ofNat 20, .ofNat 20)], [], [], []), [], [])], [])
def cu_240 : List CU := [(2, (([(.ofNat 0, .ofNat 0), (.ofNat 20, .ofNat 20), (.ofNat 0, .ofNat 20)], [], [], []), [(2, 198, .ofNat 0), (2, 239, .ofNat 0), (1, 1, .ofNat 0), (1, 2, .ofNat 0)], []), [(0, 0, .ofNat 0), (1, 2, .ofNat 1)])]
theorem ck_240 : cChk [] [] ct_240 cu_240 2000 2 = true := by decide +kernel
theorem cs_240 {s : List Int32} : cSound s ct_240 := cChk_ok (C := []) (G := []) hC0 hG0 ck_240
/-- WidowDeedsModel.copies -/
def ct_241 : CT := (271, 0, 0, (([(.ofNat 0, .ofNat 0), (.ofNat 20, .ofNat 20)], [], [], []), [(2, 199, .ofNat 0), (2, 240, .ofNat 0), (1, 1, .ofNat 0), (0, 0, .ofNat 0)], []), [(([(.ofNat 0, .ofNat 0), (.ofNat 20, .ofNat 20)], [], [], []), [], [])], [])
def cu_241 : List CU := [(2, (([(.ofNat 0, .ofNat 0), (.ofNat 20, .ofNat 20), (.ofNat 0, .ofNat 20)], [], [], []), [(2, 199, .ofNat 0), (2, 240, .ofNat 0), (1, 1, .ofNat 0), (1, 2, .ofNat 0)], []), [(0, 0, .ofNat 0), (1, 2, .ofNat 1)])]
theorem ck_241 : cChk [] [] ct_241 cu_241 2000 2 = true := by decide +kernel
theorem cs_241 {s : List Int32} : cSound s ct_241 := cChk_ok (C := []) (G := []) hC0 hG0 ck_241
/-- WidowDeedsModel.keep -/
def ct_242 : CT := (272, 0, 1, (([(.ofNat 0, .ofNat 0), (.ofNat 0, .ofNat 40), (.ofNat 0, .ofNat 20), (.ofNat 0, .ofNat 40), (.ofNat 0, .ofNat 20)], [], [], [(181, 0, (1, 1, .ofNat 0)), (181, 16, (1, 2, .ofNat 0)), (181, 65, (1, 3, .ofNat 0)), (181, 67, (1, 4, .ofNat 0))]), [(2, 181, .ofNat 0), (0, 0, .ofNat 0)], []), [(([(.ofNat 0, .ofNat 0), (.ofNat 0, .ofNat 40), (.ofNat 0, .ofNat 20), (.ofNat 0, .ofNat 40), (.ofNat 0, .ofNat 20)], [], [], [(181, 0, (1, 1, .ofNat 0)), (181, 16, (1, 2, .ofNat 0)), (181, 64, (1, 0, .ofNat 1)), (181, 65, (1, 1, .ofNat 0)), (181, 67, (1, 2, .ofNat 0))]), [], [(1, 1, .ofNat 0)])], [(181, 64), (181, 65), (181, 66), (181, 67), (181, 68)])
def cu_242 : List CU := [(221, (([(.ofNat 0, .ofNat 0), (.ofNat 0, .ofNat 40), (.ofNat 0, .ofNat 20), (.ofNat 0, .ofNat 40), (.ofNat 0, .ofNat 20), (.ofNat 0, .ofNat 40), (.ofNat 0, .ofNat 65535), (.ofNat 0, .ofNat 60), (.ofNat 0, .ofNat 60), (.ofNat 0, .ofNat 65535)], [(6, 9, .ofNat 0), (7, 8, .ofNat 0), (8, 7, .ofNat 0), (9, 6, .ofNat 0)], [], [(181, 0, (1, 1, .ofNat 0)), (181, 1, (1, 6, .ofNat 0)), (181, 15, (1, 7, .ofNat 0)), (181, 16, (1, 2, .ofNat 0)), (181, 64, (1, 0, .ofNat 1)), (181, 65, (1, 1, .ofNat 0)), (181, 66, (1, 8, .ofNat 0)), (181, 67, (1, 2, .ofNat 0)), (181, 68, (1, 9, .ofNat 0))]), [(2, 181, .ofNat 0), (1, 5, .ofNat 0)], []), [(0, 0, .ofNat 0), (1, 5, .ofNat 41)])]
theorem ck_242 : cChk [ct_228, ct_229, ct_230, ct_231, ct_232, ct_233, ct_234, ct_235, ct_236, ct_237, ct_238, ct_239, ct_240, ct_241] [] ct_242 cu_242 2000 2 = true := by decide +kernel
theorem cs_242 {s : List Int32} : cSound s ct_242 := cChk_ok (C := [ct_228, ct_229, ct_230, ct_231, ct_232, ct_233, ct_234, ct_235, ct_236, ct_237, ct_238, ct_239, ct_240, ct_241]) (G := []) (hCc cs_228 (hCc cs_229 (hCc cs_230 (hCc cs_231 (hCc cs_232 (hCc cs_233 (hCc cs_234 (hCc cs_235 (hCc cs_236 (hCc cs_237 (hCc cs_238 (hCc cs_239 (hCc cs_240 (hCc cs_241 hC0)))))))))))))) hG0 ck_242
/-- WidowDeedsModel.copies -/
def ct_243 : CT := (271, 0, 0, (([(.ofNat 0, .ofNat 0), (.ofNat 40, .ofNat 40)], [], [], []), [(2, 227, .ofNat 0), (2, 185, .ofNat 0), (1, 1, .ofNat 0), (0, 0, .ofNat 0)], []), [(([(.ofNat 0, .ofNat 0), (.ofNat 40, .ofNat 40)], [], [], []), [], [])], [])
def cu_243 : List CU := [(2, (([(.ofNat 0, .ofNat 0), (.ofNat 40, .ofNat 40), (.ofNat 0, .ofNat 40)], [], [], []), [(2, 227, .ofNat 0), (2, 185, .ofNat 0), (1, 1, .ofNat 0), (1, 2, .ofNat 0)], []), [(0, 0, .ofNat 0), (1, 2, .ofNat 1)])]
theorem ck_243 : cChk [] [] ct_243 cu_243 2000 2 = true := by decide +kernel
theorem cs_243 {s : List Int32} : cSound s ct_243 := cChk_ok (C := []) (G := []) hC0 hG0 ck_243
/-- WidowDeedsModel.copies -/
def ct_244 : CT := (271, 0, 0, (([(.ofNat 0, .ofNat 0), (.ofNat 40, .ofNat 40)], [], [], []), [(2, 228, .ofNat 0), (2, 186, .ofNat 0), (1, 1, .ofNat 0), (0, 0, .ofNat 0)], []), [(([(.ofNat 0, .ofNat 0), (.ofNat 40, .ofNat 40)], [], [], []), [], [])], [])
def cu_244 : List CU := [(2, (([(.ofNat 0, .ofNat 0), (.ofNat 40, .ofNat 40), (.ofNat 0, .ofNat 40)], [], [], []), [(2, 228, .ofNat 0), (2, 186, .ofNat 0), (1, 1, .ofNat 0), (1, 2, .ofNat 0)], []), [(0, 0, .ofNat 0), (1, 2, .ofNat 1)])]
theorem ck_244 : cChk [] [] ct_244 cu_244 2000 2 = true := by decide +kernel
theorem cs_244 {s : List Int32} : cSound s ct_244 := cChk_ok (C := []) (G := []) hC0 hG0 ck_244
/-- WidowDeedsModel.copies -/
def ct_245 : CT := (271, 0, 0, (([(.ofNat 0, .ofNat 0), (.ofNat 40, .ofNat 40)], [], [], []), [(2, 229, .ofNat 0), (2, 187, .ofNat 0), (1, 1, .ofNat 0), (0, 0, .ofNat 0)], []), [(([(.ofNat 0, .ofNat 0), (.ofNat 40, .ofNat 40)], [], [], []), [], [])], [])
def cu_245 : List CU := [(2, (([(.ofNat 0, .ofNat 0), (.ofNat 40, .ofNat 40), (.ofNat 0, .ofNat 40)], [], [], []), [(2, 229, .ofNat 0), (2, 187, .ofNat 0), (1, 1, .ofNat 0), (1, 2, .ofNat 0)], []), [(0, 0, .ofNat 0), (1, 2, .ofNat 1)])]
theorem ck_245 : cChk [] [] ct_245 cu_245 2000 2 = true := by decide +kernel
theorem cs_245 {s : List Int32} : cSound s ct_245 := cChk_ok (C := []) (G := []) hC0 hG0 ck_245
/-- WidowDeedsModel.copies -/
def ct_246 : CT := (271, 0, 0, (([(.ofNat 0, .ofNat 0), (.ofNat 40, .ofNat 40)], [], [], []), [(2, 230, .ofNat 0), (2, 188, .ofNat 0), (1, 1, .ofNat 0), (0, 0, .ofNat 0)], []), [(([(.ofNat 0, .ofNat 0), (.ofNat 40, .ofNat 40)], [], [], []), [], [])], [])
def cu_246 : List CU := [(2, (([(.ofNat 0, .ofNat 0), (.ofNat 40, .ofNat 40), (.ofNat 0, .ofNat 40)], [], [], []), [(2, 230, .ofNat 0), (2, 188, .ofNat 0), (1, 1, .ofNat 0), (1, 2, .ofNat 0)], []), [(0, 0, .ofNat 0), (1, 2, .ofNat 1)])]
theorem ck_246 : cChk [] [] ct_246 cu_246 2000 2 = true := by decide +kernel
theorem cs_246 {s : List Int32} : cSound s ct_246 := cChk_ok (C := []) (G := []) hC0 hG0 ck_246
/-- WidowDeedsModel.copies -/
def ct_247 : CT := (271, 0, 0, (([(.ofNat 0, .ofNat 0), (.ofNat 40, .ofNat 40)], [], [], []), [(2, 231, .ofNat 0), (2, 189, .ofNat 0), (1, 1, .ofNat 0), (0, 0, .ofNat 0)], []), [(([(.ofNat 0, .ofNat 0), (.ofNat 40, .ofNat 40)], [], [], []), [], [])], [])
def cu_247 : List CU := [(2, (([(.ofNat 0, .ofNat 0), (.ofNat 40, .ofNat 40), (.ofNat 0, .ofNat 40)], [], [], []), [(2, 231, .ofNat 0), (2, 189, .ofNat 0), (1, 1, .ofNat 0), (1, 2, .ofNat 0)], []), [(0, 0, .ofNat 0), (1, 2, .ofNat 1)])]
theorem ck_247 : cChk [] [] ct_247 cu_247 2000 2 = true := by decide +kernel
theorem cs_247 {s : List Int32} : cSound s ct_247 := cChk_ok (C := []) (G := []) hC0 hG0 ck_247
/-- WidowDeedsModel.copies -/
def ct_248 : CT := (271, 0, 0, (([(.ofNat 0, .ofNat 0), (.ofNat 40, .ofNat 40)], [], [], []), [(2, 232, .ofNat 0), (2, 190, .ofNat 0), (1, 1, .ofNat 0), (0, 0, .ofNat 0)], []), [(([(.ofNat 0, .ofNat 0), (.ofNat 40, .ofNat 40)], [], [], []), [], [])], [])
def cu_248 : List CU := [(2, (([(.ofNat 0, .ofNat 0), (.ofNat 40, .ofNat 40), (.ofNat 0, .ofNat 40)], [], [], []), [(2, 232, .ofNat 0), (2, 190, .ofNat 0), (1, 1, .ofNat 0), (1, 2, .ofNat 0)], []), [(0, 0, .ofNat 0), (1, 2, .ofNat 1)])]
theorem ck_248 : cChk [] [] ct_248 cu_248 2000 2 = true := by decide +kernel
theorem cs_248 {s : List Int32} : cSound s ct_248 := cChk_ok (C := []) (G := []) hC0 hG0 ck_248
/-- WidowDeedsModel.copies -/
def ct_249 : CT := (271, 0, 0, (([(.ofNat 0, .ofNat 0), (.ofNat 40, .ofNat 40)], [], [], []), [(2, 233, .ofNat 0), (2, 191, .ofNat 0), (1, 1, .ofNat 0), (0, 0, .ofNat 0)], []), [(([(.ofNat 0, .ofNat 0), (.ofNat 40, .ofNat 40)], [], [], []), [], [])], [])
def cu_249 : List CU := [(2, (([(.ofNat 0, .ofNat 0), (.ofNat 40, .ofNat 40), (.ofNat 0, .ofNat 40)], [], [], []), [(2, 233, .ofNat 0), (2, 191, .ofNat 0), (1, 1, .ofNat 0), (1, 2, .ofNat 0)], []), [(0, 0, .ofNat 0), (1, 2, .ofNat 1)])]
theorem ck_249 : cChk [] [] ct_249 cu_249 2000 2 = true := by decide +kernel
theorem cs_249 {s : List Int32} : cSound s ct_249 := cChk_ok (C := []) (G := []) hC0 hG0 ck_249
/-- WidowDeedsModel.copies -/
def ct_250 : CT := (271, 0, 0, (([(.ofNat 0, .ofNat 0), (.ofNat 40, .ofNat 40)], [], [], []), [(2, 234, .ofNat 0), (2, 192, .ofNat 0), (1, 1, .ofNat 0), (0, 0, .ofNat 0)], []), [(([(.ofNat 0, .ofNat 0), (.ofNat 40, .ofNat 40)], [], [], []), [], [])], [])
def cu_250 : List CU := [(2, (([(.ofNat 0, .ofNat 0), (.ofNat 40, .ofNat 40), (.ofNat 0, .ofNat 40)], [], [], []), [(2, 234, .ofNat 0), (2, 192, .ofNat 0), (1, 1, .ofNat 0), (1, 2, .ofNat 0)], []), [(0, 0, .ofNat 0), (1, 2, .ofNat 1)])]
theorem ck_250 : cChk [] [] ct_250 cu_250 2000 2 = true := by decide +kernel
theorem cs_250 {s : List Int32} : cSound s ct_250 := cChk_ok (C := []) (G := []) hC0 hG0 ck_250
/-- WidowDeedsModel.copies -/
def ct_251 : CT := (271, 0, 0, (([(.ofNat 0, .ofNat 0), (.ofNat 40, .ofNat 40)], [], [], []), [(2, 235, .ofNat 0), (2, 193, .ofNat 0), (1, 1, .ofNat 0), (0, 0, .ofNat 0)], []), [(([(.ofNat 0, .ofNat 0), (.ofNat 40, .ofNat 40)], [], [], []), [], [])], [])
def cu_251 : List CU := [(2, (([(.ofNat 0, .ofNat 0), (.ofNat 40, .ofNat 40), (.ofNat 0, .ofNat 40)], [], [], []), [(2, 235, .ofNat 0), (2, 193, .ofNat 0), (1, 1, .ofNat 0), (1, 2, .ofNat 0)], []), [(0, 0, .ofNat 0), (1, 2, .ofNat 1)])]
theorem ck_251 : cChk [] [] ct_251 cu_251 2000 2 = true := by decide +kernel
theorem cs_251 {s : List Int32} : cSound s ct_251 := cChk_ok (C := []) (G := []) hC0 hG0 ck_251
/-- WidowDeedsModel.copies -/
def ct_252 : CT := (271, 0, 0, (([(.ofNat 0, .ofNat 0), (.ofNat 60, .ofNat 60)], [], [], []), [(2, 236, .ofNat 0), (2, 195, .ofNat 0), (1, 1, .ofNat 0), (0, 0, .ofNat 0)], []), [(([(.ofNat 0, .ofNat 0), (.ofNat 60, .ofNat 60)], [], [], []), [], [])], [])
def cu_252 : List CU := [(2, (([(.ofNat 0, .ofNat 0), (.ofNat 60, .ofNat 60), (.ofNat 0, .ofNat 60)], [], [], []), [(2, 236, .ofNat 0), (2, 195, .ofNat 0), (1, 1, .ofNat 0), (1, 2, .ofNat 0)], []), [(0, 0, .ofNat 0), (1, 2, .ofNat 1)])]
theorem ck_252 : cChk [] [] ct_252 cu_252 2000 2 = true := by decide +kernel
theorem cs_252 {s : List Int32} : cSound s ct_252 := cChk_ok (C := []) (G := []) hC0 hG0 ck_252
/-- WidowDeedsModel.copies -/
def ct_253 : CT := (271, 0, 0, (([(.ofNat 0, .ofNat 0), (.ofNat 60, .ofNat 60)], [], [], []), [(2, 237, .ofNat 0), (2, 196, .ofNat 0), (1, 1, .ofNat 0), (0, 0, .ofNat 0)], []), [(([(.ofNat 0, .ofNat 0), (.ofNat 60, .ofNat 60)], [], [], []), [], [])], [])
def cu_253 : List CU := [(2, (([(.ofNat 0, .ofNat 0), (.ofNat 60, .ofNat 60), (.ofNat 0, .ofNat 60)], [], [], []), [(2, 237, .ofNat 0), (2, 196, .ofNat 0), (1, 1, .ofNat 0), (1, 2, .ofNat 0)], []), [(0, 0, .ofNat 0), (1, 2, .ofNat 1)])]
theorem ck_253 : cChk [] [] ct_253 cu_253 2000 2 = true := by decide +kernel
theorem cs_253 {s : List Int32} : cSound s ct_253 := cChk_ok (C := []) (G := []) hC0 hG0 ck_253
/-- WidowDeedsModel.copies -/
def ct_254 : CT := (271, 0, 0, (([(.ofNat 0, .ofNat 0), (.ofNat 60, .ofNat 60)], [], [], []), [(2, 238, .ofNat 0), (2, 197, .ofNat 0), (1, 1, .ofNat 0), (0, 0, .ofNat 0)], []), [(([(.ofNat 0, .ofNat 0), (.ofNat 60, .ofNat 60)], [], [], []), [], [])], [])
def cu_254 : List CU := [(2, (([(.ofNat 0, .ofNat 0), (.ofNat 60, .ofNat 60), (.ofNat 0, .ofNat 60)], [], [], []), [(2, 238, .ofNat 0), (2, 197, .ofNat 0), (1, 1, .ofNat 0), (1, 2, .ofNat 0)], []), [(0, 0, .ofNat 0), (1, 2, .ofNat 1)])]
theorem ck_254 : cChk [] [] ct_254 cu_254 2000 2 = true := by decide +kernel
theorem cs_254 {s : List Int32} : cSound s ct_254 := cChk_ok (C := []) (G := []) hC0 hG0 ck_254
/-- WidowDeedsModel.copies -/
def ct_255 : CT := (271, 0, 0, (([(.ofNat 0, .ofNat 0), (.ofNat 20, .ofNat 20)], [], [], []), [(2, 239, .ofNat 0), (2, 198, .ofNat 0), (1, 1, .ofNat 0), (0, 0, .ofNat 0)], []), [(([(.ofNat 0, .ofNat 0), (.ofNat 20, .ofNat 20)], [], [], []), [], [])], [])
def cu_255 : List CU := [(2, (([(.ofNat 0, .ofNat 0), (.ofNat 20, .ofNat 20), (.ofNat 0, .ofNat 20)], [], [], []), [(2, 239, .ofNat 0), (2, 198, .ofNat 0), (1, 1, .ofNat 0), (1, 2, .ofNat 0)], []), [(0, 0, .ofNat 0), (1, 2, .ofNat 1)])]
theorem ck_255 : cChk [] [] ct_255 cu_255 2000 2 = true := by decide +kernel
theorem cs_255 {s : List Int32} : cSound s ct_255 := cChk_ok (C := []) (G := []) hC0 hG0 ck_255
/-- WidowDeedsModel.copies -/
def ct_256 : CT := (271, 0, 0, (([(.ofNat 0, .ofNat 0), (.ofNat 20, .ofNat 20)], [], [], []), [(2, 240, .ofNat 0), (2, 199, .ofNat 0), (1, 1, .ofNat 0), (0, 0, .ofNat 0)], []), [(([(.ofNat 0, .ofNat 0), (.ofNat 20, .ofNat 20)], [], [], []), [], [])], [])
def cu_256 : List CU := [(2, (([(.ofNat 0, .ofNat 0), (.ofNat 20, .ofNat 20), (.ofNat 0, .ofNat 20)], [], [], []), [(2, 240, .ofNat 0), (2, 199, .ofNat 0), (1, 1, .ofNat 0), (1, 2, .ofNat 0)], []), [(0, 0, .ofNat 0), (1, 2, .ofNat 1)])]
theorem ck_256 : cChk [] [] ct_256 cu_256 2000 2 = true := by decide +kernel
theorem cs_256 {s : List Int32} : cSound s ct_256 := cChk_ok (C := []) (G := []) hC0 hG0 ck_256
/-- WidowDeedsModel.undo -/
def ct_257 : CT := (273, 0, 1, (([(.ofNat 0, .ofNat 0), (.ofNat 0, .ofNat 40), (.ofNat 0, .ofNat 20), (.ofNat 0, .ofNat 1), (.ofNat 0, .ofNat 40), (.ofNat 0, .ofNat 20)], [], [], [(181, 0, (1, 1, .ofNat 0)), (181, 16, (1, 2, .ofNat 0)), (181, 64, (1, 3, .ofNat 0)), (181, 65, (1, 4, .ofNat 0)), (181, 67, (1, 5, .ofNat 0))]), [(2, 181, .ofNat 0), (0, 0, .ofNat 0)], []), [(([(.ofNat 0, .ofNat 0), (.ofNat 0, .ofNat 40), (.ofNat 0, .ofNat 20), (.ofNat 0, .ofNat 1), (.ofNat 0, .ofNat 40), (.ofNat 0, .ofNat 20)], [(3, 0, .ofNat 0)], [], [(181, 0, (1, 1, .ofNat 0)), (181, 16, (1, 2, .ofNat 0)), (181, 64, (1, 3, .ofNat 0)), (181, 65, (1, 4, .ofNat 0)), (181, 67, (1, 5, .ofNat 0))]), [], [(1, 0, .ofNat 0)]), (([(.ofNat 0, .ofNat 0), (.ofNat 0, .ofNat 40), (.ofNat 0, .ofNat 20), (.ofNat 0, .ofNat 1), (.ofNat 0, .ofNat 40), (.ofNat 0, .ofNat 20)], [(0, 3, .negSucc 0)], [], [(181, 0, (1, 4, .ofNat 0)), (181, 16, (1, 5, .ofNat 0)), (181, 64, (1, 3, .ofNat 0)), (181, 65, (1, 4, .ofNat 0)), (181, 67, (1, 5, .ofNat 0))]), [], [(1, 0, .ofNat 1)])], [(181, 0), (181, 1), (181, 15), (181, 16)])
def cu_257 : List CU := [(225, (([(.ofNat 0, .ofNat 0), (.ofNat 0, .ofNat 40), (.ofNat 0, .ofNat 20), (.ofNat 1, .ofNat 1), (.ofNat 0, .ofNat 40), (.ofNat 0, .ofNat 20), (.ofNat 0, .ofNat 40), (.ofNat 0, .ofNat 65535), (.ofNat 0, .ofNat 60), (.ofNat 0, .ofNat 60), (.ofNat 0, .ofNat 65535)], [(7, 10, .ofNat 0), (8, 9, .ofNat 0), (9, 8, .ofNat 0), (10, 7, .ofNat 0)], [], [(181, 0, (1, 4, .ofNat 0)), (181, 1, (1, 7, .ofNat 0)), (181, 15, (1, 8, .ofNat 0)), (181, 16, (1, 5, .ofNat 0)), (181, 64, (1, 3, .ofNat 0)), (181, 65, (1, 4, .ofNat 0)), (181, 66, (1, 9, .ofNat 0)), (181, 67, (1, 5, .ofNat 0)), (181, 68, (1, 10, .ofNat 0))]), [(2, 181, .ofNat 0), (1, 6, .ofNat 0)], []), [(0, 0, .ofNat 0), (4, 6, .ofNat 41)])]
theorem ck_257 : cChk [ct_243, ct_244, ct_245, ct_246, ct_247, ct_248, ct_249, ct_250, ct_251, ct_252, ct_253, ct_254, ct_255, ct_256] [] ct_257 cu_257 2000 2 = true := by decide +kernel
theorem cs_257 {s : List Int32} : cSound s ct_257 := cChk_ok (C := [ct_243, ct_244, ct_245, ct_246, ct_247, ct_248, ct_249, ct_250, ct_251, ct_252, ct_253, ct_254, ct_255, ct_256]) (G := []) (hCc cs_243 (hCc cs_244 (hCc cs_245 (hCc cs_246 (hCc cs_247 (hCc cs_248 (hCc cs_249 (hCc cs_250 (hCc cs_251 (hCc cs_252 (hCc cs_253 (hCc cs_254 (hCc cs_255 (hCc cs_256 hC0)))))))))))))) hG0 ck_257
/-- WidowDeedsModel.tapeNumber -/
def ct_258 : CT := (274, 0, 0, (([(.ofNat 0, .ofNat 0), (.ofNat 0, .ofNat 7)], [], [], []), [(2, 181, .ofNat 0), (1, 1, .ofNat 0), (0, 0, .ofNat 0), (0, 0, .ofNat 0)], []), [(([(.ofNat 0, .ofNat 0), (.ofNat 0, .ofNat 7), (.negSucc 2147483647, .ofNat 2147483647)], [], [], []), [], [(1, 2, .ofNat 0)])], [])
def cu_258 : List CU := [(6, (([(.ofNat 0, .ofNat 0), (.ofNat 0, .ofNat 7), (.negSucc 2147483647, .ofNat 2147483647), (.ofNat 0, .ofNat 35)], [], [], []), [(2, 181, .ofNat 0), (1, 1, .ofNat 0), (1, 2, .ofNat 0), (1, 3, .ofNat 0)], []), [(0, 0, .ofNat 0), (1, 3, .ofNat 36)])]
theorem ck_258 : cChk [] [] ct_258 cu_258 2000 2 = true := by decide +kernel
theorem cs_258 {s : List Int32} : cSound s ct_258 := cChk_ok (C := []) (G := []) hC0 hG0 ck_258
/-- WidowDeedsModel.check -/
def ct_259 : CT := (275, 0, 7, (([(.ofNat 0, .ofNat 0), (.negSucc 2147483647, .ofNat 2147483647), (.negSucc 2147483647, .ofNat 2147483647), (.ofNat 0, .ofNat 200), (.ofNat 0, .ofNat 200), (.ofNat 0, .ofNat 50)], [(3, 4, .ofNat 0), (4, 3, .ofNat 0)], [], [(181, 25, (1, 3, .ofNat 0)), (1012, 0, (1, 4, .ofNat 0)), (1012, 1, (1, 5, .ofNat 0))]), [(2, 181, .ofNat 0), (1, 1, .ofNat 0), (1, 2, .ofNat 0), (0, 0, .ofNat 0)], []), [(([(.ofNat 0, .ofNat 0), (.negSucc 2147483647, .ofNat 2147483647), (.negSucc 2147483647, .ofNat 2147483647), (.ofNat 0, .ofNat 200), (.ofNat 0, .ofNat 200), (.ofNat 0, .ofNat 50)], [(1, 0, .negSucc 0)], [], [(181, 25, (1, 3, .ofNat 0))]), [], [(1, 0, .negSucc 1)]), (([(.ofNat 0, .ofNat 0), (.negSucc 2147483647, .ofNat 2147483647), (.negSucc 2147483647, .ofNat 2147483647), (.ofNat 0, .ofNat 200), (.ofNat 0, .ofNat 200), (.ofNat 0, .ofNat 50)], [(0, 1, .negSucc 999)], [], [(181, 25, (1, 3, .ofNat 0))]), [], [(1, 0, .negSucc 1)]), (([(.ofNat 0, .ofNat 0), (.negSucc 2147483647, .ofNat 2147483647), (.negSucc 2147483647, .ofNat 2147483647), (.ofNat 0, .ofNat 200), (.ofNat 0, .ofNat 200), (.ofNat 0, .ofNat 50)], [(0, 1, .ofNat 0), (1, 0, .ofNat 999), (2, 0, .negSucc 0)], [], [(181, 25, (1, 3, .ofNat 0))]), [], [(1, 0, .negSucc 1)]), (([(.ofNat 0, .ofNat 0), (.negSucc 2147483647, .ofNat 2147483647), (.negSucc 2147483647, .ofNat 2147483647), (.ofNat 0, .ofNat 200), (.ofNat 0, .ofNat 200), (.ofNat 0, .ofNat 50), (.negSucc 0, .ofNat 8)], [(2, 5, .ofNat 0), (0, 1, .ofNat 0), (1, 0, .ofNat 999), (0, 2, .ofNat 0), (2, 0, .ofNat 50)], [], [(181, 25, (1, 0, .ofNat 0))]), [], [(1, 6, .ofNat 0)]), (([(.ofNat 0, .ofNat 0), (.negSucc 2147483647, .ofNat 2147483647), (.negSucc 2147483647, .ofNat 2147483647), (.ofNat 0, .ofNat 200), (.ofNat 0, .ofNat 200), (.ofNat 0, .ofNat 50)], [(5, 2, .negSucc 0), (0, 1, .ofNat 0), (1, 0, .ofNat 999), (0, 2, .negSucc 0)], [], [(181, 25, (1, 3, .ofNat 0))]), [], [(1, 0, .negSucc 1)])], [(181, 25), (181, 48), (181, 49), (201, 0), (215, 0), (217, 0), (1003, 0), (1003, 1), (1003, 2), (1004, 0), (1004, 1), (1004, 2), (1004, 3), (1004, 4), (1004, 5), (1005, 0), (1005, 1), (1005, 2), (1005, 3), (1005, 4), (1005, 5), (1006, 0), (1006, 1), (1006, 2), (1006, 4), (1006, 5), (1006, 6), (1006, 7), (1006, 8)])
def cu_259 : List CU := [(31, (([(.ofNat 0, .ofNat 0), (.ofNat 0, .ofNat 999), (.ofNat 0, .ofNat 50), (.ofNat 0, .ofNat 200), (.ofNat 0, .ofNat 200), (.ofNat 0, .ofNat 50), (.ofNat 0, .ofNat 8)], [(2, 5, .ofNat 0), (3, 4, .ofNat 0), (4, 3, .ofNat 0)], [], [(181, 25, (1, 0, .ofNat 0)), (1012, 0, (1, 4, .ofNat 0)), (1012, 1, (1, 5, .ofNat 0))]), [(2, 181, .ofNat 0), (1, 1, .ofNat 0), (1, 2, .ofNat 0), (1, 6, .ofNat 0)], []), [(0, 0, .ofNat 0), (4, 6, .ofNat 9)])]
theorem ck_259 : cChk [ct_163, ct_187, ct_190, ct_258] [sg_dvm] ct_259 cu_259 2000 2 = true := by decide +kernel
theorem cs_259 {s : List Int32} (h_sg_aq0 : gSound s sg_aq0) (h_sg_aq1 : gSound s sg_aq1) (h_sg_aq2 : gSound s sg_aq2) (h_sg_bo1 : gSound s sg_bo1) (h_sg_bo2 : gSound s sg_bo2) (h_sg_ct0 : gSound s sg_ct0) (h_sg_ct1 : gSound s sg_ct1) (h_sg_ct2 : gSound s sg_ct2) (h_sg_ct3a : gSound s sg_ct3a) (h_sg_ct3b : gSound s sg_ct3b) (h_sg_ct3c : gSound s sg_ct3c) (h_sg_ct3d : gSound s sg_ct3d) (h_sg_ct3e : gSound s sg_ct3e) (h_sg_ct4 : gSound s sg_ct4) (h_sg_ct50 : gSound s sg_ct50) (h_sg_ct51 : gSound s sg_ct51) (h_sg_ct52 : gSound s sg_ct52) (h_sg_ct6 : gSound s sg_ct6) (h_sg_ct7 : gSound s sg_ct7) (h_sg_dvm : gSound s sg_dvm) (h_sg_lk0 : gSound s sg_lk0) (h_sg_lk1 : gSound s sg_lk1) (h_sg_lk2 : gSound s sg_lk2) (h_sg_lo1 : gSound s sg_lo1) (h_sg_lo2 : gSound s sg_lo2) (h_sg_lo3 : gSound s sg_lo3) (h_sg_lo4 : gSound s sg_lo4) (h_sg_nw1 : gSound s sg_nw1) (h_sg_nw2 : gSound s sg_nw2) (h_sg_po1 : gSound s sg_po1) : cSound s ct_259 := cChk_ok (C := [ct_163, ct_187, ct_190, ct_258]) (G := [sg_dvm]) (hCc (cs_163 h_sg_lk0 h_sg_lk1 h_sg_lk2 h_sg_nw1 h_sg_nw2) (hCc (cs_187 h_sg_lo1 h_sg_lo2 h_sg_lo3 h_sg_lo4) (hCc (cs_190 h_sg_aq0 h_sg_aq1 h_sg_aq2 h_sg_bo1 h_sg_bo2 h_sg_ct0 h_sg_ct1 h_sg_ct2 h_sg_ct3a h_sg_ct3b h_sg_ct3c h_sg_ct3d h_sg_ct3e h_sg_ct4 h_sg_ct50 h_sg_ct51 h_sg_ct52 h_sg_ct6 h_sg_ct7 h_sg_po1) (hCc cs_258 hC0)))) (hGc h_sg_dvm hG0) ck_259
/-- WidowDeedsModel.deedIs -/
def ct_260 : CT := (276, 0, 2, (([(.ofNat 0, .ofNat 0), (.negSucc 2147483647, .ofNat 2147483647), (.negSucc 2147483647, .ofNat 2147483647)], [], [], []), [(2, 181, .ofNat 0), (1, 1, .ofNat 0), (1, 2, .ofNat 0)], []), [(([(.ofNat 0, .ofNat 0), (.negSucc 2147483647, .ofNat 2147483647), (.negSucc 2147483647, .ofNat 2147483647), (.negSucc 2147483647, .ofNat 2147483647)], [], [], []), [], [(1, 3, .ofNat 0)])], [])
def cu_260 : List CU := []
theorem ck_260 : cChk [] [] ct_260 cu_260 2000 0 = true := by decide +kernel
theorem cs_260 {s : List Int32} : cSound s ct_260 := cChk_ok (C := []) (G := []) hC0 hG0 ck_260
/-- WidowDeedsModel.count -/
def ct_261 : CT := (277, 0, 1, (([(.ofNat 0, .ofNat 0), (.negSucc 2147483647, .ofNat 2147483647)], [], [], []), [(2, 181, .ofNat 0), (1, 1, .ofNat 0)], []), [(([(.ofNat 0, .ofNat 0), (.negSucc 2147483647, .ofNat 2147483647), (.negSucc 0, .ofNat 65535)], [], [], []), [], [(1, 2, .ofNat 0)])], [])
def cu_261 : List CU := []
theorem ck_261 : cChk [] [] ct_261 cu_261 2000 0 = true := by decide +kernel
theorem cs_261 {s : List Int32} : cSound s ct_261 := cChk_ok (C := []) (G := []) hC0 hG0 ck_261
