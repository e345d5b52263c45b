/-! contracts, on -/
/-- WidowDeedsModel.copies -/
def ct_240 : CT := (271, 0, 0, (([(.ofNat 0, .ofNat 0), (.ofNat 60, .ofNat 60)], [], [], []), [(2, 237, .ofNat 0), (2, 196, .ofNat 0), (1, 1, .ofNat 0), (0, 0, .ofNat 0)], []), [(([(.ofNat 0, .ofNat 0), (.ofNat 60, .ofNat 60)], [], [], []), [], [])], [])
def cu_240 : List CU := [(2, (([(.ofNat 0, .ofNat 0), (.ofNat 60, .ofNat 60), (.ofNat 0, .ofNat 60)], [], [], []), [(2, 237, .ofNat 0), (2, 196, .ofNat 0), (1, 1, .ofNat 0), (1, 2, .ofNat 0)], []), [(0, 0, .ofNat 0), (1, 2, .ofNat 1)])]
theorem ck_240 : cChk [] [] ct_240 cu_240 2000 2 = true := by decide +kernel
theorem cs_240 {s : List Int32} : cSound s ct_240 := cChk_ok (C := []) (G := []) hC0 hG0 ck_240
/-- WidowDeedsModel.copies -/
def ct_241 : CT := (271, 0, 0, (([(.ofNat 0, .ofNat 0), (.ofNat 60, .ofNat 60)], [], [], []), [(2, 238, .ofNat 0), (2, 197, .ofNat 0), (1, 1, .ofNat 0), (0, 0, .ofNat 0)], []), [(([(.ofNat 0, .ofNat 0), (.ofNat 60, .ofNat 60)], [], [], []), [], [])], [])
def cu_241 : List CU := [(2, (([(.ofNat 0, .ofNat 0), (.ofNat 60, .ofNat 60), (.ofNat 0, .ofNat 60)], [], [], []), [(2, 238, .ofNat 0), (2, 197, .ofNat 0), (1, 1, .ofNat 0), (1, 2, .ofNat 0)], []), [(0, 0, .ofNat 0), (1, 2, .ofNat 1)])]
theorem ck_241 : cChk [] [] ct_241 cu_241 2000 2 = true := by decide +kernel
theorem cs_241 {s : List Int32} : cSound s ct_241 := cChk_ok (C := []) (G := []) hC0 hG0 ck_241
/-- WidowDeedsModel.copies -/
def ct_242 : CT := (271, 0, 0, (([(.ofNat 0, .ofNat 0), (.ofNat 20, .ofNat 20)], [], [], []), [(2, 239, .ofNat 0), (2, 198, .ofNat 0), (1, 1, .ofNat 0), (0, 0, .ofNat 0)], []), [(([(.ofNat 0, .ofNat 0), (.ofNat 20, .ofNat 20)], [], [], []), [], [])], [])
def cu_242 : List CU := [(2, (([(.ofNat 0, .ofNat 0), (.ofNat 20, .ofNat 20), (.ofNat 0, .ofNat 20)], [], [], []), [(2, 239, .ofNat 0), (2, 198, .ofNat 0), (1, 1, .ofNat 0), (1, 2, .ofNat 0)], []), [(0, 0, .ofNat 0), (1, 2, .ofNat 1)])]
theorem ck_242 : cChk [] [] ct_242 cu_242 2000 2 = true := by decide +kernel
theorem cs_242 {s : List Int32} : cSound s ct_242 := cChk_ok (C := []) (G := []) hC0 hG0 ck_242
/-- WidowDeedsModel.copies -/
def ct_243 : CT := (271, 0, 0, (([(.ofNat 0, .ofNat 0), (.ofNat 20, .ofNat 20)], [], [], []), [(2, 240, .ofNat 0), (2, 199, .ofNat 0), (1, 1, .ofNat 0), (0, 0, .ofNat 0)], []), [(([(.ofNat 0, .ofNat 0), (.ofNat 20, .ofNat 20)], [], [], []), [], [])], [])
def cu_243 : List CU := [(2, (([(.ofNat 0, .ofNat 0), (.ofNat 20, .ofNat 20), (.ofNat 0, .ofNat 20)], [], [], []), [(2, 240, .ofNat 0), (2, 199, .ofNat 0), (1, 1, .ofNat 0), (1, 2, .ofNat 0)], []), [(0, 0, .ofNat 0), (1, 2, .ofNat 1)])]
theorem ck_243 : cChk [] [] ct_243 cu_243 2000 2 = true := by decide +kernel
theorem cs_243 {s : List Int32} : cSound s ct_243 := cChk_ok (C := []) (G := []) hC0 hG0 ck_243
/-- WidowDeedsModel.undo -/
def ct_244 : CT := (273, 0, 1, (([(.ofNat 0, .ofNat 0)], [], [], []), [(2, 181, .ofNat 0), (0, 0, .ofNat 0)], []), [(([(.ofNat 0, .ofNat 0), (.ofNat 0, .ofNat 1)], [], [], []), [], [(1, 1, .ofNat 0)])], [(181, 0), (181, 1), (181, 15), (181, 16)])
def cu_244 : List CU := [(225, (([(.ofNat 0, .ofNat 0), (.ofNat 0, .ofNat 40), (.ofNat 0, .ofNat 40), (.ofNat 0, .ofNat 65535), (.ofNat 0, .ofNat 60), (.ofNat 0, .ofNat 20), (.ofNat 1, .ofNat 1), (.ofNat 0, .ofNat 40), (.ofNat 0, .ofNat 60), (.ofNat 0, .ofNat 20), (.ofNat 0, .ofNat 65535)], [(2, 7, .ofNat 0), (3, 10, .ofNat 0), (4, 8, .ofNat 0), (5, 9, .ofNat 0), (7, 2, .ofNat 0), (8, 4, .ofNat 0), (9, 5, .ofNat 0), (10, 3, .ofNat 0)], [], [(181, 0, (1, 2, .ofNat 0)), (181, 1, (1, 3, .ofNat 0)), (181, 15, (1, 4, .ofNat 0)), (181, 16, (1, 5, .ofNat 0)), (181, 64, (1, 6, .ofNat 0)), (181, 65, (1, 7, .ofNat 0)), (181, 66, (1, 8, .ofNat 0)), (181, 67, (1, 9, .ofNat 0)), (181, 68, (1, 10, .ofNat 0))]), [(2, 181, .ofNat 0), (1, 1, .ofNat 0)], []), [(0, 0, .ofNat 0), (2, 1, .ofNat 41)])]
theorem ck_244 : cChk [ct_230, ct_231, ct_232, ct_233, ct_234, ct_235, ct_236, ct_237, ct_238, ct_239, ct_240, ct_241, ct_242, ct_243] [] ct_244 cu_244 2000 2 = true := by decide +kernel
theorem cs_244 {s : List Int32} : cSound s ct_244 := cChk_ok (C := [ct_230, ct_231, ct_232, ct_233, ct_234, ct_235, ct_236, ct_237, ct_238, ct_239, ct_240, ct_241, ct_242, ct_243]) (G := []) (hCc cs_230 (hCc cs_231 (hCc cs_232 (hCc cs_233 (hCc cs_234 (hCc cs_235 (hCc cs_236 (hCc cs_237 (hCc cs_238 (hCc cs_239 (hCc cs_240 (hCc cs_241 (hCc cs_242 (hCc cs_243 hC0)))))))))))))) hG0 ck_244
/-- WidowDeedsModel.tapeNumber -/
def ct_245 : CT := (274, 0, 0, (([(.ofNat 0, .ofNat 0), (.ofNat 0, .ofNat 7)], [], [], []), [(2, 181, .ofNat 0), (1, 1, .ofNat 0), (0, 0, .ofNat 0), (0, 0, .ofNat 0)], []), [(([(.ofNat 0, .ofNat 0), (.ofNat 0, .ofNat 7), (.negSucc 2147483647, .ofNat 2147483647)], [], [], []), [], [(1, 2, .ofNat 0)])], [])
def cu_245 : List CU := [(6, (([(.ofNat 0, .ofNat 0), (.ofNat 0, .ofNat 7), (.negSucc 2147483647, .ofNat 2147483647), (.ofNat 0, .ofNat 39)], [], [], []), [(2, 181, .ofNat 0), (1, 1, .ofNat 0), (1, 2, .ofNat 0), (1, 3, .ofNat 0)], []), [(0, 0, .ofNat 0), (1, 3, .ofNat 40)])]
theorem ck_245 : cChk [] [] ct_245 cu_245 2000 2 = true := by decide +kernel
theorem cs_245 {s : List Int32} : cSound s ct_245 := cChk_ok (C := []) (G := []) hC0 hG0 ck_245
/-- WidowDeedsModel.check -/
def ct_246 : CT := (275, 0, 66, (([(.ofNat 0, .ofNat 0), (.negSucc 2147483647, .ofNat 2147483647), (.negSucc 2147483647, .ofNat 2147483647)], [], [], []), [(2, 181, .ofNat 0), (1, 1, .ofNat 0), (1, 2, .ofNat 0), (0, 0, .ofNat 0)], []), [(([(.ofNat 0, .ofNat 0), (.negSucc 2147483647, .ofNat 2147483647), (.negSucc 2147483647, .ofNat 2147483647), (.negSucc 1, .ofNat 8)], [], [], []), [], [(1, 3, .ofNat 0)])], [(181, 25), (181, 48), (181, 49), (201, 0), (217, 0), (1003, 0), (1003, 1), (1003, 2), (1004, 0), (1004, 1), (1004, 2), (1004, 3), (1004, 4), (1004, 5)])
def cu_246 : List CU := [(31, (([(.ofNat 0, .ofNat 0), (.ofNat 0, .ofNat 999), (.ofNat 0, .ofNat 50), (.ofNat 0, .ofNat 8)], [], [], [(181, 25, (1, 0, .ofNat 0))]), [(2, 181, .ofNat 0), (1, 1, .ofNat 0), (1, 2, .ofNat 0), (1, 3, .ofNat 0)], []), [(0, 0, .ofNat 0), (0, 3, .ofNat 9)])]
theorem ck_246 : cChk [ct_164, ct_174, ct_177, ct_245] [] ct_246 cu_246 2000 2 = true := by decide +kernel
theorem cs_246 {s : List Int32} (h_cm_214 : cSound s cm_214) (h_sg_bo1 : gSound s sg_bo1) (h_sg_bo2 : gSound s sg_bo2) (h_sg_lk0 : gSound s sg_lk0) (h_sg_lk1 : gSound s sg_lk1) (h_sg_lk2 : gSound s sg_lk2) (h_sg_lo1 : gSound s sg_lo1) (h_sg_lo2 : gSound s sg_lo2) (h_sg_lo3 : gSound s sg_lo3) (h_sg_lo4 : gSound s sg_lo4) (h_sg_nw1 : gSound s sg_nw1) (h_sg_nw2 : gSound s sg_nw2) (h_sg_po1 : gSound s sg_po1) : cSound s ct_246 := cChk_ok (C := [ct_164, ct_174, ct_177, ct_245]) (G := []) (hCc (cs_164 h_sg_lk0 h_sg_lk1 h_sg_lk2 h_sg_nw1 h_sg_nw2) (hCc (cs_174 h_sg_lo1 h_sg_lo2 h_sg_lo3 h_sg_lo4) (hCc (cs_177 h_cm_214 h_sg_bo1 h_sg_bo2 h_sg_po1) (hCc cs_245 hC0)))) hG0 ck_246
/-- WidowDeedsModel.deedIs -/
def ct_247 : CT := (276, 0, 2, (([(.ofNat 0, .ofNat 0), (.negSucc 2147483647, .ofNat 2147483647), (.negSucc 2147483647, .ofNat 2147483647)], [], [], []), [(2, 181, .ofNat 0), (1, 1, .ofNat 0), (1, 2, .ofNat 0)], []), [(([(.ofNat 0, .ofNat 0), (.negSucc 2147483647, .ofNat 2147483647), (.negSucc 2147483647, .ofNat 2147483647), (.negSucc 2147483647, .ofNat 2147483647)], [], [], []), [], [(1, 3, .ofNat 0)])], [])
def cu_247 : List CU := []
theorem ck_247 : cChk [] [] ct_247 cu_247 2000 0 = true := by decide +kernel
theorem cs_247 {s : List Int32} : cSound s ct_247 := cChk_ok (C := []) (G := []) hC0 hG0 ck_247
/-- WidowDeedsModel.count -/
def ct_248 : CT := (277, 0, 1, (([(.ofNat 0, .ofNat 0), (.negSucc 2147483647, .ofNat 2147483647)], [], [], []), [(2, 181, .ofNat 0), (1, 1, .ofNat 0)], []), [(([(.ofNat 0, .ofNat 0), (.negSucc 2147483647, .ofNat 2147483647), (.negSucc 0, .ofNat 65535)], [], [], []), [], [(1, 2, .ofNat 0)])], [])
def cu_248 : List CU := []
theorem ck_248 : cChk [] [] ct_248 cu_248 2000 0 = true := by decide +kernel
theorem cs_248 {s : List Int32} : cSound s ct_248 := cChk_ok (C := []) (G := []) hC0 hG0 ck_248
