/-! contracts, on -/
/-- WidowDeedsModel.getsBy -/
def ct_210 : CT := (266, 0, 2, (([(.ofNat 0, .ofNat 0), (.ofNat 1, .ofNat 255)], [], [], []), [(2, 181, .ofNat 0), (1, 1, .ofNat 0), (0, 0, .ofNat 0), (0, 0, .ofNat 0), (0, 0, .ofNat 0), (0, 0, .ofNat 0)], []), [(([(.ofNat 0, .ofNat 0), (.ofNat 1, .ofNat 255), (.negSucc 2147483647, .ofNat 2147483647)], [], [], []), [], [(1, 2, .ofNat 0)])], [(1002, 0), (1002, 1), (1002, 2), (1002, 3)])
def cu_210 : List CU := [(15, (([(.ofNat 0, .ofNat 0), (.ofNat 1, .ofNat 255), (.negSucc 2147483647, .ofNat 2147483647), (.ofNat 0, .ofNat 255), (.negSucc 2147483647, .ofNat 2147483647)], [], [], []), [(2, 181, .ofNat 0), (1, 1, .ofNat 0), (1, 2, .ofNat 0), (1, 3, .ofNat 0), (1, 4, .ofNat 0), (1, 0, .negSucc 0)], []), [(0, 0, .ofNat 0), (0, 0, .ofNat 0)]), (15, (([(.ofNat 0, .ofNat 0), (.ofNat 1, .ofNat 255), (.negSucc 2147483647, .ofNat 2147483647), (.ofNat 0, .ofNat 255), (.negSucc 2147483647, .ofNat 2147483647), (.ofNat 0, .ofNat 7), (.ofNat 0, .ofNat 7), (.ofNat 0, .ofNat 255)], [(3, 7, .ofNat 0), (5, 6, .ofNat 0), (6, 5, .ofNat 0), (7, 3, .ofNat 0)], [], [(1002, 2, (1, 6, .ofNat 0)), (1002, 3, (1, 7, .ofNat 0))]), [(2, 181, .ofNat 0), (1, 1, .ofNat 0), (1, 2, .ofNat 0), (1, 3, .ofNat 0), (1, 4, .ofNat 0), (1, 5, .ofNat 0)], []), [(0, 0, .ofNat 1), (1, 7, .ofNat 255)])]
theorem ck_210 : cChk [ct_208, ct_209] [sg_gb1] ct_210 cu_210 2000 2 = true := by decide +kernel
theorem cs_210 {s : List Int32} (h_sg_gb1 : gSound s sg_gb1) (h_sg_nb1 : gSound s sg_nb1) (h_sg_nb2 : gSound s sg_nb2) : cSound s ct_210 := cChk_ok (C := [ct_208, ct_209]) (G := [sg_gb1]) (hCc cs_208 (hCc (cs_209 h_sg_nb1 h_sg_nb2) hC0)) (hGc h_sg_gb1 hG0) ck_210
/-- WidowDeedsModel.widow -/
def ct_211 : CT := (267, 0, 3, (([(.ofNat 0, .ofNat 0), (.negSucc 2147483647, .ofNat 2147483647)], [], [], []), [(2, 181, .ofNat 0), (1, 1, .ofNat 0), (0, 0, .ofNat 0), (0, 0, .ofNat 0), (0, 0, .ofNat 0), (0, 0, .ofNat 0)], []), [(([(.ofNat 0, .ofNat 0), (.negSucc 2147483647, .ofNat 2147483647), (.negSucc 0, .ofNat 2147483647)], [], [], []), [], [(1, 2, .ofNat 0)])], [(1002, 0), (1002, 1), (1002, 2), (1002, 3)])
def cu_211 : List CU := [(18, (([(.ofNat 0, .ofNat 0), (.ofNat 0, .ofNat 1), (.ofNat 0, .ofNat 2147483647), (.ofNat 0, .ofNat 2147483647), (.ofNat 1, .ofNat 2147483647)], [(2, 4, .negSucc 0)], [], []), [(2, 181, .ofNat 0), (1, 1, .ofNat 0), (1, 2, .ofNat 0), (1, 3, .ofNat 0), (1, 4, .ofNat 0), (0, 0, .ofNat 0)], []), [(0, 0, .ofNat 0), (1, 4, .ofNat 2147483648)])]
theorem ck_211 : cChk [ct_160, ct_210] [] ct_211 cu_211 2000 2 = true := by decide +kernel
theorem cs_211 {s : List Int32} (h_sg_gb1 : gSound s sg_gb1) (h_sg_nb1 : gSound s sg_nb1) (h_sg_nb2 : gSound s sg_nb2) : cSound s ct_211 := cChk_ok (C := [ct_160, ct_210]) (G := []) (hCc cs_160 (hCc (cs_210 h_sg_gb1 h_sg_nb1 h_sg_nb2) hC0)) hG0 ck_211
/-- WidowDeedsModel.holds -/
def ct_212 : CT := (268, 0, 66, (([(.ofNat 0, .ofNat 0), (.negSucc 2147483647, .ofNat 2147483647), (.negSucc 2147483647, .ofNat 2147483647)], [], [], []), [(2, 181, .ofNat 0), (1, 1, .ofNat 0), (1, 2, .ofNat 0), (0, 0, .ofNat 0), (0, 0, .ofNat 0)], []), [(([(.ofNat 0, .ofNat 0), (.negSucc 2147483647, .ofNat 2147483647), (.negSucc 2147483647, .ofNat 2147483647), (.negSucc 2147483647, .ofNat 2147483647)], [], [], []), [], [(1, 3, .ofNat 0)])], [(181, 48), (181, 49), (201, 0), (217, 0), (1003, 0), (1003, 1), (1003, 2), (1004, 0), (1004, 1), (1004, 2), (1004, 3), (1004, 4), (1004, 5)])
def cu_212 : List CU := [(21, (([(.ofNat 0, .ofNat 0), (.ofNat 0, .ofNat 9), (.ofNat 0, .ofNat 999), (.negSucc 2147483647, .ofNat 2147483647), (.ofNat 0, .ofNat 8)], [], [], []), [(2, 181, .ofNat 0), (1, 1, .ofNat 0), (1, 2, .ofNat 0), (1, 3, .ofNat 0), (1, 4, .ofNat 0)], []), [(0, 0, .ofNat 0), (1, 4, .ofNat 9)])]
theorem ck_212 : cChk [ct_164, ct_174, ct_177] [] ct_212 cu_212 2000 2 = true := by decide +kernel
theorem cs_212 {s : List Int32} (h_cm_214 : cSound s cm_214) (h_sg_bo1 : gSound s sg_bo1) (h_sg_bo2 : gSound s sg_bo2) (h_sg_lk0 : gSound s sg_lk0) (h_sg_lk1 : gSound s sg_lk1) (h_sg_lk2 : gSound s sg_lk2) (h_sg_lo1 : gSound s sg_lo1) (h_sg_lo2 : gSound s sg_lo2) (h_sg_lo3 : gSound s sg_lo3) (h_sg_lo4 : gSound s sg_lo4) (h_sg_nw1 : gSound s sg_nw1) (h_sg_nw2 : gSound s sg_nw2) (h_sg_po1 : gSound s sg_po1) : cSound s ct_212 := cChk_ok (C := [ct_164, ct_174, ct_177]) (G := []) (hCc (cs_164 h_sg_lk0 h_sg_lk1 h_sg_lk2 h_sg_nw1 h_sg_nw2) (hCc (cs_174 h_sg_lo1 h_sg_lo2 h_sg_lo3 h_sg_lo4) (hCc (cs_177 h_cm_214 h_sg_bo1 h_sg_bo2 h_sg_po1) hC0))) hG0 ck_212
/-- WidowDeedsModel.reign -/
def ct_213 : CT := (269, 0, 65, (([(.ofNat 0, .ofNat 0), (.negSucc 2147483647, .ofNat 2147483647), (.negSucc 2147483647, .ofNat 2147483647), (.negSucc 2147483647, .ofNat 2147483647), (.negSucc 2147483647, .ofNat 2147483647)], [], [], []), [(2, 181, .ofNat 0), (1, 1, .ofNat 0), (1, 2, .ofNat 0), (1, 3, .ofNat 0), (1, 4, .ofNat 0), (0, 0, .ofNat 0), (0, 0, .ofNat 0)], []), [(([(.ofNat 0, .ofNat 0), (.negSucc 2147483647, .ofNat 2147483647), (.negSucc 2147483647, .ofNat 2147483647), (.negSucc 2147483647, .ofNat 2147483647), (.negSucc 2147483647, .ofNat 2147483647), (.negSucc 0, .ofNat 1000)], [], [], []), [], [(1, 5, .ofNat 0)])], [(181, 48), (181, 49), (201, 0), (217, 0), (1003, 0), (1003, 1), (1003, 2), (1004, 0), (1004, 1), (1004, 2), (1004, 3), (1004, 4), (1004, 5)])
def cu_213 : List CU := [(56, (([(.ofNat 0, .ofNat 0), (.ofNat 0, .ofNat 7), (.ofNat 0, .ofNat 9), (.ofNat 0, .ofNat 999), (.ofNat 0, .ofNat 999), (.ofNat 0, .ofNat 2147483647), (.ofNat 0, .ofNat 1000)], [(5, 6, .ofNat 0), (3, 6, .ofNat 0)], [], [(1004, 0, (1, 0, .negSucc 0))]), [(2, 181, .ofNat 0), (1, 1, .ofNat 0), (1, 2, .ofNat 0), (1, 3, .ofNat 0), (1, 4, .ofNat 0), (1, 5, .ofNat 0), (1, 6, .ofNat 0)], []), [(0, 0, .ofNat 0), (0, 6, .ofNat 1001)])]
theorem ck_213 : cChk [ct_164, ct_174, ct_177] [] ct_213 cu_213 2000 2 = true := by decide +kernel
theorem cs_213 {s : List Int32} (h_cm_214 : cSound s cm_214) (h_sg_bo1 : gSound s sg_bo1) (h_sg_bo2 : gSound s sg_bo2) (h_sg_lk0 : gSound s sg_lk0) (h_sg_lk1 : gSound s sg_lk1) (h_sg_lk2 : gSound s sg_lk2) (h_sg_lo1 : gSound s sg_lo1) (h_sg_lo2 : gSound s sg_lo2) (h_sg_lo3 : gSound s sg_lo3) (h_sg_lo4 : gSound s sg_lo4) (h_sg_nw1 : gSound s sg_nw1) (h_sg_nw2 : gSound s sg_nw2) (h_sg_po1 : gSound s sg_po1) : cSound s ct_213 := cChk_ok (C := [ct_164, ct_174, ct_177]) (G := []) (hCc (cs_164 h_sg_lk0 h_sg_lk1 h_sg_lk2 h_sg_nw1 h_sg_nw2) (hCc (cs_174 h_sg_lo1 h_sg_lo2 h_sg_lo3 h_sg_lo4) (hCc (cs_177 h_cm_214 h_sg_bo1 h_sg_bo2 h_sg_po1) hC0))) hG0 ck_213
/-- WidowDeedsModel.seed -/
def ct_214 : CT := (270, 0, 1, (([(.ofNat 0, .ofNat 0), (.negSucc 2147483647, .ofNat 2147483647)], [], [], []), [(2, 181, .ofNat 0), (1, 1, .ofNat 0)], []), [(([(.ofNat 0, .ofNat 0), (.negSucc 2147483647, .ofNat 2147483647), (.ofNat 0, .ofNat 1)], [], [], []), [], [(1, 2, .ofNat 0)])], [(181, 1)])
def cu_214 : List CU := []
theorem ck_214 : cChk [] [] ct_214 cu_214 2000 0 = true := by decide +kernel
theorem cs_214 {s : List Int32} : cSound s ct_214 := cChk_ok (C := []) (G := []) hC0 hG0 ck_214
/-- WidowDeedsModel.copies -/
def ct_215 : CT := (271, 0, 0, (([(.ofNat 0, .ofNat 0), (.ofNat 40, .ofNat 40)], [], [], []), [(2, 185, .ofNat 0), (2, 227, .ofNat 0), (1, 1, .ofNat 0), (0, 0, .ofNat 0)], []), [(([(.ofNat 0, .ofNat 0), (.ofNat 40, .ofNat 40)], [], [], []), [], [])], [])
def cu_215 : List CU := [(2, (([(.ofNat 0, .ofNat 0), (.ofNat 40, .ofNat 40), (.ofNat 0, .ofNat 40)], [], [], []), [(2, 185, .ofNat 0), (2, 227, .ofNat 0), (1, 1, .ofNat 0), (1, 2, .ofNat 0)], []), [(0, 0, .ofNat 0), (1, 2, .ofNat 1)])]
theorem ck_215 : cChk [] [] ct_215 cu_215 2000 2 = true := by decide +kernel
theorem cs_215 {s : List Int32} : cSound s ct_215 := cChk_ok (C := []) (G := []) hC0 hG0 ck_215
/-- WidowDeedsModel.copies -/
def ct_216 : CT := (271, 0, 0, (([(.ofNat 0, .ofNat 0), (.ofNat 40, .ofNat 40)], [], [], []), [(2, 186, .ofNat 0), (2, 228, .ofNat 0), (1, 1, .ofNat 0), (0, 0, .ofNat 0)], []), [(([(.ofNat 0, .ofNat 0), (.ofNat 40, .ofNat 40)], [], [], []), [], [])], [])
def cu_216 : List CU := [(2, (([(.ofNat 0, .ofNat 0), (.ofNat 40, .ofNat 40), (.ofNat 0, .ofNat 40)], [], [], []), [(2, 186, .ofNat 0), (2, 228, .ofNat 0), (1, 1, .ofNat 0), (1, 2, .ofNat 0)], []), [(0, 0, .ofNat 0), (1, 2, .ofNat 1)])]
theorem ck_216 : cChk [] [] ct_216 cu_216 2000 2 = true := by decide +kernel
theorem cs_216 {s : List Int32} : cSound s ct_216 := cChk_ok (C := []) (G := []) hC0 hG0 ck_216
/-- WidowDeedsModel.copies -/
def ct_217 : CT := (271, 0, 0, (([(.ofNat 0, .ofNat 0), (.ofNat 40, .ofNat 40)], [], [], []), [(2, 187, .ofNat 0), (2, 229, .ofNat 0), (1, 1, .ofNat 0), (0, 0, .ofNat 0)], []), [(([(.ofNat 0, .ofNat 0), (.ofNat 40, .ofNat 40)], [], [], []), [], [])], [])
def cu_217 : List CU := [(2, (([(.ofNat 0, .ofNat 0), (.ofNat 40, .ofNat 40), (.ofNat 0, .ofNat 40)], [], [], []), [(2, 187, .ofNat 0), (2, 229, .ofNat 0), (1, 1, .ofNat 0), (1, 2, .ofNat 0)], []), [(0, 0, .ofNat 0), (1, 2, .ofNat 1)])]
theorem ck_217 : cChk [] [] ct_217 cu_217 2000 2 = true := by decide +kernel
theorem cs_217 {s : List Int32} : cSound s ct_217 := cChk_ok (C := []) (G := []) hC0 hG0 ck_217
/-- WidowDeedsModel.copies -/
def ct_218 : CT := (271, 0, 0, (([(.ofNat 0, .ofNat 0), (.ofNat 40, .ofNat 40)], [], [], []), [(2, 188, .ofNat 0), (2, 230, .ofNat 0), (1, 1, .ofNat 0), (0, 0, .ofNat 0)], []), [(([(.ofNat 0, .ofNat 0), (.ofNat 40, .ofNat 40)], [], [], []), [], [])], [])
def cu_218 : List CU := [(2, (([(.ofNat 0, .ofNat 0), (.ofNat 40, .ofNat 40), (.ofNat 0, .ofNat 40)], [], [], []), [(2, 188, .ofNat 0), (2, 230, .ofNat 0), (1, 1, .ofNat 0), (1, 2, .ofNat 0)], []), [(0, 0, .ofNat 0), (1, 2, .ofNat 1)])]
theorem ck_218 : cChk [] [] ct_218 cu_218 2000 2 = true := by decide +kernel
theorem cs_218 {s : List Int32} : cSound s ct_218 := cChk_ok (C := []) (G := []) hC0 hG0 ck_218
/-- WidowDeedsModel.copies -/
def ct_219 : CT := (271, 0, 0, (([(.ofNat 0, .ofNat 0), (.ofNat 40, .ofNat 40)], [], [], []), [(2, 189, .ofNat 0), (2, 231, .ofNat 0), (1, 1, .ofNat 0), (0, 0, .ofNat 0)], []), [(([(.ofNat 0, .ofNat 0), (.ofNat 40, .ofNat 40)], [], [], []), [], [])], [])
def cu_219 : List CU := [(2, (([(.ofNat 0, .ofNat 0), (.ofNat 40, .ofNat 40), (.ofNat 0, .ofNat 40)], [], [], []), [(2, 189, .ofNat 0), (2, 231, .ofNat 0), (1, 1, .ofNat 0), (1, 2, .ofNat 0)], []), [(0, 0, .ofNat 0), (1, 2, .ofNat 1)])]
theorem ck_219 : cChk [] [] ct_219 cu_219 2000 2 = true := by decide +kernel
theorem cs_219 {s : List Int32} : cSound s ct_219 := cChk_ok (C := []) (G := []) hC0 hG0 ck_219
/-- WidowDeedsModel.copies -/
def ct_220 : CT := (271, 0, 0, (([(.ofNat 0, .ofNat 0), (.ofNat 40, .ofNat 40)], [], [], []), [(2, 190, .ofNat 0), (2, 232, .ofNat 0), (1, 1, .ofNat 0), (0, 0, .ofNat 0)], []), [(([(.ofNat 0, .ofNat 0), (.ofNat 40, .ofNat 40)], [], [], []), [], [])], [])
def cu_220 : List CU := [(2, (([(.ofNat 0, .ofNat 0), (.ofNat 40, .ofNat 40), (.ofNat 0, .ofNat 40)], [], [], []), [(2, 190, .ofNat 0), (2, 232, .ofNat 0), (1, 1, .ofNat 0), (1, 2, .ofNat 0)], []), [(0, 0, .ofNat 0), (1, 2, .ofNat 1)])]
theorem ck_220 : cChk [] [] ct_220 cu_220 2000 2 = true := by decide +kernel
theorem cs_220 {s : List Int32} : cSound s ct_220 := cChk_ok (C := []) (G := []) hC0 hG0 ck_220
/-- WidowDeedsModel.copies -/
def ct_221 : CT := (271, 0, 0, (([(.ofNat 0, .ofNat 0), (.ofNat 40, .ofNat 40)], [], [], []), [(2, 191, .ofNat 0), (2, 233, .ofNat 0), (1, 1, .ofNat 0), (0, 0, .ofNat 0)], []), [(([(.ofNat 0, .ofNat 0), (.ofNat 40, .ofNat 40)], [], [], []), [], [])], [])
def cu_221 : List CU := [(2, (([(.ofNat 0, .ofNat 0), (.ofNat 40, .ofNat 40), (.ofNat 0, .ofNat 40)], [], [], []), [(2, 191, .ofNat 0), (2, 233, .ofNat 0), (1, 1, .ofNat 0), (1, 2, .ofNat 0)], []), [(0, 0, .ofNat 0), (1, 2, .ofNat 1)])]
theorem ck_221 : cChk [] [] ct_221 cu_221 2000 2 = true := by decide +kernel
theorem cs_221 {s : List Int32} : cSound s ct_221 := cChk_ok (C := []) (G := []) hC0 hG0 ck_221
/-- WidowDeedsModel.copies -/
def ct_222 : CT := (271, 0, 0, (([(.ofNat 0, .ofNat 0), (.ofNat 40, .ofNat 40)], [], [], []), [(2, 192, .ofNat 0), (2, 234, .ofNat 0), (1, 1, .ofNat 0), (0, 0, .ofNat 0)], []), [(([(.ofNat 0, .ofNat 0), (.ofNat 40, .ofNat 40)], [], [], []), [], [])], [])
def cu_222 : List CU := [(2, (([(.ofNat 0, .ofNat 0), (.ofNat 40, .ofNat 40), (.ofNat 0, .ofNat 40)], [], [], []), [(2, 192, .ofNat 0), (2, 234, .ofNat 0), (1, 1, .ofNat 0), (1, 2, .ofNat 0)], []), [(0, 0, .ofNat 0), (1, 2, .ofNat 1)])]
theorem ck_222 : cChk [] [] ct_222 cu_222 2000 2 = true := by decide +kernel
theorem cs_222 {s : List Int32} : cSound s ct_222 := cChk_ok (C := []) (G := []) hC0 hG0 ck_222
/-- WidowDeedsModel.copies -/
def ct_223 : CT := (271, 0, 0, (([(.ofNat 0, .ofNat 0), (.ofNat 40, .ofNat 40)], [], [], []), [(2, 193, .ofNat 0), (2, 235, .ofNat 0), (1, 1, .ofNat 0), (0, 0, .ofNat 0)], []), [(([(.ofNat 0, .ofNat 0), (.ofNat 40, .ofNat 40)], [], [], []), [], [])], [])
def cu_223 : List CU := [(2, (([(.ofNat 0, .ofNat 0), (.ofNat 40, .ofNat 40), (.ofNat 0, .ofNat 40)], [], [], []), [(2, 193, .ofNat 0), (2, 235, .ofNat 0), (1, 1, .ofNat 0), (1, 2, .ofNat 0)], []), [(0, 0, .ofNat 0), (1, 2, .ofNat 1)])]
theorem ck_223 : cChk [] [] ct_223 cu_223 2000 2 = true := by decide +kernel
theorem cs_223 {s : List Int32} : cSound s ct_223 := cChk_ok (C := []) (G := []) hC0 hG0 ck_223
/-- WidowDeedsModel.copies -/
def ct_224 : CT := (271, 0, 0, (([(.ofNat 0, .ofNat 0), (.ofNat 60, .ofNat 60)], [], [], []), [(2, 195, .ofNat 0), (2, 236, .ofNat 0), (1, 1, .ofNat 0), (0, 0, .ofNat 0)], []), [(([(.ofNat 0, .ofNat 0), (.ofNat 60, .ofNat 60)], [], [], []), [], [])], [])
def cu_224 : List CU := [(2, (([(.ofNat 0, .ofNat 0), (.ofNat 60, .ofNat 60), (.ofNat 0, .ofNat 60)], [], [], []), [(2, 195, .ofNat 0), (2, 236, .ofNat 0), (1, 1, .ofNat 0), (1, 2, .ofNat 0)], []), [(0, 0, .ofNat 0), (1, 2, .ofNat 1)])]
theorem ck_224 : cChk [] [] ct_224 cu_224 2000 2 = true := by decide +kernel
theorem cs_224 {s : List Int32} : cSound s ct_224 := cChk_ok (C := []) (G := []) hC0 hG0 ck_224
/-- WidowDeedsModel.copies -/
def ct_225 : CT := (271, 0, 0, (([(.ofNat 0, .ofNat 0), (.ofNat 60, .ofNat 60)], [], [], []), [(2, 196, .ofNat 0), (2, 237, .ofNat 0), (1, 1, .ofNat 0), (0, 0, .ofNat 0)], []), [(([(.ofNat 0, .ofNat 0), (.ofNat 60, .ofNat 60)], [], [], []), [], [])], [])
def cu_225 : List CU := [(2, (([(.ofNat 0, .ofNat 0), (.ofNat 60, .ofNat 60), (.ofNat 0, .ofNat 60)], [], [], []), [(2, 196, .ofNat 0), (2, 237, .ofNat 0), (1, 1, .ofNat 0), (1, 2, .ofNat 0)], []), [(0, 0, .ofNat 0), (1, 2, .ofNat 1)])]
theorem ck_225 : cChk [] [] ct_225 cu_225 2000 2 = true := by decide +kernel
theorem cs_225 {s : List Int32} : cSound s ct_225 := cChk_ok (C := []) (G := []) hC0 hG0 ck_225
/-- WidowDeedsModel.copies -/
def ct_226 : CT := (271, 0, 0, (([(.ofNat 0, .ofNat 0), (.ofNat 60, .ofNat 60)], [], [], []), [(2, 197, .ofNat 0), (2, 238, .ofNat 0), (1, 1, .ofNat 0), (0, 0, .ofNat 0)], []), [(([(.ofNat 0, .ofNat 0), (.ofNat 60, .ofNat 60)], [], [], []), [], [])], [])
def cu_226 : List CU := [(2, (([(.ofNat 0, .ofNat 0), (.ofNat 60, .ofNat 60), (.ofNat 0, .ofNat 60)], [], [], []), [(2, 197, .ofNat 0), (2, 238, .ofNat 0), (1, 1, .ofNat 0), (1, 2, .ofNat 0)], []), [(0, 0, .ofNat 0), (1, 2, .ofNat 1)])]
theorem ck_226 : cChk [] [] ct_226 cu_226 2000 2 = true := by decide +kernel
theorem cs_226 {s : List Int32} : cSound s ct_226 := cChk_ok (C := []) (G := []) hC0 hG0 ck_226
/-- WidowDeedsModel.copies -/
def ct_227 : CT := (271, 0, 0, (([(.ofNat 0, .ofNat 0), (.ofNat 20, .ofNat 20)], [], [], []), [(2, 198, .ofNat 0), (2, 239, .ofNat 0), (1, 1, .ofNat 0), (0, 0, .ofNat 0)], []), [(([(.ofNat 0, .ofNat 0), (.ofNat 20, .ofNat 20)], [], [], []), [], [])], [])
def cu_227 : List CU := [(2, (([(.ofNat 0, .ofNat 0), (.ofNat 20, .ofNat 20), (.ofNat 0, .ofNat 20)], [], [], []), [(2, 198, .ofNat 0), (2, 239, .ofNat 0), (1, 1, .ofNat 0), (1, 2, .ofNat 0)], []), [(0, 0, .ofNat 0), (1, 2, .ofNat 1)])]
theorem ck_227 : cChk [] [] ct_227 cu_227 2000 2 = true := by decide +kernel
theorem cs_227 {s : List Int32} : cSound s ct_227 := cChk_ok (C := []) (G := []) hC0 hG0 ck_227
/-- WidowDeedsModel.copies -/
def ct_228 : CT := (271, 0, 0, (([(.ofNat 0, .ofNat 0), (.ofNat 20, .ofNat 20)], [], [], []), [(2, 199, .ofNat 0), (2, 240, .ofNat 0), (1, 1, .ofNat 0), (0, 0, .ofNat 0)], []), [(([(.ofNat 0, .ofNat 0), (.ofNat 20, .ofNat 20)], [], [], []), [], [])], [])
def cu_228 : List CU := [(2, (([(.ofNat 0, .ofNat 0), (.ofNat 20, .ofNat 20), (.ofNat 0, .ofNat 20)], [], [], []), [(2, 199, .ofNat 0), (2, 240, .ofNat 0), (1, 1, .ofNat 0), (1, 2, .ofNat 0)], []), [(0, 0, .ofNat 0), (1, 2, .ofNat 1)])]
theorem ck_228 : cChk [] [] ct_228 cu_228 2000 2 = true := by decide +kernel
theorem cs_228 {s : List Int32} : cSound s ct_228 := cChk_ok (C := []) (G := []) hC0 hG0 ck_228
/-- WidowDeedsModel.keep -/
def ct_229 : CT := (272, 0, 1, (([(.ofNat 0, .ofNat 0)], [], [], []), [(2, 181, .ofNat 0), (0, 0, .ofNat 0)], []), [(([(.ofNat 0, .ofNat 0), (.ofNat 0, .ofNat 40)], [], [], []), [], [(1, 1, .ofNat 0)])], [(181, 64), (181, 65), (181, 66), (181, 67), (181, 68)])
def cu_229 : List CU := [(221, (([(.ofNat 0, .ofNat 0), (.ofNat 0, .ofNat 40), (.ofNat 0, .ofNat 40), (.ofNat 0, .ofNat 65535), (.ofNat 0, .ofNat 60), (.ofNat 0, .ofNat 20), (.ofNat 0, .ofNat 40), (.ofNat 0, .ofNat 60), (.ofNat 0, .ofNat 20), (.ofNat 0, .ofNat 65535)], [(2, 6, .ofNat 0), (3, 9, .ofNat 0), (4, 7, .ofNat 0), (5, 8, .ofNat 0), (6, 2, .ofNat 0), (7, 4, .ofNat 0), (8, 5, .ofNat 0), (9, 3, .ofNat 0)], [], [(181, 0, (1, 2, .ofNat 0)), (181, 1, (1, 3, .ofNat 0)), (181, 15, (1, 4, .ofNat 0)), (181, 16, (1, 5, .ofNat 0)), (181, 64, (1, 0, .ofNat 1)), (181, 65, (1, 6, .ofNat 0)), (181, 66, (1, 7, .ofNat 0)), (181, 67, (1, 8, .ofNat 0)), (181, 68, (1, 9, .ofNat 0))]), [(2, 181, .ofNat 0), (1, 1, .ofNat 0)], []), [(0, 0, .ofNat 0), (2, 1, .ofNat 41)])]
theorem ck_229 : cChk [ct_215, ct_216, ct_217, ct_218, ct_219, ct_220, ct_221, ct_222, ct_223, ct_224, ct_225, ct_226, ct_227, ct_228] [] ct_229 cu_229 2000 2 = true := by decide +kernel
theorem cs_229 {s : List Int32} : cSound s ct_229 := cChk_ok (C := [ct_215, ct_216, ct_217, ct_218, ct_219, ct_220, ct_221, ct_222, ct_223, ct_224, ct_225, ct_226, ct_227, ct_228]) (G := []) (hCc cs_215 (hCc cs_216 (hCc cs_217 (hCc cs_218 (hCc cs_219 (hCc cs_220 (hCc cs_221 (hCc cs_222 (hCc cs_223 (hCc cs_224 (hCc cs_225 (hCc cs_226 (hCc cs_227 (hCc cs_228 hC0)))))))))))))) hG0 ck_229
/-- WidowDeedsModel.copies -/
def ct_230 : CT := (271, 0, 0, (([(.ofNat 0, .ofNat 0), (.ofNat 40, .ofNat 40)], [], [], []), [(2, 227, .ofNat 0), (2, 185, .ofNat 0), (1, 1, .ofNat 0), (0, 0, .ofNat 0)], []), [(([(.ofNat 0, .ofNat 0), (.ofNat 40, .ofNat 40)], [], [], []), [], [])], [])
def cu_230 : List CU := [(2, (([(.ofNat 0, .ofNat 0), (.ofNat 40, .ofNat 40), (.ofNat 0, .ofNat 40)], [], [], []), [(2, 227, .ofNat 0), (2, 185, .ofNat 0), (1, 1, .ofNat 0), (1, 2, .ofNat 0)], []), [(0, 0, .ofNat 0), (1, 2, .ofNat 1)])]
theorem ck_230 : cChk [] [] ct_230 cu_230 2000 2 = true := by decide +kernel
theorem cs_230 {s : List Int32} : cSound s ct_230 := cChk_ok (C := []) (G := []) hC0 hG0 ck_230
/-- WidowDeedsModel.copies -/
def ct_231 : CT := (271, 0, 0, (([(.ofNat 0, .ofNat 0), (.ofNat 40, .ofNat 40)], [], [], []), [(2, 228, .ofNat 0), (2, 186, .ofNat 0), (1, 1, .ofNat 0), (0, 0, .ofNat 0)], []), [(([(.ofNat 0, .ofNat 0), (.ofNat 40, .ofNat 40)], [], [], []), [], [])], [])
def cu_231 : List CU := [(2, (([(.ofNat 0, .ofNat 0), (.ofNat 40, .ofNat 40), (.ofNat 0, .ofNat 40)], [], [], []), [(2, 228, .ofNat 0), (2, 186, .ofNat 0), (1, 1, .ofNat 0), (1, 2, .ofNat 0)], []), [(0, 0, .ofNat 0), (1, 2, .ofNat 1)])]
theorem ck_231 : cChk [] [] ct_231 cu_231 2000 2 = true := by decide +kernel
theorem cs_231 {s : List Int32} : cSound s ct_231 := cChk_ok (C := []) (G := []) hC0 hG0 ck_231
/-- WidowDeedsModel.copies -/
def ct_232 : CT := (271, 0, 0, (([(.ofNat 0, .ofNat 0), (.ofNat 40, .ofNat 40)], [], [], []), [(2, 229, .ofNat 0), (2, 187, .ofNat 0), (1, 1, .ofNat 0), (0, 0, .ofNat 0)], []), [(([(.ofNat 0, .ofNat 0), (.ofNat 40, .ofNat 40)], [], [], []), [], [])], [])
def cu_232 : List CU := [(2, (([(.ofNat 0, .ofNat 0), (.ofNat 40, .ofNat 40), (.ofNat 0, .ofNat 40)], [], [], []), [(2, 229, .ofNat 0), (2, 187, .ofNat 0), (1, 1, .ofNat 0), (1, 2, .ofNat 0)], []), [(0, 0, .ofNat 0), (1, 2, .ofNat 1)])]
theorem ck_232 : cChk [] [] ct_232 cu_232 2000 2 = true := by decide +kernel
theorem cs_232 {s : List Int32} : cSound s ct_232 := cChk_ok (C := []) (G := []) hC0 hG0 ck_232
/-- WidowDeedsModel.copies -/
def ct_233 : CT := (271, 0, 0, (([(.ofNat 0, .ofNat 0), (.ofNat 40, .ofNat 40)], [], [], []), [(2, 230, .ofNat 0), (2, 188, .ofNat 0), (1, 1, .ofNat 0), (0, 0, .ofNat 0)], []), [(([(.ofNat 0, .ofNat 0), (.ofNat 40, .ofNat 40)], [], [], []), [], [])], [])
def cu_233 : List CU := [(2, (([(.ofNat 0, .ofNat 0), (.ofNat 40, .ofNat 40), (.ofNat 0, .ofNat 40)], [], [], []), [(2, 230, .ofNat 0), (2, 188, .ofNat 0), (1, 1, .ofNat 0), (1, 2, .ofNat 0)], []), [(0, 0, .ofNat 0), (1, 2, .ofNat 1)])]
theorem ck_233 : cChk [] [] ct_233 cu_233 2000 2 = true := by decide +kernel
theorem cs_233 {s : List Int32} : cSound s ct_233 := cChk_ok (C := []) (G := []) hC0 hG0 ck_233
/-- WidowDeedsModel.copies -/
def ct_234 : CT := (271, 0, 0, (([(.ofNat 0, .ofNat 0), (.ofNat 40, .ofNat 40)], [], [], []), [(2, 231, .ofNat 0), (2, 189, .ofNat 0), (1, 1, .ofNat 0), (0, 0, .ofNat 0)], []), [(([(.ofNat 0, .ofNat 0), (.ofNat 40, .ofNat 40)], [], [], []), [], [])], [])
def cu_234 : List CU := [(2, (([(.ofNat 0, .ofNat 0), (.ofNat 40, .ofNat 40), (.ofNat 0, .ofNat 40)], [], [], []), [(2, 231, .ofNat 0), (2, 189, .ofNat 0), (1, 1, .ofNat 0), (1, 2, .ofNat 0)], []), [(0, 0, .ofNat 0), (1, 2, .ofNat 1)])]
theorem ck_234 : cChk [] [] ct_234 cu_234 2000 2 = true := by decide +kernel
theorem cs_234 {s : List Int32} : cSound s ct_234 := cChk_ok (C := []) (G := []) hC0 hG0 ck_234
/-- WidowDeedsModel.copies -/
def ct_235 : CT := (271, 0, 0, (([(.ofNat 0, .ofNat 0), (.ofNat 40, .ofNat 40)], [], [], []), [(2, 232, .ofNat 0), (2, 190, .ofNat 0), (1, 1, .ofNat 0), (0, 0, .ofNat 0)], []), [(([(.ofNat 0, .ofNat 0), (.ofNat 40, .ofNat 40)], [], [], []), [], [])], [])
def cu_235 : List CU := [(2, (([(.ofNat 0, .ofNat 0), (.ofNat 40, .ofNat 40), (.ofNat 0, .ofNat 40)], [], [], []), [(2, 232, .ofNat 0), (2, 190, .ofNat 0), (1, 1, .ofNat 0), (1, 2, .ofNat 0)], []), [(0, 0, .ofNat 0), (1, 2, .ofNat 1)])]
theorem ck_235 : cChk [] [] ct_235 cu_235 2000 2 = true := by decide +kernel
theorem cs_235 {s : List Int32} : cSound s ct_235 := cChk_ok (C := []) (G := []) hC0 hG0 ck_235
/-- WidowDeedsModel.copies -/
def ct_236 : CT := (271, 0, 0, (([(.ofNat 0, .ofNat 0), (.ofNat 40, .ofNat 40)], [], [], []), [(2, 233, .ofNat 0), (2, 191, .ofNat 0), (1, 1, .ofNat 0), (0, 0, .ofNat 0)], []), [(([(.ofNat 0, .ofNat 0), (.ofNat 40, .ofNat 40)], [], [], []), [], [])], [])
def cu_236 : List CU := [(2, (([(.ofNat 0, .ofNat 0), (.ofNat 40, .ofNat 40), (.ofNat 0, .ofNat 40)], [], [], []), [(2, 233, .ofNat 0), (2, 191, .ofNat 0), (1, 1, .ofNat 0), (1, 2, .ofNat 0)], []), [(0, 0, .ofNat 0), (1, 2, .ofNat 1)])]
theorem ck_236 : cChk [] [] ct_236 cu_236 2000 2 = true := by decide +kernel
theorem cs_236 {s : List Int32} : cSound s ct_236 := cChk_ok (C := []) (G := []) hC0 hG0 ck_236
/-- WidowDeedsModel.copies -/
def ct_237 : CT := (271, 0, 0, (([(.ofNat 0, .ofNat 0), (.ofNat 40, .ofNat 40)], [], [], []), [(2, 234, .ofNat 0), (2, 192, .ofNat 0), (1, 1, .ofNat 0), (0, 0, .ofNat 0)], []), [(([(.ofNat 0, .ofNat 0), (.ofNat 40, .ofNat 40)], [], [], []), [], [])], [])
def cu_237 : List CU := [(2, (([(.ofNat 0, .ofNat 0), (.ofNat 40, .ofNat 40), (.ofNat 0, .ofNat 40)], [], [], []), [(2, 234, .ofNat 0), (2, 192, .ofNat 0), (1, 1, .ofNat 0), (1, 2, .ofNat 0)], []), [(0, 0, .ofNat 0), (1, 2, .ofNat 1)])]
theorem ck_237 : cChk [] [] ct_237 cu_237 2000 2 = true := by decide +kernel
theorem cs_237 {s : List Int32} : cSound s ct_237 := cChk_ok (C := []) (G := []) hC0 hG0 ck_237
/-- WidowDeedsModel.copies -/
def ct_238 : CT := (271, 0, 0, (([(.ofNat 0, .ofNat 0), (.ofNat 40, .ofNat 40)], [], [], []), [(2, 235, .ofNat 0), (2, 193, .ofNat 0), (1, 1, .ofNat 0), (0, 0, .ofNat 0)], []), [(([(.ofNat 0, .ofNat 0), (.ofNat 40, .ofNat 40)], [], [], []), [], [])], [])
def cu_238 : List CU := [(2, (([(.ofNat 0, .ofNat 0), (.ofNat 40, .ofNat 40), (.ofNat 0, .ofNat 40)], [], [], []), [(2, 235, .ofNat 0), (2, 193, .ofNat 0), (1, 1, .ofNat 0), (1, 2, .ofNat 0)], []), [(0, 0, .ofNat 0), (1, 2, .ofNat 1)])]
theorem ck_238 : cChk [] [] ct_238 cu_238 2000 2 = true := by decide +kernel
theorem cs_238 {s : List Int32} : cSound s ct_238 := cChk_ok (C := []) (G := []) hC0 hG0 ck_238
/-- WidowDeedsModel.copies -/
def ct_239 : CT := (271, 0, 0, (([(.ofNat 0, .ofNat 0), (.ofNat 60, .ofNat 60)], [], [], []), [(2, 236, .ofNat 0), (2, 195, .ofNat 0), (1, 1, .ofNat 0), (0, 0, .ofNat 0)], []), [(([(.ofNat 0, .ofNat 0), (.ofNat 60, .ofNat 60)], [], [], []), [], [])], [])
def cu_239 : List CU := [(2, (([(.ofNat 0, .ofNat 0), (.ofNat 60, .ofNat 60), (.ofNat 0, .ofNat 60)], [], [], []), [(2, 236, .ofNat 0), (2, 195, .ofNat 0), (1, 1, .ofNat 0), (1, 2, .ofNat 0)], []), [(0, 0, .ofNat 0), (1, 2, .ofNat 1)])]
theorem ck_239 : cChk [] [] ct_239 cu_239 2000 2 = true := by decide +kernel
theorem cs_239 {s : List Int32} : cSound s ct_239 := cChk_ok (C := []) (G := []) hC0 hG0 ck_239
