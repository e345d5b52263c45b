/-! contracts, on -/
/-- WidowDeedsModel.undo -/
def ct_180 : CT := (273, 0, 1, (([(.ofNat 0, .ofNat 0)], [], [], []), [(2, 181, .ofNat 0), (0, 0, .ofNat 0)], []), [(([(.ofNat 0, .ofNat 0), (.ofNat 0, .ofNat 1)], [], [], []), [], [(1, 1, .ofNat 0)])], [(181, 0), (181, 1), (181, 15), (181, 16)])
def cu_180 : List CU := [(225, (([(.ofNat 0, .ofNat 0), (.ofNat 0, .ofNat 40), (.ofNat 0, .ofNat 40), (.ofNat 0, .ofNat 65535), (.ofNat 0, .ofNat 60), (.ofNat 0, .ofNat 20), (.ofNat 1, .ofNat 1), (.ofNat 0, .ofNat 40), (.ofNat 0, .ofNat 60), (.ofNat 0, .ofNat 20), (.ofNat 0, .ofNat 65535)], [(2, 7, .ofNat 0), (3, 10, .ofNat 0), (4, 8, .ofNat 0), (5, 9, .ofNat 0), (7, 2, .ofNat 0), (8, 4, .ofNat 0), (9, 5, .ofNat 0), (10, 3, .ofNat 0)], [], [(181, 0, (1, 2, .ofNat 0)), (181, 1, (1, 3, .ofNat 0)), (181, 15, (1, 4, .ofNat 0)), (181, 16, (1, 5, .ofNat 0)), (181, 64, (1, 6, .ofNat 0)), (181, 65, (1, 7, .ofNat 0)), (181, 66, (1, 8, .ofNat 0)), (181, 67, (1, 9, .ofNat 0)), (181, 68, (1, 10, .ofNat 0))]), [(2, 181, .ofNat 0), (1, 1, .ofNat 0)], []), [(0, 0, .ofNat 0), (2, 1, .ofNat 41)])]
theorem ck_180 : cChk [ct_166, ct_167, ct_168, ct_169, ct_170, ct_171, ct_172, ct_173, ct_174, ct_175, ct_176, ct_177, ct_178, ct_179] [] ct_180 cu_180 2000 2 = true := by decide +kernel
theorem cs_180 {s : List Int32} (hm : cMan s) : cSound s ct_180 := cChk_ok (C := [ct_166, ct_167, ct_168, ct_169, ct_170, ct_171, ct_172, ct_173, ct_174, ct_175, ct_176, ct_177, ct_178, ct_179]) (hCc (cs_166 hm) (hCc (cs_167 hm) (hCc (cs_168 hm) (hCc (cs_169 hm) (hCc (cs_170 hm) (hCc (cs_171 hm) (hCc (cs_172 hm) (hCc (cs_173 hm) (hCc (cs_174 hm) (hCc (cs_175 hm) (hCc (cs_176 hm) (hCc (cs_177 hm) (hCc (cs_178 hm) (hCc (cs_179 hm) hC0)))))))))))))) hG0 ck_180
/-- WidowDeedsModel.tapeNumber -/
def ct_181 : CT := (274, 0, 0, (([(.ofNat 0, .ofNat 0), (.ofNat 0, .ofNat 7)], [], [], []), [(2, 181, .ofNat 0), (1, 1, .ofNat 0), (0, 0, .ofNat 0), (0, 0, .ofNat 0)], []), [(([(.ofNat 0, .ofNat 0), (.ofNat 0, .ofNat 7), (.negSucc 2147483647, .ofNat 2147483647)], [], [], []), [], [(1, 2, .ofNat 0)])], [])
def cu_181 : List CU := [(6, (([(.ofNat 0, .ofNat 0), (.ofNat 0, .ofNat 7), (.negSucc 2147483647, .ofNat 2147483647), (.ofNat 0, .ofNat 39)], [], [], []), [(2, 181, .ofNat 0), (1, 1, .ofNat 0), (1, 2, .ofNat 0), (1, 3, .ofNat 0)], []), [(0, 0, .ofNat 0), (1, 3, .ofNat 40)])]
theorem ck_181 : cChk [] [] ct_181 cu_181 2000 2 = true := by decide +kernel
theorem cs_181 {s : List Int32} (hm : cMan s) : cSound s ct_181 := cChk_ok (C := []) hC0 hG0 ck_181
/-- WidowDeedsModel.check -/
def ct_182 : CT := (275, 0, 63, (([(.ofNat 0, .ofNat 0), (.negSucc 2147483647, .ofNat 2147483647), (.negSucc 2147483647, .ofNat 2147483647)], [], [], []), [(2, 181, .ofNat 0), (1, 1, .ofNat 0), (1, 2, .ofNat 0), (0, 0, .ofNat 0)], []), [(([(.ofNat 0, .ofNat 0), (.negSucc 2147483647, .ofNat 2147483647), (.negSucc 2147483647, .ofNat 2147483647), (.negSucc 1, .ofNat 8)], [], [], []), [], [(1, 3, .ofNat 0)])], [(181, 25), (181, 48), (181, 49)])
def cu_182 : List CU := [(31, (([(.ofNat 0, .ofNat 0), (.ofNat 0, .ofNat 999), (.ofNat 0, .ofNat 50), (.ofNat 0, .ofNat 8)], [], [], [(181, 25, (1, 0, .ofNat 0))]), [(2, 181, .ofNat 0), (1, 1, .ofNat 0), (1, 2, .ofNat 0), (1, 3, .ofNat 0)], []), [(0, 0, .ofNat 0), (0, 3, .ofNat 9)])]
theorem ck_182 : cChk [ct_181, cm_188, cm_223, cm_227] [] ct_182 cu_182 2000 2 = true := by decide +kernel
theorem cs_182 {s : List Int32} (hm : cMan s) : cSound s ct_182 := cChk_ok (C := [ct_181, cm_188, cm_223, cm_227]) (hCc (cs_181 hm) (hCc (cMan_188 hm) (hCc (cMan_223 hm) (hCc (cMan_227 hm) hC0)))) hG0 ck_182
/-- WidowDeedsModel.deedIs -/
def ct_183 : CT := (276, 0, 2, (([(.ofNat 0, .ofNat 0), (.negSucc 2147483647, .ofNat 2147483647), (.negSucc 2147483647, .ofNat 2147483647)], [], [], []), [(2, 181, .ofNat 0), (1, 1, .ofNat 0), (1, 2, .ofNat 0)], []), [(([(.ofNat 0, .ofNat 0), (.negSucc 2147483647, .ofNat 2147483647), (.negSucc 2147483647, .ofNat 2147483647), (.negSucc 2147483647, .ofNat 2147483647)], [], [], []), [], [(1, 3, .ofNat 0)])], [])
def cu_183 : List CU := []
theorem ck_183 : cChk [] [] ct_183 cu_183 2000 0 = true := by decide +kernel
theorem cs_183 {s : List Int32} (hm : cMan s) : cSound s ct_183 := cChk_ok (C := []) hC0 hG0 ck_183
/-- WidowDeedsModel.count -/
def ct_184 : CT := (277, 0, 1, (([(.ofNat 0, .ofNat 0), (.negSucc 2147483647, .ofNat 2147483647)], [], [], []), [(2, 181, .ofNat 0), (1, 1, .ofNat 0)], []), [(([(.ofNat 0, .ofNat 0), (.negSucc 2147483647, .ofNat 2147483647), (.negSucc 0, .ofNat 65535)], [], [], []), [], [(1, 2, .ofNat 0)])], [])
def cu_184 : List CU := []
theorem ck_184 : cChk [] [] ct_184 cu_184 2000 0 = true := by decide +kernel
theorem cs_184 {s : List Int32} (hm : cMan s) : cSound s ct_184 := cChk_ok (C := []) hC0 hG0 ck_184
