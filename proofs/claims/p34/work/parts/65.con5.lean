/-! contracts, on -/
/-- WidowDeedsModel.seed -/
def ct_150 : CT := (270, 0, 1, (([(.ofNat 0, .ofNat 0), (.negSucc 2147483647, .ofNat 2147483647)], [], [], []), [(2, 181, .ofNat 0), (1, 1, .ofNat 0)], []), [(([(.ofNat 0, .ofNat 0), (.negSucc 2147483647, .ofNat 2147483647), (.ofNat 0, .ofNat 1)], [], [], []), [], [(1, 2, .ofNat 0)])], [(181, 1)])
def cu_150 : List CU := []
theorem ck_150 : cChk [] [] ct_150 cu_150 2000 0 = true := by decide +kernel
theorem cs_150 {s : List Int32} (hm : cMan s) : cSound s ct_150 := cChk_ok (C := []) hC0 hG0 ck_150
/-- WidowDeedsModel.copies -/
def ct_151 : CT := (271, 0, 0, (([(.ofNat 0, .ofNat 0), (.ofNat 40, .ofNat 40)], [], [], []), [(2, 185, .ofNat 0), (2, 227, .ofNat 0), (1, 1, .ofNat 0), (0, 0, .ofNat 0)], []), [(([(.ofNat 0, .ofNat 0), (.ofNat 40, .ofNat 40)], [], [], []), [], [])], [])
def cu_151 : List CU := [(2, (([(.ofNat 0, .ofNat 0), (.ofNat 40, .ofNat 40), (.ofNat 0, .ofNat 40)], [], [], []), [(2, 185, .ofNat 0), (2, 227, .ofNat 0), (1, 1, .ofNat 0), (1, 2, .ofNat 0)], []), [(0, 0, .ofNat 0), (1, 2, .ofNat 1)])]
theorem ck_151 : cChk [] [] ct_151 cu_151 2000 2 = true := by decide +kernel
theorem cs_151 {s : List Int32} (hm : cMan s) : cSound s ct_151 := cChk_ok (C := []) hC0 hG0 ck_151
/-- WidowDeedsModel.copies -/
def ct_152 : CT := (271, 0, 0, (([(.ofNat 0, .ofNat 0), (.ofNat 40, .ofNat 40)], [], [], []), [(2, 186, .ofNat 0), (2, 228, .ofNat 0), (1, 1, .ofNat 0), (0, 0, .ofNat 0)], []), [(([(.ofNat 0, .ofNat 0), (.ofNat 40, .ofNat 40)], [], [], []), [], [])], [])
def cu_152 : List CU := [(2, (([(.ofNat 0, .ofNat 0), (.ofNat 40, .ofNat 40), (.ofNat 0, .ofNat 40)], [], [], []), [(2, 186, .ofNat 0), (2, 228, .ofNat 0), (1, 1, .ofNat 0), (1, 2, .ofNat 0)], []), [(0, 0, .ofNat 0), (1, 2, .ofNat 1)])]
theorem ck_152 : cChk [] [] ct_152 cu_152 2000 2 = true := by decide +kernel
theorem cs_152 {s : List Int32} (hm : cMan s) : cSound s ct_152 := cChk_ok (C := []) hC0 hG0 ck_152
/-- WidowDeedsModel.copies -/
def ct_153 : CT := (271, 0, 0, (([(.ofNat 0, .ofNat 0), (.ofNat 40, .ofNat 40)], [], [], []), [(2, 187, .ofNat 0), (2, 229, .ofNat 0), (1, 1, .ofNat 0), (0, 0, .ofNat 0)], []), [(([(.ofNat 0, .ofNat 0), (.ofNat 40, .ofNat 40)], [], [], []), [], [])], [])
def cu_153 : List CU := [(2, (([(.ofNat 0, .ofNat 0), (.ofNat 40, .ofNat 40), (.ofNat 0, .ofNat 40)], [], [], []), [(2, 187, .ofNat 0), (2, 229, .ofNat 0), (1, 1, .ofNat 0), (1, 2, .ofNat 0)], []), [(0, 0, .ofNat 0), (1, 2, .ofNat 1)])]
theorem ck_153 : cChk [] [] ct_153 cu_153 2000 2 = true := by decide +kernel
theorem cs_153 {s : List Int32} (hm : cMan s) : cSound s ct_153 := cChk_ok (C := []) hC0 hG0 ck_153
/-- WidowDeedsModel.copies -/
def ct_154 : CT := (271, 0, 0, (([(.ofNat 0, .ofNat 0), (.ofNat 40, .ofNat 40)], [], [], []), [(2, 188, .ofNat 0), (2, 230, .ofNat 0), (1, 1, .ofNat 0), (0, 0, .ofNat 0)], []), [(([(.ofNat 0, .ofNat 0), (.ofNat 40, .ofNat 40)], [], [], []), [], [])], [])
def cu_154 : List CU := [(2, (([(.ofNat 0, .ofNat 0), (.ofNat 40, .ofNat 40), (.ofNat 0, .ofNat 40)], [], [], []), [(2, 188, .ofNat 0), (2, 230, .ofNat 0), (1, 1, .ofNat 0), (1, 2, .ofNat 0)], []), [(0, 0, .ofNat 0), (1, 2, .ofNat 1)])]
theorem ck_154 : cChk [] [] ct_154 cu_154 2000 2 = true := by decide +kernel
theorem cs_154 {s : List Int32} (hm : cMan s) : cSound s ct_154 := cChk_ok (C := []) hC0 hG0 ck_154
/-- WidowDeedsModel.copies -/
def ct_155 : CT := (271, 0, 0, (([(.ofNat 0, .ofNat 0), (.ofNat 40, .ofNat 40)], [], [], []), [(2, 189, .ofNat 0), (2, 231, .ofNat 0), (1, 1, .ofNat 0), (0, 0, .ofNat 0)], []), [(([(.ofNat 0, .ofNat 0), (.ofNat 40, .ofNat 40)], [], [], []), [], [])], [])
def cu_155 : List CU := [(2, (([(.ofNat 0, .ofNat 0), (.ofNat 40, .ofNat 40), (.ofNat 0, .ofNat 40)], [], [], []), [(2, 189, .ofNat 0), (2, 231, .ofNat 0), (1, 1, .ofNat 0), (1, 2, .ofNat 0)], []), [(0, 0, .ofNat 0), (1, 2, .ofNat 1)])]
theorem ck_155 : cChk [] [] ct_155 cu_155 2000 2 = true := by decide +kernel
theorem cs_155 {s : List Int32} (hm : cMan s) : cSound s ct_155 := cChk_ok (C := []) hC0 hG0 ck_155
/-- WidowDeedsModel.copies -/
def ct_156 : CT := (271, 0, 0, (([(.ofNat 0, .ofNat 0), (.ofNat 40, .ofNat 40)], [], [], []), [(2, 190, .ofNat 0), (2, 232, .ofNat 0), (1, 1, .ofNat 0), (0, 0, .ofNat 0)], []), [(([(.ofNat 0, .ofNat 0), (.ofNat 40, .ofNat 40)], [], [], []), [], [])], [])
def cu_156 : List CU := [(2, (([(.ofNat 0, .ofNat 0), (.ofNat 40, .ofNat 40), (.ofNat 0, .ofNat 40)], [], [], []), [(2, 190, .ofNat 0), (2, 232, .ofNat 0), (1, 1, .ofNat 0), (1, 2, .ofNat 0)], []), [(0, 0, .ofNat 0), (1, 2, .ofNat 1)])]
theorem ck_156 : cChk [] [] ct_156 cu_156 2000 2 = true := by decide +kernel
theorem cs_156 {s : List Int32} (hm : cMan s) : cSound s ct_156 := cChk_ok (C := []) hC0 hG0 ck_156
/-- WidowDeedsModel.copies -/
def ct_157 : CT := (271, 0, 0, (([(.ofNat 0, .ofNat 0), (.ofNat 40, .ofNat 40)], [], [], []), [(2, 191, .ofNat 0), (2, 233, .ofNat 0), (1, 1, .ofNat 0), (0, 0, .ofNat 0)], []), [(([(.ofNat 0, .ofNat 0), (.ofNat 40, .ofNat 40)], [], [], []), [], [])], [])
def cu_157 : List CU := [(2, (([(.ofNat 0, .ofNat 0), (.ofNat 40, .ofNat 40), (.ofNat 0, .ofNat 40)], [], [], []), [(2, 191, .ofNat 0), (2, 233, .ofNat 0), (1, 1, .ofNat 0), (1, 2, .ofNat 0)], []), [(0, 0, .ofNat 0), (1, 2, .ofNat 1)])]
theorem ck_157 : cChk [] [] ct_157 cu_157 2000 2 = true := by decide +kernel
theorem cs_157 {s : List Int32} (hm : cMan s) : cSound s ct_157 := cChk_ok (C := []) hC0 hG0 ck_157
/-- WidowDeedsModel.copies -/
def ct_158 : CT := (271, 0, 0, (([(.ofNat 0, .ofNat 0), (.ofNat 40, .ofNat 40)], [], [], []), [(2, 192, .ofNat 0), (2, 234, .ofNat 0), (1, 1, .ofNat 0), (0, 0, .ofNat 0)], []), [(([(.ofNat 0, .ofNat 0), (.ofNat 40, .ofNat 40)], [], [], []), [], [])], [])
def cu_158 : List CU := [(2, (([(.ofNat 0, .ofNat 0), (.ofNat 40, .ofNat 40), (.ofNat 0, .ofNat 40)], [], [], []), [(2, 192, .ofNat 0), (2, 234, .ofNat 0), (1, 1, .ofNat 0), (1, 2, .ofNat 0)], []), [(0, 0, .ofNat 0), (1, 2, .ofNat 1)])]
theorem ck_158 : cChk [] [] ct_158 cu_158 2000 2 = true := by decide +kernel
theorem cs_158 {s : List Int32} (hm : cMan s) : cSound s ct_158 := cChk_ok (C := []) hC0 hG0 ck_158
/-- WidowDeedsModel.copies -/
def ct_159 : CT := (271, 0, 0, (([(.ofNat 0, .ofNat 0), (.ofNat 40, .ofNat 40)], [], [], []), [(2, 193, .ofNat 0), (2, 235, .ofNat 0), (1, 1, .ofNat 0), (0, 0, .ofNat 0)], []), [(([(.ofNat 0, .ofNat 0), (.ofNat 40, .ofNat 40)], [], [], []), [], [])], [])
def cu_159 : List CU := [(2, (([(.ofNat 0, .ofNat 0), (.ofNat 40, .ofNat 40), (.ofNat 0, .ofNat 40)], [], [], []), [(2, 193, .ofNat 0), (2, 235, .ofNat 0), (1, 1, .ofNat 0), (1, 2, .ofNat 0)], []), [(0, 0, .ofNat 0), (1, 2, .ofNat 1)])]
theorem ck_159 : cChk [] [] ct_159 cu_159 2000 2 = true := by decide +kernel
theorem cs_159 {s : List Int32} (hm : cMan s) : cSound s ct_159 := cChk_ok (C := []) hC0 hG0 ck_159
/-- WidowDeedsModel.copies -/
def ct_160 : CT := (271, 0, 0, (([(.ofNat 0, .ofNat 0), (.ofNat 60, .ofNat 60)], [], [], []), [(2, 195, .ofNat 0), (2, 236, .ofNat 0), (1, 1, .ofNat 0), (0, 0, .ofNat 0)], []), [(([(.ofNat 0, .ofNat 0), (.ofNat 60, .ofNat 60)], [], [], []), [], [])], [])
def cu_160 : List CU := [(2, (([(.ofNat 0, .ofNat 0), (.ofNat 60, .ofNat 60), (.ofNat 0, .ofNat 60)], [], [], []), [(2, 195, .ofNat 0), (2, 236, .ofNat 0), (1, 1, .ofNat 0), (1, 2, .ofNat 0)], []), [(0, 0, .ofNat 0), (1, 2, .ofNat 1)])]
theorem ck_160 : cChk [] [] ct_160 cu_160 2000 2 = true := by decide +kernel
theorem cs_160 {s : List Int32} (hm : cMan s) : cSound s ct_160 := cChk_ok (C := []) hC0 hG0 ck_160
/-- WidowDeedsModel.copies -/
def ct_161 : CT := (271, 0, 0, (([(.ofNat 0, .ofNat 0), (.ofNat 60, .ofNat 60)], [], [], []), [(2, 196, .ofNat 0), (2, 237, .ofNat 0), (1, 1, .ofNat 0), (0, 0, .ofNat 0)], []), [(([(.ofNat 0, .ofNat 0), (.ofNat 60, .ofNat 60)], [], [], []), [], [])], [])
def cu_161 : List CU := [(2, (([(.ofNat 0, .ofNat 0), (.ofNat 60, .ofNat 60), (.ofNat 0, .ofNat 60)], [], [], []), [(2, 196, .ofNat 0), (2, 237, .ofNat 0), (1, 1, .ofNat 0), (1, 2, .ofNat 0)], []), [(0, 0, .ofNat 0), (1, 2, .ofNat 1)])]
theorem ck_161 : cChk [] [] ct_161 cu_161 2000 2 = true := by decide +kernel
theorem cs_161 {s : List Int32} (hm : cMan s) : cSound s ct_161 := cChk_ok (C := []) hC0 hG0 ck_161
/-- WidowDeedsModel.copies -/
def ct_162 : CT := (271, 0, 0, (([(.ofNat 0, .ofNat 0), (.ofNat 60, .ofNat 60)], [], [], []), [(2, 197, .ofNat 0), (2, 238, .ofNat 0), (1, 1, .ofNat 0), (0, 0, .ofNat 0)], []), [(([(.ofNat 0, .ofNat 0), (.ofNat 60, .ofNat 60)], [], [], []), [], [])], [])
def cu_162 : List CU := [(2, (([(.ofNat 0, .ofNat 0), (.ofNat 60, .ofNat 60), (.ofNat 0, .ofNat 60)], [], [], []), [(2, 197, .ofNat 0), (2, 238, .ofNat 0), (1, 1, .ofNat 0), (1, 2, .ofNat 0)], []), [(0, 0, .ofNat 0), (1, 2, .ofNat 1)])]
theorem ck_162 : cChk [] [] ct_162 cu_162 2000 2 = true := by decide +kernel
theorem cs_162 {s : List Int32} (hm : cMan s) : cSound s ct_162 := cChk_ok (C := []) hC0 hG0 ck_162
/-- WidowDeedsModel.copies -/
def ct_163 : CT := (271, 0, 0, (([(.ofNat 0, .ofNat 0), (.ofNat 20, .ofNat 20)], [], [], []), [(2, 198, .ofNat 0), (2, 239, .ofNat 0), (1, 1, .ofNat 0), (0, 0, .ofNat 0)], []), [(([(.ofNat 0, .ofNat 0), (.ofNat 20, .ofNat 20)], [], [], []), [], [])], [])
def cu_163 : List CU := [(2, (([(.ofNat 0, .ofNat 0), (.ofNat 20, .ofNat 20), (.ofNat 0, .ofNat 20)], [], [], []), [(2, 198, .ofNat 0), (2, 239, .ofNat 0), (1, 1, .ofNat 0), (1, 2, .ofNat 0)], []), [(0, 0, .ofNat 0), (1, 2, .ofNat 1)])]
theorem ck_163 : cChk [] [] ct_163 cu_163 2000 2 = true := by decide +kernel
theorem cs_163 {s : List Int32} (hm : cMan s) : cSound s ct_163 := cChk_ok (C := []) hC0 hG0 ck_163
/-- WidowDeedsModel.copies -/
def ct_164 : CT := (271, 0, 0, (([(.ofNat 0, .ofNat 0), (.ofNat 20, .ofNat 20)], [], [], []), [(2, 199, .ofNat 0), (2, 240, .ofNat 0), (1, 1, .ofNat 0), (0, 0, .ofNat 0)], []), [(([(.ofNat 0, .ofNat 0), (.ofNat 20, .ofNat 20)], [], [], []), [], [])], [])
def cu_164 : List CU := [(2, (([(.ofNat 0, .ofNat 0), (.ofNat 20, .ofNat 20), (.ofNat 0, .ofNat 20)], [], [], []), [(2, 199, .ofNat 0), (2, 240, .ofNat 0), (1, 1, .ofNat 0), (1, 2, .ofNat 0)], []), [(0, 0, .ofNat 0), (1, 2, .ofNat 1)])]
theorem ck_164 : cChk [] [] ct_164 cu_164 2000 2 = true := by decide +kernel
theorem cs_164 {s : List Int32} (hm : cMan s) : cSound s ct_164 := cChk_ok (C := []) hC0 hG0 ck_164
/-- WidowDeedsModel.keep -/
def ct_165 : CT := (272, 0, 1, (([(.ofNat 0, .ofNat 0)], [], [], []), [(2, 181, .ofNat 0), (0, 0, .ofNat 0)], []), [(([(.ofNat 0, .ofNat 0), (.ofNat 0, .ofNat 40)], [], [], []), [], [(1, 1, .ofNat 0)])], [(181, 64), (181, 65), (181, 66), (181, 67), (181, 68)])
def cu_165 : List CU := [(221, (([(.ofNat 0, .ofNat 0), (.ofNat 0, .ofNat 40), (.ofNat 0, .ofNat 40), (.ofNat 0, .ofNat 65535), (.ofNat 0, .ofNat 60), (.ofNat 0, .ofNat 20), (.ofNat 0, .ofNat 40), (.ofNat 0, .ofNat 60), (.ofNat 0, .ofNat 20), (.ofNat 0, .ofNat 65535)], [(2, 6, .ofNat 0), (3, 9, .ofNat 0), (4, 7, .ofNat 0), (5, 8, .ofNat 0), (6, 2, .ofNat 0), (7, 4, .ofNat 0), (8, 5, .ofNat 0), (9, 3, .ofNat 0)], [], [(181, 0, (1, 2, .ofNat 0)), (181, 1, (1, 3, .ofNat 0)), (181, 15, (1, 4, .ofNat 0)), (181, 16, (1, 5, .ofNat 0)), (181, 64, (1, 0, .ofNat 1)), (181, 65, (1, 6, .ofNat 0)), (181, 66, (1, 7, .ofNat 0)), (181, 67, (1, 8, .ofNat 0)), (181, 68, (1, 9, .ofNat 0))]), [(2, 181, .ofNat 0), (1, 1, .ofNat 0)], []), [(0, 0, .ofNat 0), (2, 1, .ofNat 41)])]
theorem ck_165 : cChk [ct_151, ct_152, ct_153, ct_154, ct_155, ct_156, ct_157, ct_158, ct_159, ct_160, ct_161, ct_162, ct_163, ct_164] [] ct_165 cu_165 2000 2 = true := by decide +kernel
theorem cs_165 {s : List Int32} (hm : cMan s) : cSound s ct_165 := cChk_ok (C := [ct_151, ct_152, ct_153, ct_154, ct_155, ct_156, ct_157, ct_158, ct_159, ct_160, ct_161, ct_162, ct_163, ct_164]) (hCc (cs_151 hm) (hCc (cs_152 hm) (hCc (cs_153 hm) (hCc (cs_154 hm) (hCc (cs_155 hm) (hCc (cs_156 hm) (hCc (cs_157 hm) (hCc (cs_158 hm) (hCc (cs_159 hm) (hCc (cs_160 hm) (hCc (cs_161 hm) (hCc (cs_162 hm) (hCc (cs_163 hm) (hCc (cs_164 hm) hC0)))))))))))))) hG0 ck_165
/-- WidowDeedsModel.copies -/
def ct_166 : CT := (271, 0, 0, (([(.ofNat 0, .ofNat 0), (.ofNat 40, .ofNat 40)], [], [], []), [(2, 227, .ofNat 0), (2, 185, .ofNat 0), (1, 1, .ofNat 0), (0, 0, .ofNat 0)], []), [(([(.ofNat 0, .ofNat 0), (.ofNat 40, .ofNat 40)], [], [], []), [], [])], [])
def cu_166 : List CU := [(2, (([(.ofNat 0, .ofNat 0), (.ofNat 40, .ofNat 40), (.ofNat 0, .ofNat 40)], [], [], []), [(2, 227, .ofNat 0), (2, 185, .ofNat 0), (1, 1, .ofNat 0), (1, 2, .ofNat 0)], []), [(0, 0, .ofNat 0), (1, 2, .ofNat 1)])]
theorem ck_166 : cChk [] [] ct_166 cu_166 2000 2 = true := by decide +kernel
theorem cs_166 {s : List Int32} (hm : cMan s) : cSound s ct_166 := cChk_ok (C := []) hC0 hG0 ck_166
/-- WidowDeedsModel.copies -/
def ct_167 : CT := (271, 0, 0, (([(.ofNat 0, .ofNat 0), (.ofNat 40, .ofNat 40)], [], [], []), [(2, 228, .ofNat 0), (2, 186, .ofNat 0), (1, 1, .ofNat 0), (0, 0, .ofNat 0)], []), [(([(.ofNat 0, .ofNat 0), (.ofNat 40, .ofNat 40)], [], [], []), [], [])], [])
def cu_167 : List CU := [(2, (([(.ofNat 0, .ofNat 0), (.ofNat 40, .ofNat 40), (.ofNat 0, .ofNat 40)], [], [], []), [(2, 228, .ofNat 0), (2, 186, .ofNat 0), (1, 1, .ofNat 0), (1, 2, .ofNat 0)], []), [(0, 0, .ofNat 0), (1, 2, .ofNat 1)])]
theorem ck_167 : cChk [] [] ct_167 cu_167 2000 2 = true := by decide +kernel
theorem cs_167 {s : List Int32} (hm : cMan s) : cSound s ct_167 := cChk_ok (C := []) hC0 hG0 ck_167
/-- WidowDeedsModel.copies -/
def ct_168 : CT := (271, 0, 0, (([(.ofNat 0, .ofNat 0), (.ofNat 40, .ofNat 40)], [], [], []), [(2, 229, .ofNat 0), (2, 187, .ofNat 0), (1, 1, .ofNat 0), (0, 0, .ofNat 0)], []), [(([(.ofNat 0, .ofNat 0), (.ofNat 40, .ofNat 40)], [], [], []), [], [])], [])
def cu_168 : List CU := [(2, (([(.ofNat 0, .ofNat 0), (.ofNat 40, .ofNat 40), (.ofNat 0, .ofNat 40)], [], [], []), [(2, 229, .ofNat 0), (2, 187, .ofNat 0), (1, 1, .ofNat 0), (1, 2, .ofNat 0)], []), [(0, 0, .ofNat 0), (1, 2, .ofNat 1)])]
theorem ck_168 : cChk [] [] ct_168 cu_168 2000 2 = true := by decide +kernel
theorem cs_168 {s : List Int32} (hm : cMan s) : cSound s ct_168 := cChk_ok (C := []) hC0 hG0 ck_168
/-- WidowDeedsModel.copies -/
def ct_169 : CT := (271, 0, 0, (([(.ofNat 0, .ofNat 0), (.ofNat 40, .ofNat 40)], [], [], []), [(2, 230, .ofNat 0), (2, 188, .ofNat 0), (1, 1, .ofNat 0), (0, 0, .ofNat 0)], []), [(([(.ofNat 0, .ofNat 0), (.ofNat 40, .ofNat 40)], [], [], []), [], [])], [])
def cu_169 : List CU := [(2, (([(.ofNat 0, .ofNat 0), (.ofNat 40, .ofNat 40), (.ofNat 0, .ofNat 40)], [], [], []), [(2, 230, .ofNat 0), (2, 188, .ofNat 0), (1, 1, .ofNat 0), (1, 2, .ofNat 0)], []), [(0, 0, .ofNat 0), (1, 2, .ofNat 1)])]
theorem ck_169 : cChk [] [] ct_169 cu_169 2000 2 = true := by decide +kernel
theorem cs_169 {s : List Int32} (hm : cMan s) : cSound s ct_169 := cChk_ok (C := []) hC0 hG0 ck_169
/-- WidowDeedsModel.copies -/
def ct_170 : CT := (271, 0, 0, (([(.ofNat 0, .ofNat 0), (.ofNat 40, .ofNat 40)], [], [], []), [(2, 231, .ofNat 0), (2, 189, .ofNat 0), (1, 1, .ofNat 0), (0, 0, .ofNat 0)], []), [(([(.ofNat 0, .ofNat 0), (.ofNat 40, .ofNat 40)], [], [], []), [], [])], [])
def cu_170 : List CU := [(2, (([(.ofNat 0, .ofNat 0), (.ofNat 40, .ofNat 40), (.ofNat 0, .ofNat 40)], [], [], []), [(2, 231, .ofNat 0), (2, 189, .ofNat 0), (1, 1, .ofNat 0), (1, 2, .ofNat 0)], []), [(0, 0, .ofNat 0), (1, 2, .ofNat 1)])]
theorem ck_170 : cChk [] [] ct_170 cu_170 2000 2 = true := by decide +kernel
theorem cs_170 {s : List Int32} (hm : cMan s) : cSound s ct_170 := cChk_ok (C := []) hC0 hG0 ck_170
/-- WidowDeedsModel.copies -/
def ct_171 : CT := (271, 0, 0, (([(.ofNat 0, .ofNat 0), (.ofNat 40, .ofNat 40)], [], [], []), [(2, 232, .ofNat 0), (2, 190, .ofNat 0), (1, 1, .ofNat 0), (0, 0, .ofNat 0)], []), [(([(.ofNat 0, .ofNat 0), (.ofNat 40, .ofNat 40)], [], [], []), [], [])], [])
def cu_171 : List CU := [(2, (([(.ofNat 0, .ofNat 0), (.ofNat 40, .ofNat 40), (.ofNat 0, .ofNat 40)], [], [], []), [(2, 232, .ofNat 0), (2, 190, .ofNat 0), (1, 1, .ofNat 0), (1, 2, .ofNat 0)], []), [(0, 0, .ofNat 0), (1, 2, .ofNat 1)])]
theorem ck_171 : cChk [] [] ct_171 cu_171 2000 2 = true := by decide +kernel
theorem cs_171 {s : List Int32} (hm : cMan s) : cSound s ct_171 := cChk_ok (C := []) hC0 hG0 ck_171
/-- WidowDeedsModel.copies -/
def ct_172 : CT := (271, 0, 0, (([(.ofNat 0, .ofNat 0), (.ofNat 40, .ofNat 40)], [], [], []), [(2, 233, .ofNat 0), (2, 191, .ofNat 0), (1, 1, .ofNat 0), (0, 0, .ofNat 0)], []), [(([(.ofNat 0, .ofNat 0), (.ofNat 40, .ofNat 40)], [], [], []), [], [])], [])
def cu_172 : List CU := [(2, (([(.ofNat 0, .ofNat 0), (.ofNat 40, .ofNat 40), (.ofNat 0, .ofNat 40)], [], [], []), [(2, 233, .ofNat 0), (2, 191, .ofNat 0), (1, 1, .ofNat 0), (1, 2, .ofNat 0)], []), [(0, 0, .ofNat 0), (1, 2, .ofNat 1)])]
theorem ck_172 : cChk [] [] ct_172 cu_172 2000 2 = true := by decide +kernel
theorem cs_172 {s : List Int32} (hm : cMan s) : cSound s ct_172 := cChk_ok (C := []) hC0 hG0 ck_172
/-- WidowDeedsModel.copies -/
def ct_173 : CT := (271, 0, 0, (([(.ofNat 0, .ofNat 0), (.ofNat 40, .ofNat 40)], [], [], []), [(2, 234, .ofNat 0), (2, 192, .ofNat 0), (1, 1, .ofNat 0), (0, 0, .ofNat 0)], []), [(([(.ofNat 0, .ofNat 0), (.ofNat 40, .ofNat 40)], [], [], []), [], [])], [])
def cu_173 : List CU := [(2, (([(.ofNat 0, .ofNat 0), (.ofNat 40, .ofNat 40), (.ofNat 0, .ofNat 40)], [], [], []), [(2, 234, .ofNat 0), (2, 192, .ofNat 0), (1, 1, .ofNat 0), (1, 2, .ofNat 0)], []), [(0, 0, .ofNat 0), (1, 2, .ofNat 1)])]
theorem ck_173 : cChk [] [] ct_173 cu_173 2000 2 = true := by decide +kernel
theorem cs_173 {s : List Int32} (hm : cMan s) : cSound s ct_173 := cChk_ok (C := []) hC0 hG0 ck_173
/-- WidowDeedsModel.copies -/
def ct_174 : CT := (271, 0, 0, (([(.ofNat 0, .ofNat 0), (.ofNat 40, .ofNat 40)], [], [], []), [(2, 235, .ofNat 0), (2, 193, .ofNat 0), (1, 1, .ofNat 0), (0, 0, .ofNat 0)], []), [(([(.ofNat 0, .ofNat 0), (.ofNat 40, .ofNat 40)], [], [], []), [], [])], [])
def cu_174 : List CU := [(2, (([(.ofNat 0, .ofNat 0), (.ofNat 40, .ofNat 40), (.ofNat 0, .ofNat 40)], [], [], []), [(2, 235, .ofNat 0), (2, 193, .ofNat 0), (1, 1, .ofNat 0), (1, 2, .ofNat 0)], []), [(0, 0, .ofNat 0), (1, 2, .ofNat 1)])]
theorem ck_174 : cChk [] [] ct_174 cu_174 2000 2 = true := by decide +kernel
theorem cs_174 {s : List Int32} (hm : cMan s) : cSound s ct_174 := cChk_ok (C := []) hC0 hG0 ck_174
/-- WidowDeedsModel.copies -/
def ct_175 : CT := (271, 0, 0, (([(.ofNat 0, .ofNat 0), (.ofNat 60, .ofNat 60)], [], [], []), [(2, 236, .ofNat 0), (2, 195, .ofNat 0), (1, 1, .ofNat 0), (0, 0, .ofNat 0)], []), [(([(.ofNat 0, .ofNat 0), (.ofNat 60, .ofNat 60)], [], [], []), [], [])], [])
def cu_175 : List CU := [(2, (([(.ofNat 0, .ofNat 0), (.ofNat 60, .ofNat 60), (.ofNat 0, .ofNat 60)], [], [], []), [(2, 236, .ofNat 0), (2, 195, .ofNat 0), (1, 1, .ofNat 0), (1, 2, .ofNat 0)], []), [(0, 0, .ofNat 0), (1, 2, .ofNat 1)])]
theorem ck_175 : cChk [] [] ct_175 cu_175 2000 2 = true := by decide +kernel
theorem cs_175 {s : List Int32} (hm : cMan s) : cSound s ct_175 := cChk_ok (C := []) hC0 hG0 ck_175
/-- WidowDeedsModel.copies -/
def ct_176 : CT := (271, 0, 0, (([(.ofNat 0, .ofNat 0), (.ofNat 60, .ofNat 60)], [], [], []), [(2, 237, .ofNat 0), (2, 196, .ofNat 0), (1, 1, .ofNat 0), (0, 0, .ofNat 0)], []), [(([(.ofNat 0, .ofNat 0), (.ofNat 60, .ofNat 60)], [], [], []), [], [])], [])
def cu_176 : List CU := [(2, (([(.ofNat 0, .ofNat 0), (.ofNat 60, .ofNat 60), (.ofNat 0, .ofNat 60)], [], [], []), [(2, 237, .ofNat 0), (2, 196, .ofNat 0), (1, 1, .ofNat 0), (1, 2, .ofNat 0)], []), [(0, 0, .ofNat 0), (1, 2, .ofNat 1)])]
theorem ck_176 : cChk [] [] ct_176 cu_176 2000 2 = true := by decide +kernel
theorem cs_176 {s : List Int32} (hm : cMan s) : cSound s ct_176 := cChk_ok (C := []) hC0 hG0 ck_176
/-- WidowDeedsModel.copies -/
def ct_177 : CT := (271, 0, 0, (([(.ofNat 0, .ofNat 0), (.ofNat 60, .ofNat 60)], [], [], []), [(2, 238, .ofNat 0), (2, 197, .ofNat 0), (1, 1, .ofNat 0), (0, 0, .ofNat 0)], []), [(([(.ofNat 0, .ofNat 0), (.ofNat 60, .ofNat 60)], [], [], []), [], [])], [])
def cu_177 : List CU := [(2, (([(.ofNat 0, .ofNat 0), (.ofNat 60, .ofNat 60), (.ofNat 0, .ofNat 60)], [], [], []), [(2, 238, .ofNat 0), (2, 197, .ofNat 0), (1, 1, .ofNat 0), (1, 2, .ofNat 0)], []), [(0, 0, .ofNat 0), (1, 2, .ofNat 1)])]
theorem ck_177 : cChk [] [] ct_177 cu_177 2000 2 = true := by decide +kernel
theorem cs_177 {s : List Int32} (hm : cMan s) : cSound s ct_177 := cChk_ok (C := []) hC0 hG0 ck_177
/-- WidowDeedsModel.copies -/
def ct_178 : CT := (271, 0, 0, (([(.ofNat 0, .ofNat 0), (.ofNat 20, .ofNat 20)], [], [], []), [(2, 239, .ofNat 0), (2, 198, .ofNat 0), (1, 1, .ofNat 0), (0, 0, .ofNat 0)], []), [(([(.ofNat 0, .ofNat 0), (.ofNat 20, .ofNat 20)], [], [], []), [], [])], [])
def cu_178 : List CU := [(2, (([(.ofNat 0, .ofNat 0), (.ofNat 20, .ofNat 20), (.ofNat 0, .ofNat 20)], [], [], []), [(2, 239, .ofNat 0), (2, 198, .ofNat 0), (1, 1, .ofNat 0), (1, 2, .ofNat 0)], []), [(0, 0, .ofNat 0), (1, 2, .ofNat 1)])]
theorem ck_178 : cChk [] [] ct_178 cu_178 2000 2 = true := by decide +kernel
theorem cs_178 {s : List Int32} (hm : cMan s) : cSound s ct_178 := cChk_ok (C := []) hC0 hG0 ck_178
/-- WidowDeedsModel.copies -/
def ct_179 : CT := (271, 0, 0, (([(.ofNat 0, .ofNat 0), (.ofNat 20, .ofNat 20)], [], [], []), [(2, 240, .ofNat 0), (2, 199, .ofNat 0), (1, 1, .ofNat 0), (0, 0, .ofNat 0)], []), [(([(.ofNat 0, .ofNat 0), (.ofNat 20, .ofNat 20)], [], [], []), [], [])], [])
def cu_179 : List CU := [(2, (([(.ofNat 0, .ofNat 0), (.ofNat 20, .ofNat 20), (.ofNat 0, .ofNat 20)], [], [], []), [(2, 240, .ofNat 0), (2, 199, .ofNat 0), (1, 1, .ofNat 0), (1, 2, .ofNat 0)], []), [(0, 0, .ofNat 0), (1, 2, .ofNat 1)])]
theorem ck_179 : cChk [] [] ct_179 cu_179 2000 2 = true := by decide +kernel
theorem cs_179 {s : List Int32} (hm : cMan s) : cSound s ct_179 := cChk_ok (C := []) hC0 hG0 ck_179
