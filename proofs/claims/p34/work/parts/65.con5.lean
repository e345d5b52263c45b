/-! contracts, on -/
/-- WidowDeeds.count -/
def ct_150 : CT := (146, 0, 1, (([(.ofNat 0, .ofNat 0), (.negSucc 2147483647, .ofNat 2147483647)], [], [], []), [(2, 2, .ofNat 0), (1, 1, .ofNat 0)], []), [(([(.ofNat 0, .ofNat 0), (.negSucc 2147483647, .ofNat 2147483647), (.negSucc 0, .ofNat 65535)], [], [], []), [], [(1, 2, .ofNat 0)])], [])
def cu_150 : List CU := []
theorem ck_150 : cChk [] [] ct_150 cu_150 2000 0 = true := by decide +kernel
theorem cs_150 {s : List Int32} (hm : cMan s) : cSound s ct_150 := cChk_ok (C := []) hC0 hG0 ck_150
/-- WidowDeedsModel.dies -/
def ct_151 : CT := (165, 0, 1, (([(.ofNat 0, .ofNat 0), (.negSucc 2147483647, .ofNat 2147483647), (.negSucc 2147483647, .ofNat 2147483647)], [], [], []), [(2, 181, .ofNat 0), (1, 1, .ofNat 0), (1, 2, .ofNat 0)], []), [(([(.ofNat 0, .ofNat 0), (.negSucc 2147483647, .ofNat 2147483647), (.negSucc 2147483647, .ofNat 2147483647), (.ofNat 0, .ofNat 1)], [], [], []), [], [(1, 3, .ofNat 0)])], [])
def cu_151 : List CU := []
theorem ck_151 : cChk [] [] ct_151 cu_151 2000 0 = true := by decide +kernel
theorem cs_151 {s : List Int32} (hm : cMan s) : cSound s ct_151 := cChk_ok (C := []) hC0 hG0 ck_151
/-- WidowDeedsModel.strip -/
def ct_152 : CT := (166, 0, 1, (([(.ofNat 0, .ofNat 0), (.negSucc 2147483647, .ofNat 2147483647), (.negSucc 2147483647, .ofNat 2147483647), (.negSucc 2147483647, .ofNat 2147483647)], [], [], []), [(2, 181, .ofNat 0), (1, 1, .ofNat 0), (1, 2, .ofNat 0), (1, 3, .ofNat 0)], []), [(([(.ofNat 0, .ofNat 0), (.negSucc 2147483647, .ofNat 2147483647), (.negSucc 2147483647, .ofNat 2147483647), (.negSucc 2147483647, .ofNat 2147483647), (.ofNat 0, .ofNat 1)], [], [], []), [], [(1, 4, .ofNat 0)])], [])
def cu_152 : List CU := []
theorem ck_152 : cChk [] [] ct_152 cu_152 2000 0 = true := by decide +kernel
theorem cs_152 {s : List Int32} (hm : cMan s) : cSound s ct_152 := cChk_ok (C := []) hC0 hG0 ck_152
/-- WidowDeedsModel.deed -/
def ct_153 : CT := (167, 0, 1, (([(.ofNat 0, .ofNat 0), (.negSucc 2147483647, .ofNat 2147483647), (.negSucc 2147483647, .ofNat 2147483647), (.negSucc 2147483647, .ofNat 2147483647), (.negSucc 2147483647, .ofNat 2147483647), (.negSucc 2147483647, .ofNat 2147483647), (.negSucc 2147483647, .ofNat 2147483647)], [], [], []), [(2, 181, .ofNat 0), (1, 1, .ofNat 0), (1, 2, .ofNat 0), (1, 3, .ofNat 0), (1, 4, .ofNat 0), (1, 5, .ofNat 0), (1, 6, .ofNat 0)], []), [(([(.ofNat 0, .ofNat 0), (.negSucc 2147483647, .ofNat 2147483647), (.negSucc 2147483647, .ofNat 2147483647), (.negSucc 2147483647, .ofNat 2147483647), (.negSucc 2147483647, .ofNat 2147483647), (.negSucc 2147483647, .ofNat 2147483647), (.negSucc 2147483647, .ofNat 2147483647), (.negSucc 0, .ofNat 39)], [], [], []), [], [(1, 7, .ofNat 0)])], [(181, 0)])
def cu_153 : List CU := []
theorem ck_153 : cChk [] [] ct_153 cu_153 2000 0 = true := by decide +kernel
theorem cs_153 {s : List Int32} (hm : cMan s) : cSound s ct_153 := cChk_ok (C := []) hC0 hG0 ck_153
/-- WidowDeedsModel.forged -/
def ct_154 : CT := (168, 0, 1, (([(.ofNat 0, .ofNat 0), (.negSucc 2147483647, .ofNat 2147483647), (.ofNat 0, .ofNat 1)], [], [], []), [(2, 181, .ofNat 0), (1, 1, .ofNat 0), (1, 2, .ofNat 0)], []), [(([(.ofNat 0, .ofNat 0), (.negSucc 2147483647, .ofNat 2147483647), (.ofNat 0, .ofNat 1), (.ofNat 0, .ofNat 1)], [], [], []), [], [(1, 3, .ofNat 0)])], [])
def cu_154 : List CU := []
theorem ck_154 : cChk [] [] ct_154 cu_154 2000 0 = true := by decide +kernel
theorem cs_154 {s : List Int32} (hm : cMan s) : cSound s ct_154 := cChk_ok (C := []) hC0 hG0 ck_154
/-- WidowDeedsModel.enter -/
def ct_155 : CT := (172, 0, 2, (([(.ofNat 0, .ofNat 0), (.negSucc 2147483647, .ofNat 2147483647), (.negSucc 2147483647, .ofNat 2147483647), (.negSucc 2147483647, .ofNat 2147483647), (.negSucc 2147483647, .ofNat 2147483647), (.negSucc 2147483647, .ofNat 2147483647)], [], [], []), [(2, 181, .ofNat 0), (1, 1, .ofNat 0), (1, 2, .ofNat 0), (1, 3, .ofNat 0), (1, 4, .ofNat 0), (1, 5, .ofNat 0)], []), [(([(.ofNat 0, .ofNat 0), (.negSucc 2147483647, .ofNat 2147483647), (.negSucc 2147483647, .ofNat 2147483647), (.negSucc 2147483647, .ofNat 2147483647), (.negSucc 2147483647, .ofNat 2147483647), (.negSucc 2147483647, .ofNat 2147483647), (.ofNat 0, .ofNat 1)], [], [], []), [], [(1, 6, .ofNat 0)])], [])
def cu_155 : List CU := []
theorem ck_155 : cChk [] [] ct_155 cu_155 2000 0 = true := by decide +kernel
theorem cs_155 {s : List Int32} (hm : cMan s) : cSound s ct_155 := cChk_ok (C := []) hC0 hG0 ck_155
/-- WidowDeedsModel.mule -/
def ct_156 : CT := (173, 0, 2, (([(.ofNat 0, .ofNat 0), (.negSucc 2147483647, .ofNat 2147483647), (.negSucc 2147483647, .ofNat 2147483647), (.negSucc 2147483647, .ofNat 2147483647), (.negSucc 2147483647, .ofNat 2147483647), (.negSucc 2147483647, .ofNat 2147483647)], [], [], []), [(2, 181, .ofNat 0), (1, 1, .ofNat 0), (1, 2, .ofNat 0), (1, 3, .ofNat 0), (1, 4, .ofNat 0), (1, 5, .ofNat 0)], []), [(([(.ofNat 0, .ofNat 0), (.negSucc 2147483647, .ofNat 2147483647), (.negSucc 2147483647, .ofNat 2147483647), (.negSucc 2147483647, .ofNat 2147483647), (.negSucc 2147483647, .ofNat 2147483647), (.negSucc 2147483647, .ofNat 2147483647), (.negSucc 0, .ofNat 1006)], [], [], []), [], [(1, 6, .ofNat 0)])], [(181, 1)])
def cu_156 : List CU := []
theorem ck_156 : cChk [] [] ct_156 cu_156 2000 0 = true := by decide +kernel
theorem cs_156 {s : List Int32} (hm : cMan s) : cSound s ct_156 := cChk_ok (C := []) hC0 hG0 ck_156
/-- WidowDeedsModel.name -/
def ct_157 : CT := (174, 0, 1, (([(.ofNat 0, .ofNat 0), (.negSucc 2147483647, .ofNat 2147483647), (.negSucc 2147483647, .ofNat 2147483647)], [], [], []), [(2, 181, .ofNat 0), (1, 1, .ofNat 0), (1, 2, .ofNat 0)], []), [(([(.ofNat 0, .ofNat 0), (.negSucc 2147483647, .ofNat 2147483647), (.negSucc 2147483647, .ofNat 2147483647), (.ofNat 0, .ofNat 1)], [], [], []), [], [(1, 3, .ofNat 0)])], [])
def cu_157 : List CU := []
theorem ck_157 : cChk [] [] ct_157 cu_157 2000 0 = true := by decide +kernel
theorem cs_157 {s : List Int32} (hm : cMan s) : cSound s ct_157 := cChk_ok (C := []) hC0 hG0 ck_157
/-- WidowDeedsModel.lose -/
def ct_158 : CT := (175, 0, 1, (([(.ofNat 0, .ofNat 0), (.negSucc 2147483647, .ofNat 2147483647)], [], [], []), [(2, 181, .ofNat 0), (1, 1, .ofNat 0)], []), [(([(.ofNat 0, .ofNat 0), (.negSucc 2147483647, .ofNat 2147483647), (.ofNat 0, .ofNat 1)], [], [], []), [], [(1, 2, .ofNat 0)])], [])
def cu_158 : List CU := []
theorem ck_158 : cChk [] [] ct_158 cu_158 2000 0 = true := by decide +kernel
theorem cs_158 {s : List Int32} (hm : cMan s) : cSound s ct_158 := cChk_ok (C := []) hC0 hG0 ck_158
/-- WidowDeedsModel.heard -/
def ct_159 : CT := (182, 0, 1, (([(.ofNat 0, .ofNat 0), (.negSucc 2147483647, .ofNat 2147483647), (.negSucc 2147483647, .ofNat 2147483647), (.negSucc 2147483647, .ofNat 2147483647)], [], [], []), [(2, 181, .ofNat 0), (1, 1, .ofNat 0), (1, 2, .ofNat 0), (1, 3, .ofNat 0)], []), [(([(.ofNat 0, .ofNat 0), (.negSucc 2147483647, .ofNat 2147483647), (.negSucc 2147483647, .ofNat 2147483647), (.negSucc 2147483647, .ofNat 2147483647), (.negSucc 0, .ofNat 60)], [], [], []), [], [(1, 4, .ofNat 0)])], [(181, 15)])
def cu_159 : List CU := []
theorem ck_159 : cChk [] [] ct_159 cu_159 2000 0 = true := by decide +kernel
theorem cs_159 {s : List Int32} (hm : cMan s) : cSound s ct_159 := cChk_ok (C := []) hC0 hG0 ck_159
/-- WidowDeedsModel.bits -/
def ct_160 : CT := (183, 0, 0, (([(.ofNat 0, .ofNat 0), (.ofNat 0, .ofNat 16383)], [], [], []), [(1, 1, .ofNat 0), (0, 0, .ofNat 0), (0, 0, .ofNat 0)], []), [(([(.ofNat 0, .ofNat 0), (.ofNat 0, .ofNat 16383), (.ofNat 0, .ofNat 14)], [], [], []), [], [(1, 2, .ofNat 0)])], [])
def cu_160 : List CU := [(4, (([(.ofNat 0, .ofNat 0), (.ofNat 0, .ofNat 16383), (.ofNat 0, .ofNat 14), (.ofNat 0, .ofNat 14)], [(2, 3, .ofNat 0)], [], []), [(1, 1, .ofNat 0), (1, 2, .ofNat 0), (1, 3, .ofNat 0)], []), [(0, 0, .ofNat 0), (1, 3, .ofNat 15)])]
theorem ck_160 : cChk [] [] ct_160 cu_160 2000 2 = true := by decide +kernel
theorem cs_160 {s : List Int32} (hm : cMan s) : cSound s ct_160 := cChk_ok (C := []) hC0 hG0 ck_160
/-- WidowDeedsModel.well -/
def ct_161 : CT := (184, 0, 1, (([(.ofNat 0, .ofNat 0), (.negSucc 2147483647, .ofNat 2147483647), (.negSucc 2147483647, .ofNat 2147483647)], [], [], []), [(2, 181, .ofNat 0), (1, 1, .ofNat 0), (1, 2, .ofNat 0)], []), [(([(.ofNat 0, .ofNat 0), (.negSucc 2147483647, .ofNat 2147483647), (.negSucc 2147483647, .ofNat 2147483647), (.negSucc 0, .ofNat 20)], [], [], []), [], [(1, 3, .ofNat 0)])], [(181, 16)])
def cu_161 : List CU := []
theorem ck_161 : cChk [ct_160] [] ct_161 cu_161 2000 0 = true := by decide +kernel
theorem cs_161 {s : List Int32} (hm : cMan s) : cSound s ct_161 := cChk_ok (C := [ct_160]) (hCc (cs_160 hm) hC0) hG0 ck_161
/-- WidowDeedsModel.known -/
def ct_162 : CT := (189, 0, 61, (([(.ofNat 0, .ofNat 0), (.negSucc 2147483647, .ofNat 2147483647), (.negSucc 2147483647, .ofNat 2147483647)], [], [], []), [(2, 181, .ofNat 0), (1, 1, .ofNat 0), (1, 2, .ofNat 0)], []), [(([(.ofNat 0, .ofNat 0), (.negSucc 2147483647, .ofNat 2147483647), (.negSucc 2147483647, .ofNat 2147483647), (.negSucc 1, .ofNat 1000000)], [], [], []), [], [(1, 3, .ofNat 0)])], [])
def cu_162 : List CU := []
theorem ck_162 : cChk [cm_188] [] ct_162 cu_162 2000 0 = true := by decide +kernel
theorem cs_162 {s : List Int32} (hm : cMan s) : cSound s ct_162 := cChk_ok (C := [cm_188]) (hCc (cMan_188 hm) hC0) hG0 ck_162
/-- WidowDeedsModel.types -/
def ct_163 : CT := (190, 0, 0, (([(.ofNat 0, .ofNat 0), (.negSucc 2147483647, .ofNat 2147483647), (.ofNat 0, .ofNat 196)], [], [], [(181, 25, (1, 2, .ofNat 0))]), [(2, 181, .ofNat 0), (1, 1, .ofNat 0), (0, 0, .ofNat 0)], []), [(([(.ofNat 0, .ofNat 0), (.negSucc 2147483647, .ofNat 2147483647), (.ofNat 0, .ofNat 196)], [], [], [(181, 25, (1, 2, .ofNat 4))]), [], [])], [(181, 25)])
def cu_163 : List CU := []
theorem ck_163 : cChk [] [] ct_163 cu_163 2000 0 = true := by decide +kernel
theorem cs_163 {s : List Int32} (hm : cMan s) : cSound s ct_163 := cChk_ok (C := []) hC0 hG0 ck_163
/-- WidowDeedsModel.feed -/
def ct_164 : CT := (191, 0, 1, (([(.ofNat 0, .ofNat 0), (.negSucc 2147483647, .ofNat 2147483647), (.negSucc 2147483647, .ofNat 2147483647), (.negSucc 2147483647, .ofNat 2147483647), (.negSucc 2147483647, .ofNat 2147483647), (.negSucc 2147483647, .ofNat 2147483647)], [], [], []), [(2, 181, .ofNat 0), (1, 1, .ofNat 0), (1, 2, .ofNat 0), (1, 3, .ofNat 0), (1, 4, .ofNat 0), (1, 5, .ofNat 0)], []), [(([(.ofNat 0, .ofNat 0), (.negSucc 2147483647, .ofNat 2147483647), (.negSucc 2147483647, .ofNat 2147483647), (.negSucc 2147483647, .ofNat 2147483647), (.negSucc 2147483647, .ofNat 2147483647), (.negSucc 2147483647, .ofNat 2147483647), (.negSucc 0, .ofNat 200)], [], [], []), [], [(1, 6, .ofNat 0)])], [(181, 25)])
def cu_164 : List CU := []
theorem ck_164 : cChk [ct_163] [] ct_164 cu_164 2000 0 = true := by decide +kernel
theorem cs_164 {s : List Int32} (hm : cMan s) : cSound s ct_164 := cChk_ok (C := [ct_163]) (hCc (cs_163 hm) hC0) hG0 ck_164
/-- WidowDeedsModel.isWild -/
def ct_165 : CT := (216, 0, 1, (([(.ofNat 0, .ofNat 0), (.ofNat 0, .ofNat 39), (.ofNat 0, .ofNat 7), (.ofNat 0, .ofNat 999)], [], [], []), [(2, 181, .ofNat 0), (1, 1, .ofNat 0), (1, 2, .ofNat 0), (1, 3, .ofNat 0), (0, 0, .ofNat 0)], []), [(([(.ofNat 0, .ofNat 0), (.ofNat 0, .ofNat 39), (.ofNat 0, .ofNat 7), (.ofNat 0, .ofNat 999), (.ofNat 0, .ofNat 1)], [], [], []), [], [(1, 4, .ofNat 0)])], [])
def cu_165 : List CU := [(20, (([(.ofNat 0, .ofNat 0), (.ofNat 0, .ofNat 39), (.ofNat 0, .ofNat 7), (.ofNat 0, .ofNat 999), (.ofNat 0, .ofNat 40)], [], [], []), [(2, 181, .ofNat 0), (1, 1, .ofNat 0), (1, 2, .ofNat 0), (1, 3, .ofNat 0), (1, 4, .ofNat 0)], []), [(0, 0, .ofNat 0), (1, 4, .ofNat 41)])]
theorem ck_165 : cChk [] [] ct_165 cu_165 2000 2 = true := by decide +kernel
theorem cs_165 {s : List Int32} (hm : cMan s) : cSound s ct_165 := cChk_ok (C := []) hC0 hG0 ck_165
/-- WidowDeedsModel.seen -/
def ct_166 : CT := (218, 0, 3, (([(.ofNat 0, .ofNat 0), (.negSucc 2147483647, .ofNat 2147483647), (.negSucc 2147483647, .ofNat 2147483647), (.negSucc 2147483647, .ofNat 2147483647), (.negSucc 2147483647, .ofNat 2147483647)], [], [], []), [(2, 181, .ofNat 0), (1, 1, .ofNat 0), (1, 2, .ofNat 0), (1, 3, .ofNat 0), (1, 4, .ofNat 0)], []), [(([(.ofNat 0, .ofNat 0), (.negSucc 2147483647, .ofNat 2147483647), (.negSucc 2147483647, .ofNat 2147483647), (.negSucc 2147483647, .ofNat 2147483647), (.negSucc 2147483647, .ofNat 2147483647), (.negSucc 0, .ofNat 1)], [], [], []), [], [(1, 5, .ofNat 0)])], [])
def cu_166 : List CU := []
theorem ck_166 : cChk [ct_165] [] ct_166 cu_166 2000 0 = true := by decide +kernel
theorem cs_166 {s : List Int32} (hm : cMan s) : cSound s ct_166 := cChk_ok (C := [ct_165]) (hCc (cs_165 hm) hC0) hG0 ck_166
/-- WidowDeedsModel.anyHolds -/
def ct_167 : CT := (215, 0, 61, (([(.ofNat 0, .ofNat 0), (.ofNat 0, .ofNat 2), (.ofNat 63, .ofNat 115)], [], [], []), [(2, 181, .ofNat 0), (1, 1, .ofNat 0), (1, 2, .ofNat 0), (0, 0, .ofNat 0)], []), [(([(.ofNat 0, .ofNat 0), (.ofNat 0, .ofNat 2), (.ofNat 63, .ofNat 115), (.ofNat 0, .ofNat 1)], [], [], []), [], [(1, 3, .ofNat 0)])], [])
def cu_167 : List CU := [(5, (([(.ofNat 0, .ofNat 0), (.ofNat 0, .ofNat 2), (.ofNat 63, .ofNat 115), (.ofNat 0, .ofNat 39)], [], [], []), [(2, 181, .ofNat 0), (1, 1, .ofNat 0), (1, 2, .ofNat 0), (1, 3, .ofNat 0)], []), [(0, 0, .ofNat 0), (1, 3, .ofNat 40)])]
theorem ck_167 : cChk [cm_214] [] ct_167 cu_167 2000 2 = true := by decide +kernel
theorem cs_167 {s : List Int32} (hm : cMan s) : cSound s ct_167 := cChk_ok (C := [cm_214]) (hCc (cMan_214 hm) hC0) hG0 ck_167
/-- WidowDeedsModel.feelsEarlier -/
def ct_168 : CT := (219, 0, 1, (([(.ofNat 0, .ofNat 0), (.ofNat 0, .ofNat 7), (.ofNat 0, .ofNat 39), (.ofNat 0, .ofNat 999)], [], [], []), [(2, 181, .ofNat 0), (1, 1, .ofNat 0), (1, 2, .ofNat 0), (1, 3, .ofNat 0), (0, 0, .ofNat 0)], []), [(([(.ofNat 0, .ofNat 0), (.ofNat 0, .ofNat 7), (.ofNat 0, .ofNat 39), (.ofNat 0, .ofNat 999)], [], [], []), [], [])], [])
def cu_168 : List CU := [(3, (([(.ofNat 0, .ofNat 0), (.ofNat 0, .ofNat 7), (.ofNat 0, .ofNat 39), (.ofNat 0, .ofNat 999), (.ofNat 0, .ofNat 14)], [], [], []), [(2, 181, .ofNat 0), (1, 1, .ofNat 0), (1, 2, .ofNat 0), (1, 3, .ofNat 0), (1, 4, .ofNat 0)], []), [(0, 0, .ofNat 0), (1, 4, .ofNat 15)])]
theorem ck_168 : cChk [] [] ct_168 cu_168 2000 2 = true := by decide +kernel
theorem cs_168 {s : List Int32} (hm : cMan s) : cSound s ct_168 := cChk_ok (C := []) hC0 hG0 ck_168
/-- WidowDeedsModel.does -/
def ct_169 : CT := (220, 0, 62, (([(.ofNat 0, .ofNat 0), (.ofNat 0, .ofNat 7), (.ofNat 0, .ofNat 39), (.ofNat 0, .ofNat 39), (.ofNat 0, .ofNat 999), (.ofNat 63, .ofNat 115)], [], [], []), [(2, 181, .ofNat 0), (1, 1, .ofNat 0), (1, 2, .ofNat 0), (1, 3, .ofNat 0), (1, 4, .ofNat 0), (1, 5, .ofNat 0)], []), [(([(.ofNat 0, .ofNat 0), (.ofNat 0, .ofNat 7), (.ofNat 0, .ofNat 39), (.ofNat 0, .ofNat 39), (.ofNat 0, .ofNat 999), (.ofNat 63, .ofNat 115), (.ofNat 0, .ofNat 1)], [], [], []), [], [(1, 6, .ofNat 0)])], [])
def cu_169 : List CU := [(43, (([(.ofNat 0, .ofNat 0), (.ofNat 0, .ofNat 7), (.ofNat 0, .ofNat 39), (.ofNat 0, .ofNat 39), (.ofNat 0, .ofNat 999), (.ofNat 63, .ofNat 115), (.ofNat 0, .ofNat 1)], [], [], []), [(2, 181, .ofNat 0), (1, 1, .ofNat 0), (1, 2, .ofNat 0), (1, 3, .ofNat 0), (1, 4, .ofNat 0), (1, 5, .ofNat 0)], [(1, 6, .ofNat 0), (1, 0, .ofNat 0), (2, 216, .ofNat 0)]), [(0, 0, .ofNat 6)]), (69, (([(.ofNat 0, .ofNat 0), (.ofNat 0, .ofNat 7), (.ofNat 0, .ofNat 39), (.ofNat 0, .ofNat 39), (.ofNat 0, .ofNat 999), (.ofNat 63, .ofNat 115), (.ofNat 0, .ofNat 1)], [], [], []), [(2, 181, .ofNat 0), (1, 1, .ofNat 0), (1, 2, .ofNat 0), (1, 3, .ofNat 0), (1, 4, .ofNat 0), (1, 5, .ofNat 0)], [(1, 6, .ofNat 0), (1, 0, .ofNat 1), (2, 216, .ofNat 0)]), [(0, 0, .ofNat 5)]), (114, (([(.ofNat 0, .ofNat 0), (.ofNat 0, .ofNat 7), (.ofNat 0, .ofNat 39), (.ofNat 0, .ofNat 39), (.ofNat 0, .ofNat 999), (.ofNat 63, .ofNat 115)], [], [], []), [(2, 181, .ofNat 0), (1, 1, .ofNat 0), (1, 2, .ofNat 0), (1, 3, .ofNat 0), (1, 4, .ofNat 0), (1, 5, .ofNat 0)], [(1, 0, .ofNat 2), (2, 216, .ofNat 0)]), [(0, 0, .ofNat 3)]), (110, (([(.ofNat 0, .ofNat 0), (.ofNat 0, .ofNat 7), (.ofNat 0, .ofNat 39), (.ofNat 0, .ofNat 39), (.ofNat 0, .ofNat 999), (.ofNat 63, .ofNat 115)], [], [], []), [(2, 181, .ofNat 0), (1, 1, .ofNat 0), (1, 2, .ofNat 0), (1, 3, .ofNat 0), (1, 4, .ofNat 0), (1, 5, .ofNat 0)], [(1, 0, .ofNat 2), (2, 216, .ofNat 0)]), [(0, 0, .ofNat 4)]), (115, (([(.ofNat 0, .ofNat 0), (.ofNat 0, .ofNat 7), (.ofNat 0, .ofNat 39), (.ofNat 0, .ofNat 39), (.ofNat 0, .ofNat 999), (.ofNat 63, .ofNat 115), (.ofNat 0, .ofNat 1)], [], [], []), [(2, 181, .ofNat 0), (1, 1, .ofNat 0), (1, 2, .ofNat 0), (1, 3, .ofNat 0), (1, 4, .ofNat 0), (1, 5, .ofNat 0)], [(1, 6, .ofNat 0), (1, 0, .ofNat 2), (2, 216, .ofNat 0)]), [(0, 0, .ofNat 2)]), (136, (([(.ofNat 0, .ofNat 0), (.ofNat 0, .ofNat 7), (.ofNat 0, .ofNat 39), (.ofNat 0, .ofNat 39), (.ofNat 0, .ofNat 999), (.ofNat 63, .ofNat 115), (.ofNat 0, .ofNat 1)], [], [], []), [(2, 181, .ofNat 0), (1, 1, .ofNat 0), (1, 2, .ofNat 0), (1, 3, .ofNat 0), (1, 4, .ofNat 0), (1, 5, .ofNat 0)], [(1, 6, .ofNat 0), (1, 0, .ofNat 4), (2, 216, .ofNat 0)]), [(0, 0, .ofNat 1)]), (195, (([(.ofNat 0, .ofNat 0), (.ofNat 0, .ofNat 7), (.ofNat 0, .ofNat 39), (.ofNat 0, .ofNat 39), (.ofNat 0, .ofNat 999), (.ofNat 63, .ofNat 115), (.ofNat 0, .ofNat 1)], [], [], []), [(2, 181, .ofNat 0), (1, 1, .ofNat 0), (1, 2, .ofNat 0), (1, 3, .ofNat 0), (1, 4, .ofNat 0), (1, 5, .ofNat 0)], [(1, 6, .ofNat 0), (1, 0, .ofNat 9), (2, 216, .ofNat 0)]), [(0, 0, .ofNat 0)])]
theorem ck_169 : cChk [ct_165, ct_167, ct_168] [] ct_169 cu_169 2000 1 = true := by decide +kernel
theorem cs_169 {s : List Int32} (hm : cMan s) : cSound s ct_169 := cChk_ok (C := [ct_165, ct_167, ct_168]) (hCc (cs_165 hm) (hCc (cs_167 hm) (hCc (cs_168 hm) hC0))) hG0 ck_169
/-- WidowDeedsModel.beats -/
def ct_170 : CT := (222, 0, 63, (([(.ofNat 0, .ofNat 0), (.negSucc 2147483647, .ofNat 2147483647), (.negSucc 2147483647, .ofNat 2147483647), (.negSucc 2147483647, .ofNat 2147483647), (.negSucc 2147483647, .ofNat 2147483647), (.negSucc 2147483647, .ofNat 2147483647)], [], [], []), [(2, 181, .ofNat 0), (1, 1, .ofNat 0), (1, 2, .ofNat 0), (1, 3, .ofNat 0), (1, 4, .ofNat 0), (1, 5, .ofNat 0)], []), [(([(.ofNat 0, .ofNat 0), (.negSucc 2147483647, .ofNat 2147483647), (.negSucc 2147483647, .ofNat 2147483647), (.negSucc 2147483647, .ofNat 2147483647), (.negSucc 2147483647, .ofNat 2147483647), (.negSucc 2147483647, .ofNat 2147483647), (.negSucc 0, .ofNat 1)], [], [], []), [], [(1, 6, .ofNat 0)])], [])
def cu_170 : List CU := []
theorem ck_170 : cChk [ct_169, cm_188] [] ct_170 cu_170 2000 0 = true := by decide +kernel
theorem cs_170 {s : List Int32} (hm : cMan s) : cSound s ct_170 := cChk_ok (C := [ct_169, cm_188]) (hCc (cs_169 hm) (hCc (cMan_188 hm) hC0)) hG0 ck_170
/-- WidowDeedsModel.holder -/
def ct_171 : CT := (230, 0, 63, (([(.ofNat 0, .ofNat 0), (.negSucc 2147483647, .ofNat 2147483647), (.negSucc 2147483647, .ofNat 2147483647), (.negSucc 2147483647, .ofNat 2147483647)], [], [], []), [(2, 181, .ofNat 0), (1, 1, .ofNat 0), (1, 2, .ofNat 0), (1, 3, .ofNat 0), (0, 0, .ofNat 0)], []), [(([(.ofNat 0, .ofNat 0), (.negSucc 2147483647, .ofNat 2147483647), (.negSucc 2147483647, .ofNat 2147483647), (.negSucc 2147483647, .ofNat 2147483647), (.negSucc 1, .ofNat 40)], [], [], []), [], [(1, 4, .ofNat 0)])], [(181, 48), (181, 49)])
def cu_171 : List CU := []
theorem ck_171 : cChk [cm_188, cm_223, cm_227] [] ct_171 cu_171 2000 0 = true := by decide +kernel
theorem cs_171 {s : List Int32} (hm : cMan s) : cSound s ct_171 := cChk_ok (C := [cm_188, cm_223, cm_227]) (hCc (cMan_188 hm) (hCc (cMan_223 hm) (hCc (cMan_227 hm) hC0))) hG0 ck_171
/-- WidowDeedsModel.isInChain -/
def ct_172 : CT := (231, 0, 0, (([(.ofNat 0, .ofNat 0), (.ofNat 0, .ofNat 39)], [], [], []), [(2, 181, .ofNat 0), (1, 1, .ofNat 0), (0, 0, .ofNat 0)], []), [(([(.ofNat 0, .ofNat 0), (.ofNat 0, .ofNat 39), (.ofNat 0, .ofNat 1)], [], [], []), [], [(1, 2, .ofNat 0)])], [])
def cu_172 : List CU := [(2, (([(.ofNat 0, .ofNat 0), (.ofNat 0, .ofNat 39), (.ofNat 0, .ofNat 40)], [], [], []), [(2, 181, .ofNat 0), (1, 1, .ofNat 0), (1, 2, .ofNat 0)], []), [(0, 0, .ofNat 0), (1, 2, .ofNat 41)])]
theorem ck_172 : cChk [] [] ct_172 cu_172 2000 2 = true := by decide +kernel
theorem cs_172 {s : List Int32} (hm : cMan s) : cSound s ct_172 := cChk_ok (C := []) hC0 hG0 ck_172
/-- WidowDeedsModel.why -/
def ct_173 : CT := (232, 0, 63, (([(.ofNat 0, .ofNat 0), (.negSucc 2147483647, .ofNat 2147483647), (.negSucc 2147483647, .ofNat 2147483647), (.negSucc 2147483647, .ofNat 2147483647)], [], [], []), [(2, 181, .ofNat 0), (1, 1, .ofNat 0), (1, 2, .ofNat 0), (1, 3, .ofNat 0)], []), [(([(.ofNat 0, .ofNat 0), (.negSucc 2147483647, .ofNat 2147483647), (.negSucc 2147483647, .ofNat 2147483647), (.negSucc 2147483647, .ofNat 2147483647), (.negSucc 0, .ofNat 5)], [], [], []), [], [(1, 4, .ofNat 0)])], [(181, 48), (181, 49)])
def cu_173 : List CU := []
theorem ck_173 : cChk [ct_172, cm_188, cm_223, cm_227] [] ct_173 cu_173 2000 0 = true := by decide +kernel
theorem cs_173 {s : List Int32} (hm : cMan s) : cSound s ct_173 := cChk_ok (C := [ct_172, cm_188, cm_223, cm_227]) (hCc (cs_172 hm) (hCc (cMan_188 hm) (hCc (cMan_223 hm) (hCc (cMan_227 hm) hC0)))) hG0 ck_173
/-- WidowDeedsModel.lasts -/
def ct_174 : CT := (221, 0, 61, (([(.ofNat 0, .ofNat 0), (.ofNat 0, .ofNat 7), (.ofNat 0, .ofNat 39), (.ofNat 0, .ofNat 999)], [], [], []), [(2, 181, .ofNat 0), (1, 1, .ofNat 0), (1, 2, .ofNat 0), (1, 3, .ofNat 0), (0, 0, .ofNat 0), (0, 0, .ofNat 0), (0, 0, .ofNat 0)], []), [(([(.ofNat 0, .ofNat 0), (.ofNat 0, .ofNat 7), (.ofNat 0, .ofNat 39), (.ofNat 0, .ofNat 999), (.ofNat 0, .ofNat 1000)], [], [], []), [], [(1, 4, .ofNat 0)])], [])
def cu_174 : List CU := [(22, (([(.ofNat 0, .ofNat 0), (.ofNat 0, .ofNat 7), (.ofNat 0, .ofNat 39), (.ofNat 0, .ofNat 999), (.ofNat 0, .ofNat 2), (.ofNat 0, .ofNat 39)], [], [], []), [(2, 181, .ofNat 0), (1, 1, .ofNat 0), (1, 2, .ofNat 0), (1, 3, .ofNat 0), (1, 4, .ofNat 0), (1, 5, .ofNat 0), (0, 0, .ofNat 0)], []), [(0, 0, .ofNat 0), (1, 5, .ofNat 40)])]
theorem ck_174 : cChk [ct_168, cm_214] [] ct_174 cu_174 2000 2 = true := by decide +kernel
theorem cs_174 {s : List Int32} (hm : cMan s) : cSound s ct_174 := cChk_ok (C := [ct_168, cm_214]) (hCc (cs_168 hm) (hCc (cMan_214 hm) hC0)) hG0 ck_174
/-- WidowDeedsModel.holderAhead -/
def ct_175 : CT := (234, 0, 1, (([(.ofNat 0, .ofNat 0), (.ofNat 0, .ofNat 7), (.ofNat 0, .ofNat 39)], [], [], []), [(2, 181, .ofNat 0), (1, 1, .ofNat 0), (1, 2, .ofNat 0), (0, 0, .ofNat 0), (0, 0, .ofNat 0)], []), [(([(.ofNat 0, .ofNat 0), (.ofNat 0, .ofNat 7), (.ofNat 0, .ofNat 39), (.ofNat 0, .ofNat 9)], [], [], []), [], [(1, 3, .ofNat 0)])], [])
def cu_175 : List CU := [(10, (([(.ofNat 0, .ofNat 0), (.ofNat 0, .ofNat 7), (.ofNat 0, .ofNat 39), (.ofNat 0, .ofNat 9), (.ofNat 0, .ofNat 40)], [], [], []), [(2, 181, .ofNat 0), (1, 1, .ofNat 0), (1, 2, .ofNat 0), (1, 3, .ofNat 0), (1, 4, .ofNat 0)], []), [(0, 0, .ofNat 0), (1, 4, .ofNat 41)])]
theorem ck_175 : cChk [] [] ct_175 cu_175 2000 2 = true := by decide +kernel
theorem cs_175 {s : List Int32} (hm : cMan s) : cSound s ct_175 := cChk_ok (C := []) hC0 hG0 ck_175
/-- WidowDeedsModel.isShed -/
def ct_176 : CT := (235, 0, 63, (([(.ofNat 0, .ofNat 0), (.ofNat 0, .ofNat 7), (.ofNat 0, .ofNat 39), (.ofNat 0, .ofNat 999)], [], [], []), [(2, 181, .ofNat 0), (1, 1, .ofNat 0), (1, 2, .ofNat 0), (1, 3, .ofNat 0), (0, 0, .ofNat 0)], []), [(([(.ofNat 0, .ofNat 0), (.ofNat 0, .ofNat 7), (.ofNat 0, .ofNat 39), (.ofNat 0, .ofNat 999), (.ofNat 0, .ofNat 1)], [], [], []), [], [(1, 4, .ofNat 0)])], [])
def cu_176 : List CU := [(3, (([(.ofNat 0, .ofNat 0), (.ofNat 0, .ofNat 7), (.ofNat 0, .ofNat 39), (.ofNat 0, .ofNat 999), (.ofNat 0, .ofNat 40)], [], [], []), [(2, 181, .ofNat 0), (1, 1, .ofNat 0), (1, 2, .ofNat 0), (1, 3, .ofNat 0), (1, 4, .ofNat 0)], []), [(0, 0, .ofNat 0), (1, 4, .ofNat 41)])]
theorem ck_176 : cChk [ct_169] [] ct_176 cu_176 2000 2 = true := by decide +kernel
theorem cs_176 {s : List Int32} (hm : cMan s) : cSound s ct_176 := cChk_ok (C := [ct_169]) (hCc (cs_169 hm) hC0) hG0 ck_176
/-- WidowDeedsModel.isBurden -/
def ct_177 : CT := (236, 0, 64, (([(.ofNat 0, .ofNat 0), (.ofNat 0, .ofNat 39), (.ofNat 0, .ofNat 7), (.ofNat 0, .ofNat 999)], [], [], []), [(2, 181, .ofNat 0), (1, 1, .ofNat 0), (1, 2, .ofNat 0), (1, 3, .ofNat 0), (0, 0, .ofNat 0)], []), [(([(.ofNat 0, .ofNat 0), (.ofNat 0, .ofNat 39), (.ofNat 0, .ofNat 7), (.ofNat 0, .ofNat 999), (.ofNat 0, .ofNat 1)], [], [], []), [], [(1, 4, .ofNat 0)])], [])
def cu_177 : List CU := []
theorem ck_177 : cChk [ct_174, ct_175, ct_176] [] ct_177 cu_177 2000 0 = true := by decide +kernel
theorem cs_177 {s : List Int32} (hm : cMan s) : cSound s ct_177 := cChk_ok (C := [ct_174, ct_175, ct_176]) (hCc (cs_174 hm) (hCc (cs_175 hm) (hCc (cs_176 hm) hC0))) hG0 ck_177
/-- WidowDeedsModel.burdensOf -/
def ct_178 : CT := (237, 0, 65, (([(.ofNat 0, .ofNat 0), (.ofNat 0, .ofNat 7), (.ofNat 0, .ofNat 999)], [], [], []), [(2, 181, .ofNat 0), (1, 1, .ofNat 0), (1, 2, .ofNat 0), (0, 0, .ofNat 0), (0, 0, .ofNat 0), (0, 0, .ofNat 0)], []), [(([(.ofNat 0, .ofNat 0), (.ofNat 0, .ofNat 7), (.ofNat 0, .ofNat 999)], [], [], []), [], [(3, 0, .ofNat 0)])], [(181, 48), (181, 49)])
def cu_178 : List CU := [(12, (([(.ofNat 0, .ofNat 0), (.ofNat 0, .ofNat 7), (.ofNat 0, .ofNat 999), (.ofNat 0, .ofNat 40)], [], [], []), [(2, 181, .ofNat 0), (1, 1, .ofNat 0), (1, 2, .ofNat 0), (3, 0, .ofNat 0), (0, 0, .ofNat 0), (1, 3, .ofNat 0)], []), [(0, 0, .ofNat 0), (1, 3, .ofNat 41)])]
theorem ck_178 : cChk [ct_177, cm_188, cm_223, cm_227] [] ct_178 cu_178 2000 2 = true := by decide +kernel
theorem cs_178 {s : List Int32} (hm : cMan s) : cSound s ct_178 := cChk_ok (C := [ct_177, cm_188, cm_223, cm_227]) (hCc (cs_177 hm) (hCc (cMan_188 hm) (hCc (cMan_223 hm) (hCc (cMan_227 hm) hC0)))) hG0 ck_178
/-- WidowDeedsModel.burdens -/
def ct_179 : CT := (238, 0, 66, (([(.ofNat 0, .ofNat 0), (.negSucc 2147483647, .ofNat 2147483647), (.negSucc 2147483647, .ofNat 2147483647)], [], [], []), [(2, 181, .ofNat 0), (1, 1, .ofNat 0), (1, 2, .ofNat 0)], []), [(([(.ofNat 0, .ofNat 0), (.negSucc 2147483647, .ofNat 2147483647), (.negSucc 2147483647, .ofNat 2147483647)], [], [], []), [], [(3, 0, .ofNat 0)])], [(181, 48), (181, 49)])
def cu_179 : List CU := []
theorem ck_179 : cChk [ct_178] [] ct_179 cu_179 2000 0 = true := by decide +kernel
theorem cs_179 {s : List Int32} (hm : cMan s) : cSound s ct_179 := cChk_ok (C := [ct_178]) (hCc (cs_178 hm) hC0) hG0 ck_179
