/-! contracts, on -/
/-- WidowDeeds.till -/
def ct_120 : CT := (133, 0, 7, (([(.ofNat 0, .ofNat 0), (.negSucc 2147483647, .ofNat 2147483647), (.negSucc 2147483647, .ofNat 2147483647), (.negSucc 2147483647, .ofNat 2147483647), (.negSucc 2147483647, .ofNat 2147483647), (.negSucc 2147483647, .ofNat 2147483647), (.negSucc 2147483647, .ofNat 2147483647), (.ofNat 0, .ofNat 40)], [], [], [(7, 2, (1, 7, .ofNat 0))]), [(2, 2, .ofNat 0), (1, 1, .ofNat 0), (1, 2, .ofNat 0), (1, 3, .ofNat 0), (1, 4, .ofNat 0), (1, 5, .ofNat 0), (1, 6, .ofNat 0), (0, 0, .ofNat 0), (0, 0, .ofNat 0)], []), [(([(.ofNat 0, .ofNat 0), (.negSucc 2147483647, .ofNat 2147483647), (.negSucc 2147483647, .ofNat 2147483647), (.negSucc 2147483647, .ofNat 2147483647), (.negSucc 2147483647, .ofNat 2147483647), (.negSucc 2147483647, .ofNat 2147483647), (.negSucc 2147483647, .ofNat 2147483647), (.ofNat 0, .ofNat 40), (.negSucc 1, .ofNat 999)], [], [], [(7, 2, (1, 7, .ofNat 0))]), [], [(1, 8, .ofNat 0)])], [(7, 2), (152, 7), (158, 7), (164, 7), (170, 4), (170, 5), (170, 6), (170, 7), (170, 8), (170, 14), (170, 15)])
def cu_120 : List CU := []
theorem ck_120 : cChk [ct_4, ct_5, ct_116, ct_119] [] ct_120 cu_120 2000 0 = true := by decide +kernel
theorem cs_120 {s : List Int32} : cSound s ct_120 := cChk_ok (C := [ct_4, ct_5, ct_116, ct_119]) (G := []) (hCc cs_4 (hCc cs_5 (hCc cs_116 (hCc cs_119 hC0)))) hG0 ck_120
/-- WidowDeeds$Doubts.strike -/
def ct_121 : CT := (41, 0, 5, (([(.ofNat 0, .ofNat 0), (.ofNat 3, .ofNat 3), (.ofNat 3, .ofNat 3), (.ofNat 0, .ofNat 9)], [], [], []), [(2, 177, .ofNat 0), (3, 0, .ofNat 0), (0, 0, .ofNat 0), (1, 1, .ofNat 0), (1, 2, .ofNat 0), (1, 3, .ofNat 0), (0, 0, .ofNat 0), (0, 0, .ofNat 0)], []), [(([(.ofNat 0, .ofNat 0), (.ofNat 3, .ofNat 3), (.ofNat 3, .ofNat 3), (.ofNat 0, .ofNat 9), (.ofNat 0, .ofNat 1)], [], [], []), [], [(1, 4, .ofNat 0)])], [(152, 7), (158, 7), (164, 7), (170, 14), (170, 15)])
def cu_121 : List CU := []
theorem ck_121 : cChk [ct_88] [] ct_121 cu_121 2000 0 = true := by decide +kernel
theorem cs_121 {s : List Int32} : cSound s ct_121 := cChk_ok (C := [ct_88]) (G := []) (hCc cs_88 hC0) hG0 ck_121
/-- WidowDeeds$Doubts.strike -/
def ct_122 : CT := (41, 0, 6, (([(.ofNat 0, .ofNat 0), (.ofNat 2, .ofNat 2), (.ofNat 2, .ofNat 3), (.ofNat 0, .ofNat 9)], [], [], []), [(2, 177, .ofNat 0), (3, 0, .ofNat 0), (0, 0, .ofNat 0), (1, 1, .ofNat 0), (1, 2, .ofNat 0), (1, 3, .ofNat 0), (0, 0, .ofNat 0), (0, 0, .ofNat 0)], []), [(([(.ofNat 0, .ofNat 0), (.ofNat 2, .ofNat 2), (.ofNat 2, .ofNat 3), (.ofNat 0, .ofNat 9), (.ofNat 0, .ofNat 1)], [], [], []), [], [(1, 4, .ofNat 0)])], [(152, 7), (158, 7), (164, 7), (170, 14), (170, 15)])
def cu_122 : List CU := [(54, (([(.ofNat 0, .ofNat 0), (.ofNat 2, .ofNat 2), (.ofNat 3, .ofNat 3), (.ofNat 0, .ofNat 9), (.ofNat 1, .ofNat 40), (.ofNat 1, .ofNat 40)], [(4, 5, .ofNat 0)], [], []), [(2, 177, .ofNat 0), (3, 0, .ofNat 0), (0, 0, .ofNat 0), (1, 1, .ofNat 0), (1, 2, .ofNat 0), (1, 3, .ofNat 0), (1, 4, .ofNat 0), (1, 5, .ofNat 0)], []), [(0, 0, .ofNat 0), (1, 5, .ofNat 39)])]
theorem ck_122 : cChk [ct_88, ct_121] [] ct_122 cu_122 2000 2 = true := by decide +kernel
theorem cs_122 {s : List Int32} : cSound s ct_122 := cChk_ok (C := [ct_88, ct_121]) (G := []) (hCc cs_88 (hCc cs_121 hC0)) hG0 ck_122
/-- WidowDeeds$Doubts.strike -/
def ct_123 : CT := (41, 0, 7, (([(.ofNat 0, .ofNat 0), (.ofNat 1, .ofNat 1), (.ofNat 1, .ofNat 3), (.ofNat 0, .ofNat 9)], [], [], []), [(2, 177, .ofNat 0), (3, 0, .ofNat 0), (0, 0, .ofNat 0), (1, 1, .ofNat 0), (1, 2, .ofNat 0), (1, 3, .ofNat 0), (0, 0, .ofNat 0), (0, 0, .ofNat 0)], []), [(([(.ofNat 0, .ofNat 0), (.ofNat 1, .ofNat 1), (.ofNat 1, .ofNat 3), (.ofNat 0, .ofNat 9), (.ofNat 0, .ofNat 1)], [], [], []), [], [(1, 4, .ofNat 0)])], [(152, 7), (158, 7), (164, 7), (170, 14), (170, 15)])
def cu_123 : List CU := [(54, (([(.ofNat 0, .ofNat 0), (.ofNat 1, .ofNat 1), (.ofNat 2, .ofNat 3), (.ofNat 0, .ofNat 9), (.ofNat 1, .ofNat 40), (.ofNat 1, .ofNat 40)], [(4, 5, .ofNat 0)], [], []), [(2, 177, .ofNat 0), (3, 0, .ofNat 0), (0, 0, .ofNat 0), (1, 1, .ofNat 0), (1, 2, .ofNat 0), (1, 3, .ofNat 0), (1, 4, .ofNat 0), (1, 5, .ofNat 0)], []), [(0, 0, .ofNat 0), (1, 5, .ofNat 40)])]
theorem ck_123 : cChk [ct_88, ct_122] [] ct_123 cu_123 2000 2 = true := by decide +kernel
theorem cs_123 {s : List Int32} : cSound s ct_123 := cChk_ok (C := [ct_88, ct_122]) (G := []) (hCc cs_88 (hCc cs_122 hC0)) hG0 ck_123
/-- WidowDeeds$Doubts.strike -/
def ct_124 : CT := (41, 0, 8, (([(.ofNat 0, .ofNat 0), (.ofNat 0, .ofNat 0), (.ofNat 0, .ofNat 3), (.ofNat 0, .ofNat 9)], [], [], []), [(2, 177, .ofNat 0), (3, 0, .ofNat 0), (0, 0, .ofNat 0), (1, 1, .ofNat 0), (1, 2, .ofNat 0), (1, 3, .ofNat 0), (0, 0, .ofNat 0), (0, 0, .ofNat 0)], []), [(([(.ofNat 0, .ofNat 0), (.ofNat 0, .ofNat 0), (.ofNat 0, .ofNat 3), (.ofNat 0, .ofNat 9), (.ofNat 0, .ofNat 1)], [], [], []), [], [(1, 4, .ofNat 0)])], [(152, 7), (158, 7), (164, 7), (170, 14), (170, 15)])
def cu_124 : List CU := [(54, (([(.ofNat 0, .ofNat 0), (.ofNat 0, .ofNat 0), (.ofNat 1, .ofNat 3), (.ofNat 0, .ofNat 9), (.ofNat 0, .ofNat 40)], [], [], []), [(2, 177, .ofNat 0), (3, 0, .ofNat 0), (0, 0, .ofNat 0), (1, 1, .ofNat 0), (1, 2, .ofNat 0), (1, 3, .ofNat 0), (1, 0, .ofNat 0), (1, 4, .ofNat 0)], []), [(0, 0, .ofNat 0), (1, 4, .ofNat 41)])]
theorem ck_124 : cChk [ct_88, ct_123] [] ct_124 cu_124 2000 2 = true := by decide +kernel
theorem cs_124 {s : List Int32} : cSound s ct_124 := cChk_ok (C := [ct_88, ct_123]) (G := []) (hCc cs_88 (hCc cs_123 hC0)) hG0 ck_124
/-- WidowDeeds$Doubts.fewestForgeries -/
def ct_125 : CT := (40, 0, 9, (([(.ofNat 0, .ofNat 0), (.ofNat 0, .ofNat 7), (.ofNat 0, .ofNat 9), (.ofNat 0, .ofNat 999)], [], [], []), [(2, 177, .ofNat 0), (1, 1, .ofNat 0), (1, 2, .ofNat 0), (1, 3, .ofNat 0), (0, 0, .ofNat 0)], []), [(([(.ofNat 0, .ofNat 0), (.ofNat 0, .ofNat 7), (.ofNat 0, .ofNat 9), (.ofNat 0, .ofNat 999), (.negSucc 1, .ofNat 3)], [], [], []), [], [(1, 4, .ofNat 0)])], [(152, 7), (158, 7), (164, 7), (170, 4), (170, 5), (170, 6), (170, 7), (170, 8), (170, 14), (170, 15)])
def cu_125 : List CU := [(12, (([(.ofNat 0, .ofNat 0), (.ofNat 0, .ofNat 7), (.ofNat 0, .ofNat 9), (.ofNat 0, .ofNat 999), (.ofNat 0, .ofNat 4)], [], [], []), [(2, 177, .ofNat 0), (1, 1, .ofNat 0), (1, 2, .ofNat 0), (1, 3, .ofNat 0), (1, 4, .ofNat 0)], []), [(0, 0, .ofNat 0), (1, 4, .ofNat 5)])]
theorem ck_125 : cChk [ct_75, ct_124] [] ct_125 cu_125 2000 2 = true := by decide +kernel
theorem cs_125 {s : List Int32} : cSound s ct_125 := cChk_ok (C := [ct_75, ct_124]) (G := []) (hCc cs_75 (hCc cs_124 hC0)) hG0 ck_125
/-- WidowDeeds.fewest -/
def ct_126 : CT := (134, 0, 10, (([(.ofNat 0, .ofNat 0), (.negSucc 2147483647, .ofNat 2147483647), (.negSucc 2147483647, .ofNat 2147483647), (.negSucc 2147483647, .ofNat 2147483647), (.negSucc 2147483647, .ofNat 2147483647)], [], [], []), [(2, 2, .ofNat 0), (1, 1, .ofNat 0), (1, 2, .ofNat 0), (1, 3, .ofNat 0), (1, 4, .ofNat 0), (0, 0, .ofNat 0)], []), [(([(.ofNat 0, .ofNat 0), (.negSucc 2147483647, .ofNat 2147483647), (.negSucc 2147483647, .ofNat 2147483647), (.negSucc 2147483647, .ofNat 2147483647), (.negSucc 2147483647, .ofNat 2147483647), (.negSucc 1, .ofNat 39)], [], [], []), [], [(1, 5, .ofNat 0)])], [(152, 7), (158, 7), (164, 7), (170, 4), (170, 5), (170, 6), (170, 7), (170, 8), (170, 14), (170, 15)])
def cu_126 : List CU := []
theorem ck_126 : cChk [ct_125] [] ct_126 cu_126 2000 0 = true := by decide +kernel
theorem cs_126 {s : List Int32} : cSound s ct_126 := cChk_ok (C := [ct_125]) (G := []) (hCc cs_125 hC0) hG0 ck_126
/-- WidowDeeds$Doubts.arrive -/
def ct_127 : CT := (44, 0, 1, (([(.ofNat 0, .ofNat 0), (.ofNat 0, .ofNat 2400), (.ofNat 0, .ofNat 999)], [], [], []), [(2, 177, .ofNat 0), (1, 1, .ofNat 0), (1, 2, .ofNat 0), (0, 0, .ofNat 0), (0, 0, .ofNat 0)], []), [(([(.ofNat 0, .ofNat 0), (.ofNat 0, .ofNat 2400), (.ofNat 0, .ofNat 999)], [], [], []), [], [])], [])
def cu_127 : List CU := [(5, (([(.ofNat 0, .ofNat 0), (.ofNat 0, .ofNat 2400), (.ofNat 0, .ofNat 999), (.ofNat 0, .ofNat 2400), (.ofNat 0, .ofNat 4)], [], [], []), [(2, 177, .ofNat 0), (1, 1, .ofNat 0), (1, 2, .ofNat 0), (1, 3, .ofNat 0), (1, 4, .ofNat 0)], []), [(0, 0, .ofNat 0), (1, 4, .ofNat 5)])]
theorem ck_127 : cChk [] [] ct_127 cu_127 2000 2 = true := by decide +kernel
theorem cs_127 {s : List Int32} : cSound s ct_127 := cChk_ok (C := []) (G := []) hC0 hG0 ck_127
/-- WidowDeeds$Doubts.cancel -/
def ct_128 : CT := (45, 0, 0, (([(.ofNat 0, .ofNat 0)], [], [], []), [(2, 177, .ofNat 0)], []), [(([(.ofNat 0, .ofNat 0)], [], [], []), [], [])], [(177, 6), (177, 7)])
def cu_128 : List CU := [(0, (([(.ofNat 0, .ofNat 0), (.ofNat 0, .ofNat 343), (.ofNat 0, .ofNat 343)], [], [], [(177, 6, (1, 1, .ofNat 0)), (177, 7, (1, 2, .ofNat 0))]), [(2, 177, .ofNat 0)], []), [(0, 0, .ofNat 0), (2, 0, .ofNat 1)])]
theorem ck_128 : cChk [] [] ct_128 cu_128 2000 2 = true := by decide +kernel
theorem cs_128 {s : List Int32} : cSound s ct_128 := cChk_ok (C := []) (G := []) hC0 hG0 ck_128
/-- WidowDeeds$Doubts.countWays -/
def ct_129 : CT := (43, 0, 6, (([(.ofNat 0, .ofNat 0), (.ofNat 0, .ofNat 7), (.ofNat 0, .ofNat 9), (.ofNat 0, .ofNat 999), (.ofNat 0, .ofNat 999)], [], [], []), [(2, 177, .ofNat 0), (1, 1, .ofNat 0), (1, 2, .ofNat 0), (1, 3, .ofNat 0), (1, 4, .ofNat 0), (0, 0, .ofNat 0)], []), [(([(.ofNat 0, .ofNat 0), (.ofNat 0, .ofNat 7), (.ofNat 0, .ofNat 9), (.ofNat 0, .ofNat 999), (.ofNat 0, .ofNat 999)], [], [], []), [], [])], [(152, 7), (158, 7), (164, 7), (170, 4), (170, 5), (170, 6), (170, 7), (170, 8), (170, 14), (170, 15), (177, 6), (177, 7)])
def cu_129 : List CU := [(42, (([(.ofNat 0, .ofNat 0), (.ofNat 0, .ofNat 7), (.ofNat 0, .ofNat 9), (.ofNat 0, .ofNat 999), (.ofNat 0, .ofNat 999), (.ofNat 0, .ofNat 2147483647), (.ofNat 0, .ofNat 4), (.ofNat 0, .ofNat 2147483647), (.ofNat 1, .ofNat 2401)], [(5, 8, .ofNat 0), (6, 8, .negSucc 0), (7, 5, .ofNat 0), (7, 8, .ofNat 0)], [], [(177, 5, (1, 6, .ofNat 0)), (177, 6, (1, 7, .ofNat 0)), (177, 7, (1, 8, .ofNat 0))]), [(2, 177, .ofNat 0), (1, 1, .ofNat 0), (1, 2, .ofNat 0), (1, 3, .ofNat 0), (1, 4, .ofNat 0), (1, 5, .ofNat 0)], []), [(0, 0, .ofNat 1), (6, 5, .ofNat 2402)]), (91, (([(.ofNat 0, .ofNat 0), (.ofNat 0, .ofNat 7), (.ofNat 0, .ofNat 9), (.ofNat 0, .ofNat 999), (.ofNat 0, .ofNat 999), (.ofNat 0, .ofNat 4), (.ofNat 0, .ofNat 4), (.ofNat 0, .ofNat 2401), (.ofNat 1, .ofNat 2401)], [(5, 6, .ofNat 0), (5, 8, .negSucc 0), (6, 8, .negSucc 0), (7, 8, .ofNat 0)], [], [(177, 5, (1, 6, .ofNat 0)), (177, 6, (1, 7, .ofNat 0)), (177, 7, (1, 8, .ofNat 0))]), [(2, 177, .ofNat 0), (1, 1, .ofNat 0), (1, 2, .ofNat 0), (1, 3, .ofNat 0), (1, 4, .ofNat 0), (1, 5, .ofNat 0)], []), [(0, 0, .ofNat 0), (6, 5, .ofNat 1)])]
theorem ck_129 : cChk [ct_75, ct_88, ct_127, ct_128] [] ct_129 cu_129 2000 2 = true := by decide +kernel
theorem cs_129 {s : List Int32} : cSound s ct_129 := cChk_ok (C := [ct_75, ct_88, ct_127, ct_128]) (G := []) (hCc cs_75 (hCc cs_88 (hCc cs_127 (hCc cs_128 hC0)))) hG0 ck_129
/-- WidowDeeds.odds -/
def ct_130 : CT := (135, 0, 61, (([(.ofNat 0, .ofNat 0), (.negSucc 2147483647, .ofNat 2147483647), (.negSucc 2147483647, .ofNat 2147483647), (.negSucc 2147483647, .ofNat 2147483647), (.negSucc 2147483647, .ofNat 2147483647), (.negSucc 2147483647, .ofNat 2147483647)], [], [], []), [(2, 2, .ofNat 0), (1, 1, .ofNat 0), (1, 2, .ofNat 0), (3, 0, .ofNat 0), (0, 0, .ofNat 0), (1, 3, .ofNat 0), (1, 4, .ofNat 0), (1, 5, .ofNat 0)], []), [(([(.ofNat 0, .ofNat 0), (.negSucc 2147483647, .ofNat 2147483647), (.negSucc 2147483647, .ofNat 2147483647), (.negSucc 2147483647, .ofNat 2147483647), (.negSucc 2147483647, .ofNat 2147483647), (.negSucc 2147483647, .ofNat 2147483647), (.negSucc 0, .ofNat 2401)], [], [], []), [], [(1, 6, .ofNat 0)])], [(152, 7), (158, 7), (164, 7), (170, 4), (170, 5), (170, 6), (170, 7), (170, 8), (170, 14), (170, 15), (177, 5), (177, 6), (177, 7)])
def cu_130 : List CU := []
theorem ck_130 : cChk [ct_129, cm_42] [] ct_130 cu_130 2000 0 = true := by decide +kernel
theorem cs_130 {s : List Int32} (h_cm_42 : cSound s cm_42) : cSound s ct_130 := cChk_ok (C := [ct_129, cm_42]) (G := []) (hCc cs_129 (hCc h_cm_42 hC0)) hG0 ck_130
/-- WidowDeeds.buyer -/
def ct_131 : CT := (136, 0, 2, (([(.ofNat 0, .ofNat 0), (.negSucc 2147483647, .ofNat 2147483647), (.negSucc 2147483647, .ofNat 2147483647), (.negSucc 2147483647, .ofNat 2147483647), (.negSucc 2147483647, .ofNat 2147483647)], [], [], []), [(2, 2, .ofNat 0), (1, 1, .ofNat 0), (1, 2, .ofNat 0), (1, 3, .ofNat 0), (1, 4, .ofNat 0)], []), [(([(.ofNat 0, .ofNat 0), (.negSucc 2147483647, .ofNat 2147483647), (.negSucc 2147483647, .ofNat 2147483647), (.negSucc 2147483647, .ofNat 2147483647), (.negSucc 2147483647, .ofNat 2147483647), (.ofNat 0, .ofNat 1)], [], [], []), [], [(1, 5, .ofNat 0)])], [])
def cu_131 : List CU := []
theorem ck_131 : cChk [] [] ct_131 cu_131 2000 0 = true := by decide +kernel
theorem cs_131 {s : List Int32} : cSound s ct_131 := cChk_ok (C := []) (G := []) hC0 hG0 ck_131
/-- WidowDeeds.hears -/
def ct_132 : CT := (137, 0, 1, (([(.ofNat 0, .ofNat 0), (.negSucc 2147483647, .ofNat 2147483647), (.negSucc 2147483647, .ofNat 2147483647), (.negSucc 2147483647, .ofNat 2147483647)], [], [], []), [(2, 2, .ofNat 0), (1, 1, .ofNat 0), (1, 2, .ofNat 0), (1, 3, .ofNat 0)], []), [(([(.ofNat 0, .ofNat 0), (.negSucc 2147483647, .ofNat 2147483647), (.negSucc 2147483647, .ofNat 2147483647), (.negSucc 2147483647, .ofNat 2147483647), (.ofNat 0, .ofNat 1)], [], [], []), [], [(1, 4, .ofNat 0)])], [])
def cu_132 : List CU := []
theorem ck_132 : cChk [] [] ct_132 cu_132 2000 0 = true := by decide +kernel
theorem cs_132 {s : List Int32} : cSound s ct_132 := cChk_ok (C := []) (G := []) hC0 hG0 ck_132
/-- WidowDeeds$Market.gain -/
def ct_133 : CT := (97, 0, 0, (([(.ofNat 0, .ofNat 0), (.ofNat 0, .ofNat 2147483647)], [], [], []), [(2, 138, .ofNat 0), (1, 1, .ofNat 0), (0, 0, .ofNat 0), (0, 0, .ofNat 0)], []), [(([(.ofNat 0, .ofNat 0), (.ofNat 0, .ofNat 2147483647), (.negSucc 2147483647, .ofNat 2147483647)], [], [], []), [], [(1, 2, .ofNat 0)])], [])
def cu_133 : List CU := [(4, (([(.ofNat 0, .ofNat 0), (.ofNat 0, .ofNat 2147483647), (.negSucc 2147483647, .ofNat 2147483647), (.ofNat 0, .ofNat 8)], [], [], []), [(2, 138, .ofNat 0), (1, 1, .ofNat 0), (1, 2, .ofNat 0), (1, 3, .ofNat 0)], []), [(0, 0, .ofNat 0), (1, 3, .ofNat 9)])]
theorem ck_133 : cChk [] [] ct_133 cu_133 2000 2 = true := by decide +kernel
theorem cs_133 {s : List Int32} : cSound s ct_133 := cChk_ok (C := []) (G := []) hC0 hG0 ck_133
/-- WidowDeeds$Market.allBuy -/
def ct_134 : CT := (99, 0, 0, (([(.ofNat 0, .ofNat 0), (.ofNat 1, .ofNat 255)], [], [], []), [(2, 138, .ofNat 0), (1, 1, .ofNat 0), (0, 0, .ofNat 0)], []), [(([(.ofNat 0, .ofNat 0), (.ofNat 1, .ofNat 255), (.ofNat 0, .ofNat 1)], [], [], []), [], [(1, 2, .ofNat 0)])], [])
def cu_134 : List CU := [(2, (([(.ofNat 0, .ofNat 0), (.ofNat 1, .ofNat 255), (.ofNat 0, .ofNat 8)], [], [], []), [(2, 138, .ofNat 0), (1, 1, .ofNat 0), (1, 2, .ofNat 0)], []), [(0, 0, .ofNat 0), (1, 2, .ofNat 8)])]
theorem ck_134 : cChk [] [] ct_134 cu_134 2000 2 = true := by decide +kernel
theorem cs_134 {s : List Int32} : cSound s ct_134 := cChk_ok (C := []) (G := []) hC0 hG0 ck_134
/-- WidowDeeds$Market.isWarned -/
def ct_135 : CT := (101, 0, 0, (([(.ofNat 0, .ofNat 0), (.ofNat 0, .ofNat 7), (.ofNat 0, .ofNat 7)], [], [], []), [(2, 138, .ofNat 0), (1, 1, .ofNat 0), (1, 2, .ofNat 0), (0, 0, .ofNat 0), (0, 0, .ofNat 0)], []), [(([(.ofNat 0, .ofNat 0), (.ofNat 0, .ofNat 7), (.ofNat 0, .ofNat 7), (.ofNat 0, .ofNat 1)], [], [], []), [], [(1, 3, .ofNat 0)])], [])
def cu_135 : List CU := []
theorem ck_135 : cChk [] [] ct_135 cu_135 2000 0 = true := by decide +kernel
theorem cs_135 {s : List Int32} : cSound s ct_135 := cChk_ok (C := []) (G := []) hC0 hG0 ck_135
/-- WidowDeeds$Market.gatherWarnings -/
def ct_136 : CT := (100, 0, 1, (([(.ofNat 0, .ofNat 0)], [], [], []), [(2, 138, .ofNat 0), (0, 0, .ofNat 0), (0, 0, .ofNat 0)], []), [(([(.ofNat 0, .ofNat 0)], [], [], []), [], [])], [])
def cu_136 : List CU := [(2, (([(.ofNat 0, .ofNat 0), (.ofNat 0, .ofNat 8)], [], [], []), [(2, 138, .ofNat 0), (1, 1, .ofNat 0), (0, 0, .ofNat 0)], []), [(0, 0, .ofNat 0), (0, 1, .ofNat 9), (0, 0, .ofNat 1), (0, 0, .ofNat 0)]), (17, (([(.ofNat 0, .ofNat 0), (.ofNat 0, .ofNat 7), (.ofNat 0, .ofNat 8)], [], [], []), [(2, 138, .ofNat 0), (1, 1, .ofNat 0), (1, 2, .ofNat 0)], []), [(0, 0, .ofNat 0), (0, 1, .ofNat 9), (0, 0, .ofNat 0), (1, 2, .ofNat 9)])]
theorem ck_136 : cChk [ct_135] [] ct_136 cu_136 2000 4 = true := by decide +kernel
theorem cs_136 {s : List Int32} : cSound s ct_136 := cChk_ok (C := [ct_135]) (G := []) (hCc cs_135 hC0) hG0 ck_136
/-- WidowDeeds$Market.bestSet -/
def ct_137 : CT := (96, 0, 2, (([(.ofNat 0, .ofNat 0)], [], [], []), [(2, 138, .ofNat 0), (0, 0, .ofNat 0), (0, 0, .ofNat 0)], []), [(([(.ofNat 0, .ofNat 0), (.ofNat 0, .ofNat 2147483646)], [], [], []), [], [(1, 1, .ofNat 0)])], [(1013, 0), (1013, 1)])
def cu_137 : List CU := [(8, (([(.ofNat 0, .ofNat 0), (.ofNat 0, .ofNat 2147483647), (.ofNat 1, .ofNat 2147483647)], [(1, 2, .negSucc 0)], [], []), [(2, 138, .ofNat 0), (1, 1, .ofNat 0), (1, 2, .ofNat 0)], []), [(0, 0, .ofNat 0), (0, 2, .ofNat 2147483648)])]
theorem ck_137 : cChk [ct_133, ct_134, ct_136, cm_bc1] [] ct_137 cu_137 2000 2 = true := by decide +kernel
theorem cs_137 {s : List Int32} (h_cm_bc1 : cSound s cm_bc1) : cSound s ct_137 := cChk_ok (C := [ct_133, ct_134, ct_136, cm_bc1]) (G := []) (hCc cs_133 (hCc cs_134 (hCc cs_136 (hCc h_cm_bc1 hC0)))) hG0 ck_137
/-- WidowDeeds.widow -/
def ct_138 : CT := (138, 0, 3, (([(.ofNat 0, .ofNat 0), (.negSucc 2147483647, .ofNat 2147483647)], [], [], []), [(2, 2, .ofNat 0), (1, 1, .ofNat 0), (0, 0, .ofNat 0)], []), [(([(.ofNat 0, .ofNat 0), (.negSucc 2147483647, .ofNat 2147483647), (.negSucc 2147483647, .ofNat 2147483647)], [], [], []), [], [(1, 2, .ofNat 0)])], [(1013, 0), (1013, 1)])
def cu_138 : List CU := []
theorem ck_138 : cChk [ct_133, ct_137] [] ct_138 cu_138 2000 0 = true := by decide +kernel
theorem cs_138 {s : List Int32} (h_cm_bc1 : cSound s cm_bc1) : cSound s ct_138 := cChk_ok (C := [ct_133, ct_137]) (G := []) (hCc cs_133 (hCc (cs_137 h_cm_bc1) hC0)) hG0 ck_138
/-- WidowDeeds.holds -/
def ct_139 : CT := (139, 0, 6, (([(.ofNat 0, .ofNat 0), (.negSucc 2147483647, .ofNat 2147483647), (.negSucc 2147483647, .ofNat 2147483647)], [], [], []), [(2, 2, .ofNat 0), (1, 1, .ofNat 0), (1, 2, .ofNat 0), (0, 0, .ofNat 0), (0, 0, .ofNat 0)], []), [(([(.ofNat 0, .ofNat 0), (.negSucc 2147483647, .ofNat 2147483647), (.negSucc 2147483647, .ofNat 2147483647), (.negSucc 2147483647, .ofNat 2147483647)], [], [], []), [], [(1, 3, .ofNat 0)])], [(152, 7), (158, 7), (164, 7), (170, 4), (170, 5), (170, 6), (170, 7), (170, 8), (170, 14), (170, 15)])
def cu_139 : List CU := [(21, (([(.ofNat 0, .ofNat 0), (.ofNat 0, .ofNat 9), (.ofNat 0, .ofNat 999), (.negSucc 2147483647, .ofNat 2147483647), (.ofNat 0, .ofNat 8)], [], [], []), [(2, 2, .ofNat 0), (1, 1, .ofNat 0), (1, 2, .ofNat 0), (1, 3, .ofNat 0), (1, 4, .ofNat 0)], []), [(0, 0, .ofNat 0), (1, 4, .ofNat 9)])]
theorem ck_139 : cChk [ct_75, ct_88] [] ct_139 cu_139 2000 2 = true := by decide +kernel
theorem cs_139 {s : List Int32} : cSound s ct_139 := cChk_ok (C := [ct_75, ct_88]) (G := []) (hCc cs_75 (hCc cs_88 hC0)) hG0 ck_139
/-- WidowDeeds.reign -/
def ct_140 : CT := (140, 0, 6, (([(.ofNat 0, .ofNat 0), (.negSucc 2147483647, .ofNat 2147483647), (.negSucc 2147483647, .ofNat 2147483647), (.negSucc 2147483647, .ofNat 2147483647), (.negSucc 2147483647, .ofNat 2147483647)], [], [], []), [(2, 2, .ofNat 0), (1, 1, .ofNat 0), (1, 2, .ofNat 0), (1, 3, .ofNat 0), (1, 4, .ofNat 0), (0, 0, .ofNat 0), (0, 0, .ofNat 0)], []), [(([(.ofNat 0, .ofNat 0), (.negSucc 2147483647, .ofNat 2147483647), (.negSucc 2147483647, .ofNat 2147483647), (.negSucc 2147483647, .ofNat 2147483647), (.negSucc 2147483647, .ofNat 2147483647), (.negSucc 0, .ofNat 1000)], [], [], []), [], [(1, 5, .ofNat 0)])], [(152, 7), (158, 7), (164, 7), (170, 4), (170, 5), (170, 6), (170, 7), (170, 8), (170, 14), (170, 15)])
def cu_140 : List CU := [(54, (([(.ofNat 0, .ofNat 0), (.ofNat 0, .ofNat 7), (.ofNat 0, .ofNat 9), (.ofNat 0, .ofNat 999), (.ofNat 0, .ofNat 999), (.ofNat 0, .ofNat 2147483647), (.ofNat 0, .ofNat 1000)], [(5, 6, .ofNat 0), (5, 4, .ofNat 1), (6, 4, .ofNat 1), (3, 6, .ofNat 0), (3, 4, .ofNat 0)], [], []), [(2, 2, .ofNat 0), (1, 1, .ofNat 0), (1, 2, .ofNat 0), (1, 3, .ofNat 0), (1, 4, .ofNat 0), (1, 5, .ofNat 0), (1, 6, .ofNat 0)], []), [(0, 0, .ofNat 0), (1, 6, .ofNat 1001)])]
theorem ck_140 : cChk [ct_75, ct_88] [] ct_140 cu_140 2000 2 = true := by decide +kernel
theorem cs_140 {s : List Int32} : cSound s ct_140 := cChk_ok (C := [ct_75, ct_88]) (G := []) (hCc cs_75 (hCc cs_88 hC0)) hG0 ck_140
/-- WidowDeeds.seed -/
def ct_141 : CT := (141, 0, 1, (([(.ofNat 0, .ofNat 0), (.negSucc 2147483647, .ofNat 2147483647)], [], [], []), [(2, 2, .ofNat 0), (1, 1, .ofNat 0)], []), [(([(.ofNat 0, .ofNat 0), (.negSucc 2147483647, .ofNat 2147483647), (.ofNat 0, .ofNat 1)], [], [], []), [], [(1, 2, .ofNat 0)])], [(2, 11)])
def cu_141 : List CU := []
theorem ck_141 : cChk [] [] ct_141 cu_141 2000 0 = true := by decide +kernel
theorem cs_141 {s : List Int32} : cSound s ct_141 := cChk_ok (C := []) (G := []) hC0 hG0 ck_141
/-- WidowDeeds$Gossip.copyFrom -/
def ct_142 : CT := (56, 0, 1, (([(.ofNat 0, .ofNat 0), (.ofNat 0, .ofNat 20), (.ofNat 0, .ofNat 20)], [], [], [(93, 6, (1, 1, .ofNat 0)), (110, 6, (1, 2, .ofNat 0))]), [(2, 110, .ofNat 0), (2, 93, .ofNat 0)], []), [(([(.ofNat 0, .ofNat 0), (.ofNat 0, .ofNat 20), (.ofNat 0, .ofNat 20)], [], [], [(93, 6, (1, 1, .ofNat 0)), (110, 6, (1, 1, .ofNat 0))]), [], [])], [(110, 3), (110, 6)])
def cu_142 : List CU := []
theorem ck_142 : cChk [] [] ct_142 cu_142 2000 0 = true := by decide +kernel
theorem cs_142 {s : List Int32} : cSound s ct_142 := cChk_ok (C := []) (G := []) hC0 hG0 ck_142
/-- WidowDeeds$Ledger.copyFrom -/
def ct_143 : CT := (94, 0, 1, (([(.ofNat 0, .ofNat 0), (.ofNat 0, .ofNat 40), (.ofNat 0, .ofNat 40)], [], [], [(7, 2, (1, 1, .ofNat 0)), (50, 2, (1, 2, .ofNat 0))]), [(2, 50, .ofNat 0), (2, 7, .ofNat 0), (0, 0, .ofNat 0)], []), [(([(.ofNat 0, .ofNat 0), (.ofNat 0, .ofNat 40), (.ofNat 0, .ofNat 40)], [], [], [(7, 2, (1, 1, .ofNat 0)), (50, 2, (1, 1, .ofNat 0))]), [], [])], [(50, 2)])
def cu_143 : List CU := [(2, (([(.ofNat 0, .ofNat 0), (.ofNat 0, .ofNat 40), (.ofNat 0, .ofNat 40), (.ofNat 0, .ofNat 40)], [(3, 1, .ofNat 0)], [], [(7, 2, (1, 1, .ofNat 0)), (50, 2, (1, 2, .ofNat 0))]), [(2, 50, .ofNat 0), (2, 7, .ofNat 0), (1, 3, .ofNat 0)], []), [(0, 0, .ofNat 0), (1, 3, .ofNat 1)])]
theorem ck_143 : cChk [] [] ct_143 cu_143 2000 2 = true := by decide +kernel
theorem cs_143 {s : List Int32} : cSound s ct_143 := cChk_ok (C := []) (G := []) hC0 hG0 ck_143
/-- WidowDeeds.keep -/
def ct_144 : CT := (142, 0, 2, (([(.ofNat 0, .ofNat 0)], [], [], []), [(2, 2, .ofNat 0)], []), [(([(.ofNat 0, .ofNat 0), (.ofNat 0, .ofNat 40)], [], [], []), [], [(1, 1, .ofNat 0)])], [(2, 12), (2, 13), (50, 2), (110, 3), (110, 6)])
def cu_144 : List CU := []
theorem ck_144 : cChk [ct_142, ct_143] [] ct_144 cu_144 2000 0 = true := by decide +kernel
theorem cs_144 {s : List Int32} : cSound s ct_144 := cChk_ok (C := [ct_142, ct_143]) (G := []) (hCc cs_142 (hCc cs_143 hC0)) hG0 ck_144
/-- WidowDeeds$Gossip.copyFrom -/
def ct_145 : CT := (56, 0, 1, (([(.ofNat 0, .ofNat 0), (.ofNat 0, .ofNat 20), (.ofNat 0, .ofNat 20)], [], [], [(93, 6, (1, 1, .ofNat 0)), (110, 6, (1, 2, .ofNat 0))]), [(2, 93, .ofNat 0), (2, 110, .ofNat 0)], []), [(([(.ofNat 0, .ofNat 0), (.ofNat 0, .ofNat 20), (.ofNat 0, .ofNat 20)], [], [], [(93, 6, (1, 2, .ofNat 0)), (110, 6, (1, 2, .ofNat 0))]), [], [])], [(93, 3), (93, 6)])
def cu_145 : List CU := []
theorem ck_145 : cChk [] [] ct_145 cu_145 2000 0 = true := by decide +kernel
theorem cs_145 {s : List Int32} : cSound s ct_145 := cChk_ok (C := []) (G := []) hC0 hG0 ck_145
/-- WidowDeeds$Ledger.copyFrom -/
def ct_146 : CT := (94, 0, 1, (([(.ofNat 0, .ofNat 0), (.ofNat 0, .ofNat 40), (.ofNat 0, .ofNat 40)], [], [], [(7, 2, (1, 1, .ofNat 0)), (50, 2, (1, 2, .ofNat 0))]), [(2, 7, .ofNat 0), (2, 50, .ofNat 0), (0, 0, .ofNat 0)], []), [(([(.ofNat 0, .ofNat 0), (.ofNat 0, .ofNat 40), (.ofNat 0, .ofNat 40)], [], [], [(7, 2, (1, 2, .ofNat 0)), (50, 2, (1, 2, .ofNat 0))]), [], [])], [(7, 2)])
def cu_146 : List CU := [(2, (([(.ofNat 0, .ofNat 0), (.ofNat 0, .ofNat 40), (.ofNat 0, .ofNat 40), (.ofNat 0, .ofNat 40)], [(3, 2, .ofNat 0)], [], [(7, 2, (1, 1, .ofNat 0)), (50, 2, (1, 2, .ofNat 0))]), [(2, 7, .ofNat 0), (2, 50, .ofNat 0), (1, 3, .ofNat 0)], []), [(0, 0, .ofNat 0), (1, 3, .ofNat 41)])]
theorem ck_146 : cChk [] [] ct_146 cu_146 2000 2 = true := by decide +kernel
theorem cs_146 {s : List Int32} : cSound s ct_146 := cChk_ok (C := []) (G := []) hC0 hG0 ck_146
/-- WidowDeeds.undo -/
def ct_147 : CT := (143, 0, 5, (([(.ofNat 0, .ofNat 0)], [], [], []), [(2, 2, .ofNat 0)], []), [(([(.ofNat 0, .ofNat 0), (.ofNat 0, .ofNat 1)], [], [], []), [], [(1, 1, .ofNat 0)])], [(2, 11), (7, 2), (93, 3), (93, 6)])
def cu_147 : List CU := []
theorem ck_147 : cChk [ct_14, ct_145, ct_146] [] ct_147 cu_147 2000 0 = true := by decide +kernel
theorem cs_147 {s : List Int32} : cSound s ct_147 := cChk_ok (C := [ct_14, ct_145, ct_146]) (G := []) (hCc cs_14 (hCc cs_145 (hCc cs_146 hC0))) hG0 ck_147
/-- WidowDeeds.check -/
def ct_148 : CT := (144, 0, 6, (([(.ofNat 0, .ofNat 0), (.negSucc 2147483647, .ofNat 2147483647), (.negSucc 2147483647, .ofNat 2147483647), (.ofNat 0, .ofNat 200), (.ofNat 0, .ofNat 200), (.ofNat 0, .ofNat 50)], [(3, 4, .ofNat 0), (4, 3, .ofNat 0)], [], [(127, 1, (1, 3, .ofNat 0)), (1012, 0, (1, 4, .ofNat 0)), (1012, 1, (1, 5, .ofNat 0))]), [(2, 2, .ofNat 0), (1, 1, .ofNat 0), (1, 2, .ofNat 0), (0, 0, .ofNat 0), (0, 0, .ofNat 0)], []), [(([(.ofNat 0, .ofNat 0), (.negSucc 2147483647, .ofNat 2147483647), (.negSucc 2147483647, .ofNat 2147483647), (.ofNat 0, .ofNat 200), (.ofNat 0, .ofNat 200), (.ofNat 0, .ofNat 50)], [(1, 0, .negSucc 0)], [], [(127, 1, (1, 3, .ofNat 0))]), [], [(1, 0, .negSucc 1)]), (([(.ofNat 0, .ofNat 0), (.negSucc 2147483647, .ofNat 2147483647), (.negSucc 2147483647, .ofNat 2147483647), (.ofNat 0, .ofNat 200), (.ofNat 0, .ofNat 200), (.ofNat 0, .ofNat 50)], [(0, 1, .negSucc 999)], [], [(127, 1, (1, 3, .ofNat 0))]), [], [(1, 0, .negSucc 1)]), (([(.ofNat 0, .ofNat 0), (.negSucc 2147483647, .ofNat 2147483647), (.negSucc 2147483647, .ofNat 2147483647), (.ofNat 0, .ofNat 200), (.ofNat 0, .ofNat 200), (.ofNat 0, .ofNat 50)], [(0, 1, .ofNat 0), (1, 0, .ofNat 999), (2, 0, .negSucc 0)], [], [(127, 1, (1, 3, .ofNat 0))]), [], [(1, 0, .negSucc 1)]), (([(.ofNat 0, .ofNat 0), (.negSucc 2147483647, .ofNat 2147483647), (.negSucc 2147483647, .ofNat 2147483647), (.ofNat 0, .ofNat 200), (.ofNat 0, .ofNat 200), (.ofNat 0, .ofNat 50), (.negSucc 0, .ofNat 8)], [(6, 2, .ofNat 0), (6, 5, .ofNat 0), (2, 5, .ofNat 0), (0, 1, .ofNat 0), (1, 0, .ofNat 999), (0, 2, .ofNat 0), (2, 0, .ofNat 50)], [], [(127, 1, (1, 0, .ofNat 0))]), [], [(1, 6, .ofNat 0)]), (([(.ofNat 0, .ofNat 0), (.negSucc 2147483647, .ofNat 2147483647), (.negSucc 2147483647, .ofNat 2147483647), (.ofNat 0, .ofNat 200), (.ofNat 0, .ofNat 200), (.ofNat 0, .ofNat 50)], [(5, 2, .negSucc 0), (0, 1, .ofNat 0), (1, 0, .ofNat 999), (0, 2, .negSucc 0)], [], [(127, 1, (1, 3, .ofNat 0))]), [], [(1, 0, .negSucc 1)])], [(127, 1), (152, 7), (158, 7), (164, 7), (170, 4), (170, 5), (170, 6), (170, 7), (170, 8), (170, 14), (170, 15)])
def cu_148 : List CU := [(45, (([(.ofNat 0, .ofNat 0), (.ofNat 0, .ofNat 999), (.ofNat 0, .ofNat 50), (.ofNat 0, .ofNat 200), (.ofNat 0, .ofNat 200), (.ofNat 0, .ofNat 50), (.ofNat 0, .ofNat 8), (.ofNat 0, .ofNat 8)], [(6, 2, .ofNat 0), (6, 5, .ofNat 0), (7, 6, .ofNat 0), (7, 2, .ofNat 0), (7, 5, .ofNat 0), (2, 5, .ofNat 0), (3, 4, .ofNat 0), (4, 3, .ofNat 0)], [], [(127, 1, (1, 0, .ofNat 0)), (1012, 0, (1, 4, .ofNat 0)), (1012, 1, (1, 5, .ofNat 0))]), [(2, 2, .ofNat 0), (1, 1, .ofNat 0), (1, 2, .ofNat 0), (1, 6, .ofNat 0), (1, 7, .ofNat 0)], []), [(0, 0, .ofNat 0), (4, 7, .ofNat 9)])]
theorem ck_148 : cChk [ct_75, ct_88] [sg_dvx] ct_148 cu_148 2000 2 = true := by decide +kernel
theorem cs_148 {s : List Int32} (h_sg_dvx : gSound s sg_dvx) : cSound s ct_148 := cChk_ok (C := [ct_75, ct_88]) (G := [sg_dvx]) (hCc cs_75 (hCc cs_88 hC0)) (hGc h_sg_dvx hG0) ck_148
/-- WidowDeeds.deedIs -/
def ct_149 : CT := (145, 0, 2, (([(.ofNat 0, .ofNat 0), (.negSucc 2147483647, .ofNat 2147483647), (.negSucc 2147483647, .ofNat 2147483647)], [], [], []), [(2, 2, .ofNat 0), (1, 1, .ofNat 0), (1, 2, .ofNat 0), (0, 0, .ofNat 0)], []), [(([(.ofNat 0, .ofNat 0), (.negSucc 2147483647, .ofNat 2147483647), (.negSucc 2147483647, .ofNat 2147483647), (.negSucc 2147483647, .ofNat 2147483647)], [], [], []), [], [(1, 3, .ofNat 0)])], [])
def cu_149 : List CU := []
theorem ck_149 : cChk [] [] ct_149 cu_149 2000 0 = true := by decide +kernel
theorem cs_149 {s : List Int32} : cSound s ct_149 := cChk_ok (C := []) (G := []) hC0 hG0 ck_149
