/-! contracts, on -/
/-- WidowDeeds.keep -/
def ct_90 : CT := (142, 0, 2, (([(.ofNat 0, .ofNat 0)], [], [], []), [(2, 2, .ofNat 0)], []), [(([(.ofNat 0, .ofNat 0), (.ofNat 0, .ofNat 40)], [], [], []), [], [(1, 1, .ofNat 0)])], [(2, 12), (2, 13), (50, 2), (110, 3), (110, 6)])
def cu_90 : List CU := []
theorem ck_90 : cChk [ct_88, ct_89] [] ct_90 cu_90 2000 0 = true := by decide +kernel
theorem cs_90 {s : List Int32} (hm : cMan s) : cSound s ct_90 := cChk_ok (C := [ct_88, ct_89]) (hCc (cs_88 hm) (hCc (cs_89 hm) hC0)) hG0 ck_90
/-- WidowDeeds$Gossip.copyFrom -/
def ct_91 : CT := (56, 0, 1, (([(.ofNat 0, .ofNat 0)], [], [], []), [(2, 93, .ofNat 0), (2, 110, .ofNat 0)], []), [(([(.ofNat 0, .ofNat 0)], [], [], []), [], [])], [(93, 3), (93, 6)])
def cu_91 : List CU := []
theorem ck_91 : cChk [] [] ct_91 cu_91 2000 0 = true := by decide +kernel
theorem cs_91 {s : List Int32} (hm : cMan s) : cSound s ct_91 := cChk_ok (C := []) hC0 hG0 ck_91
/-- WidowDeeds$Ledger.copyFrom -/
def ct_92 : CT := (94, 0, 1, (([(.ofNat 0, .ofNat 0)], [], [], []), [(2, 7, .ofNat 0), (2, 50, .ofNat 0), (0, 0, .ofNat 0)], []), [(([(.ofNat 0, .ofNat 0)], [], [], []), [], [])], [(7, 2)])
def cu_92 : List CU := [(2, (([(.ofNat 0, .ofNat 0), (.ofNat 0, .ofNat 40)], [], [], []), [(2, 7, .ofNat 0), (2, 50, .ofNat 0), (1, 1, .ofNat 0)], []), [(0, 0, .ofNat 0), (0, 1, .ofNat 41)])]
theorem ck_92 : cChk [] [] ct_92 cu_92 2000 2 = true := by decide +kernel
theorem cs_92 {s : List Int32} (hm : cMan s) : cSound s ct_92 := cChk_ok (C := []) hC0 hG0 ck_92
/-- WidowDeeds.undo -/
def ct_93 : CT := (143, 0, 5, (([(.ofNat 0, .ofNat 0)], [], [], []), [(2, 2, .ofNat 0)], []), [(([(.ofNat 0, .ofNat 0), (.ofNat 0, .ofNat 1)], [], [], []), [], [(1, 1, .ofNat 0)])], [(2, 11), (7, 2), (93, 3), (93, 6)])
def cu_93 : List CU := []
theorem ck_93 : cChk [ct_14, ct_91, ct_92] [] ct_93 cu_93 2000 0 = true := by decide +kernel
theorem cs_93 {s : List Int32} (hm : cMan s) : cSound s ct_93 := cChk_ok (C := [ct_14, ct_91, ct_92]) (hCc (cs_14 hm) (hCc (cs_91 hm) (hCc (cs_92 hm) hC0))) hG0 ck_93
/-- WidowDeeds.check -/
def ct_94 : CT := (144, 0, 6, (([(.ofNat 0, .ofNat 0), (.negSucc 2147483647, .ofNat 2147483647), (.negSucc 2147483647, .ofNat 2147483647)], [], [], []), [(2, 2, .ofNat 0), (1, 1, .ofNat 0), (1, 2, .ofNat 0), (0, 0, .ofNat 0), (0, 0, .ofNat 0)], []), [(([(.ofNat 0, .ofNat 0), (.negSucc 2147483647, .ofNat 2147483647), (.negSucc 2147483647, .ofNat 2147483647), (.negSucc 1, .ofNat 8)], [], [], []), [], [(1, 3, .ofNat 0)])], [(127, 1), (152, 7), (158, 7), (164, 7), (170, 4), (170, 5), (170, 6), (170, 7), (170, 8), (170, 14), (170, 15)])
def cu_94 : List CU := [(45, (([(.ofNat 0, .ofNat 0), (.ofNat 0, .ofNat 999), (.ofNat 0, .ofNat 50), (.ofNat 0, .ofNat 8), (.ofNat 0, .ofNat 8)], [(4, 3, .ofNat 0)], [], [(127, 1, (1, 0, .ofNat 0))]), [(2, 2, .ofNat 0), (1, 1, .ofNat 0), (1, 2, .ofNat 0), (1, 3, .ofNat 0), (1, 4, .ofNat 0)], []), [(0, 0, .ofNat 0), (0, 4, .ofNat 9)])]
theorem ck_94 : cChk [ct_21, ct_34] [] ct_94 cu_94 2000 2 = true := by decide +kernel
theorem cs_94 {s : List Int32} (hm : cMan s) : cSound s ct_94 := cChk_ok (C := [ct_21, ct_34]) (hCc (cs_21 hm) (hCc (cs_34 hm) hC0)) hG0 ck_94
/-- WidowDeeds.deedIs -/
def ct_95 : CT := (145, 0, 2, (([(.ofNat 0, .ofNat 0), (.negSucc 2147483647, .ofNat 2147483647), (.negSucc 2147483647, .ofNat 2147483647)], [], [], []), [(2, 2, .ofNat 0), (1, 1, .ofNat 0), (1, 2, .ofNat 0), (0, 0, .ofNat 0)], []), [(([(.ofNat 0, .ofNat 0), (.negSucc 2147483647, .ofNat 2147483647), (.negSucc 2147483647, .ofNat 2147483647), (.negSucc 2147483647, .ofNat 2147483647)], [], [], []), [], [(1, 3, .ofNat 0)])], [])
def cu_95 : List CU := []
theorem ck_95 : cChk [] [] ct_95 cu_95 2000 0 = true := by decide +kernel
theorem cs_95 {s : List Int32} (hm : cMan s) : cSound s ct_95 := cChk_ok (C := []) hC0 hG0 ck_95
/-- WidowDeeds.count -/
def ct_96 : CT := (146, 0, 1, (([(.ofNat 0, .ofNat 0), (.negSucc 2147483647, .ofNat 2147483647)], [], [], []), [(2, 2, .ofNat 0), (1, 1, .ofNat 0)], []), [(([(.ofNat 0, .ofNat 0), (.negSucc 2147483647, .ofNat 2147483647), (.negSucc 0, .ofNat 65535)], [], [], []), [], [(1, 2, .ofNat 0)])], [])
def cu_96 : List CU := []
theorem ck_96 : cChk [] [] ct_96 cu_96 2000 0 = true := by decide +kernel
theorem cs_96 {s : List Int32} (hm : cMan s) : cSound s ct_96 := cChk_ok (C := []) hC0 hG0 ck_96
/-- WidowDeedsModel.dies -/
def ct_97 : CT := (165, 0, 1, (([(.ofNat 0, .ofNat 0), (.negSucc 2147483647, .ofNat 2147483647), (.negSucc 2147483647, .ofNat 2147483647)], [], [], []), [(2, 181, .ofNat 0), (1, 1, .ofNat 0), (1, 2, .ofNat 0)], []), [(([(.ofNat 0, .ofNat 0), (.negSucc 2147483647, .ofNat 2147483647), (.negSucc 2147483647, .ofNat 2147483647), (.ofNat 0, .ofNat 1)], [], [], []), [], [(1, 3, .ofNat 0)])], [])
def cu_97 : List CU := []
theorem ck_97 : cChk [] [] ct_97 cu_97 2000 0 = true := by decide +kernel
theorem cs_97 {s : List Int32} (hm : cMan s) : cSound s ct_97 := cChk_ok (C := []) hC0 hG0 ck_97
/-- WidowDeedsModel.strip -/
def ct_98 : CT := (166, 0, 1, (([(.ofNat 0, .ofNat 0), (.negSucc 2147483647, .ofNat 2147483647), (.negSucc 2147483647, .ofNat 2147483647), (.negSucc 2147483647, .ofNat 2147483647)], [], [], []), [(2, 181, .ofNat 0), (1, 1, .ofNat 0), (1, 2, .ofNat 0), (1, 3, .ofNat 0)], []), [(([(.ofNat 0, .ofNat 0), (.negSucc 2147483647, .ofNat 2147483647), (.negSucc 2147483647, .ofNat 2147483647), (.negSucc 2147483647, .ofNat 2147483647), (.ofNat 0, .ofNat 1)], [], [], []), [], [(1, 4, .ofNat 0)])], [])
def cu_98 : List CU := []
theorem ck_98 : cChk [] [] ct_98 cu_98 2000 0 = true := by decide +kernel
theorem cs_98 {s : List Int32} (hm : cMan s) : cSound s ct_98 := cChk_ok (C := []) hC0 hG0 ck_98
/-- WidowDeedsModel.deed -/
def ct_99 : CT := (167, 0, 1, (([(.ofNat 0, .ofNat 0), (.negSucc 2147483647, .ofNat 2147483647), (.negSucc 2147483647, .ofNat 2147483647), (.negSucc 2147483647, .ofNat 2147483647), (.negSucc 2147483647, .ofNat 2147483647), (.negSucc 2147483647, .ofNat 2147483647), (.negSucc 2147483647, .ofNat 2147483647)], [], [], []), [(2, 181, .ofNat 0), (1, 1, .ofNat 0), (1, 2, .ofNat 0), (1, 3, .ofNat 0), (1, 4, .ofNat 0), (1, 5, .ofNat 0), (1, 6, .ofNat 0)], []), [(([(.ofNat 0, .ofNat 0), (.negSucc 2147483647, .ofNat 2147483647), (.negSucc 2147483647, .ofNat 2147483647), (.negSucc 2147483647, .ofNat 2147483647), (.negSucc 2147483647, .ofNat 2147483647), (.negSucc 2147483647, .ofNat 2147483647), (.negSucc 2147483647, .ofNat 2147483647), (.negSucc 0, .ofNat 39)], [], [], []), [], [(1, 7, .ofNat 0)])], [(181, 0)])
def cu_99 : List CU := []
theorem ck_99 : cChk [] [] ct_99 cu_99 2000 0 = true := by decide +kernel
theorem cs_99 {s : List Int32} (hm : cMan s) : cSound s ct_99 := cChk_ok (C := []) hC0 hG0 ck_99
/-- WidowDeedsModel.forged -/
def ct_100 : CT := (168, 0, 1, (([(.ofNat 0, .ofNat 0), (.negSucc 2147483647, .ofNat 2147483647), (.ofNat 0, .ofNat 1)], [], [], []), [(2, 181, .ofNat 0), (1, 1, .ofNat 0), (1, 2, .ofNat 0)], []), [(([(.ofNat 0, .ofNat 0), (.negSucc 2147483647, .ofNat 2147483647), (.ofNat 0, .ofNat 1), (.ofNat 0, .ofNat 1)], [], [], []), [], [(1, 3, .ofNat 0)])], [])
def cu_100 : List CU := []
theorem ck_100 : cChk [] [] ct_100 cu_100 2000 0 = true := by decide +kernel
theorem cs_100 {s : List Int32} (hm : cMan s) : cSound s ct_100 := cChk_ok (C := []) hC0 hG0 ck_100
/-- WidowDeedsModel.enter -/
def ct_101 : CT := (172, 0, 2, (([(.ofNat 0, .ofNat 0), (.negSucc 2147483647, .ofNat 2147483647), (.negSucc 2147483647, .ofNat 2147483647), (.negSucc 2147483647, .ofNat 2147483647), (.negSucc 2147483647, .ofNat 2147483647), (.negSucc 2147483647, .ofNat 2147483647)], [], [], []), [(2, 181, .ofNat 0), (1, 1, .ofNat 0), (1, 2, .ofNat 0), (1, 3, .ofNat 0), (1, 4, .ofNat 0), (1, 5, .ofNat 0)], []), [(([(.ofNat 0, .ofNat 0), (.negSucc 2147483647, .ofNat 2147483647), (.negSucc 2147483647, .ofNat 2147483647), (.negSucc 2147483647, .ofNat 2147483647), (.negSucc 2147483647, .ofNat 2147483647), (.negSucc 2147483647, .ofNat 2147483647), (.ofNat 0, .ofNat 1)], [], [], []), [], [(1, 6, .ofNat 0)])], [])
def cu_101 : List CU := []
theorem ck_101 : cChk [] [] ct_101 cu_101 2000 0 = true := by decide +kernel
theorem cs_101 {s : List Int32} (hm : cMan s) : cSound s ct_101 := cChk_ok (C := []) hC0 hG0 ck_101
/-- WidowDeedsModel.mule -/
def ct_102 : CT := (173, 0, 2, (([(.ofNat 0, .ofNat 0), (.negSucc 2147483647, .ofNat 2147483647), (.negSucc 2147483647, .ofNat 2147483647), (.negSucc 2147483647, .ofNat 2147483647), (.negSucc 2147483647, .ofNat 2147483647), (.negSucc 2147483647, .ofNat 2147483647)], [], [], []), [(2, 181, .ofNat 0), (1, 1, .ofNat 0), (1, 2, .ofNat 0), (1, 3, .ofNat 0), (1, 4, .ofNat 0), (1, 5, .ofNat 0)], []), [(([(.ofNat 0, .ofNat 0), (.negSucc 2147483647, .ofNat 2147483647), (.negSucc 2147483647, .ofNat 2147483647), (.negSucc 2147483647, .ofNat 2147483647), (.negSucc 2147483647, .ofNat 2147483647), (.negSucc 2147483647, .ofNat 2147483647), (.negSucc 0, .ofNat 1006)], [], [], []), [], [(1, 6, .ofNat 0)])], [(181, 1)])
def cu_102 : List CU := []
theorem ck_102 : cChk [] [] ct_102 cu_102 2000 0 = true := by decide +kernel
theorem cs_102 {s : List Int32} (hm : cMan s) : cSound s ct_102 := cChk_ok (C := []) hC0 hG0 ck_102
/-- WidowDeedsModel.name -/
def ct_103 : CT := (174, 0, 1, (([(.ofNat 0, .ofNat 0), (.negSucc 2147483647, .ofNat 2147483647), (.negSucc 2147483647, .ofNat 2147483647)], [], [], []), [(2, 181, .ofNat 0), (1, 1, .ofNat 0), (1, 2, .ofNat 0)], []), [(([(.ofNat 0, .ofNat 0), (.negSucc 2147483647, .ofNat 2147483647), (.negSucc 2147483647, .ofNat 2147483647), (.ofNat 0, .ofNat 1)], [], [], []), [], [(1, 3, .ofNat 0)])], [])
def cu_103 : List CU := []
theorem ck_103 : cChk [] [] ct_103 cu_103 2000 0 = true := by decide +kernel
theorem cs_103 {s : List Int32} (hm : cMan s) : cSound s ct_103 := cChk_ok (C := []) hC0 hG0 ck_103
/-- WidowDeedsModel.lose -/
def ct_104 : CT := (175, 0, 1, (([(.ofNat 0, .ofNat 0), (.negSucc 2147483647, .ofNat 2147483647)], [], [], []), [(2, 181, .ofNat 0), (1, 1, .ofNat 0)], []), [(([(.ofNat 0, .ofNat 0), (.negSucc 2147483647, .ofNat 2147483647), (.ofNat 0, .ofNat 1)], [], [], []), [], [(1, 2, .ofNat 0)])], [])
def cu_104 : List CU := []
theorem ck_104 : cChk [] [] ct_104 cu_104 2000 0 = true := by decide +kernel
theorem cs_104 {s : List Int32} (hm : cMan s) : cSound s ct_104 := cChk_ok (C := []) hC0 hG0 ck_104
/-- WidowDeedsModel.heard -/
def ct_105 : CT := (182, 0, 1, (([(.ofNat 0, .ofNat 0), (.negSucc 2147483647, .ofNat 2147483647), (.negSucc 2147483647, .ofNat 2147483647), (.negSucc 2147483647, .ofNat 2147483647)], [], [], []), [(2, 181, .ofNat 0), (1, 1, .ofNat 0), (1, 2, .ofNat 0), (1, 3, .ofNat 0)], []), [(([(.ofNat 0, .ofNat 0), (.negSucc 2147483647, .ofNat 2147483647), (.negSucc 2147483647, .ofNat 2147483647), (.negSucc 2147483647, .ofNat 2147483647), (.negSucc 0, .ofNat 60)], [], [], []), [], [(1, 4, .ofNat 0)])], [(181, 15)])
def cu_105 : List CU := []
theorem ck_105 : cChk [] [] ct_105 cu_105 2000 0 = true := by decide +kernel
theorem cs_105 {s : List Int32} (hm : cMan s) : cSound s ct_105 := cChk_ok (C := []) hC0 hG0 ck_105
/-- WidowDeedsModel.bits -/
def ct_106 : CT := (183, 0, 0, (([(.ofNat 0, .ofNat 0), (.ofNat 0, .ofNat 16383)], [], [], []), [(1, 1, .ofNat 0), (0, 0, .ofNat 0), (0, 0, .ofNat 0)], []), [(([(.ofNat 0, .ofNat 0), (.ofNat 0, .ofNat 16383), (.ofNat 0, .ofNat 14)], [], [], []), [], [(1, 2, .ofNat 0)])], [])
def cu_106 : List CU := [(4, (([(.ofNat 0, .ofNat 0), (.ofNat 0, .ofNat 16383), (.ofNat 0, .ofNat 14), (.ofNat 0, .ofNat 14)], [(2, 3, .ofNat 0)], [], []), [(1, 1, .ofNat 0), (1, 2, .ofNat 0), (1, 3, .ofNat 0)], []), [(0, 0, .ofNat 0), (1, 3, .ofNat 15)])]
theorem ck_106 : cChk [] [] ct_106 cu_106 2000 2 = true := by decide +kernel
theorem cs_106 {s : List Int32} (hm : cMan s) : cSound s ct_106 := cChk_ok (C := []) hC0 hG0 ck_106
/-- WidowDeedsModel.well -/
def ct_107 : CT := (184, 0, 1, (([(.ofNat 0, .ofNat 0), (.negSucc 2147483647, .ofNat 2147483647), (.negSucc 2147483647, .ofNat 2147483647)], [], [], []), [(2, 181, .ofNat 0), (1, 1, .ofNat 0), (1, 2, .ofNat 0)], []), [(([(.ofNat 0, .ofNat 0), (.negSucc 2147483647, .ofNat 2147483647), (.negSucc 2147483647, .ofNat 2147483647), (.negSucc 0, .ofNat 20)], [], [], []), [], [(1, 3, .ofNat 0)])], [(181, 16)])
def cu_107 : List CU := []
theorem ck_107 : cChk [ct_106] [] ct_107 cu_107 2000 0 = true := by decide +kernel
theorem cs_107 {s : List Int32} (hm : cMan s) : cSound s ct_107 := cChk_ok (C := [ct_106]) (hCc (cs_106 hm) hC0) hG0 ck_107
/-- WidowDeedsModel.known -/
def ct_108 : CT := (189, 0, 61, (([(.ofNat 0, .ofNat 0), (.negSucc 2147483647, .ofNat 2147483647), (.negSucc 2147483647, .ofNat 2147483647)], [], [], []), [(2, 181, .ofNat 0), (1, 1, .ofNat 0), (1, 2, .ofNat 0)], []), [(([(.ofNat 0, .ofNat 0), (.negSucc 2147483647, .ofNat 2147483647), (.negSucc 2147483647, .ofNat 2147483647), (.negSucc 1, .ofNat 1000000)], [], [], []), [], [(1, 3, .ofNat 0)])], [])
def cu_108 : List CU := []
theorem ck_108 : cChk [cm_188] [] ct_108 cu_108 2000 0 = true := by decide +kernel
theorem cs_108 {s : List Int32} (hm : cMan s) : cSound s ct_108 := cChk_ok (C := [cm_188]) (hCc (cMan_188 hm) hC0) hG0 ck_108
/-- WidowDeedsModel.types -/
def ct_109 : CT := (190, 0, 0, (([(.ofNat 0, .ofNat 0), (.negSucc 2147483647, .ofNat 2147483647), (.ofNat 0, .ofNat 196)], [], [], [(181, 25, (1, 2, .ofNat 0))]), [(2, 181, .ofNat 0), (1, 1, .ofNat 0), (0, 0, .ofNat 0)], []), [(([(.ofNat 0, .ofNat 0), (.negSucc 2147483647, .ofNat 2147483647), (.ofNat 0, .ofNat 196)], [], [], [(181, 25, (1, 2, .ofNat 4))]), [], [])], [(181, 25)])
def cu_109 : List CU := []
theorem ck_109 : cChk [] [] ct_109 cu_109 2000 0 = true := by decide +kernel
theorem cs_109 {s : List Int32} (hm : cMan s) : cSound s ct_109 := cChk_ok (C := []) hC0 hG0 ck_109
/-- WidowDeedsModel.feed -/
def ct_110 : CT := (191, 0, 1, (([(.ofNat 0, .ofNat 0), (.negSucc 2147483647, .ofNat 2147483647), (.negSucc 2147483647, .ofNat 2147483647), (.negSucc 2147483647, .ofNat 2147483647), (.negSucc 2147483647, .ofNat 2147483647), (.negSucc 2147483647, .ofNat 2147483647)], [], [], []), [(2, 181, .ofNat 0), (1, 1, .ofNat 0), (1, 2, .ofNat 0), (1, 3, .ofNat 0), (1, 4, .ofNat 0), (1, 5, .ofNat 0)], []), [(([(.ofNat 0, .ofNat 0), (.negSucc 2147483647, .ofNat 2147483647), (.negSucc 2147483647, .ofNat 2147483647), (.negSucc 2147483647, .ofNat 2147483647), (.negSucc 2147483647, .ofNat 2147483647), (.negSucc 2147483647, .ofNat 2147483647), (.negSucc 0, .ofNat 200)], [], [], []), [], [(1, 6, .ofNat 0)])], [(181, 25)])
def cu_110 : List CU := []
theorem ck_110 : cChk [ct_109] [] ct_110 cu_110 2000 0 = true := by decide +kernel
theorem cs_110 {s : List Int32} (hm : cMan s) : cSound s ct_110 := cChk_ok (C := [ct_109]) (hCc (cs_109 hm) hC0) hG0 ck_110
/-- WidowDeedsModel.isWild -/
def ct_111 : CT := (216, 0, 1, (([(.ofNat 0, .ofNat 0), (.ofNat 0, .ofNat 39), (.ofNat 0, .ofNat 7), (.ofNat 0, .ofNat 999)], [], [], []), [(2, 181, .ofNat 0), (1, 1, .ofNat 0), (1, 2, .ofNat 0), (1, 3, .ofNat 0), (0, 0, .ofNat 0)], []), [(([(.ofNat 0, .ofNat 0), (.ofNat 0, .ofNat 39), (.ofNat 0, .ofNat 7), (.ofNat 0, .ofNat 999), (.ofNat 0, .ofNat 1)], [], [], []), [], [(1, 4, .ofNat 0)])], [])
def cu_111 : List CU := [(20, (([(.ofNat 0, .ofNat 0), (.ofNat 0, .ofNat 39), (.ofNat 0, .ofNat 7), (.ofNat 0, .ofNat 999), (.ofNat 0, .ofNat 40)], [], [], []), [(2, 181, .ofNat 0), (1, 1, .ofNat 0), (1, 2, .ofNat 0), (1, 3, .ofNat 0), (1, 4, .ofNat 0)], []), [(0, 0, .ofNat 0), (1, 4, .ofNat 41)])]
theorem ck_111 : cChk [] [] ct_111 cu_111 2000 2 = true := by decide +kernel
theorem cs_111 {s : List Int32} (hm : cMan s) : cSound s ct_111 := cChk_ok (C := []) hC0 hG0 ck_111
/-- WidowDeedsModel.seen -/
def ct_112 : CT := (218, 0, 3, (([(.ofNat 0, .ofNat 0), (.negSucc 2147483647, .ofNat 2147483647), (.negSucc 2147483647, .ofNat 2147483647), (.negSucc 2147483647, .ofNat 2147483647), (.negSucc 2147483647, .ofNat 2147483647)], [], [], []), [(2, 181, .ofNat 0), (1, 1, .ofNat 0), (1, 2, .ofNat 0), (1, 3, .ofNat 0), (1, 4, .ofNat 0)], []), [(([(.ofNat 0, .ofNat 0), (.negSucc 2147483647, .ofNat 2147483647), (.negSucc 2147483647, .ofNat 2147483647), (.negSucc 2147483647, .ofNat 2147483647), (.negSucc 2147483647, .ofNat 2147483647), (.negSucc 0, .ofNat 1)], [], [], []), [], [(1, 5, .ofNat 0)])], [])
def cu_112 : List CU := []
theorem ck_112 : cChk [ct_111] [] ct_112 cu_112 2000 0 = true := by decide +kernel
theorem cs_112 {s : List Int32} (hm : cMan s) : cSound s ct_112 := cChk_ok (C := [ct_111]) (hCc (cs_111 hm) hC0) hG0 ck_112
/-- WidowDeedsModel.anyHolds -/
def ct_113 : CT := (215, 0, 61, (([(.ofNat 0, .ofNat 0), (.ofNat 0, .ofNat 2), (.ofNat 63, .ofNat 115)], [], [], []), [(2, 181, .ofNat 0), (1, 1, .ofNat 0), (1, 2, .ofNat 0), (0, 0, .ofNat 0)], []), [(([(.ofNat 0, .ofNat 0), (.ofNat 0, .ofNat 2), (.ofNat 63, .ofNat 115), (.ofNat 0, .ofNat 1)], [], [], []), [], [(1, 3, .ofNat 0)])], [])
def cu_113 : List CU := [(5, (([(.ofNat 0, .ofNat 0), (.ofNat 0, .ofNat 2), (.ofNat 63, .ofNat 115), (.ofNat 0, .ofNat 39)], [], [], []), [(2, 181, .ofNat 0), (1, 1, .ofNat 0), (1, 2, .ofNat 0), (1, 3, .ofNat 0)], []), [(0, 0, .ofNat 0), (1, 3, .ofNat 40)])]
theorem ck_113 : cChk [cm_214] [] ct_113 cu_113 2000 2 = true := by decide +kernel
theorem cs_113 {s : List Int32} (hm : cMan s) : cSound s ct_113 := cChk_ok (C := [cm_214]) (hCc (cMan_214 hm) hC0) hG0 ck_113
/-- WidowDeedsModel.feelsEarlier -/
def ct_114 : CT := (219, 0, 1, (([(.ofNat 0, .ofNat 0), (.ofNat 0, .ofNat 7), (.ofNat 0, .ofNat 39), (.ofNat 0, .ofNat 999)], [], [], []), [(2, 181, .ofNat 0), (1, 1, .ofNat 0), (1, 2, .ofNat 0), (1, 3, .ofNat 0), (0, 0, .ofNat 0)], []), [(([(.ofNat 0, .ofNat 0), (.ofNat 0, .ofNat 7), (.ofNat 0, .ofNat 39), (.ofNat 0, .ofNat 999)], [], [], []), [], [])], [])
def cu_114 : List CU := [(3, (([(.ofNat 0, .ofNat 0), (.ofNat 0, .ofNat 7), (.ofNat 0, .ofNat 39), (.ofNat 0, .ofNat 999), (.ofNat 0, .ofNat 14)], [], [], []), [(2, 181, .ofNat 0), (1, 1, .ofNat 0), (1, 2, .ofNat 0), (1, 3, .ofNat 0), (1, 4, .ofNat 0)], []), [(0, 0, .ofNat 0), (1, 4, .ofNat 15)])]
theorem ck_114 : cChk [] [] ct_114 cu_114 2000 2 = true := by decide +kernel
theorem cs_114 {s : List Int32} (hm : cMan s) : cSound s ct_114 := cChk_ok (C := []) hC0 hG0 ck_114
/-- WidowDeedsModel.does -/
def ct_115 : CT := (220, 0, 62, (([(.ofNat 0, .ofNat 0), (.ofNat 0, .ofNat 7), (.ofNat 0, .ofNat 39), (.ofNat 0, .ofNat 39), (.ofNat 0, .ofNat 999), (.ofNat 63, .ofNat 115)], [], [], []), [(2, 181, .ofNat 0), (1, 1, .ofNat 0), (1, 2, .ofNat 0), (1, 3, .ofNat 0), (1, 4, .ofNat 0), (1, 5, .ofNat 0)], []), [(([(.ofNat 0, .ofNat 0), (.ofNat 0, .ofNat 7), (.ofNat 0, .ofNat 39), (.ofNat 0, .ofNat 39), (.ofNat 0, .ofNat 999), (.ofNat 63, .ofNat 115), (.ofNat 0, .ofNat 1)], [], [], []), [], [(1, 6, .ofNat 0)])], [])
def cu_115 : List CU := [(43, (([(.ofNat 0, .ofNat 0), (.ofNat 0, .ofNat 7), (.ofNat 0, .ofNat 39), (.ofNat 0, .ofNat 39), (.ofNat 0, .ofNat 999), (.ofNat 63, .ofNat 115), (.ofNat 0, .ofNat 1)], [], [], []), [(2, 181, .ofNat 0), (1, 1, .ofNat 0), (1, 2, .ofNat 0), (1, 3, .ofNat 0), (1, 4, .ofNat 0), (1, 5, .ofNat 0)], [(1, 6, .ofNat 0), (1, 0, .ofNat 0), (2, 216, .ofNat 0)]), [(0, 0, .ofNat 6)]), (69, (([(.ofNat 0, .ofNat 0), (.ofNat 0, .ofNat 7), (.ofNat 0, .ofNat 39), (.ofNat 0, .ofNat 39), (.ofNat 0, .ofNat 999), (.ofNat 63, .ofNat 115), (.ofNat 0, .ofNat 1)], [], [], []), [(2, 181, .ofNat 0), (1, 1, .ofNat 0), (1, 2, .ofNat 0), (1, 3, .ofNat 0), (1, 4, .ofNat 0), (1, 5, .ofNat 0)], [(1, 6, .ofNat 0), (1, 0, .ofNat 1), (2, 216, .ofNat 0)]), [(0, 0, .ofNat 5)]), (114, (([(.ofNat 0, .ofNat 0), (.ofNat 0, .ofNat 7), (.ofNat 0, .ofNat 39), (.ofNat 0, .ofNat 39), (.ofNat 0, .ofNat 999), (.ofNat 63, .ofNat 115)], [], [], []), [(2, 181, .ofNat 0), (1, 1, .ofNat 0), (1, 2, .ofNat 0), (1, 3, .ofNat 0), (1, 4, .ofNat 0), (1, 5, .ofNat 0)], [(1, 0, .ofNat 2), (2, 216, .ofNat 0)]), [(0, 0, .ofNat 3)]), (110, (([(.ofNat 0, .ofNat 0), (.ofNat 0, .ofNat 7), (.ofNat 0, .ofNat 39), (.ofNat 0, .ofNat 39), (.ofNat 0, .ofNat 999), (.ofNat 63, .ofNat 115)], [], [], []), [(2, 181, .ofNat 0), (1, 1, .ofNat 0), (1, 2, .ofNat 0), (1, 3, .ofNat 0), (1, 4, .ofNat 0), (1, 5, .ofNat 0)], [(1, 0, .ofNat 2), (2, 216, .ofNat 0)]), [(0, 0, .ofNat 4)]), (115, (([(.ofNat 0, .ofNat 0), (.ofNat 0, .ofNat 7), (.ofNat 0, .ofNat 39), (.ofNat 0, .ofNat 39), (.ofNat 0, .ofNat 999), (.ofNat 63, .ofNat 115), (.ofNat 0, .ofNat 1)], [], [], []), [(2, 181, .ofNat 0), (1, 1, .ofNat 0), (1, 2, .ofNat 0), (1, 3, .ofNat 0), (1, 4, .ofNat 0), (1, 5, .ofNat 0)], [(1, 6, .ofNat 0), (1, 0, .ofNat 2), (2, 216, .ofNat 0)]), [(0, 0, .ofNat 2)]), (136, (([(.ofNat 0, .ofNat 0), (.ofNat 0, .ofNat 7), (.ofNat 0, .ofNat 39), (.ofNat 0, .ofNat 39), (.ofNat 0, .ofNat 999), (.ofNat 63, .ofNat 115), (.ofNat 0, .ofNat 1)], [], [], []), [(2, 181, .ofNat 0), (1, 1, .ofNat 0), (1, 2, .ofNat 0), (1, 3, .ofNat 0), (1, 4, .ofNat 0), (1, 5, .ofNat 0)], [(1, 6, .ofNat 0), (1, 0, .ofNat 4), (2, 216, .ofNat 0)]), [(0, 0, .ofNat 1)]), (195, (([(.ofNat 0, .ofNat 0), (.ofNat 0, .ofNat 7), (.ofNat 0, .ofNat 39), (.ofNat 0, .ofNat 39), (.ofNat 0, .ofNat 999), (.ofNat 63, .ofNat 115), (.ofNat 0, .ofNat 1)], [], [], []), [(2, 181, .ofNat 0), (1, 1, .ofNat 0), (1, 2, .ofNat 0), (1, 3, .ofNat 0), (1, 4, .ofNat 0), (1, 5, .ofNat 0)], [(1, 6, .ofNat 0), (1, 0, .ofNat 9), (2, 216, .ofNat 0)]), [(0, 0, .ofNat 0)])]
theorem ck_115 : cChk [ct_111, ct_113, ct_114] [] ct_115 cu_115 2000 1 = true := by decide +kernel
theorem cs_115 {s : List Int32} (hm : cMan s) : cSound s ct_115 := cChk_ok (C := [ct_111, ct_113, ct_114]) (hCc (cs_111 hm) (hCc (cs_113 hm) (hCc (cs_114 hm) hC0))) hG0 ck_115
/-- WidowDeedsModel.beats -/
def ct_116 : CT := (222, 0, 63, (([(.ofNat 0, .ofNat 0), (.negSucc 2147483647, .ofNat 2147483647), (.negSucc 2147483647, .ofNat 2147483647), (.negSucc 2147483647, .ofNat 2147483647), (.negSucc 2147483647, .ofNat 2147483647), (.negSucc 2147483647, .ofNat 2147483647)], [], [], []), [(2, 181, .ofNat 0), (1, 1, .ofNat 0), (1, 2, .ofNat 0), (1, 3, .ofNat 0), (1, 4, .ofNat 0), (1, 5, .ofNat 0)], []), [(([(.ofNat 0, .ofNat 0), (.negSucc 2147483647, .ofNat 2147483647), (.negSucc 2147483647, .ofNat 2147483647), (.negSucc 2147483647, .ofNat 2147483647), (.negSucc 2147483647, .ofNat 2147483647), (.negSucc 2147483647, .ofNat 2147483647), (.negSucc 0, .ofNat 1)], [], [], []), [], [(1, 6, .ofNat 0)])], [])
def cu_116 : List CU := []
theorem ck_116 : cChk [ct_115, cm_188] [] ct_116 cu_116 2000 0 = true := by decide +kernel
theorem cs_116 {s : List Int32} (hm : cMan s) : cSound s ct_116 := cChk_ok (C := [ct_115, cm_188]) (hCc (cs_115 hm) (hCc (cMan_188 hm) hC0)) hG0 ck_116
/-- WidowDeedsModel.holder -/
def ct_117 : CT := (230, 0, 63, (([(.ofNat 0, .ofNat 0), (.negSucc 2147483647, .ofNat 2147483647), (.negSucc 2147483647, .ofNat 2147483647), (.negSucc 2147483647, .ofNat 2147483647)], [], [], []), [(2, 181, .ofNat 0), (1, 1, .ofNat 0), (1, 2, .ofNat 0), (1, 3, .ofNat 0), (0, 0, .ofNat 0)], []), [(([(.ofNat 0, .ofNat 0), (.negSucc 2147483647, .ofNat 2147483647), (.negSucc 2147483647, .ofNat 2147483647), (.negSucc 2147483647, .ofNat 2147483647), (.negSucc 1, .ofNat 40)], [], [], []), [], [(1, 4, .ofNat 0)])], [(181, 48), (181, 49)])
def cu_117 : List CU := []
theorem ck_117 : cChk [cm_188, cm_223, cm_227] [] ct_117 cu_117 2000 0 = true := by decide +kernel
theorem cs_117 {s : List Int32} (hm : cMan s) : cSound s ct_117 := cChk_ok (C := [cm_188, cm_223, cm_227]) (hCc (cMan_188 hm) (hCc (cMan_223 hm) (hCc (cMan_227 hm) hC0))) hG0 ck_117
/-- WidowDeedsModel.isInChain -/
def ct_118 : CT := (231, 0, 0, (([(.ofNat 0, .ofNat 0), (.ofNat 0, .ofNat 39)], [], [], []), [(2, 181, .ofNat 0), (1, 1, .ofNat 0), (0, 0, .ofNat 0)], []), [(([(.ofNat 0, .ofNat 0), (.ofNat 0, .ofNat 39), (.ofNat 0, .ofNat 1)], [], [], []), [], [(1, 2, .ofNat 0)])], [])
def cu_118 : List CU := [(2, (([(.ofNat 0, .ofNat 0), (.ofNat 0, .ofNat 39), (.ofNat 0, .ofNat 40)], [], [], []), [(2, 181, .ofNat 0), (1, 1, .ofNat 0), (1, 2, .ofNat 0)], []), [(0, 0, .ofNat 0), (1, 2, .ofNat 41)])]
theorem ck_118 : cChk [] [] ct_118 cu_118 2000 2 = true := by decide +kernel
theorem cs_118 {s : List Int32} (hm : cMan s) : cSound s ct_118 := cChk_ok (C := []) hC0 hG0 ck_118
/-- WidowDeedsModel.why -/
def ct_119 : CT := (232, 0, 63, (([(.ofNat 0, .ofNat 0), (.negSucc 2147483647, .ofNat 2147483647), (.negSucc 2147483647, .ofNat 2147483647), (.negSucc 2147483647, .ofNat 2147483647)], [], [], []), [(2, 181, .ofNat 0), (1, 1, .ofNat 0), (1, 2, .ofNat 0), (1, 3, .ofNat 0)], []), [(([(.ofNat 0, .ofNat 0), (.negSucc 2147483647, .ofNat 2147483647), (.negSucc 2147483647, .ofNat 2147483647), (.negSucc 2147483647, .ofNat 2147483647), (.negSucc 0, .ofNat 5)], [], [], []), [], [(1, 4, .ofNat 0)])], [(181, 48), (181, 49)])
def cu_119 : List CU := []
theorem ck_119 : cChk [ct_118, cm_188, cm_223, cm_227] [] ct_119 cu_119 2000 0 = true := by decide +kernel
theorem cs_119 {s : List Int32} (hm : cMan s) : cSound s ct_119 := cChk_ok (C := [ct_118, cm_188, cm_223, cm_227]) (hCc (cs_118 hm) (hCc (cMan_188 hm) (hCc (cMan_223 hm) (hCc (cMan_227 hm) hC0)))) hG0 ck_119
