/-! contracts, on -/
/-- WidowDeeds$Chain.reasonOut -/
def ct_90 : CT := (14, 0, 2, (([(.ofNat 0, .ofNat 0), (.ofNat 0, .ofNat 39)], [], [], []), [(2, 170, .ofNat 0), (1, 1, .ofNat 0), (0, 0, .ofNat 0), (0, 0, .ofNat 0)], []), [(([(.ofNat 0, .ofNat 0), (.ofNat 0, .ofNat 39), (.ofNat 0, .ofNat 5)], [], [], []), [], [(1, 2, .ofNat 0)])], [])
def cu_90 : List CU := [(12, (([(.ofNat 0, .ofNat 0), (.ofNat 0, .ofNat 39), (.ofNat 0, .ofNat 40)], [], [], []), [(2, 170, .ofNat 0), (1, 1, .ofNat 0), (2, 10, .ofNat 0), (1, 2, .ofNat 0)], []), [(0, 0, .ofNat 0), (1, 2, .ofNat 41)])]
theorem ck_90 : cChk [] [] ct_90 cu_90 2000 2 = true := by decide +kernel
theorem cs_90 {s : List Int32} : cSound s ct_90 := cChk_ok (C := []) (G := []) hC0 hG0 ck_90
/-- WidowDeeds.why -/
def ct_91 : CT := (125, 0, 6, (([(.ofNat 0, .ofNat 0), (.negSucc 2147483647, .ofNat 2147483647), (.negSucc 2147483647, .ofNat 2147483647), (.negSucc 2147483647, .ofNat 2147483647)], [], [], []), [(2, 2, .ofNat 0), (1, 1, .ofNat 0), (1, 2, .ofNat 0), (1, 3, .ofNat 0)], []), [(([(.ofNat 0, .ofNat 0), (.negSucc 2147483647, .ofNat 2147483647), (.negSucc 2147483647, .ofNat 2147483647), (.negSucc 2147483647, .ofNat 2147483647), (.negSucc 0, .ofNat 5)], [], [], []), [], [(1, 4, .ofNat 0)])], [(152, 7), (158, 7), (164, 7), (170, 4), (170, 5), (170, 6), (170, 7), (170, 8), (170, 14), (170, 15)])
def cu_91 : List CU := []
theorem ck_91 : cChk [ct_75, ct_88, ct_90] [] ct_91 cu_91 2000 0 = true := by decide +kernel
theorem cs_91 {s : List Int32} : cSound s ct_91 := cChk_ok (C := [ct_75, ct_88, ct_90]) (G := []) (hCc cs_75 (hCc cs_88 (hCc cs_90 hC0))) hG0 ck_91
/-- WidowDeeds$Law.daysOf -/
def ct_92 : CT := (65, 0, 2, (([(.ofNat 0, .ofNat 0)], [], [], []), [(2, 152, .ofNat 0), (2, 172, .ofNat 0), (0, 0, .ofNat 0)], []), [(([(.ofNat 0, .ofNat 0), (.ofNat 0, .ofNat 1000)], [], [], []), [], [(1, 1, .ofNat 0)])], [(152, 7)])
def cu_92 : List CU := [(2, (([(.ofNat 0, .ofNat 0), (.ofNat 0, .ofNat 12)], [], [], []), [(2, 152, .ofNat 0), (2, 172, .ofNat 0), (1, 1, .ofNat 0)], []), [(0, 0, .ofNat 0), (0, 1, .ofNat 13)])]
theorem ck_92 : cChk [ct_80] [] ct_92 cu_92 2000 2 = true := by decide +kernel
theorem cs_92 {s : List Int32} : cSound s ct_92 := cChk_ok (C := [ct_80]) (G := []) (hCc cs_80 hC0) hG0 ck_92
/-- WidowDeeds$Law.daysOf -/
def ct_93 : CT := (65, 0, 2, (([(.ofNat 0, .ofNat 0)], [], [], []), [(2, 158, .ofNat 0), (2, 172, .ofNat 0), (0, 0, .ofNat 0)], []), [(([(.ofNat 0, .ofNat 0), (.ofNat 0, .ofNat 1000)], [], [], []), [], [(1, 1, .ofNat 0)])], [(158, 7)])
def cu_93 : List CU := [(2, (([(.ofNat 0, .ofNat 0), (.ofNat 0, .ofNat 12)], [], [], []), [(2, 158, .ofNat 0), (2, 172, .ofNat 0), (1, 1, .ofNat 0)], []), [(0, 0, .ofNat 0), (0, 1, .ofNat 13)])]
theorem ck_93 : cChk [ct_82] [] ct_93 cu_93 2000 2 = true := by decide +kernel
theorem cs_93 {s : List Int32} : cSound s ct_93 := cChk_ok (C := [ct_82]) (G := []) (hCc cs_82 hC0) hG0 ck_93
/-- WidowDeeds$Law.daysOf -/
def ct_94 : CT := (65, 0, 2, (([(.ofNat 0, .ofNat 0)], [], [], []), [(2, 164, .ofNat 0), (2, 172, .ofNat 0), (0, 0, .ofNat 0)], []), [(([(.ofNat 0, .ofNat 0), (.ofNat 0, .ofNat 1000)], [], [], []), [], [(1, 1, .ofNat 0)])], [(164, 7)])
def cu_94 : List CU := [(2, (([(.ofNat 0, .ofNat 0), (.ofNat 0, .ofNat 12)], [], [], []), [(2, 164, .ofNat 0), (2, 172, .ofNat 0), (1, 1, .ofNat 0)], []), [(0, 0, .ofNat 0), (0, 1, .ofNat 13)])]
theorem ck_94 : cChk [ct_84] [] ct_94 cu_94 2000 2 = true := by decide +kernel
theorem cs_94 {s : List Int32} : cSound s ct_94 := cChk_ok (C := [ct_84]) (G := []) (hCc cs_84 hC0) hG0 ck_94
/-- java/util/Arrays.fill -/
def ct_95 : CT := (281, 0, 0, (([(.ofNat 0, .ofNat 0), (.ofNat 0, .ofNat 0)], [], [], []), [(2, 172, .ofNat 0), (1, 1, .ofNat 0), (0, 0, .ofNat 0), (0, 0, .ofNat 0)], []), [(([(.ofNat 0, .ofNat 0), (.ofNat 0, .ofNat 0)], [], [], []), [], [])], [])
def cu_95 : List CU := [(5, (([(.ofNat 0, .ofNat 0), (.ofNat 0, .ofNat 0), (.ofNat 0, .ofNat 26)], [], [], []), [(2, 172, .ofNat 0), (1, 1, .ofNat 0), (1, 2, .ofNat 0), (1, 0, .ofNat 26)], []), [(0, 0, .ofNat 0), (1, 2, .ofNat 27)])]
theorem ck_95 : cChk [] [] ct_95 cu_95 2000 2 = true := by decide +kernel
theorem cs_95 {s : List Int32} : cSound s ct_95 := cChk_ok (C := []) (G := []) hC0 hG0 ck_95
/-- WidowDeeds$Chain.isBurden -/
def ct_96 : CT := (16, 0, 4, (([(.ofNat 0, .ofNat 0), (.ofNat 0, .ofNat 39)], [], [], []), [(2, 170, .ofNat 0), (1, 1, .ofNat 0), (0, 0, .ofNat 0), (0, 0, .ofNat 0)], []), [(([(.ofNat 0, .ofNat 0), (.ofNat 0, .ofNat 39), (.ofNat 0, .ofNat 1)], [], [], []), [], [(1, 2, .ofNat 0)])], [(152, 7), (158, 7), (164, 7)])
def cu_96 : List CU := [(7, (([(.ofNat 0, .ofNat 0), (.ofNat 0, .ofNat 39), (.ofNat 0, .ofNat 9), (.ofNat 0, .ofNat 40), (.ofNat 0, .ofNat 9)], [], [], [(170, 6, (1, 4, .ofNat 0))]), [(2, 170, .ofNat 0), (1, 1, .ofNat 0), (1, 2, .ofNat 0), (1, 3, .ofNat 0)], []), [(0, 0, .ofNat 0), (4, 3, .ofNat 41)])]
theorem ck_96 : cChk [ct_77, ct_78, ct_81, ct_83, ct_85, ct_92, ct_93, ct_94, ct_95] [] ct_96 cu_96 2000 2 = true := by decide +kernel
theorem cs_96 {s : List Int32} : cSound s ct_96 := cChk_ok (C := [ct_77, ct_78, ct_81, ct_83, ct_85, ct_92, ct_93, ct_94, ct_95]) (G := []) (hCc cs_77 (hCc cs_78 (hCc cs_81 (hCc cs_83 (hCc cs_85 (hCc cs_92 (hCc cs_93 (hCc cs_94 (hCc cs_95 hC0))))))))) hG0 ck_96
/-- WidowDeeds$Chain.liesOn -/
def ct_97 : CT := (15, 0, 6, (([(.ofNat 0, .ofNat 0), (.ofNat 0, .ofNat 7), (.ofNat 0, .ofNat 999)], [], [], []), [(2, 170, .ofNat 0), (1, 1, .ofNat 0), (1, 2, .ofNat 0), (0, 0, .ofNat 0), (0, 0, .ofNat 0), (0, 0, .ofNat 0)], []), [(([(.ofNat 0, .ofNat 0), (.ofNat 0, .ofNat 7), (.ofNat 0, .ofNat 999)], [], [], []), [], [(3, 0, .ofNat 0)])], [(152, 7), (158, 7), (164, 7), (170, 4), (170, 5), (170, 6), (170, 7), (170, 8), (170, 14), (170, 15)])
def cu_97 : List CU := [(12, (([(.ofNat 0, .ofNat 0), (.ofNat 0, .ofNat 7), (.ofNat 0, .ofNat 999), (.ofNat 0, .ofNat 40)], [], [], []), [(2, 170, .ofNat 0), (1, 1, .ofNat 0), (1, 2, .ofNat 0), (3, 0, .ofNat 0), (0, 0, .ofNat 0), (1, 3, .ofNat 0)], []), [(0, 0, .ofNat 0), (1, 3, .ofNat 41)])]
theorem ck_97 : cChk [ct_75, ct_88, ct_96] [] ct_97 cu_97 2000 2 = true := by decide +kernel
theorem cs_97 {s : List Int32} : cSound s ct_97 := cChk_ok (C := [ct_75, ct_88, ct_96]) (G := []) (hCc cs_75 (hCc cs_88 (hCc cs_96 hC0))) hG0 ck_97
/-- WidowDeeds.burdens -/
def ct_98 : CT := (126, 0, 7, (([(.ofNat 0, .ofNat 0), (.negSucc 2147483647, .ofNat 2147483647), (.negSucc 2147483647, .ofNat 2147483647)], [], [], []), [(2, 2, .ofNat 0), (1, 1, .ofNat 0), (1, 2, .ofNat 0)], []), [(([(.ofNat 0, .ofNat 0), (.negSucc 2147483647, .ofNat 2147483647), (.negSucc 2147483647, .ofNat 2147483647)], [], [], []), [], [(3, 0, .ofNat 0)])], [(152, 7), (158, 7), (164, 7), (170, 4), (170, 5), (170, 6), (170, 7), (170, 8), (170, 14), (170, 15)])
def cu_98 : List CU := []
theorem ck_98 : cChk [ct_97] [] ct_98 cu_98 2000 0 = true := by decide +kernel
theorem cs_98 {s : List Int32} : cSound s ct_98 := cChk_ok (C := [ct_97]) (G := []) (hCc cs_97 hC0) hG0 ck_98
/-- WidowDeeds$Ledger.lienSum -/
def ct_99 : CT := (93, 0, 0, (([(.ofNat 0, .ofNat 0)], [], [], []), [(2, 7, .ofNat 0), (3, 0, .ofNat 0), (0, 0, .ofNat 0), (0, 0, .ofNat 0), (0, 0, .ofNat 0)], []), [(([(.ofNat 0, .ofNat 0), (.negSucc 2147483647, .ofNat 2147483647)], [], [], []), [], [(1, 1, .ofNat 0)])], [])
def cu_99 : List CU := [(5, (([(.ofNat 0, .ofNat 0), (.negSucc 2147483647, .ofNat 2147483647), (.ofNat 0, .ofNat 40)], [], [], []), [(2, 7, .ofNat 0), (3, 0, .ofNat 0), (0, 0, .ofNat 0), (1, 1, .ofNat 0), (1, 2, .ofNat 0)], []), [(0, 0, .ofNat 0), (0, 2, .ofNat 41)])]
theorem ck_99 : cChk [] [] ct_99 cu_99 2000 2 = true := by decide +kernel
theorem cs_99 {s : List Int32} : cSound s ct_99 := cChk_ok (C := []) (G := []) hC0 hG0 ck_99
/-- WidowDeeds.owed -/
def ct_100 : CT := (127, 0, 7, (([(.ofNat 0, .ofNat 0), (.negSucc 2147483647, .ofNat 2147483647), (.negSucc 2147483647, .ofNat 2147483647)], [], [], []), [(2, 2, .ofNat 0), (1, 1, .ofNat 0), (1, 2, .ofNat 0)], []), [(([(.ofNat 0, .ofNat 0), (.negSucc 2147483647, .ofNat 2147483647), (.negSucc 2147483647, .ofNat 2147483647), (.negSucc 2147483647, .ofNat 2147483647)], [], [], []), [], [(1, 3, .ofNat 0)])], [(152, 7), (158, 7), (164, 7), (170, 4), (170, 5), (170, 6), (170, 7), (170, 8), (170, 14), (170, 15)])
def cu_100 : List CU := []
theorem ck_100 : cChk [ct_97, ct_99] [] ct_100 cu_100 2000 0 = true := by decide +kernel
theorem cs_100 {s : List Int32} : cSound s ct_100 := cChk_ok (C := [ct_97, ct_99]) (G := []) (hCc cs_97 (hCc cs_99 hC0)) hG0 ck_100
/-- WidowDeeds$Chain.hidden -/
def ct_101 : CT := (17, 0, 2, (([(.ofNat 0, .ofNat 0), (.ofNat 0, .ofNat 2)], [], [], []), [(2, 170, .ofNat 0), (1, 1, .ofNat 0), (0, 0, .ofNat 0), (0, 0, .ofNat 0), (0, 0, .ofNat 0), (0, 0, .ofNat 0)], []), [(([(.ofNat 0, .ofNat 0), (.ofNat 0, .ofNat 2)], [], [], []), [], [(3, 0, .ofNat 0)])], [])
def cu_101 : List CU := [(5, (([(.ofNat 0, .ofNat 0), (.ofNat 0, .ofNat 2), (.ofNat 0, .ofNat 40)], [], [], []), [(2, 170, .ofNat 0), (1, 1, .ofNat 0), (3, 0, .ofNat 0), (0, 0, .ofNat 0), (1, 2, .ofNat 0), (0, 0, .ofNat 0)], []), [(0, 0, .ofNat 0), (1, 2, .ofNat 41)])]
theorem ck_101 : cChk [] [] ct_101 cu_101 2000 2 = true := by decide +kernel
theorem cs_101 {s : List Int32} : cSound s ct_101 := cChk_ok (C := []) (G := []) hC0 hG0 ck_101
/-- WidowDeeds.unseen -/
def ct_102 : CT := (128, 0, 5, (([(.ofNat 0, .ofNat 0), (.negSucc 2147483647, .ofNat 2147483647), (.negSucc 2147483647, .ofNat 2147483647), (.negSucc 2147483647, .ofNat 2147483647)], [], [], []), [(2, 2, .ofNat 0), (1, 1, .ofNat 0), (1, 2, .ofNat 0), (1, 3, .ofNat 0)], []), [(([(.ofNat 0, .ofNat 0), (.negSucc 2147483647, .ofNat 2147483647), (.negSucc 2147483647, .ofNat 2147483647), (.negSucc 2147483647, .ofNat 2147483647)], [], [], []), [], [(3, 0, .ofNat 0)])], [(170, 4), (170, 5), (170, 6), (170, 7), (170, 8)])
def cu_102 : List CU := []
theorem ck_102 : cChk [ct_75, ct_101] [] ct_102 cu_102 2000 0 = true := by decide +kernel
theorem cs_102 {s : List Int32} : cSound s ct_102 := cChk_ok (C := [ct_75, ct_101]) (G := []) (hCc cs_75 (hCc cs_101 hC0)) hG0 ck_102
/-- WidowDeeds$Chain.meetsAll -/
def ct_103 : CT := (24, 0, 0, (([(.ofNat 0, .ofNat 0), (.negSucc 2147483647, .ofNat 16383)], [], [], []), [(2, 170, .ofNat 0), (1, 1, .ofNat 0), (0, 0, .ofNat 0)], []), [(([(.ofNat 0, .ofNat 0), (.negSucc 2147483647, .ofNat 16383), (.ofNat 0, .ofNat 1)], [], [], []), [], [(1, 2, .ofNat 0)])], [])
def cu_103 : List CU := [(2, (([(.ofNat 0, .ofNat 0), (.negSucc 2147483647, .ofNat 16383), (.ofNat 0, .ofNat 40)], [], [], []), [(2, 170, .ofNat 0), (1, 1, .ofNat 0), (1, 2, .ofNat 0)], []), [(0, 0, .ofNat 0), (1, 2, .ofNat 2147483689)])]
theorem ck_103 : cChk [] [] ct_103 cu_103 2000 2 = true := by decide +kernel
theorem cs_103 {s : List Int32} : cSound s ct_103 := cChk_ok (C := []) (G := []) hC0 hG0 ck_103
/-- java/lang/Integer.numberOfTrailingZeros -/
def ct_104 : CT := (278, 0, 0, (([(.ofNat 0, .ofNat 0), (.negSucc 2147483647, .ofNat 2147483647)], [], [], []), [(1, 1, .ofNat 0), (0, 0, .ofNat 0)], []), [(([(.ofNat 0, .ofNat 0), (.negSucc 2147483647, .ofNat 2147483647), (.negSucc 2147483647, .ofNat 2147483647)], [], [], []), [], [(1, 2, .ofNat 0)])], [])
def cu_104 : List CU := []
theorem ck_104 : cChk [] [] ct_104 cu_104 2000 0 = true := by decide +kernel
theorem cs_104 {s : List Int32} : cSound s ct_104 := cChk_ok (C := []) (G := []) hC0 hG0 ck_104
/-- WidowDeeds$Chain.leastOfSize -/
def ct_105 : CT := (20, 0, 2, (([(.ofNat 0, .ofNat 0), (.ofNat 1, .ofNat 14)], [], [], []), [(2, 170, .ofNat 0), (1, 1, .ofNat 0), (0, 0, .ofNat 0), (0, 0, .ofNat 0)], []), [(([(.ofNat 0, .ofNat 0), (.ofNat 1, .ofNat 14), (.negSucc 2147483647, .ofNat 16383)], [], [], []), [], [(1, 2, .ofNat 0)])], [])
def cu_105 : List CU := [(8, (([(.ofNat 0, .ofNat 0), (.ofNat 1, .ofNat 14), (.negSucc 2147483647, .ofNat 2147483647), (.ofNat 0, .ofNat 2147483647)], [], [], []), [(2, 170, .ofNat 0), (1, 1, .ofNat 0), (1, 2, .ofNat 0), (1, 3, .ofNat 0)], []), [(0, 0, .ofNat 0), (1, 3, .ofNat 2147483647)])]
theorem ck_105 : cChk [ct_103, ct_104] [] ct_105 cu_105 2000 2 = true := by decide +kernel
theorem cs_105 {s : List Int32} : cSound s ct_105 := cChk_ok (C := [ct_103, ct_104]) (G := []) (hCc cs_103 (hCc cs_104 hC0)) hG0 ck_105
/-- WidowDeeds$Chain.namesInChain -/
def ct_106 : CT := (21, 0, 0, (([(.ofNat 0, .ofNat 0)], [], [], []), [(2, 170, .ofNat 0), (0, 0, .ofNat 0), (0, 0, .ofNat 0)], []), [(([(.ofNat 0, .ofNat 0), (.negSucc 2147483647, .ofNat 2147483647)], [], [], []), [], [(1, 1, .ofNat 0)])], [])
def cu_106 : List CU := [(9, (([(.ofNat 0, .ofNat 0), (.negSucc 2147483647, .ofNat 2147483647), (.ofNat 0, .ofNat 40), (.ofNat 0, .ofNat 9)], [], [], [(170, 6, (1, 3, .ofNat 0))]), [(2, 170, .ofNat 0), (1, 1, .ofNat 0), (1, 2, .ofNat 0)], []), [(0, 0, .ofNat 0), (3, 2, .ofNat 41)])]
theorem ck_106 : cChk [] [] ct_106 cu_106 2000 2 = true := by decide +kernel
theorem cs_106 {s : List Int32} : cSound s ct_106 := cChk_ok (C := []) (G := []) hC0 hG0 ck_106
/-- WidowDeeds$Chain.gatherPageSets -/
def ct_107 : CT := (22, 0, 1, (([(.ofNat 0, .ofNat 0), (.negSucc 2147483647, .ofNat 2147483647)], [], [], []), [(2, 170, .ofNat 0), (1, 1, .ofNat 0), (0, 0, .ofNat 0), (0, 0, .ofNat 0)], []), [(([(.ofNat 0, .ofNat 0), (.negSucc 2147483647, .ofNat 2147483647)], [], [], []), [], [])], [(170, 17)])
def cu_107 : List CU := [(7, (([(.ofNat 0, .ofNat 0), (.negSucc 2147483647, .ofNat 2147483647), (.ofNat 0, .ofNat 2147483647), (.ofNat 0, .ofNat 2147483647)], [(3, 2, .ofNat 0)], [], [(170, 17, (1, 3, .ofNat 0))]), [(2, 170, .ofNat 0), (1, 1, .ofNat 0), (1, 2, .ofNat 0), (0, 0, .ofNat 0)], []), [(0, 0, .ofNat 0), (1, 2, .ofNat 4294967296)])]
theorem ck_107 : cChk [] [] ct_107 cu_107 2000 2 = true := by decide +kernel
theorem cs_107 {s : List Int32} : cSound s ct_107 := cChk_ok (C := []) (G := []) hC0 hG0 ck_107
/-- WidowDeeds$Chain.pagesToRead -/
def ct_108 : CT := (19, 0, 6, (([(.ofNat 0, .ofNat 0), (.ofNat 0, .ofNat 7), (.ofNat 0, .ofNat 999)], [], [], []), [(2, 170, .ofNat 0), (1, 1, .ofNat 0), (1, 2, .ofNat 0), (0, 0, .ofNat 0), (0, 0, .ofNat 0)], []), [(([(.ofNat 0, .ofNat 0), (.ofNat 0, .ofNat 7), (.ofNat 0, .ofNat 999), (.negSucc 2147483647, .ofNat 16383)], [], [], []), [], [(1, 3, .ofNat 0)])], [(152, 7), (158, 7), (164, 7), (170, 4), (170, 5), (170, 6), (170, 7), (170, 8), (170, 14), (170, 15), (170, 17)])
def cu_108 : List CU := [(31, (([(.ofNat 0, .ofNat 0), (.ofNat 0, .ofNat 7), (.ofNat 0, .ofNat 999), (.ofNat 1, .ofNat 40)], [], [], [(170, 17, (1, 3, .ofNat 0))]), [(2, 170, .ofNat 0), (1, 1, .ofNat 0), (1, 2, .ofNat 0), (1, 0, .negSucc 0), (1, 0, .ofNat 1)], []), [(0, 0, .ofNat 1), (0, 0, .ofNat 0)]), (31, (([(.ofNat 0, .ofNat 0), (.ofNat 0, .ofNat 7), (.ofNat 0, .ofNat 999), (.negSucc 2147483647, .ofNat 16383), (.ofNat 1, .ofNat 19), (.ofNat 0, .ofNat 40)], [], [], [(170, 17, (1, 5, .ofNat 0))]), [(2, 170, .ofNat 0), (1, 1, .ofNat 0), (1, 2, .ofNat 0), (1, 3, .ofNat 0), (1, 4, .ofNat 0)], []), [(0, 0, .ofNat 0), (5, 4, .ofNat 20)])]
theorem ck_108 : cChk [ct_75, ct_88, ct_105, ct_106, ct_107] [] ct_108 cu_108 2000 2 = true := by decide +kernel
theorem cs_108 {s : List Int32} : cSound s ct_108 := cChk_ok (C := [ct_75, ct_88, ct_105, ct_106, ct_107]) (G := []) (hCc cs_75 (hCc cs_88 (hCc cs_105 (hCc cs_106 (hCc cs_107 hC0))))) hG0 ck_108
/-- WidowDeeds.search -/
def ct_109 : CT := (129, 0, 7, (([(.ofNat 0, .ofNat 0), (.negSucc 2147483647, .ofNat 2147483647), (.negSucc 2147483647, .ofNat 2147483647), (.negSucc 2147483647, .ofNat 2147483647)], [], [], []), [(2, 2, .ofNat 0), (1, 1, .ofNat 0), (1, 2, .ofNat 0), (1, 3, .ofNat 0), (0, 0, .ofNat 0)], []), [(([(.ofNat 0, .ofNat 0), (.negSucc 2147483647, .ofNat 2147483647), (.negSucc 2147483647, .ofNat 2147483647), (.negSucc 2147483647, .ofNat 2147483647), (.negSucc 2147483647, .ofNat 16383)], [], [], []), [], [(1, 4, .ofNat 0)])], [(152, 7), (158, 7), (164, 7), (170, 4), (170, 5), (170, 6), (170, 7), (170, 8), (170, 14), (170, 15), (170, 17), (1013, 0), (1013, 1)])
def cu_109 : List CU := []
theorem ck_109 : cChk [ct_108, cm_bc] [] ct_109 cu_109 2000 0 = true := by decide +kernel
theorem cs_109 {s : List Int32} (h_cm_bc : cSound s cm_bc) : cSound s ct_109 := cChk_ok (C := [ct_108, cm_bc]) (G := []) (hCc cs_108 (hCc h_cm_bc hC0)) hG0 ck_109
/-- WidowDeeds$Doubts.countForgeries -/
def ct_110 : CT := (34, 0, 6, (([(.ofNat 0, .ofNat 0), (.ofNat 0, .ofNat 7), (.ofNat 0, .ofNat 999)], [], [], []), [(2, 177, .ofNat 0), (1, 1, .ofNat 0), (1, 2, .ofNat 0), (0, 0, .ofNat 0), (0, 0, .ofNat 0), (0, 0, .ofNat 0)], []), [(([(.ofNat 0, .ofNat 0), (.ofNat 0, .ofNat 7), (.ofNat 0, .ofNat 999)], [], [], []), [], [])], [(152, 7), (158, 7), (164, 7), (170, 4), (170, 5), (170, 6), (170, 7), (170, 8), (170, 14), (170, 15)])
def cu_110 : List CU := [(13, (([(.ofNat 0, .ofNat 0), (.ofNat 0, .ofNat 7), (.ofNat 0, .ofNat 999), (.ofNat 0, .ofNat 9), (.ofNat 0, .ofNat 40)], [], [], []), [(2, 177, .ofNat 0), (1, 1, .ofNat 0), (1, 2, .ofNat 0), (1, 3, .ofNat 0), (1, 4, .ofNat 0), (0, 0, .ofNat 0)], []), [(0, 0, .ofNat 0), (1, 4, .ofNat 41)])]
theorem ck_110 : cChk [ct_75, ct_88] [] ct_110 cu_110 2000 2 = true := by decide +kernel
theorem cs_110 {s : List Int32} : cSound s ct_110 := cChk_ok (C := [ct_75, ct_88]) (G := []) (hCc cs_75 (hCc cs_88 hC0)) hG0 ck_110
/-- WidowDeeds$Doubts.weightiest -/
def ct_111 : CT := (36, 0, 0, (([(.ofNat 0, .ofNat 0), (.ofNat 0, .ofNat 1000000), (.ofNat 0, .ofNat 1)], [], [], []), [(2, 177, .ofNat 0), (1, 1, .ofNat 0), (1, 2, .ofNat 0), (0, 0, .ofNat 0), (0, 0, .ofNat 0)], []), [(([(.ofNat 0, .ofNat 0), (.ofNat 0, .ofNat 1000000), (.ofNat 0, .ofNat 1), (.negSucc 2147483647, .ofNat 2147483647)], [], [], []), [], [(1, 3, .ofNat 0)])], [])
def cu_111 : List CU := [(6, (([(.ofNat 0, .ofNat 0), (.ofNat 0, .ofNat 1000000), (.ofNat 0, .ofNat 1), (.ofNat 0, .ofNat 40)], [], [], []), [(2, 177, .ofNat 0), (1, 1, .ofNat 0), (1, 2, .ofNat 0), (1, 0, .negSucc 1), (1, 3, .ofNat 0)], []), [(0, 0, .ofNat 1), (1, 3, .ofNat 41)]), (6, (([(.ofNat 0, .ofNat 0), (.ofNat 0, .ofNat 1000000), (.ofNat 0, .ofNat 1), (.ofNat 0, .ofNat 2147483647), (.ofNat 1, .ofNat 2147483647), (.ofNat 1, .ofNat 40)], [(3, 4, .negSucc 0), (3, 5, .negSucc 0), (4, 5, .ofNat 0)], [], [(7, 2, (1, 5, .ofNat 0))]), [(2, 177, .ofNat 0), (1, 1, .ofNat 0), (1, 2, .ofNat 0), (1, 3, .ofNat 0), (1, 4, .ofNat 0)], []), [(0, 0, .ofNat 0), (5, 4, .ofNat 1)])]
theorem ck_111 : cChk [] [] ct_111 cu_111 2000 2 = true := by decide +kernel
theorem cs_111 {s : List Int32} : cSound s ct_111 := cChk_ok (C := []) (G := []) hC0 hG0 ck_111
/-- java/util/Arrays.fill -/
def ct_112 : CT := (281, 0, 0, (([(.ofNat 0, .ofNat 0), (.ofNat 0, .ofNat 0)], [], [], []), [(2, 178, .ofNat 0), (1, 1, .ofNat 0), (0, 0, .ofNat 0), (0, 0, .ofNat 0)], []), [(([(.ofNat 0, .ofNat 0), (.ofNat 0, .ofNat 0)], [], [], []), [], [])], [])
def cu_112 : List CU := [(5, (([(.ofNat 0, .ofNat 0), (.ofNat 0, .ofNat 0), (.ofNat 0, .ofNat 40)], [], [], []), [(2, 178, .ofNat 0), (1, 1, .ofNat 0), (1, 2, .ofNat 0), (1, 0, .ofNat 40)], []), [(0, 0, .ofNat 0), (1, 2, .ofNat 41)])]
theorem ck_112 : cChk [] [] ct_112 cu_112 2000 2 = true := by decide +kernel
theorem cs_112 {s : List Int32} : cSound s ct_112 := cChk_ok (C := []) (G := []) hC0 hG0 ck_112
/-- WidowDeeds.worst -/
def ct_113 : CT := (130, 0, 7, (([(.ofNat 0, .ofNat 0), (.negSucc 2147483647, .ofNat 2147483647), (.negSucc 2147483647, .ofNat 2147483647)], [], [], []), [(2, 2, .ofNat 0), (1, 1, .ofNat 0), (1, 2, .ofNat 0), (0, 0, .ofNat 0)], []), [(([(.ofNat 0, .ofNat 0), (.negSucc 2147483647, .ofNat 2147483647), (.negSucc 2147483647, .ofNat 2147483647), (.negSucc 2147483647, .ofNat 2147483647)], [], [], []), [], [(1, 3, .ofNat 0)])], [(152, 7), (158, 7), (164, 7), (170, 4), (170, 5), (170, 6), (170, 7), (170, 8), (170, 14), (170, 15)])
def cu_113 : List CU := [(26, (([(.ofNat 0, .ofNat 0), (.ofNat 0, .ofNat 999), (.ofNat 0, .ofNat 1), (.ofNat 0, .ofNat 8)], [], [], []), [(2, 2, .ofNat 0), (1, 1, .ofNat 0), (1, 2, .ofNat 0), (1, 3, .ofNat 0)], []), [(0, 0, .ofNat 0), (1, 3, .ofNat 9)])]
theorem ck_113 : cChk [ct_110, ct_111, ct_112] [] ct_113 cu_113 2000 2 = true := by decide +kernel
theorem cs_113 {s : List Int32} : cSound s ct_113 := cChk_ok (C := [ct_110, ct_111, ct_112]) (G := []) (hCc cs_110 (hCc cs_111 (hCc cs_112 hC0))) hG0 ck_113
/-- WidowDeeds$Doubts.countLosses -/
def ct_114 : CT := (35, 0, 6, (([(.ofNat 0, .ofNat 0), (.ofNat 0, .ofNat 7), (.ofNat 0, .ofNat 999)], [], [], []), [(2, 177, .ofNat 0), (1, 1, .ofNat 0), (1, 2, .ofNat 0), (0, 0, .ofNat 0), (0, 0, .ofNat 0), (0, 0, .ofNat 0), (0, 0, .ofNat 0), (0, 0, .ofNat 0), (0, 0, .ofNat 0)], []), [(([(.ofNat 0, .ofNat 0), (.ofNat 0, .ofNat 7), (.ofNat 0, .ofNat 999)], [], [], []), [], [])], [(152, 7), (158, 7), (164, 7), (170, 4), (170, 5), (170, 6), (170, 7), (170, 8), (170, 14), (170, 15)])
def cu_114 : List CU := [(13, (([(.ofNat 0, .ofNat 0), (.ofNat 0, .ofNat 7), (.ofNat 0, .ofNat 999), (.ofNat 0, .ofNat 9), (.ofNat 0, .ofNat 40)], [], [], []), [(2, 177, .ofNat 0), (1, 1, .ofNat 0), (1, 2, .ofNat 0), (1, 3, .ofNat 0), (1, 4, .ofNat 0), (0, 0, .ofNat 0), (0, 0, .ofNat 0), (0, 0, .ofNat 0), (0, 0, .ofNat 0)], []), [(0, 0, .ofNat 0), (1, 4, .ofNat 41)])]
theorem ck_114 : cChk [ct_75, ct_88] [] ct_114 cu_114 2000 2 = true := by decide +kernel
theorem cs_114 {s : List Int32} : cSound s ct_114 := cChk_ok (C := [ct_75, ct_88]) (G := []) (hCc cs_75 (hCc cs_88 hC0)) hG0 ck_114
/-- WidowDeeds.missing -/
def ct_115 : CT := (131, 0, 7, (([(.ofNat 0, .ofNat 0), (.negSucc 2147483647, .ofNat 2147483647), (.negSucc 2147483647, .ofNat 2147483647)], [], [], []), [(2, 2, .ofNat 0), (1, 1, .ofNat 0), (1, 2, .ofNat 0), (0, 0, .ofNat 0)], []), [(([(.ofNat 0, .ofNat 0), (.negSucc 2147483647, .ofNat 2147483647), (.negSucc 2147483647, .ofNat 2147483647), (.negSucc 2147483647, .ofNat 2147483647)], [], [], []), [], [(1, 3, .ofNat 0)])], [(152, 7), (158, 7), (164, 7), (170, 4), (170, 5), (170, 6), (170, 7), (170, 8), (170, 14), (170, 15)])
def cu_115 : List CU := [(26, (([(.ofNat 0, .ofNat 0), (.ofNat 0, .ofNat 999), (.ofNat 0, .ofNat 1), (.ofNat 0, .ofNat 8)], [], [], []), [(2, 2, .ofNat 0), (1, 1, .ofNat 0), (1, 2, .ofNat 0), (1, 3, .ofNat 0)], []), [(0, 0, .ofNat 0), (1, 3, .ofNat 9)])]
theorem ck_115 : cChk [ct_111, ct_112, ct_114] [] ct_115 cu_115 2000 2 = true := by decide +kernel
theorem cs_115 {s : List Int32} : cSound s ct_115 := cChk_ok (C := [ct_111, ct_112, ct_114]) (G := []) (hCc cs_111 (hCc cs_112 (hCc cs_114 hC0))) hG0 ck_115
/-- WidowDeeds$Ledger.dropLast -/
def ct_116 : CT := (92, 0, 0, (([(.ofNat 0, .ofNat 0), (.ofNat 1, .ofNat 40)], [], [], [(7, 2, (1, 1, .ofNat 0))]), [(2, 7, .ofNat 0), (0, 0, .ofNat 0), (0, 0, .ofNat 0)], []), [(([(.ofNat 0, .ofNat 0), (.ofNat 1, .ofNat 40)], [], [], [(7, 2, (1, 1, .negSucc 0))]), [], [])], [(7, 2)])
def cu_116 : List CU := [(22, (([(.ofNat 0, .ofNat 0), (.ofNat 1, .ofNat 40), (.ofNat 0, .ofNat 2147483647), (.ofNat 0, .ofNat 2147483647)], [(2, 3, .ofNat 0), (2, 1, .ofNat 0), (3, 1, .ofNat 0)], [], [(7, 2, (1, 1, .negSucc 0))]), [(2, 7, .ofNat 0), (1, 2, .ofNat 0), (1, 3, .ofNat 0)], []), [(0, 0, .ofNat 0), (1, 3, .ofNat 1)])]
theorem ck_116 : cChk [] [] ct_116 cu_116 2000 2 = true := by decide +kernel
theorem cs_116 {s : List Int32} : cSound s ct_116 := cChk_ok (C := []) (G := []) hC0 hG0 ck_116
/-- WidowDeeds.trial -/
def ct_117 : CT := (132, 0, 6, (([(.ofNat 0, .ofNat 0), (.negSucc 2147483647, .ofNat 2147483647), (.negSucc 2147483647, .ofNat 2147483647), (.negSucc 2147483647, .ofNat 2147483647), (.negSucc 2147483647, .ofNat 2147483647), (.negSucc 2147483647, .ofNat 2147483647), (.negSucc 2147483647, .ofNat 2147483647), (.negSucc 2147483647, .ofNat 2147483647), (.negSucc 2147483647, .ofNat 2147483647), (.ofNat 0, .ofNat 40)], [], [], [(7, 2, (1, 9, .ofNat 0))]), [(2, 2, .ofNat 0), (1, 1, .ofNat 0), (1, 2, .ofNat 0), (1, 3, .ofNat 0), (1, 4, .ofNat 0), (1, 5, .ofNat 0), (1, 6, .ofNat 0), (1, 7, .ofNat 0), (1, 8, .ofNat 0), (0, 0, .ofNat 0), (0, 0, .ofNat 0), (0, 0, .ofNat 0)], []), [(([(.ofNat 0, .ofNat 0), (.negSucc 2147483647, .ofNat 2147483647), (.negSucc 2147483647, .ofNat 2147483647), (.negSucc 2147483647, .ofNat 2147483647), (.negSucc 2147483647, .ofNat 2147483647), (.negSucc 2147483647, .ofNat 2147483647), (.negSucc 2147483647, .ofNat 2147483647), (.negSucc 2147483647, .ofNat 2147483647), (.negSucc 2147483647, .ofNat 2147483647), (.ofNat 0, .ofNat 40), (.negSucc 0, .ofNat 9)], [], [], [(7, 2, (1, 9, .ofNat 0))]), [], [(1, 10, .ofNat 0)])], [(7, 2), (152, 7), (158, 7), (164, 7), (170, 4), (170, 5), (170, 6), (170, 7), (170, 8), (170, 14), (170, 15)])
def cu_117 : List CU := []
theorem ck_117 : cChk [ct_4, ct_5, ct_75, ct_88, ct_90, ct_116] [] ct_117 cu_117 2000 0 = true := by decide +kernel
theorem cs_117 {s : List Int32} : cSound s ct_117 := cChk_ok (C := [ct_4, ct_5, ct_75, ct_88, ct_90, ct_116]) (G := []) (hCc cs_4 (hCc cs_5 (hCc cs_75 (hCc cs_88 (hCc cs_90 (hCc cs_116 hC0)))))) hG0 ck_117
/-- WidowDeeds$Doubts.turnAhead -/
def ct_118 : CT := (38, 0, 2, (([(.ofNat 0, .ofNat 0), (.ofNat 0, .ofNat 999), (.ofNat 0, .ofNat 999)], [], [], []), [(2, 177, .ofNat 0), (1, 1, .ofNat 0), (1, 2, .ofNat 0), (0, 0, .ofNat 0), (0, 0, .ofNat 0)], []), [(([(.ofNat 0, .ofNat 0), (.ofNat 0, .ofNat 999), (.ofNat 0, .ofNat 999), (.negSucc 0, .ofNat 998)], [(3, 1, .negSucc 0)], [], []), [], [(1, 3, .ofNat 0)])], [])
def cu_118 : List CU := [(12, (([(.ofNat 0, .ofNat 0), (.ofNat 1, .ofNat 999), (.ofNat 0, .ofNat 998), (.ofNat 0, .ofNat 998), (.ofNat 0, .ofNat 39)], [(3, 1, .negSucc 0), (2, 1, .negSucc 0)], [], []), [(2, 177, .ofNat 0), (1, 1, .ofNat 0), (1, 2, .ofNat 0), (1, 3, .ofNat 0), (1, 4, .ofNat 0)], []), [(0, 0, .ofNat 0), (1, 4, .ofNat 39)])]
theorem ck_118 : cChk [] [] ct_118 cu_118 2000 2 = true := by decide +kernel
theorem cs_118 {s : List Int32} : cSound s ct_118 := cChk_ok (C := []) (G := []) hC0 hG0 ck_118
/-- WidowDeeds$Doubts.lastUsefulEntry -/
def ct_119 : CT := (37, 0, 6, (([(.ofNat 0, .ofNat 0), (.ofNat 0, .ofNat 7), (.ofNat 0, .ofNat 999)], [], [], []), [(2, 177, .ofNat 0), (1, 1, .ofNat 0), (2, 10, .ofNat 0), (1, 2, .ofNat 0), (0, 0, .ofNat 0), (0, 0, .ofNat 0)], []), [(([(.ofNat 0, .ofNat 0), (.ofNat 0, .ofNat 7), (.ofNat 0, .ofNat 999), (.negSucc 1, .ofNat 999)], [(3, 2, .ofNat 0)], [], []), [], [(1, 3, .ofNat 0)])], [(152, 7), (158, 7), (164, 7), (170, 4), (170, 5), (170, 6), (170, 7), (170, 8), (170, 14), (170, 15)])
def cu_119 : List CU := [(6, (([(.ofNat 0, .ofNat 0), (.ofNat 0, .ofNat 7), (.ofNat 0, .ofNat 999), (.negSucc 0, .ofNat 999), (.ofNat 0, .ofNat 2147483647)], [(3, 2, .ofNat 0)], [], []), [(2, 177, .ofNat 0), (1, 1, .ofNat 0), (2, 10, .ofNat 0), (1, 2, .ofNat 0), (1, 3, .ofNat 0), (1, 4, .ofNat 0)], []), [(0, 0, .ofNat 0), (1, 4, .ofNat 2147483648)])]
theorem ck_119 : cChk [ct_75, ct_88, ct_118] [] ct_119 cu_119 2000 2 = true := by decide +kernel
theorem cs_119 {s : List Int32} : cSound s ct_119 := cChk_ok (C := [ct_75, ct_88, ct_118]) (G := []) (hCc cs_75 (hCc cs_88 (hCc cs_118 hC0))) hG0 ck_119
