/-! contracts, on -/
/-- WidowDeeds$Chain.gatherFacts -/
def ct_60 : CT := (9, 0, 2, (([(.ofNat 0, .ofNat 0), (.ofNat 0, .ofNat 39), (.ofNat 0, .ofNat 39)], [], [], []), [(2, 170, .ofNat 0), (1, 1, .ofNat 0), (1, 2, .ofNat 0), (0, 0, .ofNat 0), (0, 0, .ofNat 0), (0, 0, .ofNat 0)], []), [(([(.ofNat 0, .ofNat 0), (.ofNat 0, .ofNat 39), (.ofNat 0, .ofNat 39)], [], [], []), [], [])], [])
def cu_60 : List CU := [(38, (([(.ofNat 0, .ofNat 0), (.ofNat 0, .ofNat 39), (.ofNat 0, .ofNat 39), (.ofNat 0, .ofNat 1), (.ofNat 0, .ofNat 999)], [], [], [(170, 5, (1, 4, .ofNat 0))]), [(2, 170, .ofNat 0), (1, 1, .ofNat 0), (1, 2, .ofNat 0), (2, 10, .ofNat 0), (2, 10, .ofNat 0), (0, 0, .ofNat 0)], [(1, 3, .ofNat 0)]), [(0, 0, .ofNat 3)]), (76, (([(.ofNat 0, .ofNat 0), (.ofNat 0, .ofNat 39), (.ofNat 0, .ofNat 39), (.ofNat 0, .ofNat 1), (.ofNat 0, .ofNat 1), (.ofNat 0, .ofNat 999)], [], [], [(170, 5, (1, 5, .ofNat 0))]), [(2, 170, .ofNat 0), (1, 1, .ofNat 0), (1, 2, .ofNat 0), (2, 10, .ofNat 0), (2, 10, .ofNat 0), (1, 3, .ofNat 0)], [(1, 4, .ofNat 0), (1, 0, .ofNat 110), (2, 170, .ofNat 0)]), [(0, 0, .ofNat 2)]), (119, (([(.ofNat 0, .ofNat 0), (.ofNat 0, .ofNat 39), (.ofNat 0, .ofNat 39), (.ofNat 0, .ofNat 1), (.ofNat 0, .ofNat 999)], [], [], [(170, 5, (1, 4, .ofNat 0))]), [(2, 170, .ofNat 0), (1, 1, .ofNat 0), (1, 2, .ofNat 0), (2, 10, .ofNat 0), (2, 10, .ofNat 0), (1, 3, .ofNat 0)], [(1, 0, .ofNat 99), (2, 170, .ofNat 0)]), [(0, 0, .ofNat 1)]), (120, (([(.ofNat 0, .ofNat 0), (.ofNat 0, .ofNat 39), (.ofNat 0, .ofNat 39), (.ofNat 0, .ofNat 1), (.ofNat 0, .ofNat 1), (.ofNat 0, .ofNat 999)], [(4, 3, .ofNat 0)], [], [(170, 5, (1, 5, .ofNat 0))]), [(2, 170, .ofNat 0), (1, 1, .ofNat 0), (1, 2, .ofNat 0), (2, 10, .ofNat 0), (2, 10, .ofNat 0), (1, 3, .ofNat 0)], [(1, 4, .ofNat 0), (1, 0, .ofNat 99), (2, 170, .ofNat 0)]), [(0, 0, .ofNat 0)])]
theorem ck_60 : cChk [ct_59] [] ct_60 cu_60 2000 1 = true := by decide +kernel
theorem cs_60 {s : List Int32} : cSound s ct_60 := cChk_ok (C := [ct_59]) (G := []) (hCc cs_59 hC0) hG0 ck_60
/-- WidowDeeds$Law.reckon -/
def ct_61 : CT := (67, 0, 0, (([(.ofNat 0, .ofNat 0), (.negSucc 2147483647, .ofNat 2147483647), (.negSucc 2147483647, .ofNat 2147483647), (.negSucc 2147483647, .ofNat 2147483647)], [], [], []), [(1, 1, .ofNat 0), (1, 2, .ofNat 0), (1, 3, .ofNat 0)], []), [(([(.ofNat 0, .ofNat 0), (.negSucc 2147483647, .ofNat 2147483647), (.negSucc 2147483647, .ofNat 2147483647), (.negSucc 2147483647, .ofNat 2147483647), (.negSucc 2147483647, .ofNat 2147483647)], [], [], []), [], [(1, 4, .ofNat 0)])], [])
def cu_61 : List CU := []
theorem ck_61 : cChk [] [] ct_61 cu_61 2000 0 = true := by decide +kernel
theorem cs_61 {s : List Int32} : cSound s ct_61 := cChk_ok (C := []) (G := []) hC0 hG0 ck_61
/-- WidowDeeds$Law.run -/
def ct_62 : CT := (66, 0, 1, (([(.ofNat 0, .ofNat 0), (.ofNat 0, .ofNat 160)], [], [], []), [(2, 152, .ofNat 0), (1, 1, .ofNat 0), (2, 172, .ofNat 0), (0, 0, .ofNat 0), (0, 0, .ofNat 0), (0, 0, .ofNat 0), (0, 0, .ofNat 0), (0, 0, .ofNat 0)], []), [(([(.ofNat 0, .ofNat 0), (.ofNat 0, .ofNat 160), (.negSucc 2147483647, .ofNat 2147483647)], [], [], []), [], [(1, 2, .ofNat 0)])], [(152, 7)])
def cu_62 : List CU := [(7, (([(.ofNat 0, .ofNat 0), (.ofNat 0, .ofNat 160), (.ofNat 0, .ofNat 1048575), (.ofNat 0, .ofNat 40)], [(3, 2, .ofNat 0), (1, 2, .ofNat 0)], [], [(152, 7, (1, 3, .ofNat 0))]), [(2, 152, .ofNat 0), (1, 1, .ofNat 0), (2, 172, .ofNat 0), (1, 2, .ofNat 0), (0, 0, .ofNat 0), (0, 0, .ofNat 0), (0, 0, .ofNat 0), (0, 0, .ofNat 0)], []), [(0, 0, .ofNat 0), (1, 2, .ofNat 1048576)])]
theorem ck_62 : cChk [ct_61] [] ct_62 cu_62 2000 2 = true := by decide +kernel
theorem cs_62 {s : List Int32} : cSound s ct_62 := cChk_ok (C := [ct_61]) (G := []) (hCc cs_61 hC0) hG0 ck_62
/-- WidowDeeds$Law.grants -/
def ct_63 : CT := (64, 0, 2, (([(.ofNat 0, .ofNat 0), (.ofNat 98, .ofNat 159)], [], [], []), [(2, 152, .ofNat 0), (1, 1, .ofNat 0), (2, 172, .ofNat 0), (0, 0, .ofNat 0)], []), [(([(.ofNat 0, .ofNat 0), (.ofNat 98, .ofNat 159), (.ofNat 0, .ofNat 1)], [], [], []), [], [(1, 2, .ofNat 0)])], [(152, 7)])
def cu_63 : List CU := [(2, (([(.ofNat 0, .ofNat 0), (.ofNat 98, .ofNat 159), (.ofNat 0, .ofNat 12)], [], [], []), [(2, 152, .ofNat 0), (1, 1, .ofNat 0), (2, 172, .ofNat 0), (1, 2, .ofNat 0)], []), [(0, 0, .ofNat 0), (1, 2, .ofNat 1)])]
theorem ck_63 : cChk [ct_62] [] ct_63 cu_63 2000 2 = true := by decide +kernel
theorem cs_63 {s : List Int32} : cSound s ct_63 := cChk_ok (C := [ct_62]) (G := []) (hCc cs_62 hC0) hG0 ck_63
/-- WidowDeeds$Law.run -/
def ct_64 : CT := (66, 0, 1, (([(.ofNat 0, .ofNat 0), (.ofNat 0, .ofNat 160)], [], [], []), [(2, 158, .ofNat 0), (1, 1, .ofNat 0), (2, 172, .ofNat 0), (0, 0, .ofNat 0), (0, 0, .ofNat 0), (0, 0, .ofNat 0), (0, 0, .ofNat 0), (0, 0, .ofNat 0)], []), [(([(.ofNat 0, .ofNat 0), (.ofNat 0, .ofNat 160), (.negSucc 2147483647, .ofNat 2147483647)], [], [], []), [], [(1, 2, .ofNat 0)])], [(158, 7)])
def cu_64 : List CU := [(7, (([(.ofNat 0, .ofNat 0), (.ofNat 0, .ofNat 160), (.ofNat 0, .ofNat 1048575), (.ofNat 0, .ofNat 40)], [(3, 2, .ofNat 0), (1, 2, .ofNat 0)], [], [(158, 7, (1, 3, .ofNat 0))]), [(2, 158, .ofNat 0), (1, 1, .ofNat 0), (2, 172, .ofNat 0), (1, 2, .ofNat 0), (0, 0, .ofNat 0), (0, 0, .ofNat 0), (0, 0, .ofNat 0), (0, 0, .ofNat 0)], []), [(0, 0, .ofNat 0), (1, 2, .ofNat 1048576)])]
theorem ck_64 : cChk [ct_61] [] ct_64 cu_64 2000 2 = true := by decide +kernel
theorem cs_64 {s : List Int32} : cSound s ct_64 := cChk_ok (C := [ct_61]) (G := []) (hCc cs_61 hC0) hG0 ck_64
/-- WidowDeeds$Law.grants -/
def ct_65 : CT := (64, 0, 2, (([(.ofNat 0, .ofNat 0), (.ofNat 98, .ofNat 159)], [], [], []), [(2, 158, .ofNat 0), (1, 1, .ofNat 0), (2, 172, .ofNat 0), (0, 0, .ofNat 0)], []), [(([(.ofNat 0, .ofNat 0), (.ofNat 98, .ofNat 159), (.ofNat 0, .ofNat 1)], [], [], []), [], [(1, 2, .ofNat 0)])], [(158, 7)])
def cu_65 : List CU := [(2, (([(.ofNat 0, .ofNat 0), (.ofNat 98, .ofNat 159), (.ofNat 0, .ofNat 12)], [], [], []), [(2, 158, .ofNat 0), (1, 1, .ofNat 0), (2, 172, .ofNat 0), (1, 2, .ofNat 0)], []), [(0, 0, .ofNat 0), (1, 2, .ofNat 1)])]
theorem ck_65 : cChk [ct_64] [] ct_65 cu_65 2000 2 = true := by decide +kernel
theorem cs_65 {s : List Int32} : cSound s ct_65 := cChk_ok (C := [ct_64]) (G := []) (hCc cs_64 hC0) hG0 ck_65
/-- WidowDeeds$Law.run -/
def ct_66 : CT := (66, 0, 1, (([(.ofNat 0, .ofNat 0), (.ofNat 0, .ofNat 160)], [], [], []), [(2, 164, .ofNat 0), (1, 1, .ofNat 0), (2, 172, .ofNat 0), (0, 0, .ofNat 0), (0, 0, .ofNat 0), (0, 0, .ofNat 0), (0, 0, .ofNat 0), (0, 0, .ofNat 0)], []), [(([(.ofNat 0, .ofNat 0), (.ofNat 0, .ofNat 160), (.negSucc 2147483647, .ofNat 2147483647)], [], [], []), [], [(1, 2, .ofNat 0)])], [(164, 7)])
def cu_66 : List CU := [(7, (([(.ofNat 0, .ofNat 0), (.ofNat 0, .ofNat 160), (.ofNat 0, .ofNat 1048575), (.ofNat 0, .ofNat 40)], [(3, 2, .ofNat 0), (1, 2, .ofNat 0)], [], [(164, 7, (1, 3, .ofNat 0))]), [(2, 164, .ofNat 0), (1, 1, .ofNat 0), (2, 172, .ofNat 0), (1, 2, .ofNat 0), (0, 0, .ofNat 0), (0, 0, .ofNat 0), (0, 0, .ofNat 0), (0, 0, .ofNat 0)], []), [(0, 0, .ofNat 0), (1, 2, .ofNat 1048576)])]
theorem ck_66 : cChk [ct_61] [] ct_66 cu_66 2000 2 = true := by decide +kernel
theorem cs_66 {s : List Int32} : cSound s ct_66 := cChk_ok (C := [ct_61]) (G := []) (hCc cs_61 hC0) hG0 ck_66
/-- WidowDeeds$Law.grants -/
def ct_67 : CT := (64, 0, 2, (([(.ofNat 0, .ofNat 0), (.ofNat 98, .ofNat 159)], [], [], []), [(2, 164, .ofNat 0), (1, 1, .ofNat 0), (2, 172, .ofNat 0), (0, 0, .ofNat 0)], []), [(([(.ofNat 0, .ofNat 0), (.ofNat 98, .ofNat 159), (.ofNat 0, .ofNat 1)], [], [], []), [], [(1, 2, .ofNat 0)])], [(164, 7)])
def cu_67 : List CU := [(2, (([(.ofNat 0, .ofNat 0), (.ofNat 98, .ofNat 159), (.ofNat 0, .ofNat 12)], [], [], []), [(2, 164, .ofNat 0), (1, 1, .ofNat 0), (2, 172, .ofNat 0), (1, 2, .ofNat 0)], []), [(0, 0, .ofNat 0), (1, 2, .ofNat 1)])]
theorem ck_67 : cChk [ct_66] [] ct_67 cu_67 2000 2 = true := by decide +kernel
theorem cs_67 {s : List Int32} : cSound s ct_67 := cChk_ok (C := [ct_66]) (G := []) (hCc cs_66 hC0) hG0 ck_67
/-- WidowDeeds$Chain.overcomes -/
def ct_68 : CT := (6, 0, 3, (([(.ofNat 0, .ofNat 0), (.ofNat 0, .ofNat 39), (.ofNat 0, .ofNat 39)], [], [], []), [(2, 170, .ofNat 0), (1, 1, .ofNat 0), (1, 2, .ofNat 0), (0, 0, .ofNat 0), (0, 0, .ofNat 0)], []), [(([(.ofNat 0, .ofNat 0), (.ofNat 0, .ofNat 39), (.ofNat 0, .ofNat 39), (.ofNat 0, .ofNat 1)], [], [], []), [], [(1, 3, .ofNat 0)])], [(152, 7), (158, 7), (164, 7)])
def cu_68 : List CU := []
theorem ck_68 : cChk [ct_60, ct_63, ct_65, ct_67] [] ct_68 cu_68 2000 0 = true := by decide +kernel
theorem cs_68 {s : List Int32} : cSound s ct_68 := cChk_ok (C := [ct_60, ct_63, ct_65, ct_67]) (G := []) (hCc cs_60 (hCc cs_63 (hCc cs_65 (hCc cs_67 hC0)))) hG0 ck_68
/-- WidowDeeds.beats -/
def ct_69 : CT := (123, 0, 5, (([(.ofNat 0, .ofNat 0), (.negSucc 2147483647, .ofNat 2147483647), (.negSucc 2147483647, .ofNat 2147483647), (.negSucc 2147483647, .ofNat 2147483647), (.negSucc 2147483647, .ofNat 2147483647), (.negSucc 2147483647, .ofNat 2147483647)], [], [], []), [(2, 2, .ofNat 0), (1, 1, .ofNat 0), (1, 2, .ofNat 0), (1, 3, .ofNat 0), (1, 4, .ofNat 0), (1, 5, .ofNat 0), (0, 0, .ofNat 0)], []), [(([(.ofNat 0, .ofNat 0), (.negSucc 2147483647, .ofNat 2147483647), (.negSucc 2147483647, .ofNat 2147483647), (.negSucc 2147483647, .ofNat 2147483647), (.negSucc 2147483647, .ofNat 2147483647), (.negSucc 2147483647, .ofNat 2147483647), (.negSucc 0, .ofNat 1)], [], [], []), [], [(1, 6, .ofNat 0)])], [(152, 7), (158, 7), (164, 7), (170, 4), (170, 5), (170, 6), (170, 7), (170, 8)])
def cu_69 : List CU := []
theorem ck_69 : cChk [ct_57, ct_60, ct_63, ct_65, ct_67, ct_68] [] ct_69 cu_69 2000 0 = true := by decide +kernel
theorem cs_69 {s : List Int32} : cSound s ct_69 := cChk_ok (C := [ct_57, ct_60, ct_63, ct_65, ct_67, ct_68]) (G := []) (hCc cs_57 (hCc cs_60 (hCc cs_63 (hCc cs_65 (hCc cs_67 (hCc cs_68 hC0)))))) hG0 ck_69
/-- WidowDeeds$Chain.follow -/
def ct_70 : CT := (5, 0, 4, (([(.ofNat 0, .ofNat 0)], [], [], []), [(2, 170, .ofNat 0), (3, 0, .ofNat 0), (0, 0, .ofNat 0), (0, 0, .ofNat 0), (0, 0, .ofNat 0), (0, 0, .ofNat 0), (0, 0, .ofNat 0), (0, 0, .ofNat 0)], []), [(([(.ofNat 0, .ofNat 0), (.ofNat 0, .ofNat 9)], [], [], []), [], [(1, 1, .ofNat 0)])], [(152, 7), (158, 7), (164, 7), (170, 14), (170, 15)])
def cu_70 : List CU := [(18, (([(.ofNat 0, .ofNat 0), (.ofNat 0, .ofNat 9), (.ofNat 0, .ofNat 40), (.ofNat 0, .ofNat 9), (.ofNat 0, .ofNat 40)], [(4, 2, .ofNat 0)], [], [(170, 6, (1, 3, .ofNat 0)), (170, 14, (1, 4, .ofNat 0))]), [(2, 170, .ofNat 0), (3, 0, .ofNat 0), (0, 0, .ofNat 0), (1, 1, .ofNat 0), (1, 2, .ofNat 0), (0, 0, .ofNat 0), (0, 0, .ofNat 0), (0, 0, .ofNat 0)], []), [(0, 0, .ofNat 0), (3, 4, .ofNat 41), (0, 0, .ofNat 2), (0, 0, .ofNat 0)]), (37, (([(.ofNat 0, .ofNat 0), (.ofNat 0, .ofNat 9), (.ofNat 0, .ofNat 39), (.ofNat 0, .ofNat 40), (.ofNat 1, .ofNat 40), (.ofNat 0, .ofNat 9), (.ofNat 0, .ofNat 39)], [(2, 3, .ofNat 0), (2, 4, .negSucc 0), (3, 4, .ofNat 0), (6, 2, .ofNat 0), (6, 3, .ofNat 0), (6, 4, .negSucc 0)], [], [(7, 2, (1, 4, .ofNat 0)), (170, 6, (1, 5, .ofNat 0)), (170, 14, (1, 6, .ofNat 0))]), [(2, 170, .ofNat 0), (3, 0, .ofNat 0), (0, 0, .ofNat 0), (1, 1, .ofNat 0), (1, 2, .ofNat 0), (1, 0, .negSucc 0), (1, 3, .ofNat 0), (0, 0, .ofNat 0)], []), [(0, 0, .ofNat 0), (5, 6, .ofNat 41), (0, 0, .ofNat 1), (4, 3, .ofNat 1)]), (37, (([(.ofNat 0, .ofNat 0), (.ofNat 0, .ofNat 9), (.ofNat 0, .ofNat 2147483647), (.ofNat 0, .ofNat 2147483647), (.ofNat 1, .ofNat 2147483647), (.ofNat 0, .ofNat 39), (.ofNat 1, .ofNat 40), (.ofNat 0, .ofNat 9), (.ofNat 0, .ofNat 2147483647)], [(2, 3, .ofNat 0), (2, 4, .negSucc 0), (2, 6, .negSucc 0), (3, 4, .negSucc 0), (3, 6, .negSucc 0), (4, 6, .ofNat 0), (8, 2, .ofNat 0), (8, 3, .ofNat 0), (8, 4, .negSucc 0), (8, 6, .negSucc 0)], [], [(7, 2, (1, 6, .ofNat 0)), (170, 6, (1, 7, .ofNat 0)), (170, 14, (1, 8, .ofNat 0))]), [(2, 170, .ofNat 0), (3, 0, .ofNat 0), (0, 0, .ofNat 0), (1, 1, .ofNat 0), (1, 2, .ofNat 0), (1, 3, .ofNat 0), (1, 4, .ofNat 0), (1, 5, .ofNat 0)], []), [(0, 0, .ofNat 0), (7, 8, .ofNat 41), (0, 0, .ofNat 0), (6, 4, .ofNat 1)])]
theorem ck_70 : cChk [ct_68] [] ct_70 cu_70 2000 4 = true := by decide +kernel
theorem cs_70 {s : List Int32} : cSound s ct_70 := cChk_ok (C := [ct_68]) (G := []) (hCc cs_68 hC0) hG0 ck_70
/-- WidowDeeds.holder -/
def ct_71 : CT := (124, 0, 6, (([(.ofNat 0, .ofNat 0), (.negSucc 2147483647, .ofNat 2147483647), (.negSucc 2147483647, .ofNat 2147483647), (.negSucc 2147483647, .ofNat 2147483647)], [], [], []), [(2, 2, .ofNat 0), (1, 1, .ofNat 0), (1, 2, .ofNat 0), (1, 3, .ofNat 0), (0, 0, .ofNat 0)], []), [(([(.ofNat 0, .ofNat 0), (.negSucc 2147483647, .ofNat 2147483647), (.negSucc 2147483647, .ofNat 2147483647), (.negSucc 2147483647, .ofNat 2147483647), (.negSucc 1, .ofNat 40)], [], [], []), [], [(1, 4, .ofNat 0)])], [(152, 7), (158, 7), (164, 7), (170, 4), (170, 5), (170, 6), (170, 7), (170, 8), (170, 14), (170, 15)])
def cu_71 : List CU := []
theorem ck_71 : cChk [ct_57, ct_70] [] ct_71 cu_71 2000 0 = true := by decide +kernel
theorem cs_71 {s : List Int32} : cSound s ct_71 := cChk_ok (C := [ct_57, ct_70]) (G := []) (hCc cs_57 (hCc cs_70 hC0)) hG0 ck_71
/-- WidowDeeds$Chain.reasonOut -/
def ct_72 : CT := (14, 0, 2, (([(.ofNat 0, .ofNat 0), (.ofNat 0, .ofNat 39)], [], [], []), [(2, 170, .ofNat 0), (1, 1, .ofNat 0), (0, 0, .ofNat 0), (0, 0, .ofNat 0)], []), [(([(.ofNat 0, .ofNat 0), (.ofNat 0, .ofNat 39), (.ofNat 0, .ofNat 5)], [], [], []), [], [(1, 2, .ofNat 0)])], [])
def cu_72 : List CU := [(12, (([(.ofNat 0, .ofNat 0), (.ofNat 0, .ofNat 39), (.ofNat 0, .ofNat 40)], [], [], []), [(2, 170, .ofNat 0), (1, 1, .ofNat 0), (2, 10, .ofNat 0), (1, 2, .ofNat 0)], []), [(0, 0, .ofNat 0), (1, 2, .ofNat 41)])]
theorem ck_72 : cChk [] [] ct_72 cu_72 2000 2 = true := by decide +kernel
theorem cs_72 {s : List Int32} : cSound s ct_72 := cChk_ok (C := []) (G := []) hC0 hG0 ck_72
/-- WidowDeeds.why -/
def ct_73 : CT := (125, 0, 6, (([(.ofNat 0, .ofNat 0), (.negSucc 2147483647, .ofNat 2147483647), (.negSucc 2147483647, .ofNat 2147483647), (.negSucc 2147483647, .ofNat 2147483647)], [], [], []), [(2, 2, .ofNat 0), (1, 1, .ofNat 0), (1, 2, .ofNat 0), (1, 3, .ofNat 0)], []), [(([(.ofNat 0, .ofNat 0), (.negSucc 2147483647, .ofNat 2147483647), (.negSucc 2147483647, .ofNat 2147483647), (.negSucc 2147483647, .ofNat 2147483647), (.negSucc 0, .ofNat 5)], [], [], []), [], [(1, 4, .ofNat 0)])], [(152, 7), (158, 7), (164, 7), (170, 4), (170, 5), (170, 6), (170, 7), (170, 8), (170, 14), (170, 15)])
def cu_73 : List CU := []
theorem ck_73 : cChk [ct_57, ct_70, ct_72] [] ct_73 cu_73 2000 0 = true := by decide +kernel
theorem cs_73 {s : List Int32} : cSound s ct_73 := cChk_ok (C := [ct_57, ct_70, ct_72]) (G := []) (hCc cs_57 (hCc cs_70 (hCc cs_72 hC0))) hG0 ck_73
/-- WidowDeeds$Law.daysOf -/
def ct_74 : CT := (65, 0, 2, (([(.ofNat 0, .ofNat 0)], [], [], []), [(2, 152, .ofNat 0), (2, 172, .ofNat 0), (0, 0, .ofNat 0)], []), [(([(.ofNat 0, .ofNat 0), (.ofNat 0, .ofNat 1000)], [], [], []), [], [(1, 1, .ofNat 0)])], [(152, 7)])
def cu_74 : List CU := [(2, (([(.ofNat 0, .ofNat 0), (.ofNat 0, .ofNat 12)], [], [], []), [(2, 152, .ofNat 0), (2, 172, .ofNat 0), (1, 1, .ofNat 0)], []), [(0, 0, .ofNat 0), (0, 1, .ofNat 13)])]
theorem ck_74 : cChk [ct_62] [] ct_74 cu_74 2000 2 = true := by decide +kernel
theorem cs_74 {s : List Int32} : cSound s ct_74 := cChk_ok (C := [ct_62]) (G := []) (hCc cs_62 hC0) hG0 ck_74
/-- WidowDeeds$Law.daysOf -/
def ct_75 : CT := (65, 0, 2, (([(.ofNat 0, .ofNat 0)], [], [], []), [(2, 158, .ofNat 0), (2, 172, .ofNat 0), (0, 0, .ofNat 0)], []), [(([(.ofNat 0, .ofNat 0), (.ofNat 0, .ofNat 1000)], [], [], []), [], [(1, 1, .ofNat 0)])], [(158, 7)])
def cu_75 : List CU := [(2, (([(.ofNat 0, .ofNat 0), (.ofNat 0, .ofNat 12)], [], [], []), [(2, 158, .ofNat 0), (2, 172, .ofNat 0), (1, 1, .ofNat 0)], []), [(0, 0, .ofNat 0), (0, 1, .ofNat 13)])]
theorem ck_75 : cChk [ct_64] [] ct_75 cu_75 2000 2 = true := by decide +kernel
theorem cs_75 {s : List Int32} : cSound s ct_75 := cChk_ok (C := [ct_64]) (G := []) (hCc cs_64 hC0) hG0 ck_75
/-- WidowDeeds$Law.daysOf -/
def ct_76 : CT := (65, 0, 2, (([(.ofNat 0, .ofNat 0)], [], [], []), [(2, 164, .ofNat 0), (2, 172, .ofNat 0), (0, 0, .ofNat 0)], []), [(([(.ofNat 0, .ofNat 0), (.ofNat 0, .ofNat 1000)], [], [], []), [], [(1, 1, .ofNat 0)])], [(164, 7)])
def cu_76 : List CU := [(2, (([(.ofNat 0, .ofNat 0), (.ofNat 0, .ofNat 12)], [], [], []), [(2, 164, .ofNat 0), (2, 172, .ofNat 0), (1, 1, .ofNat 0)], []), [(0, 0, .ofNat 0), (0, 1, .ofNat 13)])]
theorem ck_76 : cChk [ct_66] [] ct_76 cu_76 2000 2 = true := by decide +kernel
theorem cs_76 {s : List Int32} : cSound s ct_76 := cChk_ok (C := [ct_66]) (G := []) (hCc cs_66 hC0) hG0 ck_76
/-- java/util/Arrays.fill -/
def ct_77 : CT := (281, 0, 0, (([(.ofNat 0, .ofNat 0), (.ofNat 0, .ofNat 0)], [], [], []), [(2, 172, .ofNat 0), (1, 1, .ofNat 0), (0, 0, .ofNat 0), (0, 0, .ofNat 0)], []), [(([(.ofNat 0, .ofNat 0), (.ofNat 0, .ofNat 0)], [], [], []), [], [])], [])
def cu_77 : List CU := [(5, (([(.ofNat 0, .ofNat 0), (.ofNat 0, .ofNat 0), (.ofNat 0, .ofNat 26)], [], [], []), [(2, 172, .ofNat 0), (1, 1, .ofNat 0), (1, 2, .ofNat 0), (1, 0, .ofNat 26)], []), [(0, 0, .ofNat 0), (1, 2, .ofNat 27)])]
theorem ck_77 : cChk [] [] ct_77 cu_77 2000 2 = true := by decide +kernel
theorem cs_77 {s : List Int32} : cSound s ct_77 := cChk_ok (C := []) (G := []) hC0 hG0 ck_77
/-- WidowDeeds$Chain.isBurden -/
def ct_78 : CT := (16, 0, 4, (([(.ofNat 0, .ofNat 0), (.ofNat 0, .ofNat 39)], [], [], []), [(2, 170, .ofNat 0), (1, 1, .ofNat 0), (0, 0, .ofNat 0), (0, 0, .ofNat 0)], []), [(([(.ofNat 0, .ofNat 0), (.ofNat 0, .ofNat 39), (.ofNat 0, .ofNat 1)], [], [], []), [], [(1, 2, .ofNat 0)])], [(152, 7), (158, 7), (164, 7)])
def cu_78 : List CU := [(7, (([(.ofNat 0, .ofNat 0), (.ofNat 0, .ofNat 39), (.ofNat 0, .ofNat 9), (.ofNat 0, .ofNat 40), (.ofNat 0, .ofNat 9)], [], [], [(170, 6, (1, 4, .ofNat 0))]), [(2, 170, .ofNat 0), (1, 1, .ofNat 0), (1, 2, .ofNat 0), (1, 3, .ofNat 0)], []), [(0, 0, .ofNat 0), (4, 3, .ofNat 41)])]
theorem ck_78 : cChk [ct_59, ct_60, ct_63, ct_65, ct_67, ct_74, ct_75, ct_76, ct_77] [] ct_78 cu_78 2000 2 = true := by decide +kernel
theorem cs_78 {s : List Int32} : cSound s ct_78 := cChk_ok (C := [ct_59, ct_60, ct_63, ct_65, ct_67, ct_74, ct_75, ct_76, ct_77]) (G := []) (hCc cs_59 (hCc cs_60 (hCc cs_63 (hCc cs_65 (hCc cs_67 (hCc cs_74 (hCc cs_75 (hCc cs_76 (hCc cs_77 hC0))))))))) hG0 ck_78
/-- WidowDeeds$Chain.liesOn -/
def ct_79 : CT := (15, 0, 6, (([(.ofNat 0, .ofNat 0), (.ofNat 0, .ofNat 7), (.ofNat 0, .ofNat 999)], [], [], []), [(2, 170, .ofNat 0), (1, 1, .ofNat 0), (1, 2, .ofNat 0), (0, 0, .ofNat 0), (0, 0, .ofNat 0), (0, 0, .ofNat 0)], []), [(([(.ofNat 0, .ofNat 0), (.ofNat 0, .ofNat 7), (.ofNat 0, .ofNat 999)], [], [], []), [], [(3, 0, .ofNat 0)])], [(152, 7), (158, 7), (164, 7), (170, 4), (170, 5), (170, 6), (170, 7), (170, 8), (170, 14), (170, 15)])
def cu_79 : List CU := [(12, (([(.ofNat 0, .ofNat 0), (.ofNat 0, .ofNat 7), (.ofNat 0, .ofNat 999), (.ofNat 0, .ofNat 40)], [], [], []), [(2, 170, .ofNat 0), (1, 1, .ofNat 0), (1, 2, .ofNat 0), (3, 0, .ofNat 0), (0, 0, .ofNat 0), (1, 3, .ofNat 0)], []), [(0, 0, .ofNat 0), (1, 3, .ofNat 41)])]
theorem ck_79 : cChk [ct_57, ct_70, ct_78] [] ct_79 cu_79 2000 2 = true := by decide +kernel
theorem cs_79 {s : List Int32} : cSound s ct_79 := cChk_ok (C := [ct_57, ct_70, ct_78]) (G := []) (hCc cs_57 (hCc cs_70 (hCc cs_78 hC0))) hG0 ck_79
/-- WidowDeeds.burdens -/
def ct_80 : CT := (126, 0, 7, (([(.ofNat 0, .ofNat 0), (.negSucc 2147483647, .ofNat 2147483647), (.negSucc 2147483647, .ofNat 2147483647)], [], [], []), [(2, 2, .ofNat 0), (1, 1, .ofNat 0), (1, 2, .ofNat 0)], []), [(([(.ofNat 0, .ofNat 0), (.negSucc 2147483647, .ofNat 2147483647), (.negSucc 2147483647, .ofNat 2147483647)], [], [], []), [], [(3, 0, .ofNat 0)])], [(152, 7), (158, 7), (164, 7), (170, 4), (170, 5), (170, 6), (170, 7), (170, 8), (170, 14), (170, 15)])
def cu_80 : List CU := []
theorem ck_80 : cChk [ct_79] [] ct_80 cu_80 2000 0 = true := by decide +kernel
theorem cs_80 {s : List Int32} : cSound s ct_80 := cChk_ok (C := [ct_79]) (G := []) (hCc cs_79 hC0) hG0 ck_80
/-- WidowDeeds$Ledger.lienSum -/
def ct_81 : CT := (93, 0, 0, (([(.ofNat 0, .ofNat 0)], [], [], []), [(2, 7, .ofNat 0), (3, 0, .ofNat 0), (0, 0, .ofNat 0), (0, 0, .ofNat 0), (0, 0, .ofNat 0)], []), [(([(.ofNat 0, .ofNat 0), (.negSucc 2147483647, .ofNat 2147483647)], [], [], []), [], [(1, 1, .ofNat 0)])], [])
def cu_81 : List CU := [(5, (([(.ofNat 0, .ofNat 0), (.negSucc 2147483647, .ofNat 2147483647), (.ofNat 0, .ofNat 40)], [], [], []), [(2, 7, .ofNat 0), (3, 0, .ofNat 0), (0, 0, .ofNat 0), (1, 1, .ofNat 0), (1, 2, .ofNat 0)], []), [(0, 0, .ofNat 0), (0, 2, .ofNat 41)])]
theorem ck_81 : cChk [] [] ct_81 cu_81 2000 2 = true := by decide +kernel
theorem cs_81 {s : List Int32} : cSound s ct_81 := cChk_ok (C := []) (G := []) hC0 hG0 ck_81
/-- WidowDeeds.owed -/
def ct_82 : CT := (127, 0, 7, (([(.ofNat 0, .ofNat 0), (.negSucc 2147483647, .ofNat 2147483647), (.negSucc 2147483647, .ofNat 2147483647)], [], [], []), [(2, 2, .ofNat 0), (1, 1, .ofNat 0), (1, 2, .ofNat 0)], []), [(([(.ofNat 0, .ofNat 0), (.negSucc 2147483647, .ofNat 2147483647), (.negSucc 2147483647, .ofNat 2147483647), (.negSucc 2147483647, .ofNat 2147483647)], [], [], []), [], [(1, 3, .ofNat 0)])], [(152, 7), (158, 7), (164, 7), (170, 4), (170, 5), (170, 6), (170, 7), (170, 8), (170, 14), (170, 15)])
def cu_82 : List CU := []
theorem ck_82 : cChk [ct_79, ct_81] [] ct_82 cu_82 2000 0 = true := by decide +kernel
theorem cs_82 {s : List Int32} : cSound s ct_82 := cChk_ok (C := [ct_79, ct_81]) (G := []) (hCc cs_79 (hCc cs_81 hC0)) hG0 ck_82
/-- WidowDeeds$Chain.hidden -/
def ct_83 : CT := (17, 0, 2, (([(.ofNat 0, .ofNat 0), (.ofNat 0, .ofNat 2)], [], [], []), [(2, 170, .ofNat 0), (1, 1, .ofNat 0), (0, 0, .ofNat 0), (0, 0, .ofNat 0), (0, 0, .ofNat 0), (0, 0, .ofNat 0)], []), [(([(.ofNat 0, .ofNat 0), (.ofNat 0, .ofNat 2)], [], [], []), [], [(3, 0, .ofNat 0)])], [])
def cu_83 : List CU := [(5, (([(.ofNat 0, .ofNat 0), (.ofNat 0, .ofNat 2), (.ofNat 0, .ofNat 40)], [], [], []), [(2, 170, .ofNat 0), (1, 1, .ofNat 0), (3, 0, .ofNat 0), (0, 0, .ofNat 0), (1, 2, .ofNat 0), (0, 0, .ofNat 0)], []), [(0, 0, .ofNat 0), (1, 2, .ofNat 41)])]
theorem ck_83 : cChk [] [] ct_83 cu_83 2000 2 = true := by decide +kernel
theorem cs_83 {s : List Int32} : cSound s ct_83 := cChk_ok (C := []) (G := []) hC0 hG0 ck_83
/-- WidowDeeds.unseen -/
def ct_84 : CT := (128, 0, 5, (([(.ofNat 0, .ofNat 0), (.negSucc 2147483647, .ofNat 2147483647), (.negSucc 2147483647, .ofNat 2147483647), (.negSucc 2147483647, .ofNat 2147483647)], [], [], []), [(2, 2, .ofNat 0), (1, 1, .ofNat 0), (1, 2, .ofNat 0), (1, 3, .ofNat 0)], []), [(([(.ofNat 0, .ofNat 0), (.negSucc 2147483647, .ofNat 2147483647), (.negSucc 2147483647, .ofNat 2147483647), (.negSucc 2147483647, .ofNat 2147483647)], [], [], []), [], [(3, 0, .ofNat 0)])], [(170, 4), (170, 5), (170, 6), (170, 7), (170, 8)])
def cu_84 : List CU := []
theorem ck_84 : cChk [ct_57, ct_83] [] ct_84 cu_84 2000 0 = true := by decide +kernel
theorem cs_84 {s : List Int32} : cSound s ct_84 := cChk_ok (C := [ct_57, ct_83]) (G := []) (hCc cs_57 (hCc cs_83 hC0)) hG0 ck_84
/-- WidowDeeds$Chain.meetsAll -/
def ct_85 : CT := (24, 0, 0, (([(.ofNat 0, .ofNat 0), (.negSucc 2147483647, .ofNat 16383)], [], [], []), [(2, 170, .ofNat 0), (1, 1, .ofNat 0), (0, 0, .ofNat 0)], []), [(([(.ofNat 0, .ofNat 0), (.negSucc 2147483647, .ofNat 16383), (.ofNat 0, .ofNat 1)], [], [], []), [], [(1, 2, .ofNat 0)])], [])
def cu_85 : List CU := [(2, (([(.ofNat 0, .ofNat 0), (.negSucc 2147483647, .ofNat 16383), (.ofNat 0, .ofNat 40)], [], [], []), [(2, 170, .ofNat 0), (1, 1, .ofNat 0), (1, 2, .ofNat 0)], []), [(0, 0, .ofNat 0), (1, 2, .ofNat 2147483689)])]
theorem ck_85 : cChk [] [] ct_85 cu_85 2000 2 = true := by decide +kernel
theorem cs_85 {s : List Int32} : cSound s ct_85 := cChk_ok (C := []) (G := []) hC0 hG0 ck_85
/-- java/lang/Integer.numberOfTrailingZeros -/
def ct_86 : CT := (278, 0, 0, (([(.ofNat 0, .ofNat 0), (.negSucc 2147483647, .ofNat 2147483647)], [], [], []), [(1, 1, .ofNat 0), (0, 0, .ofNat 0)], []), [(([(.ofNat 0, .ofNat 0), (.negSucc 2147483647, .ofNat 2147483647), (.negSucc 2147483647, .ofNat 2147483647)], [], [], []), [], [(1, 2, .ofNat 0)])], [])
def cu_86 : List CU := []
theorem ck_86 : cChk [] [] ct_86 cu_86 2000 0 = true := by decide +kernel
theorem cs_86 {s : List Int32} : cSound s ct_86 := cChk_ok (C := []) (G := []) hC0 hG0 ck_86
/-- WidowDeeds$Chain.leastOfSize -/
def ct_87 : CT := (20, 0, 2, (([(.ofNat 0, .ofNat 0), (.ofNat 1, .ofNat 14)], [], [], []), [(2, 170, .ofNat 0), (1, 1, .ofNat 0), (0, 0, .ofNat 0), (0, 0, .ofNat 0)], []), [(([(.ofNat 0, .ofNat 0), (.ofNat 1, .ofNat 14), (.negSucc 2147483647, .ofNat 16383)], [], [], []), [], [(1, 2, .ofNat 0)])], [])
def cu_87 : List CU := [(8, (([(.ofNat 0, .ofNat 0), (.ofNat 1, .ofNat 14), (.negSucc 2147483647, .ofNat 2147483647), (.ofNat 0, .ofNat 2147483647)], [], [], []), [(2, 170, .ofNat 0), (1, 1, .ofNat 0), (1, 2, .ofNat 0), (1, 3, .ofNat 0)], []), [(0, 0, .ofNat 0), (1, 3, .ofNat 2147483647)])]
theorem ck_87 : cChk [ct_85, ct_86] [] ct_87 cu_87 2000 2 = true := by decide +kernel
theorem cs_87 {s : List Int32} : cSound s ct_87 := cChk_ok (C := [ct_85, ct_86]) (G := []) (hCc cs_85 (hCc cs_86 hC0)) hG0 ck_87
/-- WidowDeeds$Chain.namesInChain -/
def ct_88 : CT := (21, 0, 0, (([(.ofNat 0, .ofNat 0)], [], [], []), [(2, 170, .ofNat 0), (0, 0, .ofNat 0), (0, 0, .ofNat 0)], []), [(([(.ofNat 0, .ofNat 0), (.negSucc 2147483647, .ofNat 2147483647)], [], [], []), [], [(1, 1, .ofNat 0)])], [])
def cu_88 : List CU := [(9, (([(.ofNat 0, .ofNat 0), (.negSucc 2147483647, .ofNat 2147483647), (.ofNat 0, .ofNat 40), (.ofNat 0, .ofNat 9)], [], [], [(170, 6, (1, 3, .ofNat 0))]), [(2, 170, .ofNat 0), (1, 1, .ofNat 0), (1, 2, .ofNat 0)], []), [(0, 0, .ofNat 0), (3, 2, .ofNat 41)])]
theorem ck_88 : cChk [] [] ct_88 cu_88 2000 2 = true := by decide +kernel
theorem cs_88 {s : List Int32} : cSound s ct_88 := cChk_ok (C := []) (G := []) hC0 hG0 ck_88
/-- WidowDeeds$Chain.gatherPageSets -/
def ct_89 : CT := (22, 0, 1, (([(.ofNat 0, .ofNat 0), (.negSucc 2147483647, .ofNat 2147483647)], [], [], []), [(2, 170, .ofNat 0), (1, 1, .ofNat 0), (0, 0, .ofNat 0), (0, 0, .ofNat 0)], []), [(([(.ofNat 0, .ofNat 0), (.negSucc 2147483647, .ofNat 2147483647)], [], [], []), [], [])], [(170, 17)])
def cu_89 : List CU := [(7, (([(.ofNat 0, .ofNat 0), (.negSucc 2147483647, .ofNat 2147483647), (.ofNat 0, .ofNat 2147483647), (.ofNat 0, .ofNat 2147483647)], [(3, 2, .ofNat 0)], [], [(170, 17, (1, 3, .ofNat 0))]), [(2, 170, .ofNat 0), (1, 1, .ofNat 0), (1, 2, .ofNat 0), (0, 0, .ofNat 0)], []), [(0, 0, .ofNat 0), (1, 2, .ofNat 4294967296)])]
theorem ck_89 : cChk [] [] ct_89 cu_89 2000 2 = true := by decide +kernel
theorem cs_89 {s : List Int32} : cSound s ct_89 := cChk_ok (C := []) (G := []) hC0 hG0 ck_89
