/-! contracts, on -/
/-- WidowDeeds$Doubts.countLosses -/
def ct_60 : CT := (35, 0, 6, (([(.ofNat 0, .ofNat 0), (.ofNat 0, .ofNat 7), (.ofNat 0, .ofNat 999)], [], [], []), [(2, 177, .ofNat 0), (1, 1, .ofNat 0), (1, 2, .ofNat 0), (0, 0, .ofNat 0), (0, 0, .ofNat 0), (0, 0, .ofNat 0), (0, 0, .ofNat 0), (0, 0, .ofNat 0), (0, 0, .ofNat 0)], []), [(([(.ofNat 0, .ofNat 0), (.ofNat 0, .ofNat 7), (.ofNat 0, .ofNat 999)], [], [], []), [], [])], [(152, 7), (158, 7), (164, 7), (170, 4), (170, 5), (170, 6), (170, 7), (170, 8), (170, 14), (170, 15)])
def cu_60 : List CU := [(13, (([(.ofNat 0, .ofNat 0), (.ofNat 0, .ofNat 7), (.ofNat 0, .ofNat 999), (.ofNat 0, .ofNat 9), (.ofNat 0, .ofNat 40)], [], [], []), [(2, 177, .ofNat 0), (1, 1, .ofNat 0), (1, 2, .ofNat 0), (1, 3, .ofNat 0), (1, 4, .ofNat 0), (0, 0, .ofNat 0), (0, 0, .ofNat 0), (0, 0, .ofNat 0), (0, 0, .ofNat 0)], []), [(0, 0, .ofNat 0), (1, 4, .ofNat 41)])]
theorem ck_60 : cChk [ct_21, ct_34] [] ct_60 cu_60 2000 2 = true := by decide +kernel
theorem cs_60 {s : List Int32} (hm : cMan s) : cSound s ct_60 := cChk_ok (C := [ct_21, ct_34]) (hCc (cs_21 hm) (hCc (cs_34 hm) hC0)) hG0 ck_60
/-- WidowDeeds.missing -/
def ct_61 : CT := (131, 0, 7, (([(.ofNat 0, .ofNat 0), (.negSucc 2147483647, .ofNat 2147483647), (.negSucc 2147483647, .ofNat 2147483647)], [], [], []), [(2, 2, .ofNat 0), (1, 1, .ofNat 0), (1, 2, .ofNat 0), (0, 0, .ofNat 0)], []), [(([(.ofNat 0, .ofNat 0), (.negSucc 2147483647, .ofNat 2147483647), (.negSucc 2147483647, .ofNat 2147483647), (.negSucc 2147483647, .ofNat 2147483647)], [], [], []), [], [(1, 3, .ofNat 0)])], [(152, 7), (158, 7), (164, 7), (170, 4), (170, 5), (170, 6), (170, 7), (170, 8), (170, 14), (170, 15)])
def cu_61 : List CU := [(26, (([(.ofNat 0, .ofNat 0), (.ofNat 0, .ofNat 999), (.ofNat 0, .ofNat 1), (.ofNat 0, .ofNat 8)], [], [], []), [(2, 2, .ofNat 0), (1, 1, .ofNat 0), (1, 2, .ofNat 0), (1, 3, .ofNat 0)], []), [(0, 0, .ofNat 0), (1, 3, .ofNat 9)])]
theorem ck_61 : cChk [ct_57, ct_58, ct_60] [] ct_61 cu_61 2000 2 = true := by decide +kernel
theorem cs_61 {s : List Int32} (hm : cMan s) : cSound s ct_61 := cChk_ok (C := [ct_57, ct_58, ct_60]) (hCc (cs_57 hm) (hCc (cs_58 hm) (hCc (cs_60 hm) hC0))) hG0 ck_61
/-- WidowDeeds$Ledger.dropLast -/
def ct_62 : CT := (92, 0, 0, (([(.ofNat 0, .ofNat 0), (.ofNat 0, .ofNat 40)], [], [], [(7, 2, (1, 1, .ofNat 0))]), [(2, 7, .ofNat 0), (0, 0, .ofNat 0), (0, 0, .ofNat 0)], []), [(([(.ofNat 0, .ofNat 0), (.ofNat 0, .ofNat 40), (.ofNat 0, .ofNat 40)], [], [], [(7, 2, (1, 2, .ofNat 0))]), [], [])], [(7, 2)])
def cu_62 : List CU := [(22, (([(.ofNat 0, .ofNat 0), (.ofNat 1, .ofNat 40), (.ofNat 0, .ofNat 2147483647), (.ofNat 0, .ofNat 2147483647)], [(2, 3, .ofNat 0)], [], [(7, 2, (1, 1, .negSucc 0))]), [(2, 7, .ofNat 0), (1, 2, .ofNat 0), (1, 3, .ofNat 0)], []), [(0, 0, .ofNat 0), (1, 3, .ofNat 2147483647)])]
theorem ck_62 : cChk [] [] ct_62 cu_62 2000 2 = true := by decide +kernel
theorem cs_62 {s : List Int32} (hm : cMan s) : cSound s ct_62 := cChk_ok (C := []) hC0 hG0 ck_62
/-- WidowDeeds.trial -/
def ct_63 : CT := (132, 0, 6, (([(.ofNat 0, .ofNat 0), (.negSucc 2147483647, .ofNat 2147483647), (.negSucc 2147483647, .ofNat 2147483647), (.negSucc 2147483647, .ofNat 2147483647), (.negSucc 2147483647, .ofNat 2147483647), (.negSucc 2147483647, .ofNat 2147483647), (.negSucc 2147483647, .ofNat 2147483647), (.negSucc 2147483647, .ofNat 2147483647), (.negSucc 2147483647, .ofNat 2147483647)], [], [], []), [(2, 2, .ofNat 0), (1, 1, .ofNat 0), (1, 2, .ofNat 0), (1, 3, .ofNat 0), (1, 4, .ofNat 0), (1, 5, .ofNat 0), (1, 6, .ofNat 0), (1, 7, .ofNat 0), (1, 8, .ofNat 0), (0, 0, .ofNat 0), (0, 0, .ofNat 0), (0, 0, .ofNat 0)], []), [(([(.ofNat 0, .ofNat 0), (.negSucc 2147483647, .ofNat 2147483647), (.negSucc 2147483647, .ofNat 2147483647), (.negSucc 2147483647, .ofNat 2147483647), (.negSucc 2147483647, .ofNat 2147483647), (.negSucc 2147483647, .ofNat 2147483647), (.negSucc 2147483647, .ofNat 2147483647), (.negSucc 2147483647, .ofNat 2147483647), (.negSucc 2147483647, .ofNat 2147483647), (.negSucc 0, .ofNat 9)], [], [], []), [], [(1, 9, .ofNat 0)])], [(7, 2), (152, 7), (158, 7), (164, 7), (170, 4), (170, 5), (170, 6), (170, 7), (170, 8), (170, 14), (170, 15)])
def cu_63 : List CU := []
theorem ck_63 : cChk [ct_4, ct_5, ct_21, ct_34, ct_36, ct_62] [] ct_63 cu_63 2000 0 = true := by decide +kernel
theorem cs_63 {s : List Int32} (hm : cMan s) : cSound s ct_63 := cChk_ok (C := [ct_4, ct_5, ct_21, ct_34, ct_36, ct_62]) (hCc (cs_4 hm) (hCc (cs_5 hm) (hCc (cs_21 hm) (hCc (cs_34 hm) (hCc (cs_36 hm) (hCc (cs_62 hm) hC0)))))) hG0 ck_63
/-- WidowDeeds$Doubts.turnAhead -/
def ct_64 : CT := (38, 0, 2, (([(.ofNat 0, .ofNat 0), (.ofNat 0, .ofNat 999), (.ofNat 0, .ofNat 999)], [], [], []), [(2, 177, .ofNat 0), (1, 1, .ofNat 0), (1, 2, .ofNat 0), (0, 0, .ofNat 0), (0, 0, .ofNat 0)], []), [(([(.ofNat 0, .ofNat 0), (.ofNat 0, .ofNat 999), (.ofNat 0, .ofNat 999), (.negSucc 0, .ofNat 999)], [], [], []), [], [(1, 3, .ofNat 0)])], [])
def cu_64 : List CU := [(12, (([(.ofNat 0, .ofNat 0), (.ofNat 1, .ofNat 999), (.ofNat 0, .ofNat 998), (.ofNat 0, .ofNat 998), (.ofNat 0, .ofNat 39)], [], [], []), [(2, 177, .ofNat 0), (1, 1, .ofNat 0), (1, 2, .ofNat 0), (1, 3, .ofNat 0), (1, 4, .ofNat 0)], []), [(0, 0, .ofNat 0), (1, 4, .ofNat 39)])]
theorem ck_64 : cChk [] [] ct_64 cu_64 2000 2 = true := by decide +kernel
theorem cs_64 {s : List Int32} (hm : cMan s) : cSound s ct_64 := cChk_ok (C := []) hC0 hG0 ck_64
/-- WidowDeeds$Doubts.lastUsefulEntry -/
def ct_65 : CT := (37, 0, 6, (([(.ofNat 0, .ofNat 0), (.ofNat 0, .ofNat 7), (.ofNat 0, .ofNat 999)], [], [], []), [(2, 177, .ofNat 0), (1, 1, .ofNat 0), (2, 10, .ofNat 0), (1, 2, .ofNat 0), (0, 0, .ofNat 0), (0, 0, .ofNat 0)], []), [(([(.ofNat 0, .ofNat 0), (.ofNat 0, .ofNat 7), (.ofNat 0, .ofNat 999), (.negSucc 1, .ofNat 999)], [], [], []), [], [(1, 3, .ofNat 0)])], [(152, 7), (158, 7), (164, 7), (170, 4), (170, 5), (170, 6), (170, 7), (170, 8), (170, 14), (170, 15)])
def cu_65 : List CU := [(6, (([(.ofNat 0, .ofNat 0), (.ofNat 0, .ofNat 7), (.ofNat 0, .ofNat 999), (.negSucc 0, .ofNat 999), (.ofNat 0, .ofNat 2147483647)], [], [], []), [(2, 177, .ofNat 0), (1, 1, .ofNat 0), (2, 10, .ofNat 0), (1, 2, .ofNat 0), (1, 3, .ofNat 0), (1, 4, .ofNat 0)], []), [(0, 0, .ofNat 0), (1, 4, .ofNat 2147483648)])]
theorem ck_65 : cChk [ct_21, ct_34, ct_64] [] ct_65 cu_65 2000 2 = true := by decide +kernel
theorem cs_65 {s : List Int32} (hm : cMan s) : cSound s ct_65 := cChk_ok (C := [ct_21, ct_34, ct_64]) (hCc (cs_21 hm) (hCc (cs_34 hm) (hCc (cs_64 hm) hC0))) hG0 ck_65
/-- WidowDeeds.till -/
def ct_66 : CT := (133, 0, 7, (([(.ofNat 0, .ofNat 0), (.negSucc 2147483647, .ofNat 2147483647), (.negSucc 2147483647, .ofNat 2147483647), (.negSucc 2147483647, .ofNat 2147483647), (.negSucc 2147483647, .ofNat 2147483647), (.negSucc 2147483647, .ofNat 2147483647), (.negSucc 2147483647, .ofNat 2147483647)], [], [], []), [(2, 2, .ofNat 0), (1, 1, .ofNat 0), (1, 2, .ofNat 0), (1, 3, .ofNat 0), (1, 4, .ofNat 0), (1, 5, .ofNat 0), (1, 6, .ofNat 0), (0, 0, .ofNat 0), (0, 0, .ofNat 0)], []), [(([(.ofNat 0, .ofNat 0), (.negSucc 2147483647, .ofNat 2147483647), (.negSucc 2147483647, .ofNat 2147483647), (.negSucc 2147483647, .ofNat 2147483647), (.negSucc 2147483647, .ofNat 2147483647), (.negSucc 2147483647, .ofNat 2147483647), (.negSucc 2147483647, .ofNat 2147483647), (.negSucc 1, .ofNat 999)], [], [], []), [], [(1, 7, .ofNat 0)])], [(7, 2), (152, 7), (158, 7), (164, 7), (170, 4), (170, 5), (170, 6), (170, 7), (170, 8), (170, 14), (170, 15)])
def cu_66 : List CU := []
theorem ck_66 : cChk [ct_4, ct_5, ct_62, ct_65] [] ct_66 cu_66 2000 0 = true := by decide +kernel
theorem cs_66 {s : List Int32} (hm : cMan s) : cSound s ct_66 := cChk_ok (C := [ct_4, ct_5, ct_62, ct_65]) (hCc (cs_4 hm) (hCc (cs_5 hm) (hCc (cs_62 hm) (hCc (cs_65 hm) hC0)))) hG0 ck_66
/-- WidowDeeds$Doubts.strike -/
def ct_67 : CT := (41, 0, 5, (([(.ofNat 0, .ofNat 0), (.ofNat 3, .ofNat 3), (.ofNat 3, .ofNat 3), (.ofNat 0, .ofNat 9)], [], [], []), [(2, 177, .ofNat 0), (3, 0, .ofNat 0), (0, 0, .ofNat 0), (1, 1, .ofNat 0), (1, 2, .ofNat 0), (1, 3, .ofNat 0), (0, 0, .ofNat 0), (0, 0, .ofNat 0)], []), [(([(.ofNat 0, .ofNat 0), (.ofNat 3, .ofNat 3), (.ofNat 3, .ofNat 3), (.ofNat 0, .ofNat 9), (.ofNat 0, .ofNat 1)], [], [], []), [], [(1, 4, .ofNat 0)])], [(152, 7), (158, 7), (164, 7), (170, 14), (170, 15)])
def cu_67 : List CU := []
theorem ck_67 : cChk [ct_34] [] ct_67 cu_67 2000 0 = true := by decide +kernel
theorem cs_67 {s : List Int32} (hm : cMan s) : cSound s ct_67 := cChk_ok (C := [ct_34]) (hCc (cs_34 hm) hC0) hG0 ck_67
/-- WidowDeeds$Doubts.strike -/
def ct_68 : CT := (41, 0, 6, (([(.ofNat 0, .ofNat 0), (.ofNat 2, .ofNat 2), (.ofNat 2, .ofNat 3), (.ofNat 0, .ofNat 9)], [], [], []), [(2, 177, .ofNat 0), (3, 0, .ofNat 0), (0, 0, .ofNat 0), (1, 1, .ofNat 0), (1, 2, .ofNat 0), (1, 3, .ofNat 0), (0, 0, .ofNat 0), (0, 0, .ofNat 0)], []), [(([(.ofNat 0, .ofNat 0), (.ofNat 2, .ofNat 2), (.ofNat 2, .ofNat 3), (.ofNat 0, .ofNat 9), (.ofNat 0, .ofNat 1)], [], [], []), [], [(1, 4, .ofNat 0)])], [(152, 7), (158, 7), (164, 7), (170, 14), (170, 15)])
def cu_68 : List CU := [(54, (([(.ofNat 0, .ofNat 0), (.ofNat 2, .ofNat 2), (.ofNat 3, .ofNat 3), (.ofNat 0, .ofNat 9), (.ofNat 1, .ofNat 40), (.ofNat 1, .ofNat 40)], [(4, 5, .ofNat 0)], [], []), [(2, 177, .ofNat 0), (3, 0, .ofNat 0), (0, 0, .ofNat 0), (1, 1, .ofNat 0), (1, 2, .ofNat 0), (1, 3, .ofNat 0), (1, 4, .ofNat 0), (1, 5, .ofNat 0)], []), [(0, 0, .ofNat 0), (1, 5, .ofNat 39)])]
theorem ck_68 : cChk [ct_34, ct_67] [] ct_68 cu_68 2000 2 = true := by decide +kernel
theorem cs_68 {s : List Int32} (hm : cMan s) : cSound s ct_68 := cChk_ok (C := [ct_34, ct_67]) (hCc (cs_34 hm) (hCc (cs_67 hm) hC0)) hG0 ck_68
/-- WidowDeeds$Doubts.strike -/
def ct_69 : CT := (41, 0, 7, (([(.ofNat 0, .ofNat 0), (.ofNat 1, .ofNat 1), (.ofNat 1, .ofNat 3), (.ofNat 0, .ofNat 9)], [], [], []), [(2, 177, .ofNat 0), (3, 0, .ofNat 0), (0, 0, .ofNat 0), (1, 1, .ofNat 0), (1, 2, .ofNat 0), (1, 3, .ofNat 0), (0, 0, .ofNat 0), (0, 0, .ofNat 0)], []), [(([(.ofNat 0, .ofNat 0), (.ofNat 1, .ofNat 1), (.ofNat 1, .ofNat 3), (.ofNat 0, .ofNat 9), (.ofNat 0, .ofNat 1)], [], [], []), [], [(1, 4, .ofNat 0)])], [(152, 7), (158, 7), (164, 7), (170, 14), (170, 15)])
def cu_69 : List CU := [(54, (([(.ofNat 0, .ofNat 0), (.ofNat 1, .ofNat 1), (.ofNat 2, .ofNat 3), (.ofNat 0, .ofNat 9), (.ofNat 1, .ofNat 40), (.ofNat 1, .ofNat 40)], [(4, 5, .ofNat 0)], [], []), [(2, 177, .ofNat 0), (3, 0, .ofNat 0), (0, 0, .ofNat 0), (1, 1, .ofNat 0), (1, 2, .ofNat 0), (1, 3, .ofNat 0), (1, 4, .ofNat 0), (1, 5, .ofNat 0)], []), [(0, 0, .ofNat 0), (1, 5, .ofNat 40)])]
theorem ck_69 : cChk [ct_34, ct_68] [] ct_69 cu_69 2000 2 = true := by decide +kernel
theorem cs_69 {s : List Int32} (hm : cMan s) : cSound s ct_69 := cChk_ok (C := [ct_34, ct_68]) (hCc (cs_34 hm) (hCc (cs_68 hm) hC0)) hG0 ck_69
/-- WidowDeeds$Doubts.strike -/
def ct_70 : CT := (41, 0, 8, (([(.ofNat 0, .ofNat 0), (.ofNat 0, .ofNat 0), (.ofNat 0, .ofNat 3), (.ofNat 0, .ofNat 9)], [], [], []), [(2, 177, .ofNat 0), (3, 0, .ofNat 0), (0, 0, .ofNat 0), (1, 1, .ofNat 0), (1, 2, .ofNat 0), (1, 3, .ofNat 0), (0, 0, .ofNat 0), (0, 0, .ofNat 0)], []), [(([(.ofNat 0, .ofNat 0), (.ofNat 0, .ofNat 0), (.ofNat 0, .ofNat 3), (.ofNat 0, .ofNat 9), (.ofNat 0, .ofNat 1)], [], [], []), [], [(1, 4, .ofNat 0)])], [(152, 7), (158, 7), (164, 7), (170, 14), (170, 15)])
def cu_70 : List CU := [(54, (([(.ofNat 0, .ofNat 0), (.ofNat 0, .ofNat 0), (.ofNat 1, .ofNat 3), (.ofNat 0, .ofNat 9), (.ofNat 0, .ofNat 40)], [], [], []), [(2, 177, .ofNat 0), (3, 0, .ofNat 0), (0, 0, .ofNat 0), (1, 1, .ofNat 0), (1, 2, .ofNat 0), (1, 3, .ofNat 0), (1, 0, .ofNat 0), (1, 4, .ofNat 0)], []), [(0, 0, .ofNat 0), (1, 4, .ofNat 41)])]
theorem ck_70 : cChk [ct_34, ct_69] [] ct_70 cu_70 2000 2 = true := by decide +kernel
theorem cs_70 {s : List Int32} (hm : cMan s) : cSound s ct_70 := cChk_ok (C := [ct_34, ct_69]) (hCc (cs_34 hm) (hCc (cs_69 hm) hC0)) hG0 ck_70
/-- WidowDeeds$Doubts.fewestForgeries -/
def ct_71 : CT := (40, 0, 9, (([(.ofNat 0, .ofNat 0), (.ofNat 0, .ofNat 7), (.ofNat 0, .ofNat 9), (.ofNat 0, .ofNat 999)], [], [], []), [(2, 177, .ofNat 0), (1, 1, .ofNat 0), (1, 2, .ofNat 0), (1, 3, .ofNat 0), (0, 0, .ofNat 0)], []), [(([(.ofNat 0, .ofNat 0), (.ofNat 0, .ofNat 7), (.ofNat 0, .ofNat 9), (.ofNat 0, .ofNat 999), (.negSucc 1, .ofNat 3)], [], [], []), [], [(1, 4, .ofNat 0)])], [(152, 7), (158, 7), (164, 7), (170, 4), (170, 5), (170, 6), (170, 7), (170, 8), (170, 14), (170, 15)])
def cu_71 : List CU := [(12, (([(.ofNat 0, .ofNat 0), (.ofNat 0, .ofNat 7), (.ofNat 0, .ofNat 9), (.ofNat 0, .ofNat 999), (.ofNat 0, .ofNat 4)], [], [], []), [(2, 177, .ofNat 0), (1, 1, .ofNat 0), (1, 2, .ofNat 0), (1, 3, .ofNat 0), (1, 4, .ofNat 0)], []), [(0, 0, .ofNat 0), (1, 4, .ofNat 5)])]
theorem ck_71 : cChk [ct_21, ct_70] [] ct_71 cu_71 2000 2 = true := by decide +kernel
theorem cs_71 {s : List Int32} (hm : cMan s) : cSound s ct_71 := cChk_ok (C := [ct_21, ct_70]) (hCc (cs_21 hm) (hCc (cs_70 hm) hC0)) hG0 ck_71
/-- WidowDeeds.fewest -/
def ct_72 : CT := (134, 0, 10, (([(.ofNat 0, .ofNat 0), (.negSucc 2147483647, .ofNat 2147483647), (.negSucc 2147483647, .ofNat 2147483647), (.negSucc 2147483647, .ofNat 2147483647), (.negSucc 2147483647, .ofNat 2147483647)], [], [], []), [(2, 2, .ofNat 0), (1, 1, .ofNat 0), (1, 2, .ofNat 0), (1, 3, .ofNat 0), (1, 4, .ofNat 0), (0, 0, .ofNat 0)], []), [(([(.ofNat 0, .ofNat 0), (.negSucc 2147483647, .ofNat 2147483647), (.negSucc 2147483647, .ofNat 2147483647), (.negSucc 2147483647, .ofNat 2147483647), (.negSucc 2147483647, .ofNat 2147483647), (.negSucc 1, .ofNat 39)], [], [], []), [], [(1, 5, .ofNat 0)])], [(152, 7), (158, 7), (164, 7), (170, 4), (170, 5), (170, 6), (170, 7), (170, 8), (170, 14), (170, 15)])
def cu_72 : List CU := []
theorem ck_72 : cChk [ct_71] [] ct_72 cu_72 2000 0 = true := by decide +kernel
theorem cs_72 {s : List Int32} (hm : cMan s) : cSound s ct_72 := cChk_ok (C := [ct_71]) (hCc (cs_71 hm) hC0) hG0 ck_72
/-- WidowDeeds$Doubts.arrive -/
def ct_73 : CT := (44, 0, 1, (([(.ofNat 0, .ofNat 0), (.ofNat 0, .ofNat 2400), (.ofNat 0, .ofNat 999)], [], [], []), [(2, 177, .ofNat 0), (1, 1, .ofNat 0), (1, 2, .ofNat 0), (0, 0, .ofNat 0), (0, 0, .ofNat 0)], []), [(([(.ofNat 0, .ofNat 0), (.ofNat 0, .ofNat 2400), (.ofNat 0, .ofNat 999)], [], [], []), [], [])], [])
def cu_73 : List CU := [(5, (([(.ofNat 0, .ofNat 0), (.ofNat 0, .ofNat 2400), (.ofNat 0, .ofNat 999), (.ofNat 0, .ofNat 2400), (.ofNat 0, .ofNat 4)], [], [], []), [(2, 177, .ofNat 0), (1, 1, .ofNat 0), (1, 2, .ofNat 0), (1, 3, .ofNat 0), (1, 4, .ofNat 0)], []), [(0, 0, .ofNat 0), (1, 4, .ofNat 5)])]
theorem ck_73 : cChk [] [] ct_73 cu_73 2000 2 = true := by decide +kernel
theorem cs_73 {s : List Int32} (hm : cMan s) : cSound s ct_73 := cChk_ok (C := []) hC0 hG0 ck_73
/-- WidowDeeds$Doubts.cancel -/
def ct_74 : CT := (45, 0, 0, (([(.ofNat 0, .ofNat 0)], [], [], []), [(2, 177, .ofNat 0)], []), [(([(.ofNat 0, .ofNat 0)], [], [], []), [], [])], [(177, 6), (177, 7)])
def cu_74 : List CU := [(0, (([(.ofNat 0, .ofNat 0), (.ofNat 0, .ofNat 343), (.ofNat 0, .ofNat 343)], [], [], [(177, 6, (1, 1, .ofNat 0)), (177, 7, (1, 2, .ofNat 0))]), [(2, 177, .ofNat 0)], []), [(0, 0, .ofNat 0), (2, 0, .ofNat 1)])]
theorem ck_74 : cChk [] [] ct_74 cu_74 2000 2 = true := by decide +kernel
theorem cs_74 {s : List Int32} (hm : cMan s) : cSound s ct_74 := cChk_ok (C := []) hC0 hG0 ck_74
/-- WidowDeeds$Doubts.countWays -/
def ct_75 : CT := (43, 0, 6, (([(.ofNat 0, .ofNat 0), (.ofNat 0, .ofNat 7), (.ofNat 0, .ofNat 9), (.ofNat 0, .ofNat 999), (.ofNat 0, .ofNat 999)], [], [], []), [(2, 177, .ofNat 0), (1, 1, .ofNat 0), (1, 2, .ofNat 0), (1, 3, .ofNat 0), (1, 4, .ofNat 0), (0, 0, .ofNat 0)], []), [(([(.ofNat 0, .ofNat 0), (.ofNat 0, .ofNat 7), (.ofNat 0, .ofNat 9), (.ofNat 0, .ofNat 999), (.ofNat 0, .ofNat 999)], [], [], []), [], [])], [(152, 7), (158, 7), (164, 7), (170, 4), (170, 5), (170, 6), (170, 7), (170, 8), (170, 14), (170, 15), (177, 6), (177, 7)])
def cu_75 : List CU := [(42, (([(.ofNat 0, .ofNat 0), (.ofNat 0, .ofNat 7), (.ofNat 0, .ofNat 9), (.ofNat 0, .ofNat 999), (.ofNat 0, .ofNat 999), (.ofNat 0, .ofNat 2147483647), (.ofNat 0, .ofNat 4), (.ofNat 0, .ofNat 2147483647), (.ofNat 1, .ofNat 2401)], [(6, 8, .negSucc 0), (7, 5, .ofNat 0)], [], [(177, 5, (1, 6, .ofNat 0)), (177, 6, (1, 7, .ofNat 0)), (177, 7, (1, 8, .ofNat 0))]), [(2, 177, .ofNat 0), (1, 1, .ofNat 0), (1, 2, .ofNat 0), (1, 3, .ofNat 0), (1, 4, .ofNat 0), (1, 5, .ofNat 0)], []), [(0, 0, .ofNat 1), (6, 5, .ofNat 2147483648)]), (91, (([(.ofNat 0, .ofNat 0), (.ofNat 0, .ofNat 7), (.ofNat 0, .ofNat 9), (.ofNat 0, .ofNat 999), (.ofNat 0, .ofNat 999), (.ofNat 0, .ofNat 4), (.ofNat 0, .ofNat 4), (.ofNat 0, .ofNat 2147483647), (.ofNat 1, .ofNat 2401)], [(5, 6, .ofNat 0)], [], [(177, 5, (1, 6, .ofNat 0)), (177, 6, (1, 7, .ofNat 0)), (177, 7, (1, 8, .ofNat 0))]), [(2, 177, .ofNat 0), (1, 1, .ofNat 0), (1, 2, .ofNat 0), (1, 3, .ofNat 0), (1, 4, .ofNat 0), (1, 5, .ofNat 0)], []), [(0, 0, .ofNat 0), (6, 5, .ofNat 1)])]
theorem ck_75 : cChk [ct_21, ct_34, ct_73, ct_74] [] ct_75 cu_75 2000 2 = true := by decide +kernel
theorem cs_75 {s : List Int32} (hm : cMan s) : cSound s ct_75 := cChk_ok (C := [ct_21, ct_34, ct_73, ct_74]) (hCc (cs_21 hm) (hCc (cs_34 hm) (hCc (cs_73 hm) (hCc (cs_74 hm) hC0)))) hG0 ck_75
/-- WidowDeeds.odds -/
def ct_76 : CT := (135, 0, 61, (([(.ofNat 0, .ofNat 0), (.negSucc 2147483647, .ofNat 2147483647), (.negSucc 2147483647, .ofNat 2147483647), (.negSucc 2147483647, .ofNat 2147483647), (.negSucc 2147483647, .ofNat 2147483647), (.negSucc 2147483647, .ofNat 2147483647)], [], [], []), [(2, 2, .ofNat 0), (1, 1, .ofNat 0), (1, 2, .ofNat 0), (3, 0, .ofNat 0), (0, 0, .ofNat 0), (1, 3, .ofNat 0), (1, 4, .ofNat 0), (1, 5, .ofNat 0)], []), [(([(.ofNat 0, .ofNat 0), (.negSucc 2147483647, .ofNat 2147483647), (.negSucc 2147483647, .ofNat 2147483647), (.negSucc 2147483647, .ofNat 2147483647), (.negSucc 2147483647, .ofNat 2147483647), (.negSucc 2147483647, .ofNat 2147483647), (.negSucc 0, .ofNat 2401)], [], [], []), [], [(1, 6, .ofNat 0)])], [(152, 7), (158, 7), (164, 7), (170, 4), (170, 5), (170, 6), (170, 7), (170, 8), (170, 14), (170, 15), (177, 5), (177, 6), (177, 7)])
def cu_76 : List CU := []
theorem ck_76 : cChk [ct_75, cm_42] [] ct_76 cu_76 2000 0 = true := by decide +kernel
theorem cs_76 {s : List Int32} (hm : cMan s) : cSound s ct_76 := cChk_ok (C := [ct_75, cm_42]) (hCc (cs_75 hm) (hCc (cMan_42 hm) hC0)) hG0 ck_76
/-- WidowDeeds.buyer -/
def ct_77 : CT := (136, 0, 2, (([(.ofNat 0, .ofNat 0), (.negSucc 2147483647, .ofNat 2147483647), (.negSucc 2147483647, .ofNat 2147483647), (.negSucc 2147483647, .ofNat 2147483647), (.negSucc 2147483647, .ofNat 2147483647)], [], [], []), [(2, 2, .ofNat 0), (1, 1, .ofNat 0), (1, 2, .ofNat 0), (1, 3, .ofNat 0), (1, 4, .ofNat 0)], []), [(([(.ofNat 0, .ofNat 0), (.negSucc 2147483647, .ofNat 2147483647), (.negSucc 2147483647, .ofNat 2147483647), (.negSucc 2147483647, .ofNat 2147483647), (.negSucc 2147483647, .ofNat 2147483647), (.ofNat 0, .ofNat 1)], [], [], []), [], [(1, 5, .ofNat 0)])], [])
def cu_77 : List CU := []
theorem ck_77 : cChk [] [] ct_77 cu_77 2000 0 = true := by decide +kernel
theorem cs_77 {s : List Int32} (hm : cMan s) : cSound s ct_77 := cChk_ok (C := []) hC0 hG0 ck_77
/-- WidowDeeds.hears -/
def ct_78 : CT := (137, 0, 1, (([(.ofNat 0, .ofNat 0), (.negSucc 2147483647, .ofNat 2147483647), (.negSucc 2147483647, .ofNat 2147483647), (.negSucc 2147483647, .ofNat 2147483647)], [], [], []), [(2, 2, .ofNat 0), (1, 1, .ofNat 0), (1, 2, .ofNat 0), (1, 3, .ofNat 0)], []), [(([(.ofNat 0, .ofNat 0), (.negSucc 2147483647, .ofNat 2147483647), (.negSucc 2147483647, .ofNat 2147483647), (.negSucc 2147483647, .ofNat 2147483647), (.ofNat 0, .ofNat 1)], [], [], []), [], [(1, 4, .ofNat 0)])], [])
def cu_78 : List CU := []
theorem ck_78 : cChk [] [] ct_78 cu_78 2000 0 = true := by decide +kernel
theorem cs_78 {s : List Int32} (hm : cMan s) : cSound s ct_78 := cChk_ok (C := []) hC0 hG0 ck_78
/-- WidowDeeds$Market.gain -/
def ct_79 : CT := (97, 0, 0, (([(.ofNat 0, .ofNat 0), (.ofNat 0, .ofNat 2147483647)], [], [], []), [(2, 138, .ofNat 0), (1, 1, .ofNat 0), (0, 0, .ofNat 0), (0, 0, .ofNat 0)], []), [(([(.ofNat 0, .ofNat 0), (.ofNat 0, .ofNat 2147483647), (.negSucc 2147483647, .ofNat 2147483647)], [], [], []), [], [(1, 2, .ofNat 0)])], [])
def cu_79 : List CU := [(4, (([(.ofNat 0, .ofNat 0), (.ofNat 0, .ofNat 2147483647), (.negSucc 2147483647, .ofNat 2147483647), (.ofNat 0, .ofNat 8)], [], [], []), [(2, 138, .ofNat 0), (1, 1, .ofNat 0), (1, 2, .ofNat 0), (1, 3, .ofNat 0)], []), [(0, 0, .ofNat 0), (1, 3, .ofNat 9)])]
theorem ck_79 : cChk [] [] ct_79 cu_79 2000 2 = true := by decide +kernel
theorem cs_79 {s : List Int32} (hm : cMan s) : cSound s ct_79 := cChk_ok (C := []) hC0 hG0 ck_79
/-- WidowDeeds$Market.allBuy -/
def ct_80 : CT := (99, 0, 0, (([(.ofNat 0, .ofNat 0), (.ofNat 1, .ofNat 255)], [], [], []), [(2, 138, .ofNat 0), (1, 1, .ofNat 0), (0, 0, .ofNat 0)], []), [(([(.ofNat 0, .ofNat 0), (.ofNat 1, .ofNat 255), (.ofNat 0, .ofNat 1)], [], [], []), [], [(1, 2, .ofNat 0)])], [])
def cu_80 : List CU := [(2, (([(.ofNat 0, .ofNat 0), (.ofNat 1, .ofNat 255), (.ofNat 0, .ofNat 8)], [], [], []), [(2, 138, .ofNat 0), (1, 1, .ofNat 0), (1, 2, .ofNat 0)], []), [(0, 0, .ofNat 0), (1, 2, .ofNat 8)])]
theorem ck_80 : cChk [] [] ct_80 cu_80 2000 2 = true := by decide +kernel
theorem cs_80 {s : List Int32} (hm : cMan s) : cSound s ct_80 := cChk_ok (C := []) hC0 hG0 ck_80
/-- WidowDeeds$Market.isWarned -/
def ct_81 : CT := (101, 0, 0, (([(.ofNat 0, .ofNat 0), (.ofNat 0, .ofNat 7), (.ofNat 0, .ofNat 7)], [], [], []), [(2, 138, .ofNat 0), (1, 1, .ofNat 0), (1, 2, .ofNat 0), (0, 0, .ofNat 0), (0, 0, .ofNat 0)], []), [(([(.ofNat 0, .ofNat 0), (.ofNat 0, .ofNat 7), (.ofNat 0, .ofNat 7), (.ofNat 0, .ofNat 1)], [], [], []), [], [(1, 3, .ofNat 0)])], [])
def cu_81 : List CU := []
theorem ck_81 : cChk [] [] ct_81 cu_81 2000 0 = true := by decide +kernel
theorem cs_81 {s : List Int32} (hm : cMan s) : cSound s ct_81 := cChk_ok (C := []) hC0 hG0 ck_81
/-- WidowDeeds$Market.gatherWarnings -/
def ct_82 : CT := (100, 0, 1, (([(.ofNat 0, .ofNat 0)], [], [], []), [(2, 138, .ofNat 0), (0, 0, .ofNat 0), (0, 0, .ofNat 0)], []), [(([(.ofNat 0, .ofNat 0)], [], [], []), [], [])], [])
def cu_82 : List CU := [(2, (([(.ofNat 0, .ofNat 0), (.ofNat 0, .ofNat 8)], [], [], []), [(2, 138, .ofNat 0), (1, 1, .ofNat 0), (0, 0, .ofNat 0)], []), [(0, 0, .ofNat 0), (0, 1, .ofNat 9), (0, 0, .ofNat 1), (0, 0, .ofNat 0)]), (17, (([(.ofNat 0, .ofNat 0), (.ofNat 0, .ofNat 7), (.ofNat 0, .ofNat 8)], [], [], []), [(2, 138, .ofNat 0), (1, 1, .ofNat 0), (1, 2, .ofNat 0)], []), [(0, 0, .ofNat 0), (0, 1, .ofNat 9), (0, 0, .ofNat 0), (1, 2, .ofNat 9)])]
theorem ck_82 : cChk [ct_81] [] ct_82 cu_82 2000 4 = true := by decide +kernel
theorem cs_82 {s : List Int32} (hm : cMan s) : cSound s ct_82 := cChk_ok (C := [ct_81]) (hCc (cs_81 hm) hC0) hG0 ck_82
/-- WidowDeeds$Market.bestSet -/
def ct_83 : CT := (96, 0, 2, (([(.ofNat 0, .ofNat 0)], [], [], []), [(2, 138, .ofNat 0), (0, 0, .ofNat 0), (0, 0, .ofNat 0)], []), [(([(.ofNat 0, .ofNat 0), (.ofNat 0, .ofNat 2147483647)], [], [], []), [], [(1, 1, .ofNat 0)])], [])
def cu_83 : List CU := [(8, (([(.ofNat 0, .ofNat 0), (.ofNat 0, .ofNat 2147483647), (.ofNat 1, .ofNat 2147483647)], [(1, 2, .negSucc 0)], [], []), [(2, 138, .ofNat 0), (1, 1, .ofNat 0), (1, 2, .ofNat 0)], []), [(0, 0, .ofNat 0), (0, 2, .ofNat 2147483648)])]
theorem ck_83 : cChk [ct_79, ct_80, ct_82] [] ct_83 cu_83 2000 2 = true := by decide +kernel
theorem cs_83 {s : List Int32} (hm : cMan s) : cSound s ct_83 := cChk_ok (C := [ct_79, ct_80, ct_82]) (hCc (cs_79 hm) (hCc (cs_80 hm) (hCc (cs_82 hm) hC0))) hG0 ck_83
/-- WidowDeeds.widow -/
def ct_84 : CT := (138, 0, 3, (([(.ofNat 0, .ofNat 0), (.negSucc 2147483647, .ofNat 2147483647)], [], [], []), [(2, 2, .ofNat 0), (1, 1, .ofNat 0), (0, 0, .ofNat 0)], []), [(([(.ofNat 0, .ofNat 0), (.negSucc 2147483647, .ofNat 2147483647), (.negSucc 2147483647, .ofNat 2147483647)], [], [], []), [], [(1, 2, .ofNat 0)])], [])
def cu_84 : List CU := []
theorem ck_84 : cChk [ct_79, ct_83] [] ct_84 cu_84 2000 0 = true := by decide +kernel
theorem cs_84 {s : List Int32} (hm : cMan s) : cSound s ct_84 := cChk_ok (C := [ct_79, ct_83]) (hCc (cs_79 hm) (hCc (cs_83 hm) hC0)) hG0 ck_84
/-- WidowDeeds.holds -/
def ct_85 : CT := (139, 0, 6, (([(.ofNat 0, .ofNat 0), (.negSucc 2147483647, .ofNat 2147483647), (.negSucc 2147483647, .ofNat 2147483647)], [], [], []), [(2, 2, .ofNat 0), (1, 1, .ofNat 0), (1, 2, .ofNat 0), (0, 0, .ofNat 0), (0, 0, .ofNat 0)], []), [(([(.ofNat 0, .ofNat 0), (.negSucc 2147483647, .ofNat 2147483647), (.negSucc 2147483647, .ofNat 2147483647), (.negSucc 2147483647, .ofNat 2147483647)], [], [], []), [], [(1, 3, .ofNat 0)])], [(152, 7), (158, 7), (164, 7), (170, 4), (170, 5), (170, 6), (170, 7), (170, 8), (170, 14), (170, 15)])
def cu_85 : List CU := [(21, (([(.ofNat 0, .ofNat 0), (.ofNat 0, .ofNat 9), (.ofNat 0, .ofNat 999), (.negSucc 2147483647, .ofNat 2147483647), (.ofNat 0, .ofNat 8)], [], [], []), [(2, 2, .ofNat 0), (1, 1, .ofNat 0), (1, 2, .ofNat 0), (1, 3, .ofNat 0), (1, 4, .ofNat 0)], []), [(0, 0, .ofNat 0), (1, 4, .ofNat 9)])]
theorem ck_85 : cChk [ct_21, ct_34] [] ct_85 cu_85 2000 2 = true := by decide +kernel
theorem cs_85 {s : List Int32} (hm : cMan s) : cSound s ct_85 := cChk_ok (C := [ct_21, ct_34]) (hCc (cs_21 hm) (hCc (cs_34 hm) hC0)) hG0 ck_85
/-- WidowDeeds.reign -/
def ct_86 : CT := (140, 0, 6, (([(.ofNat 0, .ofNat 0), (.negSucc 2147483647, .ofNat 2147483647), (.negSucc 2147483647, .ofNat 2147483647), (.negSucc 2147483647, .ofNat 2147483647), (.negSucc 2147483647, .ofNat 2147483647)], [], [], []), [(2, 2, .ofNat 0), (1, 1, .ofNat 0), (1, 2, .ofNat 0), (1, 3, .ofNat 0), (1, 4, .ofNat 0), (0, 0, .ofNat 0), (0, 0, .ofNat 0)], []), [(([(.ofNat 0, .ofNat 0), (.negSucc 2147483647, .ofNat 2147483647), (.negSucc 2147483647, .ofNat 2147483647), (.negSucc 2147483647, .ofNat 2147483647), (.negSucc 2147483647, .ofNat 2147483647), (.negSucc 0, .ofNat 1000)], [], [], []), [], [(1, 5, .ofNat 0)])], [(152, 7), (158, 7), (164, 7), (170, 4), (170, 5), (170, 6), (170, 7), (170, 8), (170, 14), (170, 15)])
def cu_86 : List CU := [(54, (([(.ofNat 0, .ofNat 0), (.ofNat 0, .ofNat 7), (.ofNat 0, .ofNat 9), (.ofNat 0, .ofNat 999), (.ofNat 0, .ofNat 999), (.ofNat 0, .ofNat 2147483647), (.ofNat 0, .ofNat 1000)], [(5, 6, .ofNat 0), (3, 6, .ofNat 0)], [], []), [(2, 2, .ofNat 0), (1, 1, .ofNat 0), (1, 2, .ofNat 0), (1, 3, .ofNat 0), (1, 4, .ofNat 0), (1, 5, .ofNat 0), (1, 6, .ofNat 0)], []), [(0, 0, .ofNat 0), (1, 6, .ofNat 1001)])]
theorem ck_86 : cChk [ct_21, ct_34] [] ct_86 cu_86 2000 2 = true := by decide +kernel
theorem cs_86 {s : List Int32} (hm : cMan s) : cSound s ct_86 := cChk_ok (C := [ct_21, ct_34]) (hCc (cs_21 hm) (hCc (cs_34 hm) hC0)) hG0 ck_86
/-- WidowDeeds.seed -/
def ct_87 : CT := (141, 0, 1, (([(.ofNat 0, .ofNat 0), (.negSucc 2147483647, .ofNat 2147483647)], [], [], []), [(2, 2, .ofNat 0), (1, 1, .ofNat 0)], []), [(([(.ofNat 0, .ofNat 0), (.negSucc 2147483647, .ofNat 2147483647), (.ofNat 0, .ofNat 1)], [], [], []), [], [(1, 2, .ofNat 0)])], [(2, 11)])
def cu_87 : List CU := []
theorem ck_87 : cChk [] [] ct_87 cu_87 2000 0 = true := by decide +kernel
theorem cs_87 {s : List Int32} (hm : cMan s) : cSound s ct_87 := cChk_ok (C := []) hC0 hG0 ck_87
/-- WidowDeeds$Gossip.copyFrom -/
def ct_88 : CT := (56, 0, 1, (([(.ofNat 0, .ofNat 0)], [], [], []), [(2, 110, .ofNat 0), (2, 93, .ofNat 0)], []), [(([(.ofNat 0, .ofNat 0)], [], [], []), [], [])], [(110, 3), (110, 6)])
def cu_88 : List CU := []
theorem ck_88 : cChk [] [] ct_88 cu_88 2000 0 = true := by decide +kernel
theorem cs_88 {s : List Int32} (hm : cMan s) : cSound s ct_88 := cChk_ok (C := []) hC0 hG0 ck_88
/-- WidowDeeds$Ledger.copyFrom -/
def ct_89 : CT := (94, 0, 1, (([(.ofNat 0, .ofNat 0)], [], [], []), [(2, 50, .ofNat 0), (2, 7, .ofNat 0), (0, 0, .ofNat 0)], []), [(([(.ofNat 0, .ofNat 0)], [], [], []), [], [])], [(50, 2)])
def cu_89 : List CU := [(2, (([(.ofNat 0, .ofNat 0), (.ofNat 0, .ofNat 40)], [], [], []), [(2, 50, .ofNat 0), (2, 7, .ofNat 0), (1, 1, .ofNat 0)], []), [(0, 0, .ofNat 0), (0, 1, .ofNat 41)])]
theorem ck_89 : cChk [] [] ct_89 cu_89 2000 2 = true := by decide +kernel
theorem cs_89 {s : List Int32} (hm : cMan s) : cSound s ct_89 := cChk_ok (C := []) hC0 hG0 ck_89
