/-! contracts, on -/
/-- WidowDeeds$Law.run -/
def ct_30 : CT := (66, 0, 1, (([(.ofNat 0, .ofNat 0), (.ofNat 0, .ofNat 160)], [], [], []), [(2, 164, .ofNat 0), (1, 1, .ofNat 0), (2, 172, .ofNat 0), (0, 0, .ofNat 0), (0, 0, .ofNat 0), (0, 0, .ofNat 0), (0, 0, .ofNat 0), (0, 0, .ofNat 0)], []), [(([(.ofNat 0, .ofNat 0), (.ofNat 0, .ofNat 160), (.negSucc 2147483647, .ofNat 2147483647)], [], [], []), [], [(1, 2, .ofNat 0)])], [(164, 7)])
def cu_30 : List CU := [(7, (([(.ofNat 0, .ofNat 0), (.ofNat 0, .ofNat 160), (.ofNat 0, .ofNat 1048575), (.ofNat 0, .ofNat 40)], [(3, 2, .ofNat 0), (1, 2, .ofNat 0)], [], [(164, 7, (1, 3, .ofNat 0))]), [(2, 164, .ofNat 0), (1, 1, .ofNat 0), (2, 172, .ofNat 0), (1, 2, .ofNat 0), (0, 0, .ofNat 0), (0, 0, .ofNat 0), (0, 0, .ofNat 0), (0, 0, .ofNat 0)], []), [(0, 0, .ofNat 0), (1, 2, .ofNat 1048576)])]
theorem ck_30 : cChk [ct_25] [] ct_30 cu_30 2000 2 = true := by decide +kernel
theorem cs_30 {s : List Int32} (hm : cMan s) : cSound s ct_30 := cChk_ok (C := [ct_25]) (hCc (cs_25 hm) hC0) hG0 ck_30
/-- WidowDeeds$Law.grants -/
def ct_31 : CT := (64, 0, 2, (([(.ofNat 0, .ofNat 0), (.ofNat 98, .ofNat 159)], [], [], []), [(2, 164, .ofNat 0), (1, 1, .ofNat 0), (2, 172, .ofNat 0), (0, 0, .ofNat 0)], []), [(([(.ofNat 0, .ofNat 0), (.ofNat 98, .ofNat 159), (.ofNat 0, .ofNat 1)], [], [], []), [], [(1, 2, .ofNat 0)])], [(164, 7)])
def cu_31 : List CU := [(2, (([(.ofNat 0, .ofNat 0), (.ofNat 98, .ofNat 159), (.ofNat 0, .ofNat 12)], [], [], []), [(2, 164, .ofNat 0), (1, 1, .ofNat 0), (2, 172, .ofNat 0), (1, 2, .ofNat 0)], []), [(0, 0, .ofNat 0), (1, 2, .ofNat 1)])]
theorem ck_31 : cChk [ct_30] [] ct_31 cu_31 2000 2 = true := by decide +kernel
theorem cs_31 {s : List Int32} (hm : cMan s) : cSound s ct_31 := cChk_ok (C := [ct_30]) (hCc (cs_30 hm) hC0) hG0 ck_31
/-- WidowDeeds$Chain.overcomes -/
def ct_32 : CT := (6, 0, 3, (([(.ofNat 0, .ofNat 0), (.ofNat 0, .ofNat 39), (.ofNat 0, .ofNat 39)], [], [], []), [(2, 170, .ofNat 0), (1, 1, .ofNat 0), (1, 2, .ofNat 0), (0, 0, .ofNat 0), (0, 0, .ofNat 0)], []), [(([(.ofNat 0, .ofNat 0), (.ofNat 0, .ofNat 39), (.ofNat 0, .ofNat 39), (.ofNat 0, .ofNat 1)], [], [], []), [], [(1, 3, .ofNat 0)])], [(152, 7), (158, 7), (164, 7)])
def cu_32 : List CU := []
theorem ck_32 : cChk [ct_24, ct_27, ct_29, ct_31] [] ct_32 cu_32 2000 0 = true := by decide +kernel
theorem cs_32 {s : List Int32} (hm : cMan s) : cSound s ct_32 := cChk_ok (C := [ct_24, ct_27, ct_29, ct_31]) (hCc (cs_24 hm) (hCc (cs_27 hm) (hCc (cs_29 hm) (hCc (cs_31 hm) hC0)))) hG0 ck_32
/-- WidowDeeds.beats -/
def ct_33 : CT := (123, 0, 5, (([(.ofNat 0, .ofNat 0), (.negSucc 2147483647, .ofNat 2147483647), (.negSucc 2147483647, .ofNat 2147483647), (.negSucc 2147483647, .ofNat 2147483647), (.negSucc 2147483647, .ofNat 2147483647), (.negSucc 2147483647, .ofNat 2147483647)], [], [], []), [(2, 2, .ofNat 0), (1, 1, .ofNat 0), (1, 2, .ofNat 0), (1, 3, .ofNat 0), (1, 4, .ofNat 0), (1, 5, .ofNat 0), (0, 0, .ofNat 0)], []), [(([(.ofNat 0, .ofNat 0), (.negSucc 2147483647, .ofNat 2147483647), (.negSucc 2147483647, .ofNat 2147483647), (.negSucc 2147483647, .ofNat 2147483647), (.negSucc 2147483647, .ofNat 2147483647), (.negSucc 2147483647, .ofNat 2147483647), (.negSucc 0, .ofNat 1)], [], [], []), [], [(1, 6, .ofNat 0)])], [(152, 7), (158, 7), (164, 7), (170, 4), (170, 5), (170, 6), (170, 7), (170, 8)])
def cu_33 : List CU := []
theorem ck_33 : cChk [ct_21, ct_24, ct_27, ct_29, ct_31, ct_32] [] ct_33 cu_33 2000 0 = true := by decide +kernel
theorem cs_33 {s : List Int32} (hm : cMan s) : cSound s ct_33 := cChk_ok (C := [ct_21, ct_24, ct_27, ct_29, ct_31, ct_32]) (hCc (cs_21 hm) (hCc (cs_24 hm) (hCc (cs_27 hm) (hCc (cs_29 hm) (hCc (cs_31 hm) (hCc (cs_32 hm) hC0)))))) hG0 ck_33
/-- WidowDeeds$Chain.follow -/
def ct_34 : CT := (5, 0, 4, (([(.ofNat 0, .ofNat 0)], [], [], []), [(2, 170, .ofNat 0), (3, 0, .ofNat 0), (0, 0, .ofNat 0), (0, 0, .ofNat 0), (0, 0, .ofNat 0), (0, 0, .ofNat 0), (0, 0, .ofNat 0), (0, 0, .ofNat 0)], []), [(([(.ofNat 0, .ofNat 0), (.ofNat 0, .ofNat 9)], [], [], []), [], [(1, 1, .ofNat 0)])], [(152, 7), (158, 7), (164, 7), (170, 14), (170, 15)])
def cu_34 : List CU := [(18, (([(.ofNat 0, .ofNat 0), (.ofNat 0, .ofNat 9), (.ofNat 0, .ofNat 40), (.ofNat 0, .ofNat 9), (.ofNat 0, .ofNat 40)], [(4, 2, .ofNat 0)], [], [(170, 6, (1, 3, .ofNat 0)), (170, 14, (1, 4, .ofNat 0))]), [(2, 170, .ofNat 0), (3, 0, .ofNat 0), (0, 0, .ofNat 0), (1, 1, .ofNat 0), (1, 2, .ofNat 0), (0, 0, .ofNat 0), (0, 0, .ofNat 0), (0, 0, .ofNat 0)], []), [(0, 0, .ofNat 0), (3, 4, .ofNat 41), (0, 0, .ofNat 2), (0, 0, .ofNat 0)]), (37, (([(.ofNat 0, .ofNat 0), (.ofNat 0, .ofNat 9), (.ofNat 0, .ofNat 39), (.ofNat 0, .ofNat 40), (.ofNat 1, .ofNat 40), (.ofNat 0, .ofNat 9), (.ofNat 0, .ofNat 39)], [(2, 3, .ofNat 0), (2, 4, .negSucc 0), (6, 2, .ofNat 0), (6, 3, .ofNat 0), (6, 4, .negSucc 0)], [], [(7, 2, (1, 4, .ofNat 0)), (170, 6, (1, 5, .ofNat 0)), (170, 14, (1, 6, .ofNat 0))]), [(2, 170, .ofNat 0), (3, 0, .ofNat 0), (0, 0, .ofNat 0), (1, 1, .ofNat 0), (1, 2, .ofNat 0), (1, 0, .negSucc 0), (1, 3, .ofNat 0), (0, 0, .ofNat 0)], []), [(0, 0, .ofNat 0), (5, 6, .ofNat 41), (0, 0, .ofNat 1), (4, 3, .ofNat 40)]), (37, (([(.ofNat 0, .ofNat 0), (.ofNat 0, .ofNat 9), (.ofNat 0, .ofNat 2147483647), (.ofNat 0, .ofNat 39), (.ofNat 1, .ofNat 40), (.ofNat 0, .ofNat 39), (.ofNat 1, .ofNat 40), (.ofNat 0, .ofNat 9), (.ofNat 0, .ofNat 2147483647)], [(2, 3, .ofNat 0), (2, 4, .negSucc 0), (2, 6, .negSucc 0), (3, 4, .negSucc 0), (3, 6, .negSucc 0), (4, 6, .ofNat 0), (8, 2, .ofNat 0), (8, 3, .ofNat 0), (8, 4, .negSucc 0), (8, 6, .negSucc 0)], [], [(7, 2, (1, 6, .ofNat 0)), (170, 6, (1, 7, .ofNat 0)), (170, 14, (1, 8, .ofNat 0))]), [(2, 170, .ofNat 0), (3, 0, .ofNat 0), (0, 0, .ofNat 0), (1, 1, .ofNat 0), (1, 2, .ofNat 0), (1, 3, .ofNat 0), (1, 4, .ofNat 0), (1, 5, .ofNat 0)], []), [(0, 0, .ofNat 0), (7, 8, .ofNat 41), (0, 0, .ofNat 0), (6, 4, .ofNat 1)])]
theorem ck_34 : cChk [ct_32] [] ct_34 cu_34 2000 4 = true := by decide +kernel
theorem cs_34 {s : List Int32} (hm : cMan s) : cSound s ct_34 := cChk_ok (C := [ct_32]) (hCc (cs_32 hm) hC0) hG0 ck_34
/-- WidowDeeds.holder -/
def ct_35 : CT := (124, 0, 6, (([(.ofNat 0, .ofNat 0), (.negSucc 2147483647, .ofNat 2147483647), (.negSucc 2147483647, .ofNat 2147483647), (.negSucc 2147483647, .ofNat 2147483647)], [], [], []), [(2, 2, .ofNat 0), (1, 1, .ofNat 0), (1, 2, .ofNat 0), (1, 3, .ofNat 0), (0, 0, .ofNat 0)], []), [(([(.ofNat 0, .ofNat 0), (.negSucc 2147483647, .ofNat 2147483647), (.negSucc 2147483647, .ofNat 2147483647), (.negSucc 2147483647, .ofNat 2147483647), (.negSucc 1, .ofNat 40)], [], [], []), [], [(1, 4, .ofNat 0)])], [(152, 7), (158, 7), (164, 7), (170, 4), (170, 5), (170, 6), (170, 7), (170, 8), (170, 14), (170, 15)])
def cu_35 : List CU := []
theorem ck_35 : cChk [ct_21, ct_34] [] ct_35 cu_35 2000 0 = true := by decide +kernel
theorem cs_35 {s : List Int32} (hm : cMan s) : cSound s ct_35 := cChk_ok (C := [ct_21, ct_34]) (hCc (cs_21 hm) (hCc (cs_34 hm) hC0)) hG0 ck_35
/-- WidowDeeds$Chain.reasonOut -/
def ct_36 : CT := (14, 0, 2, (([(.ofNat 0, .ofNat 0), (.ofNat 0, .ofNat 39)], [], [], []), [(2, 170, .ofNat 0), (1, 1, .ofNat 0), (0, 0, .ofNat 0), (0, 0, .ofNat 0)], []), [(([(.ofNat 0, .ofNat 0), (.ofNat 0, .ofNat 39), (.ofNat 0, .ofNat 5)], [], [], []), [], [(1, 2, .ofNat 0)])], [])
def cu_36 : List CU := [(12, (([(.ofNat 0, .ofNat 0), (.ofNat 0, .ofNat 39), (.ofNat 0, .ofNat 40)], [], [], []), [(2, 170, .ofNat 0), (1, 1, .ofNat 0), (2, 10, .ofNat 0), (1, 2, .ofNat 0)], []), [(0, 0, .ofNat 0), (1, 2, .ofNat 41)])]
theorem ck_36 : cChk [] [] ct_36 cu_36 2000 2 = true := by decide +kernel
theorem cs_36 {s : List Int32} (hm : cMan s) : cSound s ct_36 := cChk_ok (C := []) hC0 hG0 ck_36
/-- WidowDeeds.why -/
def ct_37 : CT := (125, 0, 6, (([(.ofNat 0, .ofNat 0), (.negSucc 2147483647, .ofNat 2147483647), (.negSucc 2147483647, .ofNat 2147483647), (.negSucc 2147483647, .ofNat 2147483647)], [], [], []), [(2, 2, .ofNat 0), (1, 1, .ofNat 0), (1, 2, .ofNat 0), (1, 3, .ofNat 0)], []), [(([(.ofNat 0, .ofNat 0), (.negSucc 2147483647, .ofNat 2147483647), (.negSucc 2147483647, .ofNat 2147483647), (.negSucc 2147483647, .ofNat 2147483647), (.negSucc 0, .ofNat 5)], [], [], []), [], [(1, 4, .ofNat 0)])], [(152, 7), (158, 7), (164, 7), (170, 4), (170, 5), (170, 6), (170, 7), (170, 8), (170, 14), (170, 15)])
def cu_37 : List CU := []
theorem ck_37 : cChk [ct_21, ct_34, ct_36] [] ct_37 cu_37 2000 0 = true := by decide +kernel
theorem cs_37 {s : List Int32} (hm : cMan s) : cSound s ct_37 := cChk_ok (C := [ct_21, ct_34, ct_36]) (hCc (cs_21 hm) (hCc (cs_34 hm) (hCc (cs_36 hm) hC0))) hG0 ck_37
/-- WidowDeeds$Law.daysOf -/
def ct_38 : CT := (65, 0, 2, (([(.ofNat 0, .ofNat 0)], [], [], []), [(2, 152, .ofNat 0), (2, 172, .ofNat 0), (0, 0, .ofNat 0)], []), [(([(.ofNat 0, .ofNat 0), (.ofNat 0, .ofNat 1000)], [], [], []), [], [(1, 1, .ofNat 0)])], [(152, 7)])
def cu_38 : List CU := [(2, (([(.ofNat 0, .ofNat 0), (.ofNat 0, .ofNat 12)], [], [], []), [(2, 152, .ofNat 0), (2, 172, .ofNat 0), (1, 1, .ofNat 0)], []), [(0, 0, .ofNat 0), (0, 1, .ofNat 13)])]
theorem ck_38 : cChk [ct_26] [] ct_38 cu_38 2000 2 = true := by decide +kernel
theorem cs_38 {s : List Int32} (hm : cMan s) : cSound s ct_38 := cChk_ok (C := [ct_26]) (hCc (cs_26 hm) hC0) hG0 ck_38
/-- WidowDeeds$Law.daysOf -/
def ct_39 : CT := (65, 0, 2, (([(.ofNat 0, .ofNat 0)], [], [], []), [(2, 158, .ofNat 0), (2, 172, .ofNat 0), (0, 0, .ofNat 0)], []), [(([(.ofNat 0, .ofNat 0), (.ofNat 0, .ofNat 1000)], [], [], []), [], [(1, 1, .ofNat 0)])], [(158, 7)])
def cu_39 : List CU := [(2, (([(.ofNat 0, .ofNat 0), (.ofNat 0, .ofNat 12)], [], [], []), [(2, 158, .ofNat 0), (2, 172, .ofNat 0), (1, 1, .ofNat 0)], []), [(0, 0, .ofNat 0), (0, 1, .ofNat 13)])]
theorem ck_39 : cChk [ct_28] [] ct_39 cu_39 2000 2 = true := by decide +kernel
theorem cs_39 {s : List Int32} (hm : cMan s) : cSound s ct_39 := cChk_ok (C := [ct_28]) (hCc (cs_28 hm) hC0) hG0 ck_39
/-- WidowDeeds$Law.daysOf -/
def ct_40 : CT := (65, 0, 2, (([(.ofNat 0, .ofNat 0)], [], [], []), [(2, 164, .ofNat 0), (2, 172, .ofNat 0), (0, 0, .ofNat 0)], []), [(([(.ofNat 0, .ofNat 0), (.ofNat 0, .ofNat 1000)], [], [], []), [], [(1, 1, .ofNat 0)])], [(164, 7)])
def cu_40 : List CU := [(2, (([(.ofNat 0, .ofNat 0), (.ofNat 0, .ofNat 12)], [], [], []), [(2, 164, .ofNat 0), (2, 172, .ofNat 0), (1, 1, .ofNat 0)], []), [(0, 0, .ofNat 0), (0, 1, .ofNat 13)])]
theorem ck_40 : cChk [ct_30] [] ct_40 cu_40 2000 2 = true := by decide +kernel
theorem cs_40 {s : List Int32} (hm : cMan s) : cSound s ct_40 := cChk_ok (C := [ct_30]) (hCc (cs_30 hm) hC0) hG0 ck_40
/-- java/util/Arrays.fill -/
def ct_41 : CT := (281, 0, 0, (([(.ofNat 0, .ofNat 0), (.ofNat 0, .ofNat 0)], [], [], []), [(2, 172, .ofNat 0), (1, 1, .ofNat 0), (0, 0, .ofNat 0), (0, 0, .ofNat 0)], []), [(([(.ofNat 0, .ofNat 0), (.ofNat 0, .ofNat 0)], [], [], []), [], [])], [])
def cu_41 : List CU := [(5, (([(.ofNat 0, .ofNat 0), (.ofNat 0, .ofNat 0), (.ofNat 0, .ofNat 26)], [], [], []), [(2, 172, .ofNat 0), (1, 1, .ofNat 0), (1, 2, .ofNat 0), (1, 0, .ofNat 26)], []), [(0, 0, .ofNat 0), (1, 2, .ofNat 27)])]
theorem ck_41 : cChk [] [] ct_41 cu_41 2000 2 = true := by decide +kernel
theorem cs_41 {s : List Int32} (hm : cMan s) : cSound s ct_41 := cChk_ok (C := []) hC0 hG0 ck_41
/-- WidowDeeds$Chain.isBurden -/
def ct_42 : CT := (16, 0, 4, (([(.ofNat 0, .ofNat 0), (.ofNat 0, .ofNat 39)], [], [], []), [(2, 170, .ofNat 0), (1, 1, .ofNat 0), (0, 0, .ofNat 0), (0, 0, .ofNat 0)], []), [(([(.ofNat 0, .ofNat 0), (.ofNat 0, .ofNat 39), (.ofNat 0, .ofNat 1)], [], [], []), [], [(1, 2, .ofNat 0)])], [(152, 7), (158, 7), (164, 7)])
def cu_42 : List CU := [(7, (([(.ofNat 0, .ofNat 0), (.ofNat 0, .ofNat 39), (.ofNat 0, .ofNat 9), (.ofNat 0, .ofNat 40), (.ofNat 0, .ofNat 9)], [], [], [(170, 6, (1, 4, .ofNat 0))]), [(2, 170, .ofNat 0), (1, 1, .ofNat 0), (1, 2, .ofNat 0), (1, 3, .ofNat 0)], []), [(0, 0, .ofNat 0), (4, 3, .ofNat 41)])]
theorem ck_42 : cChk [ct_23, ct_24, ct_27, ct_29, ct_31, ct_38, ct_39, ct_40, ct_41] [] ct_42 cu_42 2000 2 = true := by decide +kernel
theorem cs_42 {s : List Int32} (hm : cMan s) : cSound s ct_42 := cChk_ok (C := [ct_23, ct_24, ct_27, ct_29, ct_31, ct_38, ct_39, ct_40, ct_41]) (hCc (cs_23 hm) (hCc (cs_24 hm) (hCc (cs_27 hm) (hCc (cs_29 hm) (hCc (cs_31 hm) (hCc (cs_38 hm) (hCc (cs_39 hm) (hCc (cs_40 hm) (hCc (cs_41 hm) hC0))))))))) hG0 ck_42
/-- WidowDeeds$Chain.liesOn -/
def ct_43 : CT := (15, 0, 6, (([(.ofNat 0, .ofNat 0), (.ofNat 0, .ofNat 7), (.ofNat 0, .ofNat 999)], [], [], []), [(2, 170, .ofNat 0), (1, 1, .ofNat 0), (1, 2, .ofNat 0), (0, 0, .ofNat 0), (0, 0, .ofNat 0), (0, 0, .ofNat 0)], []), [(([(.ofNat 0, .ofNat 0), (.ofNat 0, .ofNat 7), (.ofNat 0, .ofNat 999)], [], [], []), [], [(3, 0, .ofNat 0)])], [(152, 7), (158, 7), (164, 7), (170, 4), (170, 5), (170, 6), (170, 7), (170, 8), (170, 14), (170, 15)])
def cu_43 : List CU := [(12, (([(.ofNat 0, .ofNat 0), (.ofNat 0, .ofNat 7), (.ofNat 0, .ofNat 999), (.ofNat 0, .ofNat 40)], [], [], []), [(2, 170, .ofNat 0), (1, 1, .ofNat 0), (1, 2, .ofNat 0), (3, 0, .ofNat 0), (0, 0, .ofNat 0), (1, 3, .ofNat 0)], []), [(0, 0, .ofNat 0), (1, 3, .ofNat 41)])]
theorem ck_43 : cChk [ct_21, ct_34, ct_42] [] ct_43 cu_43 2000 2 = true := by decide +kernel
theorem cs_43 {s : List Int32} (hm : cMan s) : cSound s ct_43 := cChk_ok (C := [ct_21, ct_34, ct_42]) (hCc (cs_21 hm) (hCc (cs_34 hm) (hCc (cs_42 hm) hC0))) hG0 ck_43
/-- WidowDeeds.burdens -/
def ct_44 : CT := (126, 0, 7, (([(.ofNat 0, .ofNat 0), (.negSucc 2147483647, .ofNat 2147483647), (.negSucc 2147483647, .ofNat 2147483647)], [], [], []), [(2, 2, .ofNat 0), (1, 1, .ofNat 0), (1, 2, .ofNat 0)], []), [(([(.ofNat 0, .ofNat 0), (.negSucc 2147483647, .ofNat 2147483647), (.negSucc 2147483647, .ofNat 2147483647)], [], [], []), [], [(3, 0, .ofNat 0)])], [(152, 7), (158, 7), (164, 7), (170, 4), (170, 5), (170, 6), (170, 7), (170, 8), (170, 14), (170, 15)])
def cu_44 : List CU := []
theorem ck_44 : cChk [ct_43] [] ct_44 cu_44 2000 0 = true := by decide +kernel
theorem cs_44 {s : List Int32} (hm : cMan s) : cSound s ct_44 := cChk_ok (C := [ct_43]) (hCc (cs_43 hm) hC0) hG0 ck_44
/-- WidowDeeds$Ledger.lienSum -/
def ct_45 : CT := (93, 0, 0, (([(.ofNat 0, .ofNat 0)], [], [], []), [(2, 7, .ofNat 0), (3, 0, .ofNat 0), (0, 0, .ofNat 0), (0, 0, .ofNat 0), (0, 0, .ofNat 0)], []), [(([(.ofNat 0, .ofNat 0), (.negSucc 2147483647, .ofNat 2147483647)], [], [], []), [], [(1, 1, .ofNat 0)])], [])
def cu_45 : List CU := [(5, (([(.ofNat 0, .ofNat 0), (.negSucc 2147483647, .ofNat 2147483647), (.ofNat 0, .ofNat 40)], [], [], []), [(2, 7, .ofNat 0), (3, 0, .ofNat 0), (0, 0, .ofNat 0), (1, 1, .ofNat 0), (1, 2, .ofNat 0)], []), [(0, 0, .ofNat 0), (0, 2, .ofNat 41)])]
theorem ck_45 : cChk [] [] ct_45 cu_45 2000 2 = true := by decide +kernel
theorem cs_45 {s : List Int32} (hm : cMan s) : cSound s ct_45 := cChk_ok (C := []) hC0 hG0 ck_45
/-- WidowDeeds.owed -/
def ct_46 : CT := (127, 0, 7, (([(.ofNat 0, .ofNat 0), (.negSucc 2147483647, .ofNat 2147483647), (.negSucc 2147483647, .ofNat 2147483647)], [], [], []), [(2, 2, .ofNat 0), (1, 1, .ofNat 0), (1, 2, .ofNat 0)], []), [(([(.ofNat 0, .ofNat 0), (.negSucc 2147483647, .ofNat 2147483647), (.negSucc 2147483647, .ofNat 2147483647), (.negSucc 2147483647, .ofNat 2147483647)], [], [], []), [], [(1, 3, .ofNat 0)])], [(152, 7), (158, 7), (164, 7), (170, 4), (170, 5), (170, 6), (170, 7), (170, 8), (170, 14), (170, 15)])
def cu_46 : List CU := []
theorem ck_46 : cChk [ct_43, ct_45] [] ct_46 cu_46 2000 0 = true := by decide +kernel
theorem cs_46 {s : List Int32} (hm : cMan s) : cSound s ct_46 := cChk_ok (C := [ct_43, ct_45]) (hCc (cs_43 hm) (hCc (cs_45 hm) hC0)) hG0 ck_46
/-- WidowDeeds$Chain.hidden -/
def ct_47 : CT := (17, 0, 2, (([(.ofNat 0, .ofNat 0), (.ofNat 0, .ofNat 2)], [], [], []), [(2, 170, .ofNat 0), (1, 1, .ofNat 0), (0, 0, .ofNat 0), (0, 0, .ofNat 0), (0, 0, .ofNat 0), (0, 0, .ofNat 0)], []), [(([(.ofNat 0, .ofNat 0), (.ofNat 0, .ofNat 2)], [], [], []), [], [(3, 0, .ofNat 0)])], [])
def cu_47 : List CU := [(5, (([(.ofNat 0, .ofNat 0), (.ofNat 0, .ofNat 2), (.ofNat 0, .ofNat 40)], [], [], []), [(2, 170, .ofNat 0), (1, 1, .ofNat 0), (3, 0, .ofNat 0), (0, 0, .ofNat 0), (1, 2, .ofNat 0), (0, 0, .ofNat 0)], []), [(0, 0, .ofNat 0), (1, 2, .ofNat 41)])]
theorem ck_47 : cChk [] [] ct_47 cu_47 2000 2 = true := by decide +kernel
theorem cs_47 {s : List Int32} (hm : cMan s) : cSound s ct_47 := cChk_ok (C := []) hC0 hG0 ck_47
/-- WidowDeeds.unseen -/
def ct_48 : CT := (128, 0, 5, (([(.ofNat 0, .ofNat 0), (.negSucc 2147483647, .ofNat 2147483647), (.negSucc 2147483647, .ofNat 2147483647), (.negSucc 2147483647, .ofNat 2147483647)], [], [], []), [(2, 2, .ofNat 0), (1, 1, .ofNat 0), (1, 2, .ofNat 0), (1, 3, .ofNat 0)], []), [(([(.ofNat 0, .ofNat 0), (.negSucc 2147483647, .ofNat 2147483647), (.negSucc 2147483647, .ofNat 2147483647), (.negSucc 2147483647, .ofNat 2147483647)], [], [], []), [], [(3, 0, .ofNat 0)])], [(170, 4), (170, 5), (170, 6), (170, 7), (170, 8)])
def cu_48 : List CU := []
theorem ck_48 : cChk [ct_21, ct_47] [] ct_48 cu_48 2000 0 = true := by decide +kernel
theorem cs_48 {s : List Int32} (hm : cMan s) : cSound s ct_48 := cChk_ok (C := [ct_21, ct_47]) (hCc (cs_21 hm) (hCc (cs_47 hm) hC0)) hG0 ck_48
/-- WidowDeeds$Chain.meetsAll -/
def ct_49 : CT := (24, 0, 0, (([(.ofNat 0, .ofNat 0), (.negSucc 2147483647, .ofNat 16383)], [], [], []), [(2, 170, .ofNat 0), (1, 1, .ofNat 0), (0, 0, .ofNat 0)], []), [(([(.ofNat 0, .ofNat 0), (.negSucc 2147483647, .ofNat 16383), (.ofNat 0, .ofNat 1)], [], [], []), [], [(1, 2, .ofNat 0)])], [])
def cu_49 : List CU := [(2, (([(.ofNat 0, .ofNat 0), (.negSucc 2147483647, .ofNat 16383), (.ofNat 0, .ofNat 40)], [], [], []), [(2, 170, .ofNat 0), (1, 1, .ofNat 0), (1, 2, .ofNat 0)], []), [(0, 0, .ofNat 0), (1, 2, .ofNat 2147483689)])]
theorem ck_49 : cChk [] [] ct_49 cu_49 2000 2 = true := by decide +kernel
theorem cs_49 {s : List Int32} (hm : cMan s) : cSound s ct_49 := cChk_ok (C := []) hC0 hG0 ck_49
/-- java/lang/Integer.numberOfTrailingZeros -/
def ct_50 : CT := (278, 0, 0, (([(.ofNat 0, .ofNat 0), (.negSucc 2147483647, .ofNat 2147483647)], [], [], []), [(1, 1, .ofNat 0), (0, 0, .ofNat 0)], []), [(([(.ofNat 0, .ofNat 0), (.negSucc 2147483647, .ofNat 2147483647), (.negSucc 2147483647, .ofNat 2147483647)], [], [], []), [], [(1, 2, .ofNat 0)])], [])
def cu_50 : List CU := []
theorem ck_50 : cChk [] [] ct_50 cu_50 2000 0 = true := by decide +kernel
theorem cs_50 {s : List Int32} (hm : cMan s) : cSound s ct_50 := cChk_ok (C := []) hC0 hG0 ck_50
/-- WidowDeeds$Chain.leastOfSize -/
def ct_51 : CT := (20, 0, 2, (([(.ofNat 0, .ofNat 0), (.ofNat 1, .ofNat 14)], [], [], []), [(2, 170, .ofNat 0), (1, 1, .ofNat 0), (0, 0, .ofNat 0), (0, 0, .ofNat 0)], []), [(([(.ofNat 0, .ofNat 0), (.ofNat 1, .ofNat 14), (.negSucc 2147483647, .ofNat 16383)], [], [], []), [], [(1, 2, .ofNat 0)])], [])
def cu_51 : List CU := [(8, (([(.ofNat 0, .ofNat 0), (.ofNat 1, .ofNat 14), (.negSucc 2147483647, .ofNat 2147483647), (.ofNat 0, .ofNat 2147483647)], [], [], []), [(2, 170, .ofNat 0), (1, 1, .ofNat 0), (1, 2, .ofNat 0), (1, 3, .ofNat 0)], []), [(0, 0, .ofNat 0), (1, 3, .ofNat 2147483647)])]
theorem ck_51 : cChk [ct_49, ct_50] [] ct_51 cu_51 2000 2 = true := by decide +kernel
theorem cs_51 {s : List Int32} (hm : cMan s) : cSound s ct_51 := cChk_ok (C := [ct_49, ct_50]) (hCc (cs_49 hm) (hCc (cs_50 hm) hC0)) hG0 ck_51
/-- WidowDeeds$Chain.namesInChain -/
def ct_52 : CT := (21, 0, 0, (([(.ofNat 0, .ofNat 0)], [], [], []), [(2, 170, .ofNat 0), (0, 0, .ofNat 0), (0, 0, .ofNat 0)], []), [(([(.ofNat 0, .ofNat 0), (.negSucc 2147483647, .ofNat 2147483647)], [], [], []), [], [(1, 1, .ofNat 0)])], [])
def cu_52 : List CU := [(9, (([(.ofNat 0, .ofNat 0), (.negSucc 2147483647, .ofNat 2147483647), (.ofNat 0, .ofNat 40), (.ofNat 0, .ofNat 9)], [], [], [(170, 6, (1, 3, .ofNat 0))]), [(2, 170, .ofNat 0), (1, 1, .ofNat 0), (1, 2, .ofNat 0)], []), [(0, 0, .ofNat 0), (3, 2, .ofNat 41)])]
theorem ck_52 : cChk [] [] ct_52 cu_52 2000 2 = true := by decide +kernel
theorem cs_52 {s : List Int32} (hm : cMan s) : cSound s ct_52 := cChk_ok (C := []) hC0 hG0 ck_52
/-- WidowDeeds$Chain.gatherPageSets -/
def ct_53 : CT := (22, 0, 1, (([(.ofNat 0, .ofNat 0), (.negSucc 2147483647, .ofNat 2147483647)], [], [], []), [(2, 170, .ofNat 0), (1, 1, .ofNat 0), (0, 0, .ofNat 0), (0, 0, .ofNat 0)], []), [(([(.ofNat 0, .ofNat 0), (.negSucc 2147483647, .ofNat 2147483647)], [], [], []), [], [])], [(170, 17)])
def cu_53 : List CU := [(7, (([(.ofNat 0, .ofNat 0), (.negSucc 2147483647, .ofNat 2147483647), (.ofNat 0, .ofNat 2147483647), (.ofNat 0, .ofNat 2147483647)], [(3, 2, .ofNat 0)], [], [(170, 17, (1, 3, .ofNat 0))]), [(2, 170, .ofNat 0), (1, 1, .ofNat 0), (1, 2, .ofNat 0), (0, 0, .ofNat 0)], []), [(0, 0, .ofNat 0), (1, 2, .ofNat 4294967296)])]
theorem ck_53 : cChk [] [] ct_53 cu_53 2000 2 = true := by decide +kernel
theorem cs_53 {s : List Int32} (hm : cMan s) : cSound s ct_53 := cChk_ok (C := []) hC0 hG0 ck_53
/-- WidowDeeds$Chain.pagesToRead -/
def ct_54 : CT := (19, 0, 6, (([(.ofNat 0, .ofNat 0), (.ofNat 0, .ofNat 7), (.ofNat 0, .ofNat 999)], [], [], []), [(2, 170, .ofNat 0), (1, 1, .ofNat 0), (1, 2, .ofNat 0), (0, 0, .ofNat 0), (0, 0, .ofNat 0)], []), [(([(.ofNat 0, .ofNat 0), (.ofNat 0, .ofNat 7), (.ofNat 0, .ofNat 999), (.negSucc 2147483647, .ofNat 16383)], [], [], []), [], [(1, 3, .ofNat 0)])], [(152, 7), (158, 7), (164, 7), (170, 4), (170, 5), (170, 6), (170, 7), (170, 8), (170, 14), (170, 15), (170, 17)])
def cu_54 : List CU := [(31, (([(.ofNat 0, .ofNat 0), (.ofNat 0, .ofNat 7), (.ofNat 0, .ofNat 999), (.ofNat 1, .ofNat 40)], [], [], [(170, 17, (1, 3, .ofNat 0))]), [(2, 170, .ofNat 0), (1, 1, .ofNat 0), (1, 2, .ofNat 0), (1, 0, .negSucc 0), (1, 0, .ofNat 1)], []), [(0, 0, .ofNat 1), (0, 0, .ofNat 0)]), (31, (([(.ofNat 0, .ofNat 0), (.ofNat 0, .ofNat 7), (.ofNat 0, .ofNat 999), (.negSucc 2147483647, .ofNat 16383), (.ofNat 1, .ofNat 19), (.ofNat 0, .ofNat 40)], [], [], [(170, 17, (1, 5, .ofNat 0))]), [(2, 170, .ofNat 0), (1, 1, .ofNat 0), (1, 2, .ofNat 0), (1, 3, .ofNat 0), (1, 4, .ofNat 0)], []), [(0, 0, .ofNat 0), (5, 4, .ofNat 20)])]
theorem ck_54 : cChk [ct_21, ct_34, ct_51, ct_52, ct_53] [] ct_54 cu_54 2000 2 = true := by decide +kernel
theorem cs_54 {s : List Int32} (hm : cMan s) : cSound s ct_54 := cChk_ok (C := [ct_21, ct_34, ct_51, ct_52, ct_53]) (hCc (cs_21 hm) (hCc (cs_34 hm) (hCc (cs_51 hm) (hCc (cs_52 hm) (hCc (cs_53 hm) hC0))))) hG0 ck_54
/-- WidowDeeds.search -/
def ct_55 : CT := (129, 0, 7, (([(.ofNat 0, .ofNat 0), (.negSucc 2147483647, .ofNat 2147483647), (.negSucc 2147483647, .ofNat 2147483647), (.negSucc 2147483647, .ofNat 2147483647)], [], [], []), [(2, 2, .ofNat 0), (1, 1, .ofNat 0), (1, 2, .ofNat 0), (1, 3, .ofNat 0), (0, 0, .ofNat 0)], []), [(([(.ofNat 0, .ofNat 0), (.negSucc 2147483647, .ofNat 2147483647), (.negSucc 2147483647, .ofNat 2147483647), (.negSucc 2147483647, .ofNat 2147483647), (.negSucc 2147483647, .ofNat 16383)], [], [], []), [], [(1, 4, .ofNat 0)])], [(152, 7), (158, 7), (164, 7), (170, 4), (170, 5), (170, 6), (170, 7), (170, 8), (170, 14), (170, 15), (170, 17)])
def cu_55 : List CU := []
theorem ck_55 : cChk [ct_54] [] ct_55 cu_55 2000 0 = true := by decide +kernel
theorem cs_55 {s : List Int32} (hm : cMan s) : cSound s ct_55 := cChk_ok (C := [ct_54]) (hCc (cs_54 hm) hC0) hG0 ck_55
/-- WidowDeeds$Doubts.countForgeries -/
def ct_56 : CT := (34, 0, 6, (([(.ofNat 0, .ofNat 0), (.ofNat 0, .ofNat 7), (.ofNat 0, .ofNat 999)], [], [], []), [(2, 177, .ofNat 0), (1, 1, .ofNat 0), (1, 2, .ofNat 0), (0, 0, .ofNat 0), (0, 0, .ofNat 0), (0, 0, .ofNat 0)], []), [(([(.ofNat 0, .ofNat 0), (.ofNat 0, .ofNat 7), (.ofNat 0, .ofNat 999)], [], [], []), [], [])], [(152, 7), (158, 7), (164, 7), (170, 4), (170, 5), (170, 6), (170, 7), (170, 8), (170, 14), (170, 15)])
def cu_56 : List CU := [(13, (([(.ofNat 0, .ofNat 0), (.ofNat 0, .ofNat 7), (.ofNat 0, .ofNat 999), (.ofNat 0, .ofNat 9), (.ofNat 0, .ofNat 40)], [], [], []), [(2, 177, .ofNat 0), (1, 1, .ofNat 0), (1, 2, .ofNat 0), (1, 3, .ofNat 0), (1, 4, .ofNat 0), (0, 0, .ofNat 0)], []), [(0, 0, .ofNat 0), (1, 4, .ofNat 41)])]
theorem ck_56 : cChk [ct_21, ct_34] [] ct_56 cu_56 2000 2 = true := by decide +kernel
theorem cs_56 {s : List Int32} (hm : cMan s) : cSound s ct_56 := cChk_ok (C := [ct_21, ct_34]) (hCc (cs_21 hm) (hCc (cs_34 hm) hC0)) hG0 ck_56
/-- WidowDeeds$Doubts.weightiest -/
def ct_57 : CT := (36, 0, 0, (([(.ofNat 0, .ofNat 0), (.ofNat 0, .ofNat 1000000), (.ofNat 0, .ofNat 1)], [], [], []), [(2, 177, .ofNat 0), (1, 1, .ofNat 0), (1, 2, .ofNat 0), (0, 0, .ofNat 0), (0, 0, .ofNat 0)], []), [(([(.ofNat 0, .ofNat 0), (.ofNat 0, .ofNat 1000000), (.ofNat 0, .ofNat 1), (.negSucc 2147483647, .ofNat 2147483647)], [], [], []), [], [(1, 3, .ofNat 0)])], [])
def cu_57 : List CU := [(6, (([(.ofNat 0, .ofNat 0), (.ofNat 0, .ofNat 1000000), (.ofNat 0, .ofNat 1), (.ofNat 0, .ofNat 40)], [], [], []), [(2, 177, .ofNat 0), (1, 1, .ofNat 0), (1, 2, .ofNat 0), (1, 0, .negSucc 1), (1, 3, .ofNat 0)], []), [(0, 0, .ofNat 1), (1, 3, .ofNat 41)]), (6, (([(.ofNat 0, .ofNat 0), (.ofNat 0, .ofNat 1000000), (.ofNat 0, .ofNat 1), (.ofNat 0, .ofNat 39), (.ofNat 1, .ofNat 40), (.ofNat 1, .ofNat 40)], [(3, 4, .negSucc 0), (3, 5, .negSucc 0), (4, 5, .ofNat 0)], [], [(7, 2, (1, 5, .ofNat 0))]), [(2, 177, .ofNat 0), (1, 1, .ofNat 0), (1, 2, .ofNat 0), (1, 3, .ofNat 0), (1, 4, .ofNat 0)], []), [(0, 0, .ofNat 0), (5, 4, .ofNat 1)])]
theorem ck_57 : cChk [] [] ct_57 cu_57 2000 2 = true := by decide +kernel
theorem cs_57 {s : List Int32} (hm : cMan s) : cSound s ct_57 := cChk_ok (C := []) hC0 hG0 ck_57
/-- java/util/Arrays.fill -/
def ct_58 : CT := (281, 0, 0, (([(.ofNat 0, .ofNat 0), (.ofNat 0, .ofNat 0)], [], [], []), [(2, 178, .ofNat 0), (1, 1, .ofNat 0), (0, 0, .ofNat 0), (0, 0, .ofNat 0)], []), [(([(.ofNat 0, .ofNat 0), (.ofNat 0, .ofNat 0)], [], [], []), [], [])], [])
def cu_58 : List CU := [(5, (([(.ofNat 0, .ofNat 0), (.ofNat 0, .ofNat 0), (.ofNat 0, .ofNat 40)], [], [], []), [(2, 178, .ofNat 0), (1, 1, .ofNat 0), (1, 2, .ofNat 0), (1, 0, .ofNat 40)], []), [(0, 0, .ofNat 0), (1, 2, .ofNat 41)])]
theorem ck_58 : cChk [] [] ct_58 cu_58 2000 2 = true := by decide +kernel
theorem cs_58 {s : List Int32} (hm : cMan s) : cSound s ct_58 := cChk_ok (C := []) hC0 hG0 ck_58
/-- WidowDeeds.worst -/
def ct_59 : CT := (130, 0, 7, (([(.ofNat 0, .ofNat 0), (.negSucc 2147483647, .ofNat 2147483647), (.negSucc 2147483647, .ofNat 2147483647)], [], [], []), [(2, 2, .ofNat 0), (1, 1, .ofNat 0), (1, 2, .ofNat 0), (0, 0, .ofNat 0)], []), [(([(.ofNat 0, .ofNat 0), (.negSucc 2147483647, .ofNat 2147483647), (.negSucc 2147483647, .ofNat 2147483647), (.negSucc 2147483647, .ofNat 2147483647)], [], [], []), [], [(1, 3, .ofNat 0)])], [(152, 7), (158, 7), (164, 7), (170, 4), (170, 5), (170, 6), (170, 7), (170, 8), (170, 14), (170, 15)])
def cu_59 : List CU := [(26, (([(.ofNat 0, .ofNat 0), (.ofNat 0, .ofNat 999), (.ofNat 0, .ofNat 1), (.ofNat 0, .ofNat 8)], [], [], []), [(2, 2, .ofNat 0), (1, 1, .ofNat 0), (1, 2, .ofNat 0), (1, 3, .ofNat 0)], []), [(0, 0, .ofNat 0), (1, 3, .ofNat 9)])]
theorem ck_59 : cChk [ct_56, ct_57, ct_58] [] ct_59 cu_59 2000 2 = true := by decide +kernel
theorem cs_59 {s : List Int32} (hm : cMan s) : cSound s ct_59 := cChk_ok (C := [ct_56, ct_57, ct_58]) (hCc (cs_56 hm) (hCc (cs_57 hm) (hCc (cs_58 hm) hC0))) hG0 ck_59
