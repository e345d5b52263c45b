/-! contracts of the methods (made by mkab.py); first those proved by hand -/
/-- WidowDeeds$Doubts.maySend -/
def cm_42 : CT := (42, 0, 60, (([(.ofNat 0, .ofNat 0), (.ofNat 0, .ofNat 999)], [], [], []), [(2, 177, .ofNat 0), (3, 0, .ofNat 0), (0, 0, .ofNat 0), (1, 1, .ofNat 0), (0, 0, .ofNat 0)], []), [(([(.ofNat 0, .ofNat 0), (.ofNat 0, .ofNat 999), (.ofNat 0, .ofNat 1)], [], [], []), [], [(1, 2, .ofNat 0)])], [(177, 5)])
/-- WidowDeeds$LawReader.read -/
def cm_71 : CT := (71, 0, 60, (([(.ofNat 0, .ofNat 0), (.ofNat 1, .ofNat 160)], [], [], []), [(2, 130, .ofNat 0), (2, 128, .ofNat 0), (1, 1, .ofNat 0), (0, 0, .ofNat 0)], []), [(([(.ofNat 0, .ofNat 0), (.ofNat 1, .ofNat 160), (.negSucc 2147483647, .ofNat 2147483647)], [], [], []), [], [(1, 2, .ofNat 0)])], [(130, 1), (130, 2), (130, 3), (130, 4), (130, 5), (131, 1), (131, 5)])
/-- WidowDeedsModel.laysKnown -/
def cm_188 : CT := (188, 0, 60, (([(.ofNat 0, .ofNat 0)], [], [], []), [(2, 181, .ofNat 0), (0, 0, .ofNat 0)], []), [(([(.ofNat 0, .ofNat 0)], [], [], []), [], [])], [])
/-- WidowDeedsModel.law -/
def cm_212 : CT := (212, 0, 60, (([(.ofNat 0, .ofNat 0), (.negSucc 2147483647, .ofNat 2147483647), (.negSucc 2147483647, .ofNat 2147483647)], [], [], []), [(2, 181, .ofNat 0), (1, 1, .ofNat 0), (1, 2, .ofNat 0), (0, 0, .ofNat 0), (0, 0, .ofNat 0)], []), [(([(.ofNat 0, .ofNat 0), (.negSucc 2147483647, .ofNat 2147483647), (.negSucc 2147483647, .ofNat 2147483647), (.negSucc 2147483647, .ofNat 2147483647)], [], [], []), [], [(1, 3, .ofNat 0)])], [(181, 25), (181, 26), (181, 27), (181, 28), (181, 29), (181, 30), (181, 31), (181, 32), (181, 33)])
/-- WidowDeedsModel.comesTo -/
def cm_214 : CT := (214, 0, 60, (([(.ofNat 0, .ofNat 0), (.ofNat 0, .ofNat 540), (.ofNat 0, .ofNat 540)], [], [], []), [(2, 181, .ofNat 0), (1, 1, .ofNat 0), (1, 2, .ofNat 0), (0, 0, .ofNat 0), (0, 0, .ofNat 0), (0, 0, .ofNat 0), (0, 0, .ofNat 0), (0, 0, .ofNat 0)], []), [(([(.ofNat 0, .ofNat 0), (.ofNat 0, .ofNat 540), (.ofNat 0, .ofNat 540), (.negSucc 2147483647, .ofNat 2147483647)], [], [], []), [], [(1, 3, .ofNat 0)])], [])
/-- WidowDeedsModel.laysOrder -/
def cm_223 : CT := (223, 0, 60, (([(.ofNat 0, .ofNat 0)], [], [], []), [(2, 181, .ofNat 0), (0, 0, .ofNat 0), (0, 0, .ofNat 0)], []), [(([(.ofNat 0, .ofNat 0)], [], [], []), [], [])], [(181, 49)])
/-- WidowDeedsModel.walks -/
def cm_227 : CT := (227, 0, 60, (([(.ofNat 0, .ofNat 0), (.ofNat 0, .ofNat 7), (.ofNat 0, .ofNat 999)], [], [], []), [(2, 181, .ofNat 0), (1, 1, .ofNat 0), (1, 2, .ofNat 0), (0, 0, .ofNat 0), (0, 0, .ofNat 0)], []), [(([(.ofNat 0, .ofNat 0), (.ofNat 0, .ofNat 7), (.ofNat 0, .ofNat 999), (.ofNat 0, .ofNat 9)], [], [], []), [], [(1, 3, .ofNat 0)])], [(181, 48)])
/-- WidowDeedsModel.getsBy -/
def cm_266 : CT := (266, 0, 60, (([(.ofNat 0, .ofNat 0), (.ofNat 0, .ofNat 255)], [], [], []), [(2, 181, .ofNat 0), (1, 1, .ofNat 0), (0, 0, .ofNat 0), (0, 0, .ofNat 0), (0, 0, .ofNat 0), (0, 0, .ofNat 0)], []), [(([(.ofNat 0, .ofNat 0), (.ofNat 0, .ofNat 255), (.negSucc 2147483647, .ofNat 2147483647)], [], [], []), [], [(1, 2, .ofNat 0)])], [])
def cMan (s : List Int32) : Prop := cSound s cm_42 ∧ cSound s cm_71 ∧ cSound s cm_188 ∧ cSound s cm_212 ∧ cSound s cm_214 ∧ cSound s cm_223 ∧ cSound s cm_227 ∧ cSound s cm_266
theorem cMan_42 {s : List Int32} (h : cMan s) : cSound s cm_42 := h.1
theorem cMan_71 {s : List Int32} (h : cMan s) : cSound s cm_71 := h.2.1
theorem cMan_188 {s : List Int32} (h : cMan s) : cSound s cm_188 := h.2.2.1
theorem cMan_212 {s : List Int32} (h : cMan s) : cSound s cm_212 := h.2.2.2.1
theorem cMan_214 {s : List Int32} (h : cMan s) : cSound s cm_214 := h.2.2.2.2.1
theorem cMan_223 {s : List Int32} (h : cMan s) : cSound s cm_223 := h.2.2.2.2.2.1
theorem cMan_227 {s : List Int32} (h : cMan s) : cSound s cm_227 := h.2.2.2.2.2.2.1
theorem cMan_266 {s : List Int32} (h : cMan s) : cSound s cm_266 := h.2.2.2.2.2.2.2
theorem hC0 {s : List Int32} : ∀ c', c' ∈ ([] : List CT) → cSound s c' := fun _ h => nomatch h
theorem hG0 {s : List Int32} : ∀ c', c' ∈ ([] : List CG) → gSound s c' := fun _ h => nomatch h
theorem hCc {s : List Int32} {c : CT} {C : List CT} (h : cSound s c) (t : ∀ c', c' ∈ C → cSound s c') : ∀ c', c' ∈ c :: C → cSound s c' := fun c' hc => (List.mem_cons.mp hc).elim (fun e => e ▸ h) (t c')
/-- WidowDeeds.dies -/
def ct_0 : CT := (109, 0, 3, (([(.ofNat 0, .ofNat 0), (.negSucc 2147483647, .ofNat 2147483647), (.negSucc 2147483647, .ofNat 2147483647)], [], [], []), [(2, 2, .ofNat 0), (1, 1, .ofNat 0), (1, 2, .ofNat 0)], []), [(([(.ofNat 0, .ofNat 0), (.negSucc 2147483647, .ofNat 2147483647), (.negSucc 2147483647, .ofNat 2147483647), (.ofNat 0, .ofNat 1)], [], [], []), [], [(1, 3, .ofNat 0)])], [])
def cu_0 : List CU := []
theorem ck_0 : cChk [] [] ct_0 cu_0 2000 0 = true := by decide +kernel
theorem cs_0 {s : List Int32} (hm : cMan s) : cSound s ct_0 := cChk_ok (C := []) hC0 hG0 ck_0
/-- WidowDeeds.strip -/
def ct_1 : CT := (110, 0, 2, (([(.ofNat 0, .ofNat 0), (.negSucc 2147483647, .ofNat 2147483647), (.negSucc 2147483647, .ofNat 2147483647), (.negSucc 2147483647, .ofNat 2147483647)], [], [], []), [(2, 2, .ofNat 0), (1, 1, .ofNat 0), (1, 2, .ofNat 0), (1, 3, .ofNat 0)], []), [(([(.ofNat 0, .ofNat 0), (.negSucc 2147483647, .ofNat 2147483647), (.negSucc 2147483647, .ofNat 2147483647), (.negSucc 2147483647, .ofNat 2147483647), (.ofNat 0, .ofNat 1)], [], [], []), [], [(1, 4, .ofNat 0)])], [])
def cu_1 : List CU := []
theorem ck_1 : cChk [] [] ct_1 cu_1 2000 0 = true := by decide +kernel
theorem cs_1 {s : List Int32} (hm : cMan s) : cSound s ct_1 := cChk_ok (C := []) hC0 hG0 ck_1
/-- WidowDeeds$Gossip.isTalkedOf -/
def ct_2 : CT := (54, 0, 0, (([(.ofNat 0, .ofNat 0), (.ofNat 0, .ofNat 19), (.ofNat 0, .ofNat 39)], [], [], []), [(2, 93, .ofNat 0), (1, 1, .ofNat 0), (1, 2, .ofNat 0), (0, 0, .ofNat 0)], []), [(([(.ofNat 0, .ofNat 0), (.ofNat 0, .ofNat 19), (.ofNat 0, .ofNat 39), (.ofNat 0, .ofNat 1)], [], [], []), [], [(1, 3, .ofNat 0)])], [])
def cu_2 : List CU := [(2, (([(.ofNat 0, .ofNat 0), (.ofNat 0, .ofNat 19), (.ofNat 0, .ofNat 39), (.ofNat 0, .ofNat 10)], [], [], []), [(2, 93, .ofNat 0), (1, 1, .ofNat 0), (1, 2, .ofNat 0), (1, 3, .ofNat 0)], []), [(0, 0, .ofNat 0), (1, 3, .ofNat 11)])]
theorem ck_2 : cChk [] [] ct_2 cu_2 2000 2 = true := by decide +kernel
theorem cs_2 {s : List Int32} (hm : cMan s) : cSound s ct_2 := cChk_ok (C := []) hC0 hG0 ck_2
/-- WidowDeeds$Gossip.tellSitters -/
def ct_3 : CT := (55, 0, 2, (([(.ofNat 0, .ofNat 0), (.ofNat 0, .ofNat 19), (.ofNat 0, .ofNat 39)], [], [], []), [(2, 93, .ofNat 0), (1, 1, .ofNat 0), (1, 2, .ofNat 0), (0, 0, .ofNat 0)], []), [(([(.ofNat 0, .ofNat 0), (.ofNat 0, .ofNat 19), (.ofNat 0, .ofNat 39)], [], [], []), [], [])], [])
def cu_3 : List CU := [(2, (([(.ofNat 0, .ofNat 0), (.ofNat 0, .ofNat 19), (.ofNat 0, .ofNat 39), (.ofNat 0, .ofNat 10)], [], [], []), [(2, 93, .ofNat 0), (1, 1, .ofNat 0), (1, 2, .ofNat 0), (1, 3, .ofNat 0)], []), [(0, 0, .ofNat 0), (1, 3, .ofNat 11)])]
theorem ck_3 : cChk [] [] ct_3 cu_3 2000 2 = true := by decide +kernel
theorem cs_3 {s : List Int32} (hm : cMan s) : cSound s ct_3 := cChk_ok (C := []) hC0 hG0 ck_3
/-- WidowDeeds$Gossip.spread -/
def ct_4 : CT := (52, 0, 3, (([(.ofNat 0, .ofNat 0), (.ofNat 0, .ofNat 39)], [], [], []), [(2, 93, .ofNat 0), (1, 1, .ofNat 0), (2, 10, .ofNat 0), (0, 0, .ofNat 0)], []), [(([(.ofNat 0, .ofNat 0), (.ofNat 0, .ofNat 39)], [], [], []), [], [])], [])
def cu_4 : List CU := [(2, (([(.ofNat 0, .ofNat 0), (.ofNat 0, .ofNat 39), (.ofNat 0, .ofNat 10)], [], [], []), [(2, 93, .ofNat 0), (1, 1, .ofNat 0), (2, 10, .ofNat 0), (1, 2, .ofNat 0)], []), [(0, 0, .ofNat 2), (1, 2, .ofNat 11)]), (49, (([(.ofNat 0, .ofNat 0), (.ofNat 0, .ofNat 39), (.ofNat 0, .ofNat 60)], [], [], []), [(2, 93, .ofNat 0), (1, 1, .ofNat 0), (2, 10, .ofNat 0), (1, 2, .ofNat 0)], []), [(0, 0, .ofNat 1), (1, 2, .ofNat 61)]), (92, (([(.ofNat 0, .ofNat 0), (.ofNat 0, .ofNat 39), (.ofNat 0, .ofNat 20), (.ofNat 0, .ofNat 2147483647)], [], [], [(93, 3, (1, 3, .ofNat 0))]), [(2, 93, .ofNat 0), (1, 1, .ofNat 0), (2, 10, .ofNat 0), (1, 2, .ofNat 0)], []), [(0, 0, .ofNat 0), (3, 2, .ofNat 21)])]
theorem ck_4 : cChk [ct_2, ct_3] [] ct_4 cu_4 2000 2 = true := by decide +kernel
theorem cs_4 {s : List Int32} (hm : cMan s) : cSound s ct_4 := cChk_ok (C := [ct_2, ct_3]) (hCc (cs_2 hm) (hCc (cs_3 hm) hC0)) hG0 ck_4
/-- WidowDeeds$Ledger.addBlank -/
def ct_5 : CT := (91, 0, 1, (([(.ofNat 0, .ofNat 0), (.ofNat 0, .ofNat 999), (.ofNat 0, .ofNat 39)], [], [], [(7, 2, (1, 2, .ofNat 0))]), [(2, 7, .ofNat 0), (1, 1, .ofNat 0), (0, 0, .ofNat 0), (0, 0, .ofNat 0)], []), [(([(.ofNat 0, .ofNat 0), (.ofNat 0, .ofNat 999), (.ofNat 0, .ofNat 39)], [], [], [(7, 2, (1, 2, .ofNat 1))]), [], [(2, 10, .ofNat 0)])], [(7, 2)])
def cu_5 : List CU := [(29, (([(.ofNat 0, .ofNat 0), (.ofNat 0, .ofNat 999), (.ofNat 0, .ofNat 39), (.ofNat 0, .ofNat 39)], [(3, 2, .ofNat 0)], [], [(7, 2, (1, 2, .ofNat 0))]), [(2, 7, .ofNat 0), (1, 1, .ofNat 0), (2, 10, .ofNat 0), (1, 3, .ofNat 0)], []), [(0, 0, .ofNat 0), (3, 2, .ofNat 40)])]
theorem ck_5 : cChk [] [] ct_5 cu_5 2000 2 = true := by decide +kernel
theorem cs_5 {s : List Int32} (hm : cMan s) : cSound s ct_5 := cChk_ok (C := []) hC0 hG0 ck_5
/-- WidowDeeds.deed -/
def ct_6 : CT := (111, 0, 5, (([(.ofNat 0, .ofNat 0), (.negSucc 2147483647, .ofNat 2147483647), (.negSucc 2147483647, .ofNat 2147483647), (.negSucc 2147483647, .ofNat 2147483647), (.negSucc 2147483647, .ofNat 2147483647), (.negSucc 2147483647, .ofNat 2147483647), (.negSucc 2147483647, .ofNat 2147483647)], [], [], []), [(2, 2, .ofNat 0), (1, 1, .ofNat 0), (1, 2, .ofNat 0), (1, 3, .ofNat 0), (1, 4, .ofNat 0), (1, 5, .ofNat 0), (1, 6, .ofNat 0)], []), [(([(.ofNat 0, .ofNat 0), (.negSucc 2147483647, .ofNat 2147483647), (.negSucc 2147483647, .ofNat 2147483647), (.negSucc 2147483647, .ofNat 2147483647), (.negSucc 2147483647, .ofNat 2147483647), (.negSucc 2147483647, .ofNat 2147483647), (.negSucc 2147483647, .ofNat 2147483647), (.negSucc 0, .ofNat 39)], [], [], []), [], [(1, 7, .ofNat 0)])], [(7, 2)])
def cu_6 : List CU := []
theorem ck_6 : cChk [ct_4, ct_5] [] ct_6 cu_6 2000 0 = true := by decide +kernel
theorem cs_6 {s : List Int32} (hm : cMan s) : cSound s ct_6 := cChk_ok (C := [ct_4, ct_5]) (hCc (cs_4 hm) (hCc (cs_5 hm) hC0)) hG0 ck_6
/-- WidowDeeds.forged -/
def ct_7 : CT := (112, 0, 2, (([(.ofNat 0, .ofNat 0), (.negSucc 2147483647, .ofNat 2147483647), (.ofNat 0, .ofNat 1)], [], [], []), [(2, 2, .ofNat 0), (1, 1, .ofNat 0), (1, 2, .ofNat 0)], []), [(([(.ofNat 0, .ofNat 0), (.negSucc 2147483647, .ofNat 2147483647), (.ofNat 0, .ofNat 1), (.ofNat 0, .ofNat 1)], [], [], []), [], [(1, 3, .ofNat 0)])], [])
def cu_7 : List CU := []
theorem ck_7 : cChk [] [] ct_7 cu_7 2000 0 = true := by decide +kernel
theorem cs_7 {s : List Int32} (hm : cMan s) : cSound s ct_7 := cChk_ok (C := []) hC0 hG0 ck_7
/-- WidowDeeds.enter -/
def ct_8 : CT := (113, 0, 3, (([(.ofNat 0, .ofNat 0), (.negSucc 2147483647, .ofNat 2147483647), (.negSucc 2147483647, .ofNat 2147483647), (.negSucc 2147483647, .ofNat 2147483647), (.negSucc 2147483647, .ofNat 2147483647), (.negSucc 2147483647, .ofNat 2147483647)], [], [], []), [(2, 2, .ofNat 0), (1, 1, .ofNat 0), (1, 2, .ofNat 0), (1, 3, .ofNat 0), (1, 4, .ofNat 0), (1, 5, .ofNat 0)], []), [(([(.ofNat 0, .ofNat 0), (.negSucc 2147483647, .ofNat 2147483647), (.negSucc 2147483647, .ofNat 2147483647), (.negSucc 2147483647, .ofNat 2147483647), (.negSucc 2147483647, .ofNat 2147483647), (.negSucc 2147483647, .ofNat 2147483647), (.ofNat 0, .ofNat 1)], [], [], []), [], [(1, 6, .ofNat 0)])], [])
def cu_8 : List CU := []
theorem ck_8 : cChk [] [] ct_8 cu_8 2000 0 = true := by decide +kernel
theorem cs_8 {s : List Int32} (hm : cMan s) : cSound s ct_8 := cChk_ok (C := []) hC0 hG0 ck_8
/-- WidowDeeds.mule -/
def ct_9 : CT := (114, 0, 3, (([(.ofNat 0, .ofNat 0), (.negSucc 2147483647, .ofNat 2147483647), (.negSucc 2147483647, .ofNat 2147483647), (.negSucc 2147483647, .ofNat 2147483647), (.negSucc 2147483647, .ofNat 2147483647), (.negSucc 2147483647, .ofNat 2147483647)], [], [], []), [(2, 2, .ofNat 0), (1, 1, .ofNat 0), (1, 2, .ofNat 0), (1, 3, .ofNat 0), (1, 4, .ofNat 0), (1, 5, .ofNat 0), (0, 0, .ofNat 0)], []), [(([(.ofNat 0, .ofNat 0), (.negSucc 2147483647, .ofNat 2147483647), (.negSucc 2147483647, .ofNat 2147483647), (.negSucc 2147483647, .ofNat 2147483647), (.negSucc 2147483647, .ofNat 2147483647), (.negSucc 2147483647, .ofNat 2147483647), (.negSucc 0, .ofNat 1006)], [], [], []), [], [(1, 6, .ofNat 0)])], [(2, 11)])
def cu_9 : List CU := []
theorem ck_9 : cChk [] [] ct_9 cu_9 2000 0 = true := by decide +kernel
theorem cs_9 {s : List Int32} (hm : cMan s) : cSound s ct_9 := cChk_ok (C := []) hC0 hG0 ck_9
/-- WidowDeeds.name -/
def ct_10 : CT := (115, 0, 2, (([(.ofNat 0, .ofNat 0), (.negSucc 2147483647, .ofNat 2147483647), (.negSucc 2147483647, .ofNat 2147483647)], [], [], []), [(2, 2, .ofNat 0), (1, 1, .ofNat 0), (1, 2, .ofNat 0)], []), [(([(.ofNat 0, .ofNat 0), (.negSucc 2147483647, .ofNat 2147483647), (.negSucc 2147483647, .ofNat 2147483647), (.ofNat 0, .ofNat 1)], [], [], []), [], [(1, 3, .ofNat 0)])], [])
def cu_10 : List CU := []
theorem ck_10 : cChk [] [] ct_10 cu_10 2000 0 = true := by decide +kernel
theorem cs_10 {s : List Int32} (hm : cMan s) : cSound s ct_10 := cChk_ok (C := []) hC0 hG0 ck_10
/-- WidowDeeds.lose -/
def ct_11 : CT := (116, 0, 2, (([(.ofNat 0, .ofNat 0), (.negSucc 2147483647, .ofNat 2147483647)], [], [], []), [(2, 2, .ofNat 0), (1, 1, .ofNat 0)], []), [(([(.ofNat 0, .ofNat 0), (.negSucc 2147483647, .ofNat 2147483647), (.ofNat 0, .ofNat 1)], [], [], []), [], [(1, 2, .ofNat 0)])], [])
def cu_11 : List CU := []
theorem ck_11 : cChk [] [] ct_11 cu_11 2000 0 = true := by decide +kernel
theorem cs_11 {s : List Int32} (hm : cMan s) : cSound s ct_11 := cChk_ok (C := []) hC0 hG0 ck_11
/-- WidowDeeds.heard -/
def ct_12 : CT := (117, 0, 4, (([(.ofNat 0, .ofNat 0), (.negSucc 2147483647, .ofNat 2147483647), (.negSucc 2147483647, .ofNat 2147483647), (.negSucc 2147483647, .ofNat 2147483647)], [], [], []), [(2, 2, .ofNat 0), (1, 1, .ofNat 0), (1, 2, .ofNat 0), (1, 3, .ofNat 0)], []), [(([(.ofNat 0, .ofNat 0), (.negSucc 2147483647, .ofNat 2147483647), (.negSucc 2147483647, .ofNat 2147483647), (.negSucc 2147483647, .ofNat 2147483647), (.negSucc 0, .ofNat 60)], [], [], []), [], [(1, 4, .ofNat 0)])], [(93, 3)])
def cu_12 : List CU := []
theorem ck_12 : cChk [ct_4] [] ct_12 cu_12 2000 0 = true := by decide +kernel
theorem cs_12 {s : List Int32} (hm : cMan s) : cSound s ct_12 := cChk_ok (C := [ct_4]) (hCc (cs_4 hm) hC0) hG0 ck_12
/-- WidowDeeds$Gossip.addWell -/
def ct_13 : CT := (50, 0, 1, (([(.ofNat 0, .ofNat 0), (.ofNat 0, .ofNat 999), (.ofNat 0, .ofNat 1023)], [], [], []), [(2, 93, .ofNat 0), (1, 1, .ofNat 0), (1, 2, .ofNat 0), (0, 0, .ofNat 0)], []), [(([(.ofNat 0, .ofNat 0), (.ofNat 0, .ofNat 999), (.ofNat 0, .ofNat 1023)], [], [], []), [], [])], [(93, 6)])
def cu_13 : List CU := [(13, (([(.ofNat 0, .ofNat 0), (.ofNat 0, .ofNat 999), (.ofNat 0, .ofNat 1023), (.ofNat 0, .ofNat 19), (.ofNat 0, .ofNat 19)], [(3, 4, .ofNat 0)], [], [(93, 6, (1, 4, .ofNat 0))]), [(2, 93, .ofNat 0), (1, 1, .ofNat 0), (1, 2, .ofNat 0), (1, 3, .ofNat 0)], []), [(0, 0, .ofNat 0), (3, 4, .ofNat 20)])]
theorem ck_13 : cChk [] [] ct_13 cu_13 2000 2 = true := by decide +kernel
theorem cs_13 {s : List Int32} (hm : cMan s) : cSound s ct_13 := cChk_ok (C := []) hC0 hG0 ck_13
/-- WidowDeeds$Gossip.spreadAll -/
def ct_14 : CT := (51, 0, 4, (([(.ofNat 0, .ofNat 0)], [], [], []), [(2, 93, .ofNat 0), (2, 7, .ofNat 0), (0, 0, .ofNat 0)], []), [(([(.ofNat 0, .ofNat 0)], [], [], []), [], [])], [])
def cu_14 : List CU := [(2, (([(.ofNat 0, .ofNat 0), (.ofNat 0, .ofNat 40)], [], [], []), [(2, 93, .ofNat 0), (2, 7, .ofNat 0), (1, 1, .ofNat 0)], []), [(0, 0, .ofNat 0), (0, 1, .ofNat 41)])]
theorem ck_14 : cChk [ct_4] [] ct_14 cu_14 2000 2 = true := by decide +kernel
theorem cs_14 {s : List Int32} (hm : cMan s) : cSound s ct_14 := cChk_ok (C := [ct_4]) (hCc (cs_4 hm) hC0) hG0 ck_14
/-- WidowDeeds.well -/
def ct_15 : CT := (118, 0, 5, (([(.ofNat 0, .ofNat 0), (.negSucc 2147483647, .ofNat 2147483647), (.negSucc 2147483647, .ofNat 2147483647)], [], [], []), [(2, 2, .ofNat 0), (1, 1, .ofNat 0), (1, 2, .ofNat 0)], []), [(([(.ofNat 0, .ofNat 0), (.negSucc 2147483647, .ofNat 2147483647), (.negSucc 2147483647, .ofNat 2147483647), (.negSucc 0, .ofNat 20)], [], [], []), [], [(1, 3, .ofNat 0)])], [(93, 6)])
def cu_15 : List CU := []
theorem ck_15 : cChk [ct_13, ct_14] [] ct_15 cu_15 2000 0 = true := by decide +kernel
theorem cs_15 {s : List Int32} (hm : cMan s) : cSound s ct_15 := cChk_ok (C := [ct_13, ct_14]) (hCc (cs_13 hm) (hCc (cs_14 hm) hC0)) hG0 ck_15
/-- WidowDeeds$Tape.append -/
def ct_16 : CT := (103, 0, 0, (([(.ofNat 0, .ofNat 0), (.negSucc 2147483647, .ofNat 2147483647)], [], [], []), [(2, 127, .ofNat 0), (1, 1, .ofNat 0), (0, 0, .ofNat 0)], []), [(([(.ofNat 0, .ofNat 0), (.negSucc 2147483647, .ofNat 2147483647)], [], [], []), [], [])], [(127, 1)])
def cu_16 : List CU := [(3, (([(.ofNat 0, .ofNat 0), (.negSucc 2147483647, .ofNat 2147483647), (.negSucc 999, .ofNat 24)], [], [], []), [(2, 127, .ofNat 0), (1, 1, .ofNat 0), (1, 2, .ofNat 0)], []), [(0, 0, .ofNat 0), (2, 1, .ofNat 2147484648)])]
theorem ck_16 : cChk [] [] ct_16 cu_16 2000 2 = true := by decide +kernel
theorem cs_16 {s : List Int32} (hm : cMan s) : cSound s ct_16 := cChk_ok (C := []) hC0 hG0 ck_16
/-- WidowDeeds.feed -/
def ct_17 : CT := (119, 0, 1, (([(.ofNat 0, .ofNat 0), (.negSucc 2147483647, .ofNat 2147483647), (.negSucc 2147483647, .ofNat 2147483647), (.negSucc 2147483647, .ofNat 2147483647), (.negSucc 2147483647, .ofNat 2147483647), (.negSucc 2147483647, .ofNat 2147483647)], [], [], []), [(2, 2, .ofNat 0), (1, 1, .ofNat 0), (1, 2, .ofNat 0), (1, 3, .ofNat 0), (1, 4, .ofNat 0), (1, 5, .ofNat 0)], []), [(([(.ofNat 0, .ofNat 0), (.negSucc 2147483647, .ofNat 2147483647), (.negSucc 2147483647, .ofNat 2147483647), (.negSucc 2147483647, .ofNat 2147483647), (.negSucc 2147483647, .ofNat 2147483647), (.negSucc 2147483647, .ofNat 2147483647), (.negSucc 0, .ofNat 200)], [], [], []), [], [(1, 6, .ofNat 0)])], [(127, 1)])
def cu_17 : List CU := []
theorem ck_17 : cChk [ct_16] [] ct_17 cu_17 2000 0 = true := by decide +kernel
theorem cs_17 {s : List Int32} (hm : cMan s) : cSound s ct_17 := cChk_ok (C := [ct_16]) (hCc (cs_16 hm) hC0) hG0 ck_17
/-- WidowDeeds.law -/
def ct_18 : CT := (120, 0, 61, (([(.ofNat 0, .ofNat 0), (.negSucc 2147483647, .ofNat 2147483647), (.negSucc 2147483647, .ofNat 2147483647)], [], [], []), [(2, 2, .ofNat 0), (1, 1, .ofNat 0), (1, 2, .ofNat 0), (0, 0, .ofNat 0)], []), [(([(.ofNat 0, .ofNat 0), (.negSucc 2147483647, .ofNat 2147483647), (.negSucc 2147483647, .ofNat 2147483647), (.negSucc 2147483647, .ofNat 2147483647)], [], [], []), [], [(1, 3, .ofNat 0)])], [(127, 1), (130, 1), (130, 2), (130, 3), (130, 4), (130, 5), (131, 1), (131, 5), (152, 1), (152, 5), (158, 1), (158, 5), (164, 1), (164, 5)])
def cu_18 : List CU := []
theorem ck_18 : cChk [cm_71] [] ct_18 cu_18 2000 0 = true := by decide +kernel
theorem cs_18 {s : List Int32} (hm : cMan s) : cSound s ct_18 := cChk_ok (C := [cm_71]) (hCc (cMan_71 hm) hC0) hG0 ck_18
/-- WidowDeeds.known -/
def ct_19 : CT := (121, 0, 2, (([(.ofNat 0, .ofNat 0), (.negSucc 2147483647, .ofNat 2147483647), (.negSucc 2147483647, .ofNat 2147483647)], [], [], []), [(2, 2, .ofNat 0), (1, 1, .ofNat 0), (1, 2, .ofNat 0), (0, 0, .ofNat 0)], []), [(([(.ofNat 0, .ofNat 0), (.negSucc 2147483647, .ofNat 2147483647), (.negSucc 2147483647, .ofNat 2147483647), (.negSucc 1, .ofNat 1000000)], [], [], []), [], [(1, 3, .ofNat 0)])], [])
def cu_19 : List CU := []
theorem ck_19 : cChk [] [] ct_19 cu_19 2000 0 = true := by decide +kernel
theorem cs_19 {s : List Int32} (hm : cMan s) : cSound s ct_19 := cChk_ok (C := []) hC0 hG0 ck_19
/-- java/util/Arrays.fill -/
def ct_20 : CT := (281, 0, 0, (([(.ofNat 0, .ofNat 0), (.ofNat 1000000, .ofNat 1000000)], [], [], []), [(2, 171, .ofNat 0), (1, 1, .ofNat 0), (0, 0, .ofNat 0), (0, 0, .ofNat 0)], []), [(([(.ofNat 0, .ofNat 0), (.ofNat 1000000, .ofNat 1000000)], [], [], []), [], [])], [])
def cu_20 : List CU := [(5, (([(.ofNat 0, .ofNat 0), (.ofNat 1000000, .ofNat 1000000), (.ofNat 0, .ofNat 10)], [], [], []), [(2, 171, .ofNat 0), (1, 1, .ofNat 0), (1, 2, .ofNat 0), (1, 0, .ofNat 10)], []), [(0, 0, .ofNat 0), (1, 2, .ofNat 1)])]
theorem ck_20 : cChk [] [] ct_20 cu_20 2000 2 = true := by decide +kernel
theorem cs_20 {s : List Int32} (hm : cMan s) : cSound s ct_20 := cChk_ok (C := []) hC0 hG0 ck_20
/-- WidowDeeds$Chain.face -/
def ct_21 : CT := (1, 0, 4, (([(.ofNat 0, .ofNat 0), (.ofNat 0, .ofNat 7), (.ofNat 0, .ofNat 999)], [], [], []), [(2, 170, .ofNat 0), (1, 1, .ofNat 0), (1, 2, .ofNat 0), (0, 0, .ofNat 0), (0, 0, .ofNat 0)], []), [(([(.ofNat 0, .ofNat 0), (.ofNat 0, .ofNat 7), (.ofNat 0, .ofNat 999)], [], [], []), [], [])], [(170, 4), (170, 5), (170, 6), (170, 7), (170, 8)])
def cu_21 : List CU := [(63, (([(.ofNat 0, .ofNat 0), (.ofNat 0, .ofNat 7), (.ofNat 0, .ofNat 999), (.ofNat 0, .ofNat 40), (.ofNat 0, .ofNat 9)], [], [], [(170, 4, (1, 1, .ofNat 0)), (170, 5, (1, 2, .ofNat 0)), (170, 6, (1, 4, .ofNat 0))]), [(2, 170, .ofNat 0), (1, 1, .ofNat 0), (1, 2, .ofNat 0), (1, 3, .ofNat 0), (0, 0, .ofNat 0)], []), [(0, 0, .ofNat 0), (1, 3, .ofNat 41)])]
theorem ck_21 : cChk [ct_20] [] ct_21 cu_21 2000 2 = true := by decide +kernel
theorem cs_21 {s : List Int32} (hm : cMan s) : cSound s ct_21 := cChk_ok (C := [ct_20]) (hCc (cs_20 hm) hC0) hG0 ck_21
/-- WidowDeeds.seen -/
def ct_22 : CT := (122, 0, 5, (([(.ofNat 0, .ofNat 0), (.negSucc 2147483647, .ofNat 2147483647), (.negSucc 2147483647, .ofNat 2147483647), (.negSucc 2147483647, .ofNat 2147483647), (.negSucc 2147483647, .ofNat 2147483647)], [], [], []), [(2, 2, .ofNat 0), (1, 1, .ofNat 0), (1, 2, .ofNat 0), (1, 3, .ofNat 0), (1, 4, .ofNat 0), (0, 0, .ofNat 0)], []), [(([(.ofNat 0, .ofNat 0), (.negSucc 2147483647, .ofNat 2147483647), (.negSucc 2147483647, .ofNat 2147483647), (.negSucc 2147483647, .ofNat 2147483647), (.negSucc 2147483647, .ofNat 2147483647), (.negSucc 0, .ofNat 1)], [], [], []), [], [(1, 5, .ofNat 0)])], [(170, 4), (170, 5), (170, 6), (170, 7), (170, 8)])
def cu_22 : List CU := []
theorem ck_22 : cChk [ct_21] [] ct_22 cu_22 2000 0 = true := by decide +kernel
theorem cs_22 {s : List Int32} (hm : cMan s) : cSound s ct_22 := cChk_ok (C := [ct_21]) (hCc (cs_21 hm) hC0) hG0 ck_22
/-- WidowDeeds$Chain.gatherFactsOfOne -/
def ct_23 : CT := (10, 0, 1, (([(.ofNat 0, .ofNat 0)], [], [], []), [(2, 170, .ofNat 0), (2, 10, .ofNat 0)], []), [(([(.ofNat 0, .ofNat 0)], [], [], []), [], [])], [])
def cu_23 : List CU := []
theorem ck_23 : cChk [] [] ct_23 cu_23 2000 0 = true := by decide +kernel
theorem cs_23 {s : List Int32} (hm : cMan s) : cSound s ct_23 := cChk_ok (C := []) hC0 hG0 ck_23
/-- WidowDeeds$Chain.gatherFacts -/
def ct_24 : CT := (9, 0, 2, (([(.ofNat 0, .ofNat 0), (.ofNat 0, .ofNat 39), (.ofNat 0, .ofNat 39)], [], [], []), [(2, 170, .ofNat 0), (1, 1, .ofNat 0), (1, 2, .ofNat 0), (0, 0, .ofNat 0), (0, 0, .ofNat 0), (0, 0, .ofNat 0)], []), [(([(.ofNat 0, .ofNat 0), (.ofNat 0, .ofNat 39), (.ofNat 0, .ofNat 39)], [], [], []), [], [])], [])
def cu_24 : List CU := [(38, (([(.ofNat 0, .ofNat 0), (.ofNat 0, .ofNat 39), (.ofNat 0, .ofNat 39), (.ofNat 0, .ofNat 1), (.ofNat 0, .ofNat 999)], [], [], [(170, 5, (1, 4, .ofNat 0))]), [(2, 170, .ofNat 0), (1, 1, .ofNat 0), (1, 2, .ofNat 0), (2, 10, .ofNat 0), (2, 10, .ofNat 0), (0, 0, .ofNat 0)], [(1, 3, .ofNat 0)]), [(0, 0, .ofNat 3)]), (76, (([(.ofNat 0, .ofNat 0), (.ofNat 0, .ofNat 39), (.ofNat 0, .ofNat 39), (.ofNat 0, .ofNat 1), (.ofNat 0, .ofNat 1), (.ofNat 0, .ofNat 999)], [], [], [(170, 5, (1, 5, .ofNat 0))]), [(2, 170, .ofNat 0), (1, 1, .ofNat 0), (1, 2, .ofNat 0), (2, 10, .ofNat 0), (2, 10, .ofNat 0), (1, 3, .ofNat 0)], [(1, 4, .ofNat 0), (1, 0, .ofNat 110), (2, 170, .ofNat 0)]), [(0, 0, .ofNat 2)]), (119, (([(.ofNat 0, .ofNat 0), (.ofNat 0, .ofNat 39), (.ofNat 0, .ofNat 39), (.ofNat 0, .ofNat 1), (.ofNat 0, .ofNat 999)], [], [], [(170, 5, (1, 4, .ofNat 0))]), [(2, 170, .ofNat 0), (1, 1, .ofNat 0), (1, 2, .ofNat 0), (2, 10, .ofNat 0), (2, 10, .ofNat 0), (1, 3, .ofNat 0)], [(1, 0, .ofNat 99), (2, 170, .ofNat 0)]), [(0, 0, .ofNat 1)]), (120, (([(.ofNat 0, .ofNat 0), (.ofNat 0, .ofNat 39), (.ofNat 0, .ofNat 39), (.ofNat 0, .ofNat 1), (.ofNat 0, .ofNat 1), (.ofNat 0, .ofNat 999)], [(4, 3, .ofNat 0)], [], [(170, 5, (1, 5, .ofNat 0))]), [(2, 170, .ofNat 0), (1, 1, .ofNat 0), (1, 2, .ofNat 0), (2, 10, .ofNat 0), (2, 10, .ofNat 0), (1, 3, .ofNat 0)], [(1, 4, .ofNat 0), (1, 0, .ofNat 99), (2, 170, .ofNat 0)]), [(0, 0, .ofNat 0)])]
theorem ck_24 : cChk [ct_23] [] ct_24 cu_24 2000 1 = true := by decide +kernel
theorem cs_24 {s : List Int32} (hm : cMan s) : cSound s ct_24 := cChk_ok (C := [ct_23]) (hCc (cs_23 hm) hC0) hG0 ck_24
/-- WidowDeeds$Law.reckon -/
def ct_25 : CT := (67, 0, 0, (([(.ofNat 0, .ofNat 0), (.negSucc 2147483647, .ofNat 2147483647), (.negSucc 2147483647, .ofNat 2147483647), (.negSucc 2147483647, .ofNat 2147483647)], [], [], []), [(1, 1, .ofNat 0), (1, 2, .ofNat 0), (1, 3, .ofNat 0)], []), [(([(.ofNat 0, .ofNat 0), (.negSucc 2147483647, .ofNat 2147483647), (.negSucc 2147483647, .ofNat 2147483647), (.negSucc 2147483647, .ofNat 2147483647), (.negSucc 2147483647, .ofNat 2147483647)], [], [], []), [], [(1, 4, .ofNat 0)])], [])
def cu_25 : List CU := []
theorem ck_25 : cChk [] [] ct_25 cu_25 2000 0 = true := by decide +kernel
theorem cs_25 {s : List Int32} (hm : cMan s) : cSound s ct_25 := cChk_ok (C := []) hC0 hG0 ck_25
/-- WidowDeeds$Law.run -/
def ct_26 : CT := (66, 0, 1, (([(.ofNat 0, .ofNat 0), (.ofNat 0, .ofNat 160)], [], [], []), [(2, 152, .ofNat 0), (1, 1, .ofNat 0), (2, 172, .ofNat 0), (0, 0, .ofNat 0), (0, 0, .ofNat 0), (0, 0, .ofNat 0), (0, 0, .ofNat 0), (0, 0, .ofNat 0)], []), [(([(.ofNat 0, .ofNat 0), (.ofNat 0, .ofNat 160), (.negSucc 2147483647, .ofNat 2147483647)], [], [], []), [], [(1, 2, .ofNat 0)])], [(152, 7)])
def cu_26 : List CU := [(7, (([(.ofNat 0, .ofNat 0), (.ofNat 0, .ofNat 160), (.ofNat 0, .ofNat 1048575), (.ofNat 0, .ofNat 40)], [(3, 2, .ofNat 0), (1, 2, .ofNat 0)], [], [(152, 7, (1, 3, .ofNat 0))]), [(2, 152, .ofNat 0), (1, 1, .ofNat 0), (2, 172, .ofNat 0), (1, 2, .ofNat 0), (0, 0, .ofNat 0), (0, 0, .ofNat 0), (0, 0, .ofNat 0), (0, 0, .ofNat 0)], []), [(0, 0, .ofNat 0), (1, 2, .ofNat 1048576)])]
theorem ck_26 : cChk [ct_25] [] ct_26 cu_26 2000 2 = true := by decide +kernel
theorem cs_26 {s : List Int32} (hm : cMan s) : cSound s ct_26 := cChk_ok (C := [ct_25]) (hCc (cs_25 hm) hC0) hG0 ck_26
/-- WidowDeeds$Law.grants -/
def ct_27 : CT := (64, 0, 2, (([(.ofNat 0, .ofNat 0), (.ofNat 98, .ofNat 159)], [], [], []), [(2, 152, .ofNat 0), (1, 1, .ofNat 0), (2, 172, .ofNat 0), (0, 0, .ofNat 0)], []), [(([(.ofNat 0, .ofNat 0), (.ofNat 98, .ofNat 159), (.ofNat 0, .ofNat 1)], [], [], []), [], [(1, 2, .ofNat 0)])], [(152, 7)])
def cu_27 : List CU := [(2, (([(.ofNat 0, .ofNat 0), (.ofNat 98, .ofNat 159), (.ofNat 0, .ofNat 12)], [], [], []), [(2, 152, .ofNat 0), (1, 1, .ofNat 0), (2, 172, .ofNat 0), (1, 2, .ofNat 0)], []), [(0, 0, .ofNat 0), (1, 2, .ofNat 1)])]
theorem ck_27 : cChk [ct_26] [] ct_27 cu_27 2000 2 = true := by decide +kernel
theorem cs_27 {s : List Int32} (hm : cMan s) : cSound s ct_27 := cChk_ok (C := [ct_26]) (hCc (cs_26 hm) hC0) hG0 ck_27
/-- WidowDeeds$Law.run -/
def ct_28 : CT := (66, 0, 1, (([(.ofNat 0, .ofNat 0), (.ofNat 0, .ofNat 160)], [], [], []), [(2, 158, .ofNat 0), (1, 1, .ofNat 0), (2, 172, .ofNat 0), (0, 0, .ofNat 0), (0, 0, .ofNat 0), (0, 0, .ofNat 0), (0, 0, .ofNat 0), (0, 0, .ofNat 0)], []), [(([(.ofNat 0, .ofNat 0), (.ofNat 0, .ofNat 160), (.negSucc 2147483647, .ofNat 2147483647)], [], [], []), [], [(1, 2, .ofNat 0)])], [(158, 7)])
def cu_28 : List CU := [(7, (([(.ofNat 0, .ofNat 0), (.ofNat 0, .ofNat 160), (.ofNat 0, .ofNat 1048575), (.ofNat 0, .ofNat 40)], [(3, 2, .ofNat 0), (1, 2, .ofNat 0)], [], [(158, 7, (1, 3, .ofNat 0))]), [(2, 158, .ofNat 0), (1, 1, .ofNat 0), (2, 172, .ofNat 0), (1, 2, .ofNat 0), (0, 0, .ofNat 0), (0, 0, .ofNat 0), (0, 0, .ofNat 0), (0, 0, .ofNat 0)], []), [(0, 0, .ofNat 0), (1, 2, .ofNat 1048576)])]
theorem ck_28 : cChk [ct_25] [] ct_28 cu_28 2000 2 = true := by decide +kernel
theorem cs_28 {s : List Int32} (hm : cMan s) : cSound s ct_28 := cChk_ok (C := [ct_25]) (hCc (cs_25 hm) hC0) hG0 ck_28
/-- WidowDeeds$Law.grants -/
def ct_29 : CT := (64, 0, 2, (([(.ofNat 0, .ofNat 0), (.ofNat 98, .ofNat 159)], [], [], []), [(2, 158, .ofNat 0), (1, 1, .ofNat 0), (2, 172, .ofNat 0), (0, 0, .ofNat 0)], []), [(([(.ofNat 0, .ofNat 0), (.ofNat 98, .ofNat 159), (.ofNat 0, .ofNat 1)], [], [], []), [], [(1, 2, .ofNat 0)])], [(158, 7)])
def cu_29 : List CU := [(2, (([(.ofNat 0, .ofNat 0), (.ofNat 98, .ofNat 159), (.ofNat 0, .ofNat 12)], [], [], []), [(2, 158, .ofNat 0), (1, 1, .ofNat 0), (2, 172, .ofNat 0), (1, 2, .ofNat 0)], []), [(0, 0, .ofNat 0), (1, 2, .ofNat 1)])]
theorem ck_29 : cChk [ct_28] [] ct_29 cu_29 2000 2 = true := by decide +kernel
theorem cs_29 {s : List Int32} (hm : cMan s) : cSound s ct_29 := cChk_ok (C := [ct_28]) (hCc (cs_28 hm) hC0) hG0 ck_29
