/-! the tables are as the code has them -/
theorem bo_X9_item : bi_oksB bt_M bt_P 171 ((yX9_item, cX9_item, 5, (some .int), RX9, 6, 90, [])) bt_X9_item [([[], [2097], [], [3237, 1006, 3234, 3235, 3236], [], []], []), ([[]], []), ([[], [], [4083, 1014, 4080, 4081, 4082]], []), ([[]], []), ([[], []], []), ([], []), ([[], [3107], [], [], [], [], [], []], [])] = true := by decide +kernel
theorem bm_X9_item : ∀ b k, bt_P 171 b = some k → bi_okk bt_M bt_P 171 ((yX9_item, cX9_item, 5, (some .int), RX9, 6, 90, [])) k := fun b k h => bi_oksB_ok _ _ bo_X9_item k (List.mem_of_getElem? (show bt_X9_item[b]? = some k from h))
theorem bo_X9_leave : bi_oksB bt_M bt_P 172 ((yX9_leave, cX9_leave, 4, (some .int), RX9, 6, 125, [])) bt_X9_leave [([[], [], [2137, 1001, 2134, 2136, 0], [], [], [], [2151, 1001, 2149, 2150], [], []], []), ([[]], []), ([[], [2014], [3011, 1008, 3008, 3009, 3010]], []), ([[], [2026], []], []), ([[]], []), ([[], [], [3015, 1001, 3012, 3014, 6]], []), ([[]], []), ([[], [2012], [2188, 1003, 2209, 2186, 2187]], []), ([[]], []), ([[], [], [2022], [], [], [2036], [], [2014], [3031, 1008, 3040, 3029, 3030]], [])] = true := by decide +kernel
theorem bm_X9_leave : ∀ b k, bt_P 172 b = some k → bi_okk bt_M bt_P 172 ((yX9_leave, cX9_leave, 4, (some .int), RX9, 6, 125, [])) k := fun b k h => bi_oksB_ok _ _ bo_X9_leave k (List.mem_of_getElem? (show bt_X9_leave[b]? = some k from h))
theorem bo_X9_lost : bi_oksB bt_M bt_P 173 ((yX9_lost, cX9_lost, 5, (some .int), RX9, 6, 90, [])) bt_X9_lost [([[], [], [2137, 1001, 2134, 2136, 0], [], []], []), ([[]], []), ([[], [], [2020], [1239]], []), ([[]], []), ([[], []], []), ([], []), ([[], [2096], [], [2020], [1237], [], [], [], [4075, 1004, 4072, 4073, 4074]], [])] = true := by decide +kernel
theorem bm_X9_lost : ∀ b k, bt_P 173 b = some k → bi_okk bt_M bt_P 173 ((yX9_lost, cX9_lost, 5, (some .int), RX9, 6, 90, [])) k := fun b k h => bi_oksB_ok _ _ bo_X9_lost k (List.mem_of_getElem? (show bt_X9_lost[b]? = some k from h))
theorem bo_X9_message : bi_oksB bt_M bt_P 174 ((yX9_message, cX9_message, 4, (some .int), RX9, 2, 41, [])) bt_X9_message [([[], [2097], [], [3237, 1006, 3234, 3235, 3236], [], []], []), ([[]], []), ([[]], []), ([[], [3088]], []), ([[], [3090]], []), ([[], [3092]], []), ([[], [3096]], []), ([[], [3100]], []), ([[], [3102]], []), ([[], [3103]], []), ([[], [4083, 1014, 4080, 4081, 4082]], []), ([[]], [])] = true := by decide +kernel
theorem bm_X9_message : ∀ b k, bt_P 174 b = some k → bi_okk bt_M bt_P 174 ((yX9_message, cX9_message, 4, (some .int), RX9, 2, 41, [])) k := fun b k h => bi_oksB_ok _ _ bo_X9_message k (List.mem_of_getElem? (show bt_X9_message[b]? = some k from h))
theorem bo_X9_nextEpoch : bi_oksB bt_M bt_P 175 ((yX9_nextEpoch, cX9_nextEpoch, 2, (some .int), RX9, 2, 42, [])) bt_X9_nextEpoch [([[], [], [], [], [], [], [], [], [], [3062, 1002, 3060, 3061], []], [])] = true := by decide +kernel
theorem bm_X9_nextEpoch : ∀ b k, bt_P 175 b = some k → bi_okk bt_M bt_P 175 ((yX9_nextEpoch, cX9_nextEpoch, 2, (some .int), RX9, 2, 42, [])) k := fun b k h => bi_oksB_ok _ _ bo_X9_nextEpoch k (List.mem_of_getElem? (show bt_X9_nextEpoch[b]? = some k from h))
theorem bo_X9_old : bi_oksB bt_M bt_P 176 ((yX9_old, cX9_old, 6, (some .int), RX9, 6, 90, [])) bt_X9_old [([[], [], [2137, 1001, 2134, 2136, 0], [], []], []), ([[], [2014], [], [4133, 1008, 4130, 4131, 4132]], []), ([[], [2014], [], [], [2141, 1008, 2138, 2139, 2140]], []), ([], []), ([[], [2012], [1045]], []), ([], []), ([[], [2014], [], [], [], [2144, 1001, 2142, 2143], [5021, 1008, 5018, 5019, 5020]], [])] = true := by decide +kernel
theorem bm_X9_old : ∀ b k, bt_P 176 b = some k → bi_okk bt_M bt_P 176 ((yX9_old, cX9_old, 6, (some .int), RX9, 6, 90, [])) k := fun b k h => bi_oksB_ok _ _ bo_X9_old k (List.mem_of_getElem? (show bt_X9_old[b]? = some k from h))
theorem bo_X9_onAccept : bi_oksB bt_M bt_P 177 ((yX9_onAccept, cX9_onAccept, 3, none, RX9, 5, 117, [])) bt_X9_onAccept [([[], [], [], [4063, 1007, 4060, 4061, 4062]], []), ([], []), ([[], [], [2041], [], [], [3102], [2043], [], [], [3102], [2045], [], [], [2047], [], [], [4067, 1001, 4064, 4066, 23]], [])] = true := by decide +kernel
theorem bm_X9_onAccept : ∀ b k, bt_P 177 b = some k → bi_okk bt_M bt_P 177 ((yX9_onAccept, cX9_onAccept, 3, none, RX9, 5, 117, [])) k := fun b k h => bi_oksB_ok _ _ bo_X9_onAccept k (List.mem_of_getElem? (show bt_X9_onAccept[b]? = some k from h))
theorem bo_X9_onAck : bi_oksB bt_M bt_P 178 ((yX9_onAck, cX9_onAck, 3, none, RX9, 5, 117, [])) bt_X9_onAck [([[], [], [], [4063, 1007, 4060, 4061, 4062]], []), ([[], [3102], [], [2043]], []), ([], []), ([[], [], [3102], [2043], [], [], [2045], [], [3102], [1033, 1002, 1031, 1032], [2045], [], [], [2047], [], [], [4067, 1001, 4064, 4066, 23]], [])] = true := by decide +kernel
theorem bm_X9_onAck : ∀ b k, bt_P 178 b = some k → bi_okk bt_M bt_P 178 ((yX9_onAck, cX9_onAck, 3, none, RX9, 5, 117, [])) k := fun b k h => bi_oksB_ok _ _ bo_X9_onAck k (List.mem_of_getElem? (show bt_X9_onAck[b]? = some k from h))
theorem bo_X9_onCommon : bi_oksB bt_M bt_P 179 ((yX9_onCommon, cX9_onCommon, 4, none, RX9, 4, 94, [])) bt_X9_onCommon [([[], [2014], [], [3100], [3166, 1008, 4100, 3164, 3165], [], [], [2022], []], []), ([[], [2048]], []), ([[], [3100]], []), ([[]], []), ([[], [2012], [2188, 1003, 2209, 2186, 2187]], []), ([], []), ([[], [2096], [], [2020], [], [2014], [1150], [], [2014], [], [3100], [3170, 1008, 3167, 3168, 3169], [3175, 1004, 3172, 3173, 3174], [], [2014], [], [4116, 1008, 4113, 4114, 4115], [], [], [2022], [], [4017, 1007, 4117, 4015, 4016], [], [], [2048], [], [], [2092], [3023, 1007, 3020, 3021, 3022]], [])] = true := by decide +kernel
theorem bm_X9_onCommon : ∀ b k, bt_P 179 b = some k → bi_okk bt_M bt_P 179 ((yX9_onCommon, cX9_onCommon, 4, none, RX9, 4, 94, [])) k := fun b k h => bi_oksB_ok _ _ bo_X9_onCommon k (List.mem_of_getElem? (show bt_X9_onCommon[b]? = some k from h))
theorem bo_X9_onData_0 : bi_okkB bt_M bt_P 180 ((yX9_onData, cX9_onData, 4, none, RX9, 5, 117, [])) (bt_X9_onData.getD 0 bi_kd) [[], [2016], [], [], [2022]] [] = true := by decide +kernel
theorem bo_X9_onData_1 : bi_okkB bt_M bt_P 180 ((yX9_onData, cX9_onData, 4, none, RX9, 5, 117, [])) (bt_X9_onData.getD 1 bi_kd) [[], [], [3096], [], [3100], [4027, 1009, 4024, 4025, 4026]] [] = true := by decide +kernel
theorem bo_X9_onData_2 : bi_okkB bt_M bt_P 180 ((yX9_onData, cX9_onData, 4, none, RX9, 5, 117, [])) (bt_X9_onData.getD 2 bi_kd) [] [] = true := by decide +kernel
theorem bo_X9_onData_3 : bi_okkB bt_M bt_P 180 ((yX9_onData, cX9_onData, 4, none, RX9, 5, 117, [])) (bt_X9_onData.getD 3 bi_kd) [[], [3102], [], [1206]] [] = true := by decide +kernel
theorem bo_X9_onData_4 : bi_okkB bt_M bt_P 180 ((yX9_onData, cX9_onData, 4, none, RX9, 5, 117, [])) (bt_X9_onData.getD 4 bi_kd) [[], [4036, 1009, 4033, 4034, 4035]] [] = true := by decide +kernel
theorem bo_X9_onData_5 : bi_okkB bt_M bt_P 180 ((yX9_onData, cX9_onData, 4, none, RX9, 5, 117, [])) (bt_X9_onData.getD 5 bi_kd) [[], [], [], [4055, 1001, 4052, 4054, 21]] [] = true := by decide +kernel
theorem bo_X9_onData_6 : bi_okkB bt_M bt_P 180 ((yX9_onData, cX9_onData, 4, none, RX9, 5, 117, [])) (bt_X9_onData.getD 6 bi_kd) [[], [3102], [], [1206]] [] = true := by decide +kernel
theorem bo_X9_onData_7 : bi_okkB bt_M bt_P 180 ((yX9_onData, cX9_onData, 4, none, RX9, 5, 117, [])) (bt_X9_onData.getD 7 bi_kd) [] [] = true := by decide +kernel
theorem bo_X9_onData_8 : bi_okkB bt_M bt_P 180 ((yX9_onData, cX9_onData, 4, none, RX9, 5, 117, [])) (bt_X9_onData.getD 8 bi_kd) [[], [], [2012], [2218, 1001, 2215, 2217, 5], [], [4083, 1014, 4080, 4081, 4082]] [] = true := by decide +kernel
theorem bo_X9_onData_9 : bi_okkB bt_M bt_P 180 ((yX9_onData, cX9_onData, 4, none, RX9, 5, 117, [])) (bt_X9_onData.getD 9 bi_kd) [[], [], [1210], [], [], [1210]] [] = true := by decide +kernel
theorem bo_X9_onData_10 : bi_okkB bt_M bt_P 180 ((yX9_onData, cX9_onData, 4, none, RX9, 5, 117, [])) (bt_X9_onData.getD 10 bi_kd) [[], [2012], [2188, 1003, 2209, 2186, 2187]] [] = true := by decide +kernel
theorem bo_X9_onData_11 : bi_okkB bt_M bt_P 180 ((yX9_onData, cX9_onData, 4, none, RX9, 5, 117, [])) (bt_X9_onData.getD 11 bi_kd) [] [] = true := by decide +kernel
theorem bo_X9_onData_12 : bi_okkB bt_M bt_P 180 ((yX9_onData, cX9_onData, 4, none, RX9, 5, 117, [])) (bt_X9_onData.getD 12 bi_kd) [[], [], [4083, 1014, 4080, 4081, 4082], [4087, 1009, 4084, 4085, 4086], [], [4036, 1009, 4033, 4034, 4035]] [] = true := by decide +kernel
theorem bo_X9_onData_13 : bi_okkB bt_M bt_P 180 ((yX9_onData, cX9_onData, 4, none, RX9, 5, 117, [])) (bt_X9_onData.getD 13 bi_kd) [[], [], [4040, 1001, 4037, 4039, 19]] [] = true := by decide +kernel
theorem bo_X9_onData_14 : bi_okkB bt_M bt_P 180 ((yX9_onData, cX9_onData, 4, none, RX9, 5, 117, [])) (bt_X9_onData.getD 14 bi_kd) [[], [], [], [4055, 1001, 4052, 4054, 21]] [] = true := by decide +kernel
theorem bo_X9_onData_15 : bi_okkB bt_M bt_P 180 ((yX9_onData, cX9_onData, 4, none, RX9, 5, 117, [])) (bt_X9_onData.getD 15 bi_kd) [] [] = true := by decide +kernel
theorem bm_X9_onData : ∀ b k, bt_P 180 b = some k → bi_okk bt_M bt_P 180 ((yX9_onData, cX9_onData, 4, none, RX9, 5, 117, [])) k := fun b k h => bi_allk (show bt_X9_onData[b]? = some k from h) (fun b hb => match b, hb with
  | 0, _ => bi_okkB_ok bo_X9_onData_0
  | 1, _ => bi_okkB_ok bo_X9_onData_1
  | 2, _ => bi_okkB_ok bo_X9_onData_2
  | 3, _ => bi_okkB_ok bo_X9_onData_3
  | 4, _ => bi_okkB_ok bo_X9_onData_4
  | 5, _ => bi_okkB_ok bo_X9_onData_5
  | 6, _ => bi_okkB_ok bo_X9_onData_6
  | 7, _ => bi_okkB_ok bo_X9_onData_7
  | 8, _ => bi_okkB_ok bo_X9_onData_8
  | 9, _ => bi_okkB_ok bo_X9_onData_9
  | 10, _ => bi_okkB_ok bo_X9_onData_10
  | 11, _ => bi_okkB_ok bo_X9_onData_11
  | 12, _ => bi_okkB_ok bo_X9_onData_12
  | 13, _ => bi_okkB_ok bo_X9_onData_13
  | 14, _ => bi_okkB_ok bo_X9_onData_14
  | 15, _ => bi_okkB_ok bo_X9_onData_15
  | b + 16, hb => absurd hb (by show ¬ b + 16 < 16; omega))
theorem bo_X9_onGive : bi_oksB bt_M bt_P 181 ((yX9_onGive, cX9_onGive, 3, none, RX9, 5, 115, [])) bt_X9_onGive [([[], [2022]], []), ([[], [3100], [], [2014], [3031, 1008, 3040, 3029, 3030]], []), ([[], [2012], [2188, 1003, 2209, 2186, 2187]], []), ([], []), ([[], [], [3100], [2029], [], [], [3100], [2039], [], [], [2031], [], [], [], [3056, 1007, 3053, 3054, 3055], [], [], [3102], [], [2092], [3066, 1007, 3063, 3064, 3065], [], [], [], [], [4009, 1001, 4006, 4008, 17]], [])] = true := by decide +kernel
theorem bm_X9_onGive : ∀ b k, bt_P 181 b = some k → bi_okk bt_M bt_P 181 ((yX9_onGive, cX9_onGive, 3, none, RX9, 5, 115, [])) k := fun b k h => bi_oksB_ok _ _ bo_X9_onGive k (List.mem_of_getElem? (show bt_X9_onGive[b]? = some k from h))
theorem bo_X9_onHave : bi_oksB bt_M bt_P 182 ((yX9_onHave, cX9_onHave, 3, none, RX9, 4, 93, [])) bt_X9_onHave [([[], [3146, 1007, 3143, 3144, 3145]], []), ([[], [2031]], []), ([[], [2031], [], [3100]], []), ([[], [2012], [2188, 1003, 2209, 2186, 2187]], []), ([], []), ([[], [], [3100], [2029], [], [], [3100], [2039], [], [], [2031], [], [], [2041], [], [], [2047], [], [], [2092], [3023, 1007, 3020, 3021, 3022]], [])] = true := by decide +kernel
theorem bm_X9_onHave : ∀ b k, bt_P 182 b = some k → bi_okk bt_M bt_P 182 ((yX9_onHave, cX9_onHave, 3, none, RX9, 4, 93, [])) k := fun b k h => bi_oksB_ok _ _ bo_X9_onHave k (List.mem_of_getElem? (show bt_X9_onHave[b]? = some k from h))
theorem bo_X9_onHello_0 : bi_okkB bt_M bt_P 183 ((yX9_onHello, cX9_onHello, 5, none, RX9, 4, 93, [])) (bt_X9_onHello.getD 0 bi_kd) [[], [2022], []] [] = true := by decide +kernel
theorem bo_X9_onHello_1 : bi_okkB bt_M bt_P 183 ((yX9_onHello, cX9_onHello, 5, none, RX9, 4, 93, [])) (bt_X9_onHello.getD 1 bi_kd) [[], [2029], [], [], [2025], []] [] = true := by decide +kernel
theorem bo_X9_onHello_2 : bi_okkB bt_M bt_P 183 ((yX9_onHello, cX9_onHello, 5, none, RX9, 4, 93, [])) (bt_X9_onHello.getD 2 bi_kd) [] [] = true := by decide +kernel
theorem bo_X9_onHello_3 : bi_okkB bt_M bt_P 183 ((yX9_onHello, cX9_onHello, 5, none, RX9, 4, 93, [])) (bt_X9_onHello.getD 3 bi_kd) [[], [], [], []] [] = true := by decide +kernel
theorem bo_X9_onHello_4 : bi_okkB bt_M bt_P 183 ((yX9_onHello, cX9_onHello, 5, none, RX9, 4, 93, [])) (bt_X9_onHello.getD 4 bi_kd) [[], [], [4083, 1014, 4080, 4081, 4082]] [] = true := by decide +kernel
theorem bo_X9_onHello_5 : bi_okkB bt_M bt_P 183 ((yX9_onHello, cX9_onHello, 5, none, RX9, 4, 93, [])) (bt_X9_onHello.getD 5 bi_kd) [[]] [] = true := by decide +kernel
theorem bo_X9_onHello_6 : bi_okkB bt_M bt_P 183 ((yX9_onHello, cX9_onHello, 5, none, RX9, 4, 93, [])) (bt_X9_onHello.getD 6 bi_kd) [[], [2014], [], [3107], [], [], [], [], [3166, 1008, 4100, 3164, 3165]] [] = true := by decide +kernel
theorem bo_X9_onHello_7 : bi_okkB bt_M bt_P 183 ((yX9_onHello, cX9_onHello, 5, none, RX9, 4, 93, [])) (bt_X9_onHello.getD 7 bi_kd) [[], [3107], [], [], [], [], []] [] = true := by decide +kernel
theorem bo_X9_onHello_8 : bi_okkB bt_M bt_P 183 ((yX9_onHello, cX9_onHello, 5, none, RX9, 4, 93, [])) (bt_X9_onHello.getD 8 bi_kd) [[]] [] = true := by decide +kernel
theorem bo_X9_onHello_9 : bi_okkB bt_M bt_P 183 ((yX9_onHello, cX9_onHello, 5, none, RX9, 4, 93, [])) (bt_X9_onHello.getD 9 bi_kd) [[], [2012], [2188, 1003, 2209, 2186, 2187]] [] = true := by decide +kernel
theorem bo_X9_onHello_10 : bi_okkB bt_M bt_P 183 ((yX9_onHello, cX9_onHello, 5, none, RX9, 4, 93, [])) (bt_X9_onHello.getD 10 bi_kd) [] [] = true := by decide +kernel
theorem bo_X9_onHello_11 : bi_okkB bt_M bt_P 183 ((yX9_onHello, cX9_onHello, 5, none, RX9, 4, 93, [])) (bt_X9_onHello.getD 11 bi_kd) [[], [], [2029], [], [], [], [3056, 1007, 3053, 3054, 3055], [], [2031], []] [] = true := by decide +kernel
theorem bo_X9_onHello_12 : bi_okkB bt_M bt_P 183 ((yX9_onHello, cX9_onHello, 5, none, RX9, 4, 93, [])) (bt_X9_onHello.getD 12 bi_kd) [[], [], [2031]] [] = true := by decide +kernel
theorem bo_X9_onHello_13 : bi_okkB bt_M bt_P 183 ((yX9_onHello, cX9_onHello, 5, none, RX9, 4, 93, [])) (bt_X9_onHello.getD 13 bi_kd) [[], [], [2039], [], [], [2041], [], [], [2047], [], [], [2092], [3023, 1007, 3020, 3021, 3022], [], [], [], [], [4009, 1001, 4006, 4008, 17]] [] = true := by decide +kernel
theorem bm_X9_onHello : ∀ b k, bt_P 183 b = some k → bi_okk bt_M bt_P 183 ((yX9_onHello, cX9_onHello, 5, none, RX9, 4, 93, [])) k := fun b k h => bi_allk (show bt_X9_onHello[b]? = some k from h) (fun b hb => match b, hb with
  | 0, _ => bi_okkB_ok bo_X9_onHello_0
  | 1, _ => bi_okkB_ok bo_X9_onHello_1
  | 2, _ => bi_okkB_ok bo_X9_onHello_2
  | 3, _ => bi_okkB_ok bo_X9_onHello_3
  | 4, _ => bi_okkB_ok bo_X9_onHello_4
  | 5, _ => bi_okkB_ok bo_X9_onHello_5
  | 6, _ => bi_okkB_ok bo_X9_onHello_6
  | 7, _ => bi_okkB_ok bo_X9_onHello_7
  | 8, _ => bi_okkB_ok bo_X9_onHello_8
  | 9, _ => bi_okkB_ok bo_X9_onHello_9
  | 10, _ => bi_okkB_ok bo_X9_onHello_10
  | 11, _ => bi_okkB_ok bo_X9_onHello_11
  | 12, _ => bi_okkB_ok bo_X9_onHello_12
  | 13, _ => bi_okkB_ok bo_X9_onHello_13
  | b + 14, hb => absurd hb (by show ¬ b + 14 < 14; omega))
theorem bo_X9_onLack : bi_oksB bt_M bt_P 184 ((yX9_onLack, cX9_onLack, 3, none, RX9, 5, 117, [])) bt_X9_onLack [([[], [3146, 1007, 3143, 3144, 3145]], []), ([[], [2031]], []), ([[], [2041]], []), ([], []), ([[], [], [3100], [], [2031]], []), ([[], [2014], [], [3100], [3166, 1008, 4100, 3164, 3165]], []), ([[], [3100]], []), ([[]], []), ([[2039], [], [], [3158, 1001, 3155, 3157, 11]], [])] = true := by decide +kernel
theorem bm_X9_onLack : ∀ b k, bt_P 184 b = some k → bi_okk bt_M bt_P 184 ((yX9_onLack, cX9_onLack, 3, none, RX9, 5, 117, [])) k := fun b k h => bi_oksB_ok _ _ bo_X9_onLack k (List.mem_of_getElem? (show bt_X9_onLack[b]? = some k from h))
theorem bo_X9_onOffer_0 : bi_okkB bt_M bt_P 185 ((yX9_onOffer, cX9_onOffer, 4, none, RX9, 5, 117, [])) (bt_X9_onOffer.getD 0 bi_kd) [[], [2014], [3031, 1008, 3040, 3029, 3030], [], [], [2022]] [] = true := by decide +kernel
theorem bo_X9_onOffer_1 : bi_okkB bt_M bt_P 185 ((yX9_onOffer, cX9_onOffer, 4, none, RX9, 5, 117, [])) (bt_X9_onOffer.getD 1 bi_kd) [[], [3100], []] [] = true := by decide +kernel
theorem bo_X9_onOffer_2 : bi_okkB bt_M bt_P 185 ((yX9_onOffer, cX9_onOffer, 4, none, RX9, 5, 117, [])) (bt_X9_onOffer.getD 2 bi_kd) [] [] = true := by decide +kernel
theorem bo_X9_onOffer_3 : bi_okkB bt_M bt_P 185 ((yX9_onOffer, cX9_onOffer, 4, none, RX9, 5, 117, [])) (bt_X9_onOffer.getD 3 bi_kd) [[], [3100], []] [] = true := by decide +kernel
theorem bo_X9_onOffer_4 : bi_okkB bt_M bt_P 185 ((yX9_onOffer, cX9_onOffer, 4, none, RX9, 5, 117, [])) (bt_X9_onOffer.getD 4 bi_kd) [[], [], [], [], [3100], [4009, 1001, 4006, 4008, 17]] [] = true := by decide +kernel
theorem bo_X9_onOffer_5 : bi_okkB bt_M bt_P 185 ((yX9_onOffer, cX9_onOffer, 4, none, RX9, 5, 117, [])) (bt_X9_onOffer.getD 5 bi_kd) [[], [3096]] [] = true := by decide +kernel
theorem bo_X9_onOffer_6 : bi_okkB bt_M bt_P 185 ((yX9_onOffer, cX9_onOffer, 4, none, RX9, 5, 117, [])) (bt_X9_onOffer.getD 6 bi_kd) [[], [3096], []] [] = true := by decide +kernel
theorem bo_X9_onOffer_7 : bi_okkB bt_M bt_P 185 ((yX9_onOffer, cX9_onOffer, 4, none, RX9, 5, 117, [])) (bt_X9_onOffer.getD 7 bi_kd) [[], [], [], [], [4009, 1001, 4006, 4008, 17]] [] = true := by decide +kernel
theorem bo_X9_onOffer_8 : bi_okkB bt_M bt_P 185 ((yX9_onOffer, cX9_onOffer, 4, none, RX9, 5, 117, [])) (bt_X9_onOffer.getD 8 bi_kd) [[], [2016], [], [3096], [], [3100], [4027, 1009, 4024, 4025, 4026]] [] = true := by decide +kernel
theorem bo_X9_onOffer_9 : bi_okkB bt_M bt_P 185 ((yX9_onOffer, cX9_onOffer, 4, none, RX9, 5, 117, [])) (bt_X9_onOffer.getD 9 bi_kd) [[], [2012], [2188, 1003, 2209, 2186, 2187]] [] = true := by decide +kernel
theorem bo_X9_onOffer_10 : bi_okkB bt_M bt_P 185 ((yX9_onOffer, cX9_onOffer, 4, none, RX9, 5, 117, [])) (bt_X9_onOffer.getD 10 bi_kd) [] [] = true := by decide +kernel
