/-! the tables are as the code has them -/
theorem bo_X9_init : bi_oksB bt_M bt_P 171 ((yX9_init, cX9_init, 4, none, RX9, 3, 62, [])) bt_X9_init [([[], [1027, 1028, 1029], [], [], [], [], [1032, 1002, 1030, 1031], [1035, 1002, 1033, 1034], [1136], [], [], [], [], [1032, 1002, 1030, 1031], [1035, 1002, 1033, 1034], [1137], [], [], [], [], [1032, 1002, 1030, 1031], [1035, 1002, 1033, 1034], [1138], [], [], [1036, 1037], [1139], [], [1139], [], [1036, 1038, 1003], [], [], [1041, 1003, 1039, 1040], [], [], [1139], [], [1036, 1038, 1003], [], [], [1041, 1003, 1039, 1040], [], [], [], [1060, 1061], [1140], [], [1062, 1063, 1004], [], [1066, 1004, 1064, 1065], [1141], [], [1112, 1113, 1006], [], [1116, 1006, 1114, 1115], [1142]], [])] = true := by decide +kernel
theorem bm_X9_init : ∀ b k, bt_P 171 b = some k → bi_okk bt_M bt_P 171 ((yX9_init, cX9_init, 4, none, RX9, 3, 62, [])) k := fun b k h => bi_oksB_ok _ _ bo_X9_init k (List.mem_of_getElem? (show bt_X9_init[b]? = some k from h))
theorem bo_X9_item : bi_oksB bt_M bt_P 172 ((yX9_item, cX9_item, 5, (some .int), RX9, 6, 90, [])) bt_X9_item [([[], [1142], [], [4013, 1006, 4010, 4011, 4012], [], []], []), ([[]], []), ([[], [], [4099, 1016, 4096, 4097, 4098]], []), ([[]], []), ([[], []], []), ([], []), ([[], [3121], [], [], [], [], [], []], [])] = true := by decide +kernel
theorem bm_X9_item : ∀ b k, bt_P 172 b = some k → bi_okk bt_M bt_P 172 ((yX9_item, cX9_item, 5, (some .int), RX9, 6, 90, [])) k := fun b k h => bi_oksB_ok _ _ bo_X9_item k (List.mem_of_getElem? (show bt_X9_item[b]? = some k from h))
theorem bo_X9_leave : bi_oksB bt_M bt_P 173 ((yX9_leave, cX9_leave, 4, (some .int), RX9, 6, 125, [])) bt_X9_leave [([[], [], [2132, 1001, 2129, 2131, 0], [], [], [], [2146, 1001, 2144, 2145], [], []], []), ([[]], []), ([[], [2048], [3025, 1010, 3022, 3023, 3024]], []), ([[], [2060], []], []), ([[]], []), ([[], [], [3029, 1001, 3026, 3028, 7]], []), ([[]], []), ([[], [2046], [2183, 1003, 2204, 2181, 2182]], []), ([[]], []), ([[], [], [2056], [], [], [2070], [], [2048], [3045, 1010, 3054, 3043, 3044]], [])] = true := by decide +kernel
theorem bm_X9_leave : ∀ b k, bt_P 173 b = some k → bi_okk bt_M bt_P 173 ((yX9_leave, cX9_leave, 4, (some .int), RX9, 6, 125, [])) k := fun b k h => bi_oksB_ok _ _ bo_X9_leave k (List.mem_of_getElem? (show bt_X9_leave[b]? = some k from h))
theorem bo_X9_lost : bi_oksB bt_M bt_P 174 ((yX9_lost, cX9_lost, 5, (some .int), RX9, 6, 90, [])) bt_X9_lost [([[], [], [2132, 1001, 2129, 2131, 0], [], []], []), ([[]], []), ([[], [], [2054], [2033]], []), ([[]], []), ([[], []], []), ([], []), ([[], [1141], [], [2054], [2031], [], [], [], [4091, 1004, 4088, 4089, 4090]], [])] = true := by decide +kernel
theorem bm_X9_lost : ∀ b k, bt_P 174 b = some k → bi_okk bt_M bt_P 174 ((yX9_lost, cX9_lost, 5, (some .int), RX9, 6, 90, [])) k := fun b k h => bi_oksB_ok _ _ bo_X9_lost k (List.mem_of_getElem? (show bt_X9_lost[b]? = some k from h))
theorem bo_X9_message : bi_oksB bt_M bt_P 175 ((yX9_message, cX9_message, 4, (some .int), RX9, 2, 41, [])) bt_X9_message [([[], [1142], [], [4013, 1006, 4010, 4011, 4012], [], []], []), ([[]], []), ([[]], []), ([[], [3102]], []), ([[], [3104]], []), ([[], [3106]], []), ([[], [3110]], []), ([[], [3114]], []), ([[], [3116]], []), ([[], [3117]], []), ([[], [4099, 1016, 4096, 4097, 4098]], []), ([[]], [])] = true := by decide +kernel
theorem bm_X9_message : ∀ b k, bt_P 175 b = some k → bi_okk bt_M bt_P 175 ((yX9_message, cX9_message, 4, (some .int), RX9, 2, 41, [])) k := fun b k h => bi_oksB_ok _ _ bo_X9_message k (List.mem_of_getElem? (show bt_X9_message[b]? = some k from h))
theorem bo_X9_nextEpoch : bi_oksB bt_M bt_P 176 ((yX9_nextEpoch, cX9_nextEpoch, 2, (some .int), RX9, 2, 42, [])) bt_X9_nextEpoch [([[], [], [], [], [], [], [], [], [], [3076, 1002, 3074, 3075], []], [])] = true := by decide +kernel
theorem bm_X9_nextEpoch : ∀ b k, bt_P 176 b = some k → bi_okk bt_M bt_P 176 ((yX9_nextEpoch, cX9_nextEpoch, 2, (some .int), RX9, 2, 42, [])) k := fun b k h => bi_oksB_ok _ _ bo_X9_nextEpoch k (List.mem_of_getElem? (show bt_X9_nextEpoch[b]? = some k from h))
theorem bo_X9_old : bi_oksB bt_M bt_P 177 ((yX9_old, cX9_old, 6, (some .int), RX9, 6, 90, [])) bt_X9_old [([[], [], [2132, 1001, 2129, 2131, 0], [], []], []), ([[], [2048], [], [4149, 1010, 4146, 4147, 4148]], []), ([[], [2048], [], [], [2136, 1010, 2133, 2134, 2135]], []), ([], []), ([[], [2046], [1046]], []), ([], []), ([[], [2048], [], [], [], [2139, 1001, 2137, 2138], [5037, 1010, 5034, 5035, 5036]], [])] = true := by decide +kernel
theorem bm_X9_old : ∀ b k, bt_P 177 b = some k → bi_okk bt_M bt_P 177 ((yX9_old, cX9_old, 6, (some .int), RX9, 6, 90, [])) k := fun b k h => bi_oksB_ok _ _ bo_X9_old k (List.mem_of_getElem? (show bt_X9_old[b]? = some k from h))
theorem bo_X9_onAccept : bi_oksB bt_M bt_P 178 ((yX9_onAccept, cX9_onAccept, 3, none, RX9, 5, 117, [])) bt_X9_onAccept [([[], [], [], [4079, 1009, 4076, 4077, 4078]], []), ([], []), ([[], [], [2075], [], [], [3116], [2077], [], [], [3116], [2079], [], [], [2081], [], [], [4083, 1001, 4080, 4082, 24]], [])] = true := by decide +kernel
theorem bm_X9_onAccept : ∀ b k, bt_P 178 b = some k → bi_okk bt_M bt_P 178 ((yX9_onAccept, cX9_onAccept, 3, none, RX9, 5, 117, [])) k := fun b k h => bi_oksB_ok _ _ bo_X9_onAccept k (List.mem_of_getElem? (show bt_X9_onAccept[b]? = some k from h))
theorem bo_X9_onAck : bi_oksB bt_M bt_P 179 ((yX9_onAck, cX9_onAck, 3, none, RX9, 5, 117, [])) bt_X9_onAck [([[], [], [], [4079, 1009, 4076, 4077, 4078]], []), ([[], [3116], [], [2077]], []), ([], []), ([[], [], [3116], [2077], [], [], [2079], [], [3116], [1035, 1002, 1033, 1034], [2079], [], [], [2081], [], [], [4083, 1001, 4080, 4082, 24]], [])] = true := by decide +kernel
theorem bm_X9_onAck : ∀ b k, bt_P 179 b = some k → bi_okk bt_M bt_P 179 ((yX9_onAck, cX9_onAck, 3, none, RX9, 5, 117, [])) k := fun b k h => bi_oksB_ok _ _ bo_X9_onAck k (List.mem_of_getElem? (show bt_X9_onAck[b]? = some k from h))
theorem bo_X9_onCommon : bi_oksB bt_M bt_P 180 ((yX9_onCommon, cX9_onCommon, 4, none, RX9, 4, 94, [])) bt_X9_onCommon [([[], [2048], [], [3114], [3180, 1010, 4116, 3178, 3179], [], [], [2056], []], []), ([[], [2082]], []), ([[], [3114]], []), ([[]], []), ([[], [2046], [2183, 1003, 2204, 2181, 2182]], []), ([], []), ([[], [1141], [], [2054], [], [2048], [1184], [], [2048], [], [3114], [3184, 1010, 3181, 3182, 3183], [3189, 1004, 3186, 3187, 3188], [], [2048], [], [4132, 1010, 4129, 4130, 4131], [], [], [2056], [], [4033, 1009, 4133, 4031, 4032], [], [], [2082], [], [], [1137], [3037, 1009, 3034, 3035, 3036]], [])] = true := by decide +kernel
theorem bm_X9_onCommon : ∀ b k, bt_P 180 b = some k → bi_okk bt_M bt_P 180 ((yX9_onCommon, cX9_onCommon, 4, none, RX9, 4, 94, [])) k := fun b k h => bi_oksB_ok _ _ bo_X9_onCommon k (List.mem_of_getElem? (show bt_X9_onCommon[b]? = some k from h))
theorem bo_X9_onData_0 : bi_okkB bt_M bt_P 181 ((yX9_onData, cX9_onData, 4, none, RX9, 5, 117, [])) (bt_X9_onData.getD 0 bi_kd) [[], [2050], [], [], [2056]] [] = true := by decide +kernel
theorem bo_X9_onData_1 : bi_okkB bt_M bt_P 181 ((yX9_onData, cX9_onData, 4, none, RX9, 5, 117, [])) (bt_X9_onData.getD 1 bi_kd) [[], [], [3110], [], [3114], [4043, 1011, 4040, 4041, 4042]] [] = true := by decide +kernel
theorem bo_X9_onData_2 : bi_okkB bt_M bt_P 181 ((yX9_onData, cX9_onData, 4, none, RX9, 5, 117, [])) (bt_X9_onData.getD 2 bi_kd) [] [] = true := by decide +kernel
theorem bo_X9_onData_3 : bi_okkB bt_M bt_P 181 ((yX9_onData, cX9_onData, 4, none, RX9, 5, 117, [])) (bt_X9_onData.getD 3 bi_kd) [[], [3116], [], [2000]] [] = true := by decide +kernel
theorem bo_X9_onData_4 : bi_okkB bt_M bt_P 181 ((yX9_onData, cX9_onData, 4, none, RX9, 5, 117, [])) (bt_X9_onData.getD 4 bi_kd) [[], [4052, 1011, 4049, 4050, 4051]] [] = true := by decide +kernel
theorem bo_X9_onData_5 : bi_okkB bt_M bt_P 181 ((yX9_onData, cX9_onData, 4, none, RX9, 5, 117, [])) (bt_X9_onData.getD 5 bi_kd) [[], [], [], [4071, 1001, 4068, 4070, 22]] [] = true := by decide +kernel
theorem bo_X9_onData_6 : bi_okkB bt_M bt_P 181 ((yX9_onData, cX9_onData, 4, none, RX9, 5, 117, [])) (bt_X9_onData.getD 6 bi_kd) [[], [3116], [], [2000]] [] = true := by decide +kernel
theorem bo_X9_onData_7 : bi_okkB bt_M bt_P 181 ((yX9_onData, cX9_onData, 4, none, RX9, 5, 117, [])) (bt_X9_onData.getD 7 bi_kd) [] [] = true := by decide +kernel
theorem bo_X9_onData_8 : bi_okkB bt_M bt_P 181 ((yX9_onData, cX9_onData, 4, none, RX9, 5, 117, [])) (bt_X9_onData.getD 8 bi_kd) [[], [], [2046], [2213, 1001, 2210, 2212, 5], [], [4099, 1016, 4096, 4097, 4098]] [] = true := by decide +kernel
theorem bo_X9_onData_9 : bi_okkB bt_M bt_P 181 ((yX9_onData, cX9_onData, 4, none, RX9, 5, 117, [])) (bt_X9_onData.getD 9 bi_kd) [[], [], [2004], [], [], [2004]] [] = true := by decide +kernel
theorem bo_X9_onData_10 : bi_okkB bt_M bt_P 181 ((yX9_onData, cX9_onData, 4, none, RX9, 5, 117, [])) (bt_X9_onData.getD 10 bi_kd) [[], [2046], [2183, 1003, 2204, 2181, 2182]] [] = true := by decide +kernel
theorem bo_X9_onData_11 : bi_okkB bt_M bt_P 181 ((yX9_onData, cX9_onData, 4, none, RX9, 5, 117, [])) (bt_X9_onData.getD 11 bi_kd) [] [] = true := by decide +kernel
theorem bo_X9_onData_12 : bi_okkB bt_M bt_P 181 ((yX9_onData, cX9_onData, 4, none, RX9, 5, 117, [])) (bt_X9_onData.getD 12 bi_kd) [[], [], [4099, 1016, 4096, 4097, 4098], [4103, 1011, 4100, 4101, 4102], [], [4052, 1011, 4049, 4050, 4051]] [] = true := by decide +kernel
theorem bo_X9_onData_13 : bi_okkB bt_M bt_P 181 ((yX9_onData, cX9_onData, 4, none, RX9, 5, 117, [])) (bt_X9_onData.getD 13 bi_kd) [[], [], [4056, 1001, 4053, 4055, 20]] [] = true := by decide +kernel
theorem bo_X9_onData_14 : bi_okkB bt_M bt_P 181 ((yX9_onData, cX9_onData, 4, none, RX9, 5, 117, [])) (bt_X9_onData.getD 14 bi_kd) [[], [], [], [4071, 1001, 4068, 4070, 22]] [] = true := by decide +kernel
theorem bo_X9_onData_15 : bi_okkB bt_M bt_P 181 ((yX9_onData, cX9_onData, 4, none, RX9, 5, 117, [])) (bt_X9_onData.getD 15 bi_kd) [] [] = true := by decide +kernel
theorem bm_X9_onData : ∀ b k, bt_P 181 b = some k → bi_okk bt_M bt_P 181 ((yX9_onData, cX9_onData, 4, none, RX9, 5, 117, [])) k := fun b k h => bi_allk (show bt_X9_onData[b]? = some k from h) (fun b hb => match b, hb with
  | 0, _ => bi_okkB_ok bo_X9_onData_0
  | 1, _ => bi_okkB_ok bo_X9_onData_1
  | 2, _ => bi_okkB_ok bo_X9_onData_2
  | 3, _ => bi_okkB_ok bo_X9_onData_3
  | 4, _ => bi_okkB_ok bo_X9_onData_4
  | 5, _ => bi_okkB_ok bo_X9_onData_5
  | 6, _ => bi_okkB_ok bo_X9_onData_6
  | 7, _ => bi_okkB_ok bo_X9_onData_7
  | 8, _ => bi_okkB_ok bo_X9_onData_8
  | 9, _ => bi_okkB_ok bo_X9_onData_9
  | 10, _ => bi_okkB_ok bo_X9_onData_10
  | 11, _ => bi_okkB_ok bo_X9_onData_11
  | 12, _ => bi_okkB_ok bo_X9_onData_12
  | 13, _ => bi_okkB_ok bo_X9_onData_13
  | 14, _ => bi_okkB_ok bo_X9_onData_14
  | 15, _ => bi_okkB_ok bo_X9_onData_15
  | b + 16, hb => absurd hb (by show ¬ b + 16 < 16; omega))
theorem bo_X9_onGive : bi_oksB bt_M bt_P 182 ((yX9_onGive, cX9_onGive, 3, none, RX9, 5, 115, [])) bt_X9_onGive [([[], [2056]], []), ([[], [3114], [], [2048], [3045, 1010, 3054, 3043, 3044]], []), ([[], [2046], [2183, 1003, 2204, 2181, 2182]], []), ([], []), ([[], [], [3114], [2063], [], [], [3114], [2073], [], [], [2065], [], [], [], [3070, 1009, 3067, 3068, 3069], [], [], [3116], [], [1137], [3080, 1009, 3077, 3078, 3079], [], [], [], [], [4025, 1001, 4022, 4024, 18]], [])] = true := by decide +kernel
theorem bm_X9_onGive : ∀ b k, bt_P 182 b = some k → bi_okk bt_M bt_P 182 ((yX9_onGive, cX9_onGive, 3, none, RX9, 5, 115, [])) k := fun b k h => bi_oksB_ok _ _ bo_X9_onGive k (List.mem_of_getElem? (show bt_X9_onGive[b]? = some k from h))
theorem bo_X9_onHave : bi_oksB bt_M bt_P 183 ((yX9_onHave, cX9_onHave, 3, none, RX9, 4, 93, [])) bt_X9_onHave [([[], [3160, 1009, 3157, 3158, 3159]], []), ([[], [2065]], []), ([[], [2065], [], [3114]], []), ([[], [2046], [2183, 1003, 2204, 2181, 2182]], []), ([], []), ([[], [], [3114], [2063], [], [], [3114], [2073], [], [], [2065], [], [], [2075], [], [], [2081], [], [], [1137], [3037, 1009, 3034, 3035, 3036]], [])] = true := by decide +kernel
theorem bm_X9_onHave : ∀ b k, bt_P 183 b = some k → bi_okk bt_M bt_P 183 ((yX9_onHave, cX9_onHave, 3, none, RX9, 4, 93, [])) k := fun b k h => bi_oksB_ok _ _ bo_X9_onHave k (List.mem_of_getElem? (show bt_X9_onHave[b]? = some k from h))
theorem bo_X9_onHello_0 : bi_okkB bt_M bt_P 184 ((yX9_onHello, cX9_onHello, 5, none, RX9, 4, 93, [])) (bt_X9_onHello.getD 0 bi_kd) [[], [2056], []] [] = true := by decide +kernel
theorem bo_X9_onHello_1 : bi_okkB bt_M bt_P 184 ((yX9_onHello, cX9_onHello, 5, none, RX9, 4, 93, [])) (bt_X9_onHello.getD 1 bi_kd) [[], [2063], [], [], [2059], []] [] = true := by decide +kernel
theorem bo_X9_onHello_2 : bi_okkB bt_M bt_P 184 ((yX9_onHello, cX9_onHello, 5, none, RX9, 4, 93, [])) (bt_X9_onHello.getD 2 bi_kd) [] [] = true := by decide +kernel
theorem bo_X9_onHello_3 : bi_okkB bt_M bt_P 184 ((yX9_onHello, cX9_onHello, 5, none, RX9, 4, 93, [])) (bt_X9_onHello.getD 3 bi_kd) [[], [], [], []] [] = true := by decide +kernel
theorem bo_X9_onHello_4 : bi_okkB bt_M bt_P 184 ((yX9_onHello, cX9_onHello, 5, none, RX9, 4, 93, [])) (bt_X9_onHello.getD 4 bi_kd) [[], [], [4099, 1016, 4096, 4097, 4098]] [] = true := by decide +kernel
theorem bo_X9_onHello_5 : bi_okkB bt_M bt_P 184 ((yX9_onHello, cX9_onHello, 5, none, RX9, 4, 93, [])) (bt_X9_onHello.getD 5 bi_kd) [[]] [] = true := by decide +kernel
theorem bo_X9_onHello_6 : bi_okkB bt_M bt_P 184 ((yX9_onHello, cX9_onHello, 5, none, RX9, 4, 93, [])) (bt_X9_onHello.getD 6 bi_kd) [[], [2048], [], [3121], [], [], [], [], [3180, 1010, 4116, 3178, 3179]] [] = true := by decide +kernel
theorem bo_X9_onHello_7 : bi_okkB bt_M bt_P 184 ((yX9_onHello, cX9_onHello, 5, none, RX9, 4, 93, [])) (bt_X9_onHello.getD 7 bi_kd) [[], [3121], [], [], [], [], []] [] = true := by decide +kernel
theorem bo_X9_onHello_8 : bi_okkB bt_M bt_P 184 ((yX9_onHello, cX9_onHello, 5, none, RX9, 4, 93, [])) (bt_X9_onHello.getD 8 bi_kd) [[]] [] = true := by decide +kernel
theorem bo_X9_onHello_9 : bi_okkB bt_M bt_P 184 ((yX9_onHello, cX9_onHello, 5, none, RX9, 4, 93, [])) (bt_X9_onHello.getD 9 bi_kd) [[], [2046], [2183, 1003, 2204, 2181, 2182]] [] = true := by decide +kernel
theorem bo_X9_onHello_10 : bi_okkB bt_M bt_P 184 ((yX9_onHello, cX9_onHello, 5, none, RX9, 4, 93, [])) (bt_X9_onHello.getD 10 bi_kd) [] [] = true := by decide +kernel
theorem bo_X9_onHello_11 : bi_okkB bt_M bt_P 184 ((yX9_onHello, cX9_onHello, 5, none, RX9, 4, 93, [])) (bt_X9_onHello.getD 11 bi_kd) [[], [], [2063], [], [], [], [3070, 1009, 3067, 3068, 3069], [], [2065], []] [] = true := by decide +kernel
theorem bo_X9_onHello_12 : bi_okkB bt_M bt_P 184 ((yX9_onHello, cX9_onHello, 5, none, RX9, 4, 93, [])) (bt_X9_onHello.getD 12 bi_kd) [[], [], [2065]] [] = true := by decide +kernel
theorem bo_X9_onHello_13 : bi_okkB bt_M bt_P 184 ((yX9_onHello, cX9_onHello, 5, none, RX9, 4, 93, [])) (bt_X9_onHello.getD 13 bi_kd) [[], [], [2073], [], [], [2075], [], [], [2081], [], [], [1137], [3037, 1009, 3034, 3035, 3036], [], [], [], [], [4025, 1001, 4022, 4024, 18]] [] = true := by decide +kernel
theorem bm_X9_onHello : ∀ b k, bt_P 184 b = some k → bi_okk bt_M bt_P 184 ((yX9_onHello, cX9_onHello, 5, none, RX9, 4, 93, [])) k := fun b k h => bi_allk (show bt_X9_onHello[b]? = some k from h) (fun b hb => match b, hb with
  | 0, _ => bi_okkB_ok bo_X9_onHello_0
  | 1, _ => bi_okkB_ok bo_X9_onHello_1
  | 2, _ => bi_okkB_ok bo_X9_onHello_2
  | 3, _ => bi_okkB_ok bo_X9_onHello_3
  | 4, _ => bi_okkB_ok bo_X9_onHello_4
  | 5, _ => bi_okkB_ok bo_X9_onHello_5
  | 6, _ => bi_okkB_ok bo_X9_onHello_6
  | 7, _ => bi_okkB_ok bo_X9_onHello_7
  | 8, _ => bi_okkB_ok bo_X9_onHello_8
  | 9, _ => bi_okkB_ok bo_X9_onHello_9
  | 10, _ => bi_okkB_ok bo_X9_onHello_10
  | 11, _ => bi_okkB_ok bo_X9_onHello_11
  | 12, _ => bi_okkB_ok bo_X9_onHello_12
  | 13, _ => bi_okkB_ok bo_X9_onHello_13
  | b + 14, hb => absurd hb (by show ¬ b + 14 < 14; omega))
