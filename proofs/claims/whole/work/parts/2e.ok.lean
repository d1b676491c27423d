/-! the tables are as the code has them -/
theorem bo_X9_onOffer_11 : bi_okkB bt_M bt_P 185 ((yX9_onOffer, cX9_onOffer, 4, none, RX9, 5, 117, [])) (bt_X9_onOffer.getD 11 bi_kd) [[], [2016], [], [4031, 1009, 4028, 4029, 4030]] [] = true := by decide +kernel
theorem bo_X9_onOffer_12 : bi_okkB bt_M bt_P 185 ((yX9_onOffer, cX9_onOffer, 4, none, RX9, 5, 117, [])) (bt_X9_onOffer.getD 12 bi_kd) [[], [2016], [4036, 1009, 4033, 4034, 4035]] [] = true := by decide +kernel
theorem bo_X9_onOffer_13 : bi_okkB bt_M bt_P 185 ((yX9_onOffer, cX9_onOffer, 4, none, RX9, 5, 117, [])) (bt_X9_onOffer.getD 13 bi_kd) [[], [], [4040, 1001, 4037, 4039, 19]] [] = true := by decide +kernel
theorem bo_X9_onOffer_14 : bi_okkB bt_M bt_P 185 ((yX9_onOffer, cX9_onOffer, 4, none, RX9, 5, 117, [])) (bt_X9_onOffer.getD 14 bi_kd) [[], [], [], [4055, 1001, 4052, 4054, 21]] [] = true := by decide +kernel
theorem bo_X9_onOffer_15 : bi_okkB bt_M bt_P 185 ((yX9_onOffer, cX9_onOffer, 4, none, RX9, 5, 117, [])) (bt_X9_onOffer.getD 15 bi_kd) [] [] = true := by decide +kernel
theorem bm_X9_onOffer : ∀ b k, bt_P 185 b = some k → bi_okk bt_M bt_P 185 ((yX9_onOffer, cX9_onOffer, 4, none, RX9, 5, 117, [])) k := fun b k h => bi_allk (show bt_X9_onOffer[b]? = some k from h) (fun b hb => match b, hb with
  | 0, _ => bi_okkB_ok bo_X9_onOffer_0
  | 1, _ => bi_okkB_ok bo_X9_onOffer_1
  | 2, _ => bi_okkB_ok bo_X9_onOffer_2
  | 3, _ => bi_okkB_ok bo_X9_onOffer_3
  | 4, _ => bi_okkB_ok bo_X9_onOffer_4
  | 5, _ => bi_okkB_ok bo_X9_onOffer_5
  | 6, _ => bi_okkB_ok bo_X9_onOffer_6
  | 7, _ => bi_okkB_ok bo_X9_onOffer_7
  | 8, _ => bi_okkB_ok bo_X9_onOffer_8
  | 9, _ => bi_okkB_ok bo_X9_onOffer_9
  | 10, _ => bi_okkB_ok bo_X9_onOffer_10
  | 11, _ => bi_okkB_ok bo_X9_onOffer_11
  | 12, _ => bi_okkB_ok bo_X9_onOffer_12
  | 13, _ => bi_okkB_ok bo_X9_onOffer_13
  | 14, _ => bi_okkB_ok bo_X9_onOffer_14
  | 15, _ => bi_okkB_ok bo_X9_onOffer_15
  | b + 16, hb => absurd hb (by show ¬ b + 16 < 16; omega))
theorem bo_X9_pass : bi_oksB bt_M bt_P 186 ((yX9_pass, cX9_pass, 4, (some .int), RX9, 7, 162, [])) bt_X9_pass [([[], [2097], [], [3237, 1006, 3234, 3235, 3236], [], []], []), ([[]], []), ([[], []], []), ([[]], []), ([[], []], []), ([[], [2097], [], [4001, 1006, 3238, 3239, 4000]], []), ([[]], []), ([[], [], [4005, 1001, 4002, 4004, 16]], []), ([[]], [])] = true := by decide +kernel
theorem bm_X9_pass : ∀ b k, bt_P 186 b = some k → bi_okk bt_M bt_P 186 ((yX9_pass, cX9_pass, 4, (some .int), RX9, 7, 162, [])) k := fun b k h => bi_oksB_ok _ _ bo_X9_pass k (List.mem_of_getElem? (show bt_X9_pass[b]? = some k from h))
theorem bo_X9_period : bi_oksB bt_M bt_P 187 ((yX9_period, cX9_period, 2, (some .boolean), RX9, 1, 20, [])) bt_X9_period [([[]], []), ([[], []], []), ([[]], []), ([[], [], [2100], []], [])] = true := by decide +kernel
theorem bm_X9_period : ∀ b k, bt_P 187 b = some k → bi_okk bt_M bt_P 187 ((yX9_period, cX9_period, 2, (some .boolean), RX9, 1, 20, [])) k := fun b k h => bi_oksB_ok _ _ bo_X9_period k (List.mem_of_getElem? (show bt_X9_period[b]? = some k from h))
theorem bo_X9_power : bi_oksB bt_M bt_P 188 ((yX9_power, cX9_power, 3, (some .boolean), RX9, 1, 20, [])) bt_X9_power [([[]], []), ([[], []], []), ([[], []], []), ([[], [3204]], []), ([[]], []), ([[], [2094], [], [], [], [1049], []], [])] = true := by decide +kernel
theorem bm_X9_power : ∀ b k, bt_P 188 b = some k → bi_okk bt_M bt_P 188 ((yX9_power, cX9_power, 3, (some .boolean), RX9, 1, 20, [])) k := fun b k h => bi_oksB_ok _ _ bo_X9_power k (List.mem_of_getElem? (show bt_X9_power[b]? = some k from h))
theorem bo_X9_read : bi_oksB bt_M bt_P 189 ((yX9_read, cX9_read, 5, (some .int), RX9, 6, 90, [])) bt_X9_read [([[], [], [2137, 1001, 2134, 2136, 0], [], []], []), ([[], [2014], [], [], [2141, 1008, 2138, 2139, 2140]], []), ([], []), ([[], [2012], [1045]], []), ([], []), ([[], [2014], [], [], [2144, 1001, 2142, 2143], [5009, 1008, 5006, 5007, 5008]], [])] = true := by decide +kernel
theorem bm_X9_read : ∀ b k, bt_P 189 b = some k → bi_okk bt_M bt_P 189 ((yX9_read, cX9_read, 5, (some .int), RX9, 6, 90, [])) k := fun b k h => bi_oksB_ok _ _ bo_X9_read k (List.mem_of_getElem? (show bt_X9_read[b]? = some k from h))
theorem bo_X9_receive_0 : bi_okkB bt_M bt_P 190 ((yX9_receive, cX9_receive, 3, none, RX9, 6, 140, [])) (bt_X9_receive.getD 0 bi_kd) [[], [], [3090], [], [], [], [], [2137, 1001, 2134, 2136, 0], [], []] [] = true := by decide +kernel
theorem bo_X9_receive_1 : bi_okkB bt_M bt_P 190 ((yX9_receive, cX9_receive, 3, none, RX9, 6, 140, [])) (bt_X9_receive.getD 1 bi_kd) [[], [2012], [1045]] [] = true := by decide +kernel
theorem bo_X9_receive_2 : bi_okkB bt_M bt_P 190 ((yX9_receive, cX9_receive, 3, none, RX9, 6, 140, [])) (bt_X9_receive.getD 2 bi_kd) [] [] = true := by decide +kernel
theorem bo_X9_receive_3 : bi_okkB bt_M bt_P 190 ((yX9_receive, cX9_receive, 3, none, RX9, 6, 140, [])) (bt_X9_receive.getD 3 bi_kd) [[], [3092], [], [2025]] [] = true := by decide +kernel
theorem bo_X9_receive_4 : bi_okkB bt_M bt_P 190 ((yX9_receive, cX9_receive, 3, none, RX9, 6, 140, [])) (bt_X9_receive.getD 4 bi_kd) [[], [3088], []] [] = true := by decide +kernel
theorem bo_X9_receive_5 : bi_okkB bt_M bt_P 190 ((yX9_receive, cX9_receive, 3, none, RX9, 6, 140, [])) (bt_X9_receive.getD 5 bi_kd) [[], [3088], []] [] = true := by decide +kernel
theorem bo_X9_receive_6 : bi_okkB bt_M bt_P 190 ((yX9_receive, cX9_receive, 3, none, RX9, 6, 140, [])) (bt_X9_receive.getD 6 bi_kd) [[], [3088], []] [] = true := by decide +kernel
theorem bo_X9_receive_7 : bi_okkB bt_M bt_P 190 ((yX9_receive, cX9_receive, 3, none, RX9, 6, 140, [])) (bt_X9_receive.getD 7 bi_kd) [[], [], [], [], [4009, 1001, 4006, 4008, 17]] [] = true := by decide +kernel
theorem bo_X9_receive_8 : bi_okkB bt_M bt_P 190 ((yX9_receive, cX9_receive, 3, none, RX9, 6, 140, [])) (bt_X9_receive.getD 8 bi_kd) [] [] = true := by decide +kernel
theorem bo_X9_receive_9 : bi_okkB bt_M bt_P 190 ((yX9_receive, cX9_receive, 3, none, RX9, 6, 140, [])) (bt_X9_receive.getD 9 bi_kd) [[], [3092], [], [2025]] [] = true := by decide +kernel
theorem bo_X9_receive_10 : bi_okkB bt_M bt_P 190 ((yX9_receive, cX9_receive, 3, none, RX9, 6, 140, [])) (bt_X9_receive.getD 10 bi_kd) [[], [2012], [2188, 1003, 2209, 2186, 2187]] [] = true := by decide +kernel
theorem bo_X9_receive_11 : bi_okkB bt_M bt_P 190 ((yX9_receive, cX9_receive, 3, none, RX9, 6, 140, [])) (bt_X9_receive.getD 11 bi_kd) [] [] = true := by decide +kernel
theorem bo_X9_receive_12 : bi_okkB bt_M bt_P 190 ((yX9_receive, cX9_receive, 3, none, RX9, 6, 140, [])) (bt_X9_receive.getD 12 bi_kd) [[], [], [3092], [4013, 1007, 4010, 4011, 4012]] [] = true := by decide +kernel
theorem bo_X9_receive_13 : bi_okkB bt_M bt_P 190 ((yX9_receive, cX9_receive, 3, none, RX9, 6, 140, [])) (bt_X9_receive.getD 13 bi_kd) [[], [3088]] [] = true := by decide +kernel
theorem bo_X9_receive_14 : bi_okkB bt_M bt_P 190 ((yX9_receive, cX9_receive, 3, none, RX9, 6, 140, [])) (bt_X9_receive.getD 14 bi_kd) [[], [], [], [4023, 1001, 4020, 4022, 18]] [] = true := by decide +kernel
theorem bo_X9_receive_15 : bi_okkB bt_M bt_P 190 ((yX9_receive, cX9_receive, 3, none, RX9, 6, 140, [])) (bt_X9_receive.getD 15 bi_kd) [[], [], [], [4059, 1001, 4056, 4058, 22]] [] = true := by decide +kernel
theorem bo_X9_receive_16 : bi_okkB bt_M bt_P 190 ((yX9_receive, cX9_receive, 3, none, RX9, 6, 140, [])) (bt_X9_receive.getD 16 bi_kd) [[], [], [], [4079, 1001, 4076, 4078, 25]] [] = true := by decide +kernel
theorem bo_X9_receive_17 : bi_okkB bt_M bt_P 190 ((yX9_receive, cX9_receive, 3, none, RX9, 6, 140, [])) (bt_X9_receive.getD 17 bi_kd) [[], [], [], [4091, 1001, 4088, 4090, 26]] [] = true := by decide +kernel
theorem bo_X9_receive_18 : bi_okkB bt_M bt_P 190 ((yX9_receive, cX9_receive, 3, none, RX9, 6, 140, [])) (bt_X9_receive.getD 18 bi_kd) [[], [], [], [4095, 1001, 4092, 4094, 27]] [] = true := by decide +kernel
theorem bo_X9_receive_19 : bi_okkB bt_M bt_P 190 ((yX9_receive, cX9_receive, 3, none, RX9, 6, 140, [])) (bt_X9_receive.getD 19 bi_kd) [[], [], [], [4099, 1001, 4096, 4098, 28]] [] = true := by decide +kernel
theorem bo_X9_receive_20 : bi_okkB bt_M bt_P 190 ((yX9_receive, cX9_receive, 3, none, RX9, 6, 140, [])) (bt_X9_receive.getD 20 bi_kd) [[], [], [], [4104, 1001, 4101, 4103, 29]] [] = true := by decide +kernel
theorem bo_X9_receive_21 : bi_okkB bt_M bt_P 190 ((yX9_receive, cX9_receive, 3, none, RX9, 6, 140, [])) (bt_X9_receive.getD 21 bi_kd) [[], [], [], [4108, 1001, 4105, 4107, 30]] [] = true := by decide +kernel
theorem bo_X9_receive_22 : bi_okkB bt_M bt_P 190 ((yX9_receive, cX9_receive, 3, none, RX9, 6, 140, [])) (bt_X9_receive.getD 22 bi_kd) [[], [], [], [4112, 1001, 4109, 4111, 31]] [] = true := by decide +kernel
theorem bo_X9_receive_23 : bi_okkB bt_M bt_P 190 ((yX9_receive, cX9_receive, 3, none, RX9, 6, 140, [])) (bt_X9_receive.getD 23 bi_kd) [] [] = true := by decide +kernel
theorem bm_X9_receive : ∀ b k, bt_P 190 b = some k → bi_okk bt_M bt_P 190 ((yX9_receive, cX9_receive, 3, none, RX9, 6, 140, [])) k := fun b k h => bi_allk (show bt_X9_receive[b]? = some k from h) (fun b hb => match b, hb with
  | 0, _ => bi_okkB_ok bo_X9_receive_0
  | 1, _ => bi_okkB_ok bo_X9_receive_1
  | 2, _ => bi_okkB_ok bo_X9_receive_2
  | 3, _ => bi_okkB_ok bo_X9_receive_3
  | 4, _ => bi_okkB_ok bo_X9_receive_4
  | 5, _ => bi_okkB_ok bo_X9_receive_5
  | 6, _ => bi_okkB_ok bo_X9_receive_6
  | 7, _ => bi_okkB_ok bo_X9_receive_7
  | 8, _ => bi_okkB_ok bo_X9_receive_8
  | 9, _ => bi_okkB_ok bo_X9_receive_9
  | 10, _ => bi_okkB_ok bo_X9_receive_10
  | 11, _ => bi_okkB_ok bo_X9_receive_11
  | 12, _ => bi_okkB_ok bo_X9_receive_12
  | 13, _ => bi_okkB_ok bo_X9_receive_13
  | 14, _ => bi_okkB_ok bo_X9_receive_14
  | 15, _ => bi_okkB_ok bo_X9_receive_15
  | 16, _ => bi_okkB_ok bo_X9_receive_16
  | 17, _ => bi_okkB_ok bo_X9_receive_17
  | 18, _ => bi_okkB_ok bo_X9_receive_18
  | 19, _ => bi_okkB_ok bo_X9_receive_19
  | 20, _ => bi_okkB_ok bo_X9_receive_20
  | 21, _ => bi_okkB_ok bo_X9_receive_21
  | 22, _ => bi_okkB_ok bo_X9_receive_22
  | 23, _ => bi_okkB_ok bo_X9_receive_23
  | b + 24, hb => absurd hb (by show ¬ b + 24 < 24; omega))
theorem bo_X9_refusalOf : bi_oksB bt_M bt_P 191 ((yX9_refusalOf, cX9_refusalOf, 2, (some .int), RX9, 1, 20, [])) bt_X9_refusalOf [([[]], []), ([[]], []), ([[], [2012], [1045]], []), ([[]], []), ([[], [2022], []], []), ([[]], []), ([[]], []), ([], [])] = true := by decide +kernel
theorem bm_X9_refusalOf : ∀ b k, bt_P 191 b = some k → bi_okk bt_M bt_P 191 ((yX9_refusalOf, cX9_refusalOf, 2, (some .int), RX9, 1, 20, [])) k := fun b k h => bi_oksB_ok _ _ bo_X9_refusalOf k (List.mem_of_getElem? (show bt_X9_refusalOf[b]? = some k from h))
theorem bo_X9_send : bi_oksB bt_M bt_P 192 ((yX9_send, cX9_send, 4, none, RX9, 2, 44, [])) bt_X9_send [([[], [2097], [3081, 3082, 1014], [], [], [], [], [], [3085, 1014, 3083, 3084], [3130, 1006, 3127, 3128, 3129]], [])] = true := by decide +kernel
theorem bm_X9_send : ∀ b k, bt_P 192 b = some k → bi_okk bt_M bt_P 192 ((yX9_send, cX9_send, 4, none, RX9, 2, 44, [])) k := fun b k h => bi_oksB_ok _ _ bo_X9_send k (List.mem_of_getElem? (show bt_X9_send[b]? = some k from h))
theorem bo_X9_sendData_0 : bi_okkB bt_M bt_P 193 ((yX9_sendData, cX9_sendData, 9, none, RX9, 2, 44, [])) (bt_X9_sendData.getD 0 bi_kd) [[3081, 3082, 1014], [], [], [], [], [2039], [], [2031], [3085, 1014, 3083, 3084], [], [], [], [3102], [], [], [], [], [], [], [], [2018], [1239], [], [], [1030, 1002, 1028, 1029], [1033, 1002, 1031, 1032], [], [], [], [], [], [1080], [3107], [], []] [] = true := by decide +kernel
theorem bo_X9_sendData_1 : bi_okkB bt_M bt_P 193 ((yX9_sendData, cX9_sendData, 9, none, RX9, 2, 44, [])) (bt_X9_sendData.getD 1 bi_kd) [[], []] [] = true := by decide +kernel
theorem bo_X9_sendData_2 : bi_okkB bt_M bt_P 193 ((yX9_sendData, cX9_sendData, 9, none, RX9, 2, 44, [])) (bt_X9_sendData.getD 2 bi_kd) [[], [2018], [1237], [], [], [], [], [], [], []] [] = true := by decide +kernel
theorem bo_X9_sendData_3 : bi_okkB bt_M bt_P 193 ((yX9_sendData, cX9_sendData, 9, none, RX9, 2, 44, [])) (bt_X9_sendData.getD 3 bi_kd) [[], []] [] = true := by decide +kernel
theorem bo_X9_sendData_4 : bi_okkB bt_M bt_P 193 ((yX9_sendData, cX9_sendData, 9, none, RX9, 2, 44, [])) (bt_X9_sendData.getD 4 bi_kd) [[], [3107], [], [], [], [], [], [], [2096], [], [], [4075, 1004, 4072, 4073, 4074], [], []] [] = true := by decide +kernel
theorem bo_X9_sendData_5 : bi_okkB bt_M bt_P 193 ((yX9_sendData, cX9_sendData, 9, none, RX9, 2, 44, [])) (bt_X9_sendData.getD 5 bi_kd) [[]] [] = true := by decide +kernel
theorem bo_X9_sendData_6 : bi_okkB bt_M bt_P 193 ((yX9_sendData, cX9_sendData, 9, none, RX9, 2, 44, [])) (bt_X9_sendData.getD 6 bi_kd) [[], [2097], [], [3130, 1006, 3127, 3128, 3129]] [] = true := by decide +kernel
theorem bm_X9_sendData : ∀ b k, bt_P 193 b = some k → bi_okk bt_M bt_P 193 ((yX9_sendData, cX9_sendData, 9, none, RX9, 2, 44, [])) k := fun b k h => bi_allk (show bt_X9_sendData[b]? = some k from h) (fun b hb => match b, hb with
  | 0, _ => bi_okkB_ok bo_X9_sendData_0
  | 1, _ => bi_okkB_ok bo_X9_sendData_1
  | 2, _ => bi_okkB_ok bo_X9_sendData_2
  | 3, _ => bi_okkB_ok bo_X9_sendData_3
  | 4, _ => bi_okkB_ok bo_X9_sendData_4
  | 5, _ => bi_okkB_ok bo_X9_sendData_5
  | 6, _ => bi_okkB_ok bo_X9_sendData_6
  | b + 7, hb => absurd hb (by show ¬ b + 7 < 7; omega))
theorem bo_X9_sendForward : bi_oksB bt_M bt_P 194 ((yX9_sendForward, cX9_sendForward, 2, none, RX9, 5, 117, [])) bt_X9_sendForward [([[], [2031]], []), ([[], [3154, 1007, 3151, 3152, 3153]], []), ([[], [], [3158, 1001, 3155, 3157, 11]], []), ([[], [2014], [3031, 1008, 3040, 3029, 3030], [], [2029]], []), ([[], [2012], [2188, 1003, 2209, 2186, 2187]], []), ([[], [], [2014], [3031, 1008, 3040, 3029, 3030], [2031], [], [], [2029], [2039], [], [], [3158, 1001, 3155, 3157, 11]], []), ([[], [2022], []], []), ([[], [], [3195, 1001, 3192, 3194, 13]], []), ([], [])] = true := by decide +kernel
theorem bm_X9_sendForward : ∀ b k, bt_P 194 b = some k → bi_okk bt_M bt_P 194 ((yX9_sendForward, cX9_sendForward, 2, none, RX9, 5, 117, [])) k := fun b k h => bi_oksB_ok _ _ bo_X9_sendForward k (List.mem_of_getElem? (show bt_X9_sendForward[b]? = some k from h))
theorem bo_X9_sendGive : bi_oksB bt_M bt_P 195 ((yX9_sendGive, cX9_sendGive, 3, none, RX9, 2, 44, [])) bt_X9_sendGive [([[], [], [2047], [3081, 3082, 1014], [], [], [], [], [], [2014], [3031, 1008, 3040, 3029, 3030], [3085, 1014, 3083, 3084], [], [], [], [2036], [3102], [], [2097], [], [3130, 1006, 3127, 3128, 3129]], [])] = true := by decide +kernel
theorem bm_X9_sendGive : ∀ b k, bt_P 195 b = some k → bi_okk bt_M bt_P 195 ((yX9_sendGive, cX9_sendGive, 3, none, RX9, 2, 44, [])) k := fun b k h => bi_oksB_ok _ _ bo_X9_sendGive k (List.mem_of_getElem? (show bt_X9_sendGive[b]? = some k from h))
theorem bo_X9_sendHello : bi_oksB bt_M bt_P 196 ((yX9_sendHello, cX9_sendHello, 5, none, RX9, 2, 44, [])) bt_X9_sendHello [([[], [], [2047], [3081, 3082, 1014], [], [], [], [], [], [3085, 1014, 3083, 3084], [], [], [2014], [1162], [], [], [], [], [], [1080], [3107], [], []], []), ([[], []], []), ([[], [3107], [], [], [], [], [2014], [1157], [], [], [], [], [], [], [], []], []), ([[], [2097], [], [3130, 1006, 3127, 3128, 3129]], [])] = true := by decide +kernel
theorem bm_X9_sendHello : ∀ b k, bt_P 196 b = some k → bi_okk bt_M bt_P 196 ((yX9_sendHello, cX9_sendHello, 5, none, RX9, 2, 44, [])) k := fun b k h => bi_oksB_ok _ _ bo_X9_sendHello k (List.mem_of_getElem? (show bt_X9_sendHello[b]? = some k from h))
theorem bo_X9_sendOffer : bi_oksB bt_M bt_P 197 ((yX9_sendOffer, cX9_sendOffer, 4, none, RX9, 4, 94, [])) bt_X9_sendOffer [([[], [], [2041], [], [], [2047], [], [2014], [], [2031], [3162, 1008, 3159, 3160, 3161], [], [], [2096], [], [2018], [], [], [2014], [], [2039], [3170, 1008, 3167, 3168, 3169], [3175, 1004, 3172, 3173, 3174], [3081, 3082, 1014], [], [], [], [], [2039], [], [2031], [3085, 1014, 3083, 3084], [], [], [], [2018], [1239], [3102], [], [], [2096], [1093], [], [], [3103], [], [], [3105], [], [2097], [], [3130, 1006, 3127, 3128, 3129]], [])] = true := by decide +kernel
theorem bm_X9_sendOffer : ∀ b k, bt_P 197 b = some k → bi_okk bt_M bt_P 197 ((yX9_sendOffer, cX9_sendOffer, 4, none, RX9, 4, 94, [])) k := fun b k h => bi_oksB_ok _ _ bo_X9_sendOffer k (List.mem_of_getElem? (show bt_X9_sendOffer[b]? = some k from h))
theorem bo_X9_sendOn : bi_oksB bt_M bt_P 198 ((yX9_sendOn, cX9_sendOn, 4, none, RX9, 4, 94, [])) bt_X9_sendOn [([[], [2096], [], [2018], [], [2014], [], [2031], [3162, 1008, 3159, 3160, 3161], [], [2014], [], [2039], [3170, 1008, 3167, 3168, 3169], [3175, 1004, 3172, 3173, 3174], [], [2043], [], [2093], [], [], [2018], [1239], [], [], [], [], [], [], [1030, 1002, 1028, 1029], [], [], [2045], []], []), ([[], []], []), ([[], [], [], [4071, 1001, 4068, 4070, 24], [], [], [2045], [], [], [2045], []], []), ([], [])] = true := by decide +kernel
theorem bm_X9_sendOn : ∀ b k, bt_P 198 b = some k → bi_okk bt_M bt_P 198 ((yX9_sendOn, cX9_sendOn, 4, none, RX9, 4, 94, [])) k := fun b k h => bi_oksB_ok _ _ bo_X9_sendOn k (List.mem_of_getElem? (show bt_X9_sendOn[b]? = some k from h))
theorem bo_X9_sendProgress : bi_oksB bt_M bt_P 199 ((yX9_sendProgress, cX9_sendProgress, 4, none, RX9, 2, 44, [])) bt_X9_sendProgress [([[3081, 3082, 1014], [], [], [], [], [2016], [1199], [], [2016], [1201], [3085, 1014, 3083, 3084], [], [], [], [2016], [1206], [3102], [], [2097], [], [3130, 1006, 3127, 3128, 3129]], [])] = true := by decide +kernel
theorem bm_X9_sendProgress : ∀ b k, bt_P 199 b = some k → bi_okk bt_M bt_P 199 ((yX9_sendProgress, cX9_sendProgress, 4, none, RX9, 2, 44, [])) k := fun b k h => bi_oksB_ok _ _ bo_X9_sendProgress k (List.mem_of_getElem? (show bt_X9_sendProgress[b]? = some k from h))
