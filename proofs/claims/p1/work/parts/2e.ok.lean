/-! the tables are as the code has them -/
theorem bo_X9_onLack : bi_oksB bt_M bt_P 185 ((yX9_onLack, cX9_onLack, 3, none, RX9, 5, 117, [])) bt_X9_onLack [([[], [3160, 1009, 3157, 3158, 3159]], []), ([[], [2065]], []), ([[], [2075]], []), ([], []), ([[], [], [3114], [], [2065]], []), ([[], [2048], [], [3114], [3180, 1010, 4116, 3178, 3179]], []), ([[], [3114]], []), ([[]], []), ([[2073], [], [], [3172, 1001, 3169, 3171, 12]], [])] = true := by decide +kernel
theorem bm_X9_onLack : ∀ b k, bt_P 185 b = some k → bi_okk bt_M bt_P 185 ((yX9_onLack, cX9_onLack, 3, none, RX9, 5, 117, [])) k := fun b k h => bi_oksB_ok _ _ bo_X9_onLack k (List.mem_of_getElem? (show bt_X9_onLack[b]? = some k from h))
theorem bo_X9_onOffer_0 : bi_okkB bt_M bt_P 186 ((yX9_onOffer, cX9_onOffer, 4, none, RX9, 5, 117, [])) (bt_X9_onOffer.getD 0 bi_kd) [[], [2048], [3045, 1010, 3054, 3043, 3044], [], [], [2056]] [] = true := by decide +kernel
theorem bo_X9_onOffer_1 : bi_okkB bt_M bt_P 186 ((yX9_onOffer, cX9_onOffer, 4, none, RX9, 5, 117, [])) (bt_X9_onOffer.getD 1 bi_kd) [[], [3114], []] [] = true := by decide +kernel
theorem bo_X9_onOffer_2 : bi_okkB bt_M bt_P 186 ((yX9_onOffer, cX9_onOffer, 4, none, RX9, 5, 117, [])) (bt_X9_onOffer.getD 2 bi_kd) [] [] = true := by decide +kernel
theorem bo_X9_onOffer_3 : bi_okkB bt_M bt_P 186 ((yX9_onOffer, cX9_onOffer, 4, none, RX9, 5, 117, [])) (bt_X9_onOffer.getD 3 bi_kd) [[], [3114], []] [] = true := by decide +kernel
theorem bo_X9_onOffer_4 : bi_okkB bt_M bt_P 186 ((yX9_onOffer, cX9_onOffer, 4, none, RX9, 5, 117, [])) (bt_X9_onOffer.getD 4 bi_kd) [[], [], [], [], [3114], [4025, 1001, 4022, 4024, 18]] [] = true := by decide +kernel
theorem bo_X9_onOffer_5 : bi_okkB bt_M bt_P 186 ((yX9_onOffer, cX9_onOffer, 4, none, RX9, 5, 117, [])) (bt_X9_onOffer.getD 5 bi_kd) [[], [3110]] [] = true := by decide +kernel
theorem bo_X9_onOffer_6 : bi_okkB bt_M bt_P 186 ((yX9_onOffer, cX9_onOffer, 4, none, RX9, 5, 117, [])) (bt_X9_onOffer.getD 6 bi_kd) [[], [3110], []] [] = true := by decide +kernel
theorem bo_X9_onOffer_7 : bi_okkB bt_M bt_P 186 ((yX9_onOffer, cX9_onOffer, 4, none, RX9, 5, 117, [])) (bt_X9_onOffer.getD 7 bi_kd) [[], [], [], [], [4025, 1001, 4022, 4024, 18]] [] = true := by decide +kernel
theorem bo_X9_onOffer_8 : bi_okkB bt_M bt_P 186 ((yX9_onOffer, cX9_onOffer, 4, none, RX9, 5, 117, [])) (bt_X9_onOffer.getD 8 bi_kd) [[], [2050], [], [3110], [], [3114], [4043, 1011, 4040, 4041, 4042]] [] = true := by decide +kernel
theorem bo_X9_onOffer_9 : bi_okkB bt_M bt_P 186 ((yX9_onOffer, cX9_onOffer, 4, none, RX9, 5, 117, [])) (bt_X9_onOffer.getD 9 bi_kd) [[], [2046], [2183, 1003, 2204, 2181, 2182]] [] = true := by decide +kernel
theorem bo_X9_onOffer_10 : bi_okkB bt_M bt_P 186 ((yX9_onOffer, cX9_onOffer, 4, none, RX9, 5, 117, [])) (bt_X9_onOffer.getD 10 bi_kd) [] [] = true := by decide +kernel
theorem bo_X9_onOffer_11 : bi_okkB bt_M bt_P 186 ((yX9_onOffer, cX9_onOffer, 4, none, RX9, 5, 117, [])) (bt_X9_onOffer.getD 11 bi_kd) [[], [2050], [], [4047, 1011, 4044, 4045, 4046]] [] = true := by decide +kernel
theorem bo_X9_onOffer_12 : bi_okkB bt_M bt_P 186 ((yX9_onOffer, cX9_onOffer, 4, none, RX9, 5, 117, [])) (bt_X9_onOffer.getD 12 bi_kd) [[], [2050], [4052, 1011, 4049, 4050, 4051]] [] = true := by decide +kernel
theorem bo_X9_onOffer_13 : bi_okkB bt_M bt_P 186 ((yX9_onOffer, cX9_onOffer, 4, none, RX9, 5, 117, [])) (bt_X9_onOffer.getD 13 bi_kd) [[], [], [4056, 1001, 4053, 4055, 20]] [] = true := by decide +kernel
theorem bo_X9_onOffer_14 : bi_okkB bt_M bt_P 186 ((yX9_onOffer, cX9_onOffer, 4, none, RX9, 5, 117, [])) (bt_X9_onOffer.getD 14 bi_kd) [[], [], [], [4071, 1001, 4068, 4070, 22]] [] = true := by decide +kernel
theorem bo_X9_onOffer_15 : bi_okkB bt_M bt_P 186 ((yX9_onOffer, cX9_onOffer, 4, none, RX9, 5, 117, [])) (bt_X9_onOffer.getD 15 bi_kd) [] [] = true := by decide +kernel
theorem bm_X9_onOffer : ∀ b k, bt_P 186 b = some k → bi_okk bt_M bt_P 186 ((yX9_onOffer, cX9_onOffer, 4, none, RX9, 5, 117, [])) k := fun b k h => bi_allk (show bt_X9_onOffer[b]? = some k from h) (fun b hb => match b, hb with
  | 0, _ => bi_okkB_ok bo_X9_onOffer_0
  | 1, _ => bi_okkB_ok bo_X9_onOffer_1
  | 2, _ => bi_okkB_ok bo_X9_onOffer_2
  | 3, _ => bi_okkB_ok bo_X9_onOffer_3
  | 4, _ => bi_okkB_ok bo_X9_onOffer_4
  | 5, _ => bi_okkB_ok bo_X9_onOffer_5
  | 6, _ => bi_okkB_ok bo_X9_onOffer_6
  | 7, _ => bi_okkB_ok bo_X9_onOffer_7
  | 8, _ => bi_okkB_ok bo_X9_onOffer_8
  | 9, _ => bi_okkB_ok bo_X9_onOffer_9
  | 10, _ => bi_okkB_ok bo_X9_onOffer_10
  | 11, _ => bi_okkB_ok bo_X9_onOffer_11
  | 12, _ => bi_okkB_ok bo_X9_onOffer_12
  | 13, _ => bi_okkB_ok bo_X9_onOffer_13
  | 14, _ => bi_okkB_ok bo_X9_onOffer_14
  | 15, _ => bi_okkB_ok bo_X9_onOffer_15
  | b + 16, hb => absurd hb (by show ¬ b + 16 < 16; omega))
theorem bo_X9_pass : bi_oksB bt_M bt_P 187 ((yX9_pass, cX9_pass, 4, (some .int), RX9, 7, 162, [])) bt_X9_pass [([[], [1142], [], [4013, 1006, 4010, 4011, 4012], [], []], []), ([[]], []), ([[], []], []), ([[]], []), ([[], []], []), ([[], [1142], [], [4017, 1006, 4014, 4015, 4016]], []), ([[]], []), ([[], [], [4021, 1001, 4018, 4020, 17]], []), ([[]], [])] = true := by decide +kernel
theorem bm_X9_pass : ∀ b k, bt_P 187 b = some k → bi_okk bt_M bt_P 187 ((yX9_pass, cX9_pass, 4, (some .int), RX9, 7, 162, [])) k := fun b k h => bi_oksB_ok _ _ bo_X9_pass k (List.mem_of_getElem? (show bt_X9_pass[b]? = some k from h))
theorem bo_X9_period : bi_oksB bt_M bt_P 188 ((yX9_period, cX9_period, 2, (some .boolean), RX9, 1, 20, [])) bt_X9_period [([[]], []), ([[], []], []), ([[]], []), ([[], [], [1145], []], [])] = true := by decide +kernel
theorem bm_X9_period : ∀ b k, bt_P 188 b = some k → bi_okk bt_M bt_P 188 ((yX9_period, cX9_period, 2, (some .boolean), RX9, 1, 20, [])) k := fun b k h => bi_oksB_ok _ _ bo_X9_period k (List.mem_of_getElem? (show bt_X9_period[b]? = some k from h))
theorem bo_X9_power : bi_oksB bt_M bt_P 189 ((yX9_power, cX9_power, 3, (some .boolean), RX9, 1, 20, [])) bt_X9_power [([[]], []), ([[], []], []), ([[], []], []), ([[], [3223]], []), ([[]], []), ([[], [1139], [], [], [], [1050], []], [])] = true := by decide +kernel
theorem bm_X9_power : ∀ b k, bt_P 189 b = some k → bi_okk bt_M bt_P 189 ((yX9_power, cX9_power, 3, (some .boolean), RX9, 1, 20, [])) k := fun b k h => bi_oksB_ok _ _ bo_X9_power k (List.mem_of_getElem? (show bt_X9_power[b]? = some k from h))
theorem bo_X9_read : bi_oksB bt_M bt_P 190 ((yX9_read, cX9_read, 5, (some .int), RX9, 6, 90, [])) bt_X9_read [([[], [], [2132, 1001, 2129, 2131, 0], [], []], []), ([[], [2048], [], [], [2136, 1010, 2133, 2134, 2135]], []), ([], []), ([[], [2046], [1046]], []), ([], []), ([[], [2048], [], [], [2139, 1001, 2137, 2138], [5025, 1010, 5022, 5023, 5024]], [])] = true := by decide +kernel
theorem bm_X9_read : ∀ b k, bt_P 190 b = some k → bi_okk bt_M bt_P 190 ((yX9_read, cX9_read, 5, (some .int), RX9, 6, 90, [])) k := fun b k h => bi_oksB_ok _ _ bo_X9_read k (List.mem_of_getElem? (show bt_X9_read[b]? = some k from h))
theorem bo_X9_receive_0 : bi_okkB bt_M bt_P 191 ((yX9_receive, cX9_receive, 3, none, RX9, 6, 140, [])) (bt_X9_receive.getD 0 bi_kd) [[], [], [3104], [], [], [], [], [2132, 1001, 2129, 2131, 0], [], []] [] = true := by decide +kernel
theorem bo_X9_receive_1 : bi_okkB bt_M bt_P 191 ((yX9_receive, cX9_receive, 3, none, RX9, 6, 140, [])) (bt_X9_receive.getD 1 bi_kd) [[], [2046], [1046]] [] = true := by decide +kernel
theorem bo_X9_receive_2 : bi_okkB bt_M bt_P 191 ((yX9_receive, cX9_receive, 3, none, RX9, 6, 140, [])) (bt_X9_receive.getD 2 bi_kd) [] [] = true := by decide +kernel
theorem bo_X9_receive_3 : bi_okkB bt_M bt_P 191 ((yX9_receive, cX9_receive, 3, none, RX9, 6, 140, [])) (bt_X9_receive.getD 3 bi_kd) [[], [3106], [], [2059]] [] = true := by decide +kernel
theorem bo_X9_receive_4 : bi_okkB bt_M bt_P 191 ((yX9_receive, cX9_receive, 3, none, RX9, 6, 140, [])) (bt_X9_receive.getD 4 bi_kd) [[], [3102], []] [] = true := by decide +kernel
theorem bo_X9_receive_5 : bi_okkB bt_M bt_P 191 ((yX9_receive, cX9_receive, 3, none, RX9, 6, 140, [])) (bt_X9_receive.getD 5 bi_kd) [[], [3102], []] [] = true := by decide +kernel
theorem bo_X9_receive_6 : bi_okkB bt_M bt_P 191 ((yX9_receive, cX9_receive, 3, none, RX9, 6, 140, [])) (bt_X9_receive.getD 6 bi_kd) [[], [3102], []] [] = true := by decide +kernel
theorem bo_X9_receive_7 : bi_okkB bt_M bt_P 191 ((yX9_receive, cX9_receive, 3, none, RX9, 6, 140, [])) (bt_X9_receive.getD 7 bi_kd) [[], [], [], [], [4025, 1001, 4022, 4024, 18]] [] = true := by decide +kernel
theorem bo_X9_receive_8 : bi_okkB bt_M bt_P 191 ((yX9_receive, cX9_receive, 3, none, RX9, 6, 140, [])) (bt_X9_receive.getD 8 bi_kd) [] [] = true := by decide +kernel
theorem bo_X9_receive_9 : bi_okkB bt_M bt_P 191 ((yX9_receive, cX9_receive, 3, none, RX9, 6, 140, [])) (bt_X9_receive.getD 9 bi_kd) [[], [3106], [], [2059]] [] = true := by decide +kernel
theorem bo_X9_receive_10 : bi_okkB bt_M bt_P 191 ((yX9_receive, cX9_receive, 3, none, RX9, 6, 140, [])) (bt_X9_receive.getD 10 bi_kd) [[], [2046], [2183, 1003, 2204, 2181, 2182]] [] = true := by decide +kernel
theorem bo_X9_receive_11 : bi_okkB bt_M bt_P 191 ((yX9_receive, cX9_receive, 3, none, RX9, 6, 140, [])) (bt_X9_receive.getD 11 bi_kd) [] [] = true := by decide +kernel
theorem bo_X9_receive_12 : bi_okkB bt_M bt_P 191 ((yX9_receive, cX9_receive, 3, none, RX9, 6, 140, [])) (bt_X9_receive.getD 12 bi_kd) [[], [], [3106], [4029, 1009, 4026, 4027, 4028]] [] = true := by decide +kernel
theorem bo_X9_receive_13 : bi_okkB bt_M bt_P 191 ((yX9_receive, cX9_receive, 3, none, RX9, 6, 140, [])) (bt_X9_receive.getD 13 bi_kd) [[], [3102]] [] = true := by decide +kernel
theorem bo_X9_receive_14 : bi_okkB bt_M bt_P 191 ((yX9_receive, cX9_receive, 3, none, RX9, 6, 140, [])) (bt_X9_receive.getD 14 bi_kd) [[], [], [], [4039, 1001, 4036, 4038, 19]] [] = true := by decide +kernel
theorem bo_X9_receive_15 : bi_okkB bt_M bt_P 191 ((yX9_receive, cX9_receive, 3, none, RX9, 6, 140, [])) (bt_X9_receive.getD 15 bi_kd) [[], [], [], [4075, 1001, 4072, 4074, 23]] [] = true := by decide +kernel
theorem bo_X9_receive_16 : bi_okkB bt_M bt_P 191 ((yX9_receive, cX9_receive, 3, none, RX9, 6, 140, [])) (bt_X9_receive.getD 16 bi_kd) [[], [], [], [4095, 1001, 4092, 4094, 26]] [] = true := by decide +kernel
theorem bo_X9_receive_17 : bi_okkB bt_M bt_P 191 ((yX9_receive, cX9_receive, 3, none, RX9, 6, 140, [])) (bt_X9_receive.getD 17 bi_kd) [[], [], [], [4107, 1001, 4104, 4106, 27]] [] = true := by decide +kernel
theorem bo_X9_receive_18 : bi_okkB bt_M bt_P 191 ((yX9_receive, cX9_receive, 3, none, RX9, 6, 140, [])) (bt_X9_receive.getD 18 bi_kd) [[], [], [], [4111, 1001, 4108, 4110, 28]] [] = true := by decide +kernel
theorem bo_X9_receive_19 : bi_okkB bt_M bt_P 191 ((yX9_receive, cX9_receive, 3, none, RX9, 6, 140, [])) (bt_X9_receive.getD 19 bi_kd) [[], [], [], [4115, 1001, 4112, 4114, 29]] [] = true := by decide +kernel
theorem bo_X9_receive_20 : bi_okkB bt_M bt_P 191 ((yX9_receive, cX9_receive, 3, none, RX9, 6, 140, [])) (bt_X9_receive.getD 20 bi_kd) [[], [], [], [4120, 1001, 4117, 4119, 30]] [] = true := by decide +kernel
theorem bo_X9_receive_21 : bi_okkB bt_M bt_P 191 ((yX9_receive, cX9_receive, 3, none, RX9, 6, 140, [])) (bt_X9_receive.getD 21 bi_kd) [[], [], [], [4124, 1001, 4121, 4123, 31]] [] = true := by decide +kernel
theorem bo_X9_receive_22 : bi_okkB bt_M bt_P 191 ((yX9_receive, cX9_receive, 3, none, RX9, 6, 140, [])) (bt_X9_receive.getD 22 bi_kd) [[], [], [], [4128, 1001, 4125, 4127, 32]] [] = true := by decide +kernel
theorem bo_X9_receive_23 : bi_okkB bt_M bt_P 191 ((yX9_receive, cX9_receive, 3, none, RX9, 6, 140, [])) (bt_X9_receive.getD 23 bi_kd) [] [] = true := by decide +kernel
theorem bm_X9_receive : ∀ b k, bt_P 191 b = some k → bi_okk bt_M bt_P 191 ((yX9_receive, cX9_receive, 3, none, RX9, 6, 140, [])) k := fun b k h => bi_allk (show bt_X9_receive[b]? = some k from h) (fun b hb => match b, hb with
  | 0, _ => bi_okkB_ok bo_X9_receive_0
  | 1, _ => bi_okkB_ok bo_X9_receive_1
  | 2, _ => bi_okkB_ok bo_X9_receive_2
  | 3, _ => bi_okkB_ok bo_X9_receive_3
  | 4, _ => bi_okkB_ok bo_X9_receive_4
  | 5, _ => bi_okkB_ok bo_X9_receive_5
  | 6, _ => bi_okkB_ok bo_X9_receive_6
  | 7, _ => bi_okkB_ok bo_X9_receive_7
  | 8, _ => bi_okkB_ok bo_X9_receive_8
  | 9, _ => bi_okkB_ok bo_X9_receive_9
  | 10, _ => bi_okkB_ok bo_X9_receive_10
  | 11, _ => bi_okkB_ok bo_X9_receive_11
  | 12, _ => bi_okkB_ok bo_X9_receive_12
  | 13, _ => bi_okkB_ok bo_X9_receive_13
  | 14, _ => bi_okkB_ok bo_X9_receive_14
  | 15, _ => bi_okkB_ok bo_X9_receive_15
  | 16, _ => bi_okkB_ok bo_X9_receive_16
  | 17, _ => bi_okkB_ok bo_X9_receive_17
  | 18, _ => bi_okkB_ok bo_X9_receive_18
  | 19, _ => bi_okkB_ok bo_X9_receive_19
  | 20, _ => bi_okkB_ok bo_X9_receive_20
  | 21, _ => bi_okkB_ok bo_X9_receive_21
  | 22, _ => bi_okkB_ok bo_X9_receive_22
  | 23, _ => bi_okkB_ok bo_X9_receive_23
  | b + 24, hb => absurd hb (by show ¬ b + 24 < 24; omega))
theorem bo_X9_refusalOf : bi_oksB bt_M bt_P 192 ((yX9_refusalOf, cX9_refusalOf, 2, (some .int), RX9, 1, 20, [])) bt_X9_refusalOf [([[]], []), ([[]], []), ([[], [2046], [1046]], []), ([[]], []), ([[], [2056], []], []), ([[]], []), ([[]], []), ([], [])] = true := by decide +kernel
theorem bm_X9_refusalOf : ∀ b k, bt_P 192 b = some k → bi_okk bt_M bt_P 192 ((yX9_refusalOf, cX9_refusalOf, 2, (some .int), RX9, 1, 20, [])) k := fun b k h => bi_oksB_ok _ _ bo_X9_refusalOf k (List.mem_of_getElem? (show bt_X9_refusalOf[b]? = some k from h))
theorem bo_X9_send : bi_oksB bt_M bt_P 193 ((yX9_send, cX9_send, 4, none, RX9, 2, 44, [])) bt_X9_send [([[], [1142], [3095, 3096, 1016], [], [], [], [], [], [3099, 1016, 3097, 3098], [3144, 1006, 3141, 3142, 3143]], [])] = true := by decide +kernel
theorem bm_X9_send : ∀ b k, bt_P 193 b = some k → bi_okk bt_M bt_P 193 ((yX9_send, cX9_send, 4, none, RX9, 2, 44, [])) k := fun b k h => bi_oksB_ok _ _ bo_X9_send k (List.mem_of_getElem? (show bt_X9_send[b]? = some k from h))
theorem bo_X9_sendData_0 : bi_okkB bt_M bt_P 194 ((yX9_sendData, cX9_sendData, 9, none, RX9, 2, 44, [])) (bt_X9_sendData.getD 0 bi_kd) [[3095, 3096, 1016], [], [], [], [], [2073], [], [2065], [3099, 1016, 3097, 3098], [], [], [], [3116], [], [], [], [], [], [], [], [2052], [2033], [], [], [1032, 1002, 1030, 1031], [1035, 1002, 1033, 1034], [], [], [], [], [], [1082], [3121], [], []] [] = true := by decide +kernel
theorem bo_X9_sendData_1 : bi_okkB bt_M bt_P 194 ((yX9_sendData, cX9_sendData, 9, none, RX9, 2, 44, [])) (bt_X9_sendData.getD 1 bi_kd) [[], []] [] = true := by decide +kernel
theorem bo_X9_sendData_2 : bi_okkB bt_M bt_P 194 ((yX9_sendData, cX9_sendData, 9, none, RX9, 2, 44, [])) (bt_X9_sendData.getD 2 bi_kd) [[], [2052], [2031], [], [], [], [], [], [], []] [] = true := by decide +kernel
theorem bo_X9_sendData_3 : bi_okkB bt_M bt_P 194 ((yX9_sendData, cX9_sendData, 9, none, RX9, 2, 44, [])) (bt_X9_sendData.getD 3 bi_kd) [[], []] [] = true := by decide +kernel
theorem bo_X9_sendData_4 : bi_okkB bt_M bt_P 194 ((yX9_sendData, cX9_sendData, 9, none, RX9, 2, 44, [])) (bt_X9_sendData.getD 4 bi_kd) [[], [3121], [], [], [], [], [], [], [1141], [], [], [4091, 1004, 4088, 4089, 4090], [], []] [] = true := by decide +kernel
theorem bo_X9_sendData_5 : bi_okkB bt_M bt_P 194 ((yX9_sendData, cX9_sendData, 9, none, RX9, 2, 44, [])) (bt_X9_sendData.getD 5 bi_kd) [[]] [] = true := by decide +kernel
theorem bo_X9_sendData_6 : bi_okkB bt_M bt_P 194 ((yX9_sendData, cX9_sendData, 9, none, RX9, 2, 44, [])) (bt_X9_sendData.getD 6 bi_kd) [[], [1142], [], [3144, 1006, 3141, 3142, 3143]] [] = true := by decide +kernel
theorem bm_X9_sendData : ∀ b k, bt_P 194 b = some k → bi_okk bt_M bt_P 194 ((yX9_sendData, cX9_sendData, 9, none, RX9, 2, 44, [])) k := fun b k h => bi_allk (show bt_X9_sendData[b]? = some k from h) (fun b hb => match b, hb with
  | 0, _ => bi_okkB_ok bo_X9_sendData_0
  | 1, _ => bi_okkB_ok bo_X9_sendData_1
  | 2, _ => bi_okkB_ok bo_X9_sendData_2
  | 3, _ => bi_okkB_ok bo_X9_sendData_3
  | 4, _ => bi_okkB_ok bo_X9_sendData_4
  | 5, _ => bi_okkB_ok bo_X9_sendData_5
  | 6, _ => bi_okkB_ok bo_X9_sendData_6
  | b + 7, hb => absurd hb (by show ¬ b + 7 < 7; omega))
theorem bo_X9_sendForward : bi_oksB bt_M bt_P 195 ((yX9_sendForward, cX9_sendForward, 2, none, RX9, 5, 117, [])) bt_X9_sendForward [([[], [2065]], []), ([[], [3168, 1009, 3165, 3166, 3167]], []), ([[], [], [3172, 1001, 3169, 3171, 12]], []), ([[], [2048], [3045, 1010, 3054, 3043, 3044], [], [2063]], []), ([[], [2046], [2183, 1003, 2204, 2181, 2182]], []), ([[], [], [2048], [3045, 1010, 3054, 3043, 3044], [2065], [], [], [2063], [2073], [], [], [3172, 1001, 3169, 3171, 12]], []), ([[], [2056], []], []), ([[], [], [3214, 1001, 3211, 3213, 14]], []), ([], [])] = true := by decide +kernel
theorem bm_X9_sendForward : ∀ b k, bt_P 195 b = some k → bi_okk bt_M bt_P 195 ((yX9_sendForward, cX9_sendForward, 2, none, RX9, 5, 117, [])) k := fun b k h => bi_oksB_ok _ _ bo_X9_sendForward k (List.mem_of_getElem? (show bt_X9_sendForward[b]? = some k from h))
theorem bo_X9_sendGive : bi_oksB bt_M bt_P 196 ((yX9_sendGive, cX9_sendGive, 3, none, RX9, 2, 44, [])) bt_X9_sendGive [([[], [], [2081], [3095, 3096, 1016], [], [], [], [], [], [2048], [3045, 1010, 3054, 3043, 3044], [3099, 1016, 3097, 3098], [], [], [], [2070], [3116], [], [1142], [], [3144, 1006, 3141, 3142, 3143]], [])] = true := by decide +kernel
theorem bm_X9_sendGive : ∀ b k, bt_P 196 b = some k → bi_okk bt_M bt_P 196 ((yX9_sendGive, cX9_sendGive, 3, none, RX9, 2, 44, [])) k := fun b k h => bi_oksB_ok _ _ bo_X9_sendGive k (List.mem_of_getElem? (show bt_X9_sendGive[b]? = some k from h))
theorem bo_X9_sendHello : bi_oksB bt_M bt_P 197 ((yX9_sendHello, cX9_sendHello, 5, none, RX9, 2, 44, [])) bt_X9_sendHello [([[], [], [2081], [3095, 3096, 1016], [], [], [], [], [], [3099, 1016, 3097, 3098], [], [], [2048], [1196], [], [], [], [], [], [1082], [3121], [], []], []), ([[], []], []), ([[], [3121], [], [], [], [], [2048], [1191], [], [], [], [], [], [], [], []], []), ([[], [1142], [], [3144, 1006, 3141, 3142, 3143]], [])] = true := by decide +kernel
theorem bm_X9_sendHello : ∀ b k, bt_P 197 b = some k → bi_okk bt_M bt_P 197 ((yX9_sendHello, cX9_sendHello, 5, none, RX9, 2, 44, [])) k := fun b k h => bi_oksB_ok _ _ bo_X9_sendHello k (List.mem_of_getElem? (show bt_X9_sendHello[b]? = some k from h))
