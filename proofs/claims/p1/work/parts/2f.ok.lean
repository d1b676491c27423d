/-! the tables are as the code has them -/
theorem bo_X9_sendOffer : bi_oksB bt_M bt_P 198 ((yX9_sendOffer, cX9_sendOffer, 4, none, RX9, 4, 94, [])) bt_X9_sendOffer [([[], [], [2075], [], [], [2081], [], [2048], [], [2065], [3176, 1010, 3173, 3174, 3175], [], [], [1141], [], [2052], [], [], [2048], [], [2073], [3184, 1010, 3181, 3182, 3183], [3189, 1004, 3186, 3187, 3188], [3095, 3096, 1016], [], [], [], [], [2073], [], [2065], [3099, 1016, 3097, 3098], [], [], [], [2052], [2033], [3116], [], [], [1141], [1095], [], [], [3117], [], [], [3119], [], [1142], [], [3144, 1006, 3141, 3142, 3143]], [])] = true := by decide +kernel
theorem bm_X9_sendOffer : ∀ b k, bt_P 198 b = some k → bi_okk bt_M bt_P 198 ((yX9_sendOffer, cX9_sendOffer, 4, none, RX9, 4, 94, [])) k := fun b k h => bi_oksB_ok _ _ bo_X9_sendOffer k (List.mem_of_getElem? (show bt_X9_sendOffer[b]? = some k from h))
theorem bo_X9_sendOn : bi_oksB bt_M bt_P 199 ((yX9_sendOn, cX9_sendOn, 4, none, RX9, 4, 94, [])) bt_X9_sendOn [([[], [1141], [], [2052], [], [2048], [], [2065], [3176, 1010, 3173, 3174, 3175], [], [2048], [], [2073], [3184, 1010, 3181, 3182, 3183], [3189, 1004, 3186, 3187, 3188], [], [2077], [], [1138], [], [], [2052], [2033], [], [], [], [], [], [], [1032, 1002, 1030, 1031], [], [], [2079], []], []), ([[], []], []), ([[], [], [], [4087, 1001, 4084, 4086, 25], [], [], [2079], [], [], [2079], []], []), ([], [])] = true := by decide +kernel
theorem bm_X9_sendOn : ∀ b k, bt_P 199 b = some k → bi_okk bt_M bt_P 199 ((yX9_sendOn, cX9_sendOn, 4, none, RX9, 4, 94, [])) k := fun b k h => bi_oksB_ok _ _ bo_X9_sendOn k (List.mem_of_getElem? (show bt_X9_sendOn[b]? = some k from h))
theorem bo_X9_sendProgress : bi_oksB bt_M bt_P 200 ((yX9_sendProgress, cX9_sendProgress, 4, none, RX9, 2, 44, [])) bt_X9_sendProgress [([[3095, 3096, 1016], [], [], [], [], [2050], [1233], [], [2050], [1235], [3099, 1016, 3097, 3098], [], [], [], [2050], [2000], [3116], [], [1142], [], [3144, 1006, 3141, 3142, 3143]], [])] = true := by decide +kernel
theorem bm_X9_sendProgress : ∀ b k, bt_P 200 b = some k → bi_okk bt_M bt_P 200 ((yX9_sendProgress, cX9_sendProgress, 4, none, RX9, 2, 44, [])) k := fun b k h => bi_oksB_ok _ _ bo_X9_sendProgress k (List.mem_of_getElem? (show bt_X9_sendProgress[b]? = some k from h))
theorem bo_X9_snap : bi_oksB bt_M bt_P 201 ((yX9_snap, cX9_snap, 5, (some .int), RX9, 2, 41, [])) bt_X9_snap [([[], [], [2132, 1001, 2129, 2131, 0], [], []], []), ([[], [2048], [], [4149, 1010, 4146, 4147, 4148]], []), ([[]], []), ([[], []], []), ([[]], []), ([[]], []), ([[], [2048], [1191], [], []], []), ([[], [2048], [], [3053, 1010, 4150, 3051, 3052]], []), ([], [])] = true := by decide +kernel
theorem bm_X9_snap : ∀ b k, bt_P 201 b = some k → bi_okk bt_M bt_P 201 ((yX9_snap, cX9_snap, 5, (some .int), RX9, 2, 41, [])) k := fun b k h => bi_oksB_ok _ _ bo_X9_snap k (List.mem_of_getElem? (show bt_X9_snap[b]? = some k from h))
theorem bo_X9_snapshot : bi_oksB bt_M bt_P 202 ((yX9_snapshot, cX9_snapshot, 4, (some .int), RX9, 6, 125, [])) bt_X9_snapshot [([[], [], [2132, 1001, 2129, 2131, 0], [], [], [], [2146, 1001, 2144, 2145], [], []], []), ([[]], []), ([[], [2048], [3025, 1010, 3022, 3023, 3024]], []), ([[]], []), ([[], [2060], []], []), ([[]], []), ([[], [], [3029, 1001, 3026, 3028, 7]], []), ([[], [2048], [3045, 1010, 3054, 3043, 3044]], []), ([[]], []), ([], [])] = true := by decide +kernel
theorem bm_X9_snapshot : ∀ b k, bt_P 202 b = some k → bi_okk bt_M bt_P 202 ((yX9_snapshot, cX9_snapshot, 4, (some .int), RX9, 6, 125, [])) k := fun b k h => bi_oksB_ok _ _ bo_X9_snapshot k (List.mem_of_getElem? (show bt_X9_snapshot[b]? = some k from h))
theorem bo_X9_spotOf : bi_oksB bt_M bt_P 203 ((yX9_spotOf, cX9_spotOf, 2, (some .int), RX9, 1, 20, [])) bt_X9_spotOf [([[], [], [], [], []], [])] = true := by decide +kernel
theorem bm_X9_spotOf : ∀ b k, bt_P 203 b = some k → bi_okk bt_M bt_P 203 ((yX9_spotOf, cX9_spotOf, 2, (some .int), RX9, 1, 20, [])) k := fun b k h => bi_oksB_ok _ _ bo_X9_spotOf k (List.mem_of_getElem? (show bt_X9_spotOf[b]? = some k from h))
theorem bo_X9_state_0 : bi_okkB bt_M bt_P 204 ((yX9_state, cX9_state, 4, (some .int), RX9, 2, 41, [])) (bt_X9_state.getD 0 bi_kd) [[], [], [2132, 1001, 2129, 2131, 0], [], []] [] = true := by decide +kernel
theorem bo_X9_state_1 : bi_okkB bt_M bt_P 204 ((yX9_state, cX9_state, 4, (some .int), RX9, 2, 41, [])) (bt_X9_state.getD 1 bi_kd) [[]] [] = true := by decide +kernel
theorem bo_X9_state_2 : bi_okkB bt_M bt_P 204 ((yX9_state, cX9_state, 4, (some .int), RX9, 2, 41, [])) (bt_X9_state.getD 2 bi_kd) [[]] [] = true := by decide +kernel
theorem bo_X9_state_3 : bi_okkB bt_M bt_P 204 ((yX9_state, cX9_state, 4, (some .int), RX9, 2, 41, [])) (bt_X9_state.getD 3 bi_kd) [[], [2056]] [] = true := by decide +kernel
theorem bo_X9_state_4 : bi_okkB bt_M bt_P 204 ((yX9_state, cX9_state, 4, (some .int), RX9, 2, 41, [])) (bt_X9_state.getD 4 bi_kd) [[], [2059]] [] = true := by decide +kernel
theorem bo_X9_state_5 : bi_okkB bt_M bt_P 204 ((yX9_state, cX9_state, 4, (some .int), RX9, 2, 41, [])) (bt_X9_state.getD 5 bi_kd) [[], [1141], [1095], [], [2048], [1184], []] [] = true := by decide +kernel
theorem bo_X9_state_6 : bi_okkB bt_M bt_P 204 ((yX9_state, cX9_state, 4, (some .int), RX9, 2, 41, [])) (bt_X9_state.getD 6 bi_kd) [[], [1141], [1095], [], [2048], [1186], []] [] = true := by decide +kernel
theorem bo_X9_state_7 : bi_okkB bt_M bt_P 204 ((yX9_state, cX9_state, 4, (some .int), RX9, 2, 41, [])) (bt_X9_state.getD 7 bi_kd) [[], [1141], [1095], [], [2048], [1188], []] [] = true := by decide +kernel
theorem bo_X9_state_8 : bi_okkB bt_M bt_P 204 ((yX9_state, cX9_state, 4, (some .int), RX9, 2, 41, [])) (bt_X9_state.getD 8 bi_kd) [[], [2048], [1196]] [] = true := by decide +kernel
theorem bo_X9_state_9 : bi_okkB bt_M bt_P 204 ((yX9_state, cX9_state, 4, (some .int), RX9, 2, 41, [])) (bt_X9_state.getD 9 bi_kd) [[], [2048], [3045, 1010, 3054, 3043, 3044]] [] = true := by decide +kernel
theorem bo_X9_state_10 : bi_okkB bt_M bt_P 204 ((yX9_state, cX9_state, 4, (some .int), RX9, 2, 41, [])) (bt_X9_state.getD 10 bi_kd) [[], [2063]] [] = true := by decide +kernel
theorem bo_X9_state_11 : bi_okkB bt_M bt_P 204 ((yX9_state, cX9_state, 4, (some .int), RX9, 2, 41, [])) (bt_X9_state.getD 11 bi_kd) [[], [2065]] [] = true := by decide +kernel
theorem bo_X9_state_12 : bi_okkB bt_M bt_P 204 ((yX9_state, cX9_state, 4, (some .int), RX9, 2, 41, [])) (bt_X9_state.getD 12 bi_kd) [[], [2067]] [] = true := by decide +kernel
theorem bo_X9_state_13 : bi_okkB bt_M bt_P 204 ((yX9_state, cX9_state, 4, (some .int), RX9, 2, 41, [])) (bt_X9_state.getD 13 bi_kd) [[], [2069]] [] = true := by decide +kernel
theorem bo_X9_state_14 : bi_okkB bt_M bt_P 204 ((yX9_state, cX9_state, 4, (some .int), RX9, 2, 41, [])) (bt_X9_state.getD 14 bi_kd) [[], [2070]] [] = true := by decide +kernel
theorem bo_X9_state_15 : bi_okkB bt_M bt_P 204 ((yX9_state, cX9_state, 4, (some .int), RX9, 2, 41, [])) (bt_X9_state.getD 15 bi_kd) [[], [2073]] [] = true := by decide +kernel
theorem bo_X9_state_16 : bi_okkB bt_M bt_P 204 ((yX9_state, cX9_state, 4, (some .int), RX9, 2, 41, [])) (bt_X9_state.getD 16 bi_kd) [[], [2075]] [] = true := by decide +kernel
theorem bo_X9_state_17 : bi_okkB bt_M bt_P 204 ((yX9_state, cX9_state, 4, (some .int), RX9, 2, 41, [])) (bt_X9_state.getD 17 bi_kd) [[], [2077]] [] = true := by decide +kernel
theorem bo_X9_state_18 : bi_okkB bt_M bt_P 204 ((yX9_state, cX9_state, 4, (some .int), RX9, 2, 41, [])) (bt_X9_state.getD 18 bi_kd) [[], [2079]] [] = true := by decide +kernel
theorem bo_X9_state_19 : bi_okkB bt_M bt_P 204 ((yX9_state, cX9_state, 4, (some .int), RX9, 2, 41, [])) (bt_X9_state.getD 19 bi_kd) [[], [2081]] [] = true := by decide +kernel
theorem bo_X9_state_20 : bi_okkB bt_M bt_P 204 ((yX9_state, cX9_state, 4, (some .int), RX9, 2, 41, [])) (bt_X9_state.getD 20 bi_kd) [[], [2082]] [] = true := by decide +kernel
theorem bo_X9_state_21 : bi_okkB bt_M bt_P 204 ((yX9_state, cX9_state, 4, (some .int), RX9, 2, 41, [])) (bt_X9_state.getD 21 bi_kd) [[]] [] = true := by decide +kernel
theorem bo_X9_state_22 : bi_okkB bt_M bt_P 204 ((yX9_state, cX9_state, 4, (some .int), RX9, 2, 41, [])) (bt_X9_state.getD 22 bi_kd) [[]] [] = true := by decide +kernel
theorem bo_X9_state_23 : bi_okkB bt_M bt_P 204 ((yX9_state, cX9_state, 4, (some .int), RX9, 2, 41, [])) (bt_X9_state.getD 23 bi_kd) [] [] = true := by decide +kernel
theorem bo_X9_state_24 : bi_okkB bt_M bt_P 204 ((yX9_state, cX9_state, 4, (some .int), RX9, 2, 41, [])) (bt_X9_state.getD 24 bi_kd) [[], [2050], [2000]] [] = true := by decide +kernel
theorem bo_X9_state_25 : bi_okkB bt_M bt_P 204 ((yX9_state, cX9_state, 4, (some .int), RX9, 2, 41, [])) (bt_X9_state.getD 25 bi_kd) [[], [2050], [2003]] [] = true := by decide +kernel
theorem bo_X9_state_26 : bi_okkB bt_M bt_P 204 ((yX9_state, cX9_state, 4, (some .int), RX9, 2, 41, [])) (bt_X9_state.getD 26 bi_kd) [[], [2050], [1235]] [] = true := by decide +kernel
theorem bo_X9_state_27 : bi_okkB bt_M bt_P 204 ((yX9_state, cX9_state, 4, (some .int), RX9, 2, 41, [])) (bt_X9_state.getD 27 bi_kd) [[], [2050], [2004]] [] = true := by decide +kernel
theorem bo_X9_state_28 : bi_okkB bt_M bt_P 204 ((yX9_state, cX9_state, 4, (some .int), RX9, 2, 41, [])) (bt_X9_state.getD 28 bi_kd) [[], [2054], [2033]] [] = true := by decide +kernel
theorem bo_X9_state_29 : bi_okkB bt_M bt_P 204 ((yX9_state, cX9_state, 4, (some .int), RX9, 2, 41, [])) (bt_X9_state.getD 29 bi_kd) [[], [2217, 1009, 2214, 2215, 2216]] [] = true := by decide +kernel
theorem bo_X9_state_30 : bi_okkB bt_M bt_P 204 ((yX9_state, cX9_state, 4, (some .int), RX9, 2, 41, [])) (bt_X9_state.getD 30 bi_kd) [[], [2060]] [] = true := by decide +kernel
theorem bo_X9_state_31 : bi_okkB bt_M bt_P 204 ((yX9_state, cX9_state, 4, (some .int), RX9, 2, 41, [])) (bt_X9_state.getD 31 bi_kd) [[]] [] = true := by decide +kernel
theorem bm_X9_state : ∀ b k, bt_P 204 b = some k → bi_okk bt_M bt_P 204 ((yX9_state, cX9_state, 4, (some .int), RX9, 2, 41, [])) k := fun b k h => bi_allk (show bt_X9_state[b]? = some k from h) (fun b hb => match b, hb with
  | 0, _ => bi_okkB_ok bo_X9_state_0
  | 1, _ => bi_okkB_ok bo_X9_state_1
  | 2, _ => bi_okkB_ok bo_X9_state_2
  | 3, _ => bi_okkB_ok bo_X9_state_3
  | 4, _ => bi_okkB_ok bo_X9_state_4
  | 5, _ => bi_okkB_ok bo_X9_state_5
  | 6, _ => bi_okkB_ok bo_X9_state_6
  | 7, _ => bi_okkB_ok bo_X9_state_7
  | 8, _ => bi_okkB_ok bo_X9_state_8
  | 9, _ => bi_okkB_ok bo_X9_state_9
  | 10, _ => bi_okkB_ok bo_X9_state_10
  | 11, _ => bi_okkB_ok bo_X9_state_11
  | 12, _ => bi_okkB_ok bo_X9_state_12
  | 13, _ => bi_okkB_ok bo_X9_state_13
  | 14, _ => bi_okkB_ok bo_X9_state_14
  | 15, _ => bi_okkB_ok bo_X9_state_15
  | 16, _ => bi_okkB_ok bo_X9_state_16
  | 17, _ => bi_okkB_ok bo_X9_state_17
  | 18, _ => bi_okkB_ok bo_X9_state_18
  | 19, _ => bi_okkB_ok bo_X9_state_19
  | 20, _ => bi_okkB_ok bo_X9_state_20
  | 21, _ => bi_okkB_ok bo_X9_state_21
  | 22, _ => bi_okkB_ok bo_X9_state_22
  | 23, _ => bi_okkB_ok bo_X9_state_23
  | 24, _ => bi_okkB_ok bo_X9_state_24
  | 25, _ => bi_okkB_ok bo_X9_state_25
  | 26, _ => bi_okkB_ok bo_X9_state_26
  | 27, _ => bi_okkB_ok bo_X9_state_27
  | 28, _ => bi_okkB_ok bo_X9_state_28
  | 29, _ => bi_okkB_ok bo_X9_state_29
  | 30, _ => bi_okkB_ok bo_X9_state_30
  | 31, _ => bi_okkB_ok bo_X9_state_31
  | b + 32, hb => absurd hb (by show ¬ b + 32 < 32; omega))
theorem bo_X9_stay : bi_oksB bt_M bt_P 205 ((yX9_stay, cX9_stay, 4, (some .int), RX9, 3, 60, [])) bt_X9_stay [([[], [], [2132, 1001, 2129, 2131, 0], [], [], [], [2146, 1001, 2144, 2145], [], []], []), ([[]], []), ([[], [2070]], []), ([[]], []), ([[], [2046], [2183, 1003, 2204, 2181, 2182]], []), ([[]], []), ([[], [], [2056], []], [])] = true := by decide +kernel
theorem bm_X9_stay : ∀ b k, bt_P 205 b = some k → bi_okk bt_M bt_P 205 ((yX9_stay, cX9_stay, 4, (some .int), RX9, 3, 60, [])) k := fun b k h => bi_oksB_ok _ _ bo_X9_stay k (List.mem_of_getElem? (show bt_X9_stay[b]? = some k from h))
theorem bo_X9_storeOf : bi_oksB bt_M bt_P 206 ((yX9_storeOf, cX9_storeOf, 2, (some (.object "TwinVaults$Store")), RX9, 1, 20, [])) bt_X9_storeOf [([[]], []), ([[], []], []), ([[]], []), ([[], [1140], [], []], []), ([], [])] = true := by decide +kernel
theorem bm_X9_storeOf : ∀ b k, bt_P 206 b = some k → bi_okk bt_M bt_P 206 ((yX9_storeOf, cX9_storeOf, 2, (some (.object "TwinVaults$Store")), RX9, 1, 20, [])) k := fun b k h => bi_oksB_ok _ _ bo_X9_storeOf k (List.mem_of_getElem? (show bt_X9_storeOf[b]? = some k from h))
theorem bo_X9_sum : bi_oksB bt_M bt_P 207 ((yX9_sum, cX9_sum, 7, (some .int), RX9, 6, 90, [])) bt_X9_sum [([[], [], [2132, 1001, 2129, 2131, 0], [], []], []), ([[], [2048], [], [], [2136, 1010, 2133, 2134, 2135]], []), ([], []), ([[], [2046], [1046]], []), ([], []), ([[], [], [2139, 1001, 2137, 2138], [], [], [], [], []], []), ([[], [], [2048], [1181]], []), ([[], [], [], [], [2048], [], [], [], [5025, 1010, 5022, 5023, 5024], [], [], []], []), ([[]], [])] = true := by decide +kernel
theorem bm_X9_sum : ∀ b k, bt_P 207 b = some k → bi_okk bt_M bt_P 207 ((yX9_sum, cX9_sum, 7, (some .int), RX9, 6, 90, [])) k := fun b k h => bi_oksB_ok _ _ bo_X9_sum k (List.mem_of_getElem? (show bt_X9_sum[b]? = some k from h))
theorem bo_X9_tick : bi_oksB bt_M bt_P 208 ((yX9_tick, cX9_tick, 3, (some .int), RX9, 7, 159, [])) bt_X9_tick [([[], [], [1144], [], [], [1144], [], []], []), ([[], []], []), ([[], [], [2132, 1001, 2129, 2131, 0], [], []], []), ([[], [2046], [1046]], []), ([[], [], [3156, 1001, 3153, 3155, 10]], []), ([[]], []), ([[], [1144]], [])] = true := by decide +kernel
theorem bm_X9_tick : ∀ b k, bt_P 208 b = some k → bi_okk bt_M bt_P 208 ((yX9_tick, cX9_tick, 3, (some .int), RX9, 7, 159, [])) k := fun b k h => bi_oksB_ok _ _ bo_X9_tick k (List.mem_of_getElem? (show bt_X9_tick[b]? = some k from h))
theorem bo_X9_tickOf : bi_oksB bt_M bt_P 209 ((yX9_tickOf, cX9_tickOf, 2, none, RX9, 6, 138, [])) bt_X9_tickOf [([[], [2056], []], []), ([[], [1145]], []), ([[], [1144], [], [1145], []], []), ([[], [2048], [3025, 1010, 3022, 3023, 3024]], []), ([[], [2060], []], []), ([[], [], [3029, 1001, 3026, 3028, 7]], []), ([], []), ([[], [3160, 1009, 3157, 3158, 3159]], []), ([[], [], [3164, 1001, 3161, 3163, 11]], []), ([[], [2056], []], []), ([[], [2082]], []), ([[], [3168, 1009, 3165, 3166, 3167]], []), ([[], [], [3094, 1001, 3091, 3093, 9]], []), ([], [])] = true := by decide +kernel
theorem bm_X9_tickOf : ∀ b k, bt_P 209 b = some k → bi_okk bt_M bt_P 209 ((yX9_tickOf, cX9_tickOf, 2, none, RX9, 6, 138, [])) k := fun b k h => bi_oksB_ok _ _ bo_X9_tickOf k (List.mem_of_getElem? (show bt_X9_tickOf[b]? = some k from h))
theorem bo_X9_tookSnapshot : bi_oksB bt_M bt_P 210 ((yX9_tookSnapshot, cX9_tookSnapshot, 2, (some .boolean), RX9, 5, 104, [])) bt_X9_tookSnapshot [([[], [], [2163, 1001, 2160, 2162, 3]], []), ([[], [2046], [2183, 1003, 2204, 2181, 2182]], []), ([[]], []), ([[], [], [2060], [], [], [2060], [], [2048], [], [], [2059], [], [], [2060], [], [3033, 1010, 3030, 3031, 3032], [], [], [1137], [3037, 1009, 3034, 3035, 3036], []], [])] = true := by decide +kernel
theorem bm_X9_tookSnapshot : ∀ b k, bt_P 210 b = some k → bi_okk bt_M bt_P 210 ((yX9_tookSnapshot, cX9_tookSnapshot, 2, (some .boolean), RX9, 5, 104, [])) k := fun b k h => bi_oksB_ok _ _ bo_X9_tookSnapshot k (List.mem_of_getElem? (show bt_X9_tookSnapshot[b]? = some k from h))
theorem bo_X9_total_0 : bi_okkB bt_M bt_P 211 ((yX9_total, cX9_total, 2, (some .int), RX9, 4, 87, [])) (bt_X9_total.getD 0 bi_kd) [[]] [] = true := by decide +kernel
theorem bo_X9_total_1 : bi_okkB bt_M bt_P 211 ((yX9_total, cX9_total, 2, (some .int), RX9, 4, 87, [])) (bt_X9_total.getD 1 bi_kd) [[], [1144]] [] = true := by decide +kernel
theorem bo_X9_total_2 : bi_okkB bt_M bt_P 211 ((yX9_total, cX9_total, 2, (some .int), RX9, 4, 87, [])) (bt_X9_total.getD 2 bi_kd) [[], [1143]] [] = true := by decide +kernel
theorem bo_X9_total_3 : bi_okkB bt_M bt_P 211 ((yX9_total, cX9_total, 2, (some .int), RX9, 4, 87, [])) (bt_X9_total.getD 3 bi_kd) [[], [1141], [1084]] [] = true := by decide +kernel
theorem bo_X9_total_4 : bi_okkB bt_M bt_P 211 ((yX9_total, cX9_total, 2, (some .int), RX9, 4, 87, [])) (bt_X9_total.getD 4 bi_kd) [[], [1142], [1122]] [] = true := by decide +kernel
theorem bo_X9_total_5 : bi_okkB bt_M bt_P 211 ((yX9_total, cX9_total, 2, (some .int), RX9, 4, 87, [])) (bt_X9_total.getD 5 bi_kd) [[], [1142], [1124]] [] = true := by decide +kernel
theorem bo_X9_total_6 : bi_okkB bt_M bt_P 211 ((yX9_total, cX9_total, 2, (some .int), RX9, 4, 87, [])) (bt_X9_total.getD 6 bi_kd) [[], [1142], [1126]] [] = true := by decide +kernel
