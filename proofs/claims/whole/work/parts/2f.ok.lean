/-! the tables are as the code has them -/
theorem bo_X9_snap : bi_oksB bt_M bt_P 200 ((yX9_snap, cX9_snap, 5, (some .int), RX9, 2, 41, [])) bt_X9_snap [([[], [], [2137, 1001, 2134, 2136, 0], [], []], []), ([[], [2014], [], [4133, 1008, 4130, 4131, 4132]], []), ([[]], []), ([[], []], []), ([[]], []), ([[]], []), ([[], [2014], [1157], [], []], []), ([[], [2014], [], [3039, 1008, 4134, 3037, 3038]], []), ([], [])] = true := by decide +kernel
theorem bm_X9_snap : ∀ b k, bt_P 200 b = some k → bi_okk bt_M bt_P 200 ((yX9_snap, cX9_snap, 5, (some .int), RX9, 2, 41, [])) k := fun b k h => bi_oksB_ok _ _ bo_X9_snap k (List.mem_of_getElem? (show bt_X9_snap[b]? = some k from h))
theorem bo_X9_snapshot : bi_oksB bt_M bt_P 201 ((yX9_snapshot, cX9_snapshot, 4, (some .int), RX9, 6, 125, [])) bt_X9_snapshot [([[], [], [2137, 1001, 2134, 2136, 0], [], [], [], [2151, 1001, 2149, 2150], [], []], []), ([[]], []), ([[], [2014], [3011, 1008, 3008, 3009, 3010]], []), ([[]], []), ([[], [2026], []], []), ([[]], []), ([[], [], [3015, 1001, 3012, 3014, 6]], []), ([[], [2014], [3031, 1008, 3040, 3029, 3030]], []), ([[]], []), ([], [])] = true := by decide +kernel
theorem bm_X9_snapshot : ∀ b k, bt_P 201 b = some k → bi_okk bt_M bt_P 201 ((yX9_snapshot, cX9_snapshot, 4, (some .int), RX9, 6, 125, [])) k := fun b k h => bi_oksB_ok _ _ bo_X9_snapshot k (List.mem_of_getElem? (show bt_X9_snapshot[b]? = some k from h))
theorem bo_X9_spotOf : bi_oksB bt_M bt_P 202 ((yX9_spotOf, cX9_spotOf, 2, (some .int), RX9, 1, 20, [])) bt_X9_spotOf [([[], [], [], [], []], [])] = true := by decide +kernel
theorem bm_X9_spotOf : ∀ b k, bt_P 202 b = some k → bi_okk bt_M bt_P 202 ((yX9_spotOf, cX9_spotOf, 2, (some .int), RX9, 1, 20, [])) k := fun b k h => bi_oksB_ok _ _ bo_X9_spotOf k (List.mem_of_getElem? (show bt_X9_spotOf[b]? = some k from h))
theorem bo_X9_state_0 : bi_okkB bt_M bt_P 203 ((yX9_state, cX9_state, 4, (some .int), RX9, 2, 41, [])) (bt_X9_state.getD 0 bi_kd) [[], [], [2137, 1001, 2134, 2136, 0], [], []] [] = true := by decide +kernel
theorem bo_X9_state_1 : bi_okkB bt_M bt_P 203 ((yX9_state, cX9_state, 4, (some .int), RX9, 2, 41, [])) (bt_X9_state.getD 1 bi_kd) [[]] [] = true := by decide +kernel
theorem bo_X9_state_2 : bi_okkB bt_M bt_P 203 ((yX9_state, cX9_state, 4, (some .int), RX9, 2, 41, [])) (bt_X9_state.getD 2 bi_kd) [[]] [] = true := by decide +kernel
theorem bo_X9_state_3 : bi_okkB bt_M bt_P 203 ((yX9_state, cX9_state, 4, (some .int), RX9, 2, 41, [])) (bt_X9_state.getD 3 bi_kd) [[], [2022]] [] = true := by decide +kernel
theorem bo_X9_state_4 : bi_okkB bt_M bt_P 203 ((yX9_state, cX9_state, 4, (some .int), RX9, 2, 41, [])) (bt_X9_state.getD 4 bi_kd) [[], [2025]] [] = true := by decide +kernel
theorem bo_X9_state_5 : bi_okkB bt_M bt_P 203 ((yX9_state, cX9_state, 4, (some .int), RX9, 2, 41, [])) (bt_X9_state.getD 5 bi_kd) [[], [2096], [1093], [], [2014], [1150], []] [] = true := by decide +kernel
theorem bo_X9_state_6 : bi_okkB bt_M bt_P 203 ((yX9_state, cX9_state, 4, (some .int), RX9, 2, 41, [])) (bt_X9_state.getD 6 bi_kd) [[], [2096], [1093], [], [2014], [1152], []] [] = true := by decide +kernel
theorem bo_X9_state_7 : bi_okkB bt_M bt_P 203 ((yX9_state, cX9_state, 4, (some .int), RX9, 2, 41, [])) (bt_X9_state.getD 7 bi_kd) [[], [2096], [1093], [], [2014], [1154], []] [] = true := by decide +kernel
theorem bo_X9_state_8 : bi_okkB bt_M bt_P 203 ((yX9_state, cX9_state, 4, (some .int), RX9, 2, 41, [])) (bt_X9_state.getD 8 bi_kd) [[], [2014], [1162]] [] = true := by decide +kernel
theorem bo_X9_state_9 : bi_okkB bt_M bt_P 203 ((yX9_state, cX9_state, 4, (some .int), RX9, 2, 41, [])) (bt_X9_state.getD 9 bi_kd) [[], [2014], [3031, 1008, 3040, 3029, 3030]] [] = true := by decide +kernel
theorem bo_X9_state_10 : bi_okkB bt_M bt_P 203 ((yX9_state, cX9_state, 4, (some .int), RX9, 2, 41, [])) (bt_X9_state.getD 10 bi_kd) [[], [2029]] [] = true := by decide +kernel
theorem bo_X9_state_11 : bi_okkB bt_M bt_P 203 ((yX9_state, cX9_state, 4, (some .int), RX9, 2, 41, [])) (bt_X9_state.getD 11 bi_kd) [[], [2031]] [] = true := by decide +kernel
theorem bo_X9_state_12 : bi_okkB bt_M bt_P 203 ((yX9_state, cX9_state, 4, (some .int), RX9, 2, 41, [])) (bt_X9_state.getD 12 bi_kd) [[], [2033]] [] = true := by decide +kernel
theorem bo_X9_state_13 : bi_okkB bt_M bt_P 203 ((yX9_state, cX9_state, 4, (some .int), RX9, 2, 41, [])) (bt_X9_state.getD 13 bi_kd) [[], [2035]] [] = true := by decide +kernel
theorem bo_X9_state_14 : bi_okkB bt_M bt_P 203 ((yX9_state, cX9_state, 4, (some .int), RX9, 2, 41, [])) (bt_X9_state.getD 14 bi_kd) [[], [2036]] [] = true := by decide +kernel
theorem bo_X9_state_15 : bi_okkB bt_M bt_P 203 ((yX9_state, cX9_state, 4, (some .int), RX9, 2, 41, [])) (bt_X9_state.getD 15 bi_kd) [[], [2039]] [] = true := by decide +kernel
theorem bo_X9_state_16 : bi_okkB bt_M bt_P 203 ((yX9_state, cX9_state, 4, (some .int), RX9, 2, 41, [])) (bt_X9_state.getD 16 bi_kd) [[], [2041]] [] = true := by decide +kernel
theorem bo_X9_state_17 : bi_okkB bt_M bt_P 203 ((yX9_state, cX9_state, 4, (some .int), RX9, 2, 41, [])) (bt_X9_state.getD 17 bi_kd) [[], [2043]] [] = true := by decide +kernel
theorem bo_X9_state_18 : bi_okkB bt_M bt_P 203 ((yX9_state, cX9_state, 4, (some .int), RX9, 2, 41, [])) (bt_X9_state.getD 18 bi_kd) [[], [2045]] [] = true := by decide +kernel
theorem bo_X9_state_19 : bi_okkB bt_M bt_P 203 ((yX9_state, cX9_state, 4, (some .int), RX9, 2, 41, [])) (bt_X9_state.getD 19 bi_kd) [[], [2047]] [] = true := by decide +kernel
theorem bo_X9_state_20 : bi_okkB bt_M bt_P 203 ((yX9_state, cX9_state, 4, (some .int), RX9, 2, 41, [])) (bt_X9_state.getD 20 bi_kd) [[], [2048]] [] = true := by decide +kernel
theorem bo_X9_state_21 : bi_okkB bt_M bt_P 203 ((yX9_state, cX9_state, 4, (some .int), RX9, 2, 41, [])) (bt_X9_state.getD 21 bi_kd) [[]] [] = true := by decide +kernel
theorem bo_X9_state_22 : bi_okkB bt_M bt_P 203 ((yX9_state, cX9_state, 4, (some .int), RX9, 2, 41, [])) (bt_X9_state.getD 22 bi_kd) [[]] [] = true := by decide +kernel
theorem bo_X9_state_23 : bi_okkB bt_M bt_P 203 ((yX9_state, cX9_state, 4, (some .int), RX9, 2, 41, [])) (bt_X9_state.getD 23 bi_kd) [] [] = true := by decide +kernel
theorem bo_X9_state_24 : bi_okkB bt_M bt_P 203 ((yX9_state, cX9_state, 4, (some .int), RX9, 2, 41, [])) (bt_X9_state.getD 24 bi_kd) [[], [2016], [1206]] [] = true := by decide +kernel
theorem bo_X9_state_25 : bi_okkB bt_M bt_P 203 ((yX9_state, cX9_state, 4, (some .int), RX9, 2, 41, [])) (bt_X9_state.getD 25 bi_kd) [[], [2016], [1209]] [] = true := by decide +kernel
theorem bo_X9_state_26 : bi_okkB bt_M bt_P 203 ((yX9_state, cX9_state, 4, (some .int), RX9, 2, 41, [])) (bt_X9_state.getD 26 bi_kd) [[], [2016], [1201]] [] = true := by decide +kernel
theorem bo_X9_state_27 : bi_okkB bt_M bt_P 203 ((yX9_state, cX9_state, 4, (some .int), RX9, 2, 41, [])) (bt_X9_state.getD 27 bi_kd) [[], [2016], [1210]] [] = true := by decide +kernel
theorem bo_X9_state_28 : bi_okkB bt_M bt_P 203 ((yX9_state, cX9_state, 4, (some .int), RX9, 2, 41, [])) (bt_X9_state.getD 28 bi_kd) [[], [2020], [1239]] [] = true := by decide +kernel
theorem bo_X9_state_29 : bi_okkB bt_M bt_P 203 ((yX9_state, cX9_state, 4, (some .int), RX9, 2, 41, [])) (bt_X9_state.getD 29 bi_kd) [[], [2222, 1007, 2219, 2220, 2221]] [] = true := by decide +kernel
theorem bo_X9_state_30 : bi_okkB bt_M bt_P 203 ((yX9_state, cX9_state, 4, (some .int), RX9, 2, 41, [])) (bt_X9_state.getD 30 bi_kd) [[], [2026]] [] = true := by decide +kernel
theorem bo_X9_state_31 : bi_okkB bt_M bt_P 203 ((yX9_state, cX9_state, 4, (some .int), RX9, 2, 41, [])) (bt_X9_state.getD 31 bi_kd) [[]] [] = true := by decide +kernel
theorem bm_X9_state : ∀ b k, bt_P 203 b = some k → bi_okk bt_M bt_P 203 ((yX9_state, cX9_state, 4, (some .int), RX9, 2, 41, [])) k := fun b k h => bi_allk (show bt_X9_state[b]? = some k from h) (fun b hb => match b, hb with
  | 0, _ => bi_okkB_ok bo_X9_state_0
  | 1, _ => bi_okkB_ok bo_X9_state_1
  | 2, _ => bi_okkB_ok bo_X9_state_2
  | 3, _ => bi_okkB_ok bo_X9_state_3
  | 4, _ => bi_okkB_ok bo_X9_state_4
  | 5, _ => bi_okkB_ok bo_X9_state_5
  | 6, _ => bi_okkB_ok bo_X9_state_6
  | 7, _ => bi_okkB_ok bo_X9_state_7
  | 8, _ => bi_okkB_ok bo_X9_state_8
  | 9, _ => bi_okkB_ok bo_X9_state_9
  | 10, _ => bi_okkB_ok bo_X9_state_10
  | 11, _ => bi_okkB_ok bo_X9_state_11
  | 12, _ => bi_okkB_ok bo_X9_state_12
  | 13, _ => bi_okkB_ok bo_X9_state_13
  | 14, _ => bi_okkB_ok bo_X9_state_14
  | 15, _ => bi_okkB_ok bo_X9_state_15
  | 16, _ => bi_okkB_ok bo_X9_state_16
  | 17, _ => bi_okkB_ok bo_X9_state_17
  | 18, _ => bi_okkB_ok bo_X9_state_18
  | 19, _ => bi_okkB_ok bo_X9_state_19
  | 20, _ => bi_okkB_ok bo_X9_state_20
  | 21, _ => bi_okkB_ok bo_X9_state_21
  | 22, _ => bi_okkB_ok bo_X9_state_22
  | 23, _ => bi_okkB_ok bo_X9_state_23
  | 24, _ => bi_okkB_ok bo_X9_state_24
  | 25, _ => bi_okkB_ok bo_X9_state_25
  | 26, _ => bi_okkB_ok bo_X9_state_26
  | 27, _ => bi_okkB_ok bo_X9_state_27
  | 28, _ => bi_okkB_ok bo_X9_state_28
  | 29, _ => bi_okkB_ok bo_X9_state_29
  | 30, _ => bi_okkB_ok bo_X9_state_30
  | 31, _ => bi_okkB_ok bo_X9_state_31
  | b + 32, hb => absurd hb (by show ¬ b + 32 < 32; omega))
theorem bo_X9_stay : bi_oksB bt_M bt_P 204 ((yX9_stay, cX9_stay, 4, (some .int), RX9, 3, 60, [])) bt_X9_stay [([[], [], [2137, 1001, 2134, 2136, 0], [], [], [], [2151, 1001, 2149, 2150], [], []], []), ([[]], []), ([[], [2036]], []), ([[]], []), ([[], [2012], [2188, 1003, 2209, 2186, 2187]], []), ([[]], []), ([[], [], [2022], []], [])] = true := by decide +kernel
theorem bm_X9_stay : ∀ b k, bt_P 204 b = some k → bi_okk bt_M bt_P 204 ((yX9_stay, cX9_stay, 4, (some .int), RX9, 3, 60, [])) k := fun b k h => bi_oksB_ok _ _ bo_X9_stay k (List.mem_of_getElem? (show bt_X9_stay[b]? = some k from h))
theorem bo_X9_storeOf : bi_oksB bt_M bt_P 205 ((yX9_storeOf, cX9_storeOf, 2, (some (.object "TwinVaults$Store")), RX9, 1, 20, [])) bt_X9_storeOf [([[]], []), ([[], []], []), ([[], [], [], [], [2098]], []), ([[]], []), ([[], [2095], [], []], []), ([], [])] = true := by decide +kernel
theorem bm_X9_storeOf : ∀ b k, bt_P 205 b = some k → bi_okk bt_M bt_P 205 ((yX9_storeOf, cX9_storeOf, 2, (some (.object "TwinVaults$Store")), RX9, 1, 20, [])) k := fun b k h => bi_oksB_ok _ _ bo_X9_storeOf k (List.mem_of_getElem? (show bt_X9_storeOf[b]? = some k from h))
theorem bo_X9_sum : bi_oksB bt_M bt_P 206 ((yX9_sum, cX9_sum, 7, (some .int), RX9, 6, 90, [])) bt_X9_sum [([[], [], [2137, 1001, 2134, 2136, 0], [], []], []), ([[], [2014], [], [], [2141, 1008, 2138, 2139, 2140]], []), ([], []), ([[], [2012], [1045]], []), ([], []), ([[], [], [2144, 1001, 2142, 2143], [], [], [], [], []], []), ([[], [], [2014], [1147]], []), ([[], [], [], [], [2014], [], [], [], [5009, 1008, 5006, 5007, 5008], [], [], []], []), ([[]], [])] = true := by decide +kernel
theorem bm_X9_sum : ∀ b k, bt_P 206 b = some k → bi_okk bt_M bt_P 206 ((yX9_sum, cX9_sum, 7, (some .int), RX9, 6, 90, [])) k := fun b k h => bi_oksB_ok _ _ bo_X9_sum k (List.mem_of_getElem? (show bt_X9_sum[b]? = some k from h))
theorem bo_X9_tick : bi_oksB bt_M bt_P 207 ((yX9_tick, cX9_tick, 3, (some .int), RX9, 7, 159, [])) bt_X9_tick [([[], [], [2099], [], [], [2099], [], []], []), ([[], []], []), ([[], [], [2137, 1001, 2134, 2136, 0], [], []], []), ([[], [2012], [1045]], []), ([[], [], [3142, 1001, 3139, 3141, 9]], []), ([[]], []), ([[], [2099]], [])] = true := by decide +kernel
theorem bm_X9_tick : ∀ b k, bt_P 207 b = some k → bi_okk bt_M bt_P 207 ((yX9_tick, cX9_tick, 3, (some .int), RX9, 7, 159, [])) k := fun b k h => bi_oksB_ok _ _ bo_X9_tick k (List.mem_of_getElem? (show bt_X9_tick[b]? = some k from h))
theorem bo_X9_tickOf : bi_oksB bt_M bt_P 208 ((yX9_tickOf, cX9_tickOf, 2, none, RX9, 6, 138, [])) bt_X9_tickOf [([[], [2022], []], []), ([[], [2100]], []), ([[], [2099], [], [2100], []], []), ([[], [2014], [3011, 1008, 3008, 3009, 3010]], []), ([[], [2026], []], []), ([[], [], [3015, 1001, 3012, 3014, 6]], []), ([], []), ([[], [3146, 1007, 3143, 3144, 3145]], []), ([[], [], [3150, 1001, 3147, 3149, 10]], []), ([[], [2022], []], []), ([[], [2048]], []), ([[], [3154, 1007, 3151, 3152, 3153]], []), ([[], [], [3080, 1001, 3077, 3079, 8]], []), ([], [])] = true := by decide +kernel
theorem bm_X9_tickOf : ∀ b k, bt_P 208 b = some k → bi_okk bt_M bt_P 208 ((yX9_tickOf, cX9_tickOf, 2, none, RX9, 6, 138, [])) k := fun b k h => bi_oksB_ok _ _ bo_X9_tickOf k (List.mem_of_getElem? (show bt_X9_tickOf[b]? = some k from h))
theorem bo_X9_tookSnapshot : bi_oksB bt_M bt_P 209 ((yX9_tookSnapshot, cX9_tookSnapshot, 2, (some .boolean), RX9, 5, 104, [])) bt_X9_tookSnapshot [([[], [], [2168, 1001, 2165, 2167, 3]], []), ([[], [2012], [2188, 1003, 2209, 2186, 2187]], []), ([[]], []), ([[], [], [2026], [], [], [2026], [], [2014], [], [], [2025], [], [], [2026], [], [3019, 1008, 3016, 3017, 3018], [], [], [2092], [3023, 1007, 3020, 3021, 3022], []], [])] = true := by decide +kernel
theorem bm_X9_tookSnapshot : ∀ b k, bt_P 209 b = some k → bi_okk bt_M bt_P 209 ((yX9_tookSnapshot, cX9_tookSnapshot, 2, (some .boolean), RX9, 5, 104, [])) k := fun b k h => bi_oksB_ok _ _ bo_X9_tookSnapshot k (List.mem_of_getElem? (show bt_X9_tookSnapshot[b]? = some k from h))
theorem bo_X9_total_0 : bi_okkB bt_M bt_P 210 ((yX9_total, cX9_total, 2, (some .int), RX9, 4, 87, [])) (bt_X9_total.getD 0 bi_kd) [[]] [] = true := by decide +kernel
theorem bo_X9_total_1 : bi_okkB bt_M bt_P 210 ((yX9_total, cX9_total, 2, (some .int), RX9, 4, 87, [])) (bt_X9_total.getD 1 bi_kd) [[], [2099]] [] = true := by decide +kernel
theorem bo_X9_total_2 : bi_okkB bt_M bt_P 210 ((yX9_total, cX9_total, 2, (some .int), RX9, 4, 87, [])) (bt_X9_total.getD 2 bi_kd) [[], [2098]] [] = true := by decide +kernel
theorem bo_X9_total_3 : bi_okkB bt_M bt_P 210 ((yX9_total, cX9_total, 2, (some .int), RX9, 4, 87, [])) (bt_X9_total.getD 3 bi_kd) [[], [2096], [1082]] [] = true := by decide +kernel
theorem bo_X9_total_4 : bi_okkB bt_M bt_P 210 ((yX9_total, cX9_total, 2, (some .int), RX9, 4, 87, [])) (bt_X9_total.getD 4 bi_kd) [[], [2097], [1120]] [] = true := by decide +kernel
theorem bo_X9_total_5 : bi_okkB bt_M bt_P 210 ((yX9_total, cX9_total, 2, (some .int), RX9, 4, 87, [])) (bt_X9_total.getD 5 bi_kd) [[], [2097], [1122]] [] = true := by decide +kernel
theorem bo_X9_total_6 : bi_okkB bt_M bt_P 210 ((yX9_total, cX9_total, 2, (some .int), RX9, 4, 87, [])) (bt_X9_total.getD 6 bi_kd) [[], [2097], [1124]] [] = true := by decide +kernel
theorem bo_X9_total_7 : bi_okkB bt_M bt_P 210 ((yX9_total, cX9_total, 2, (some .int), RX9, 4, 87, [])) (bt_X9_total.getD 7 bi_kd) [[], [], [2094], [], [], [], [], [], [4142, 1001, 4139, 4141, 32]] [] = true := by decide +kernel
theorem bo_X9_total_8 : bi_okkB bt_M bt_P 210 ((yX9_total, cX9_total, 2, (some .int), RX9, 4, 87, [])) (bt_X9_total.getD 8 bi_kd) [[], [], [2094], [], [], [], [], [], [4142, 1001, 4139, 4141, 32]] [] = true := by decide +kernel
theorem bo_X9_total_9 : bi_okkB bt_M bt_P 210 ((yX9_total, cX9_total, 2, (some .int), RX9, 4, 87, [])) (bt_X9_total.getD 9 bi_kd) [[]] [] = true := by decide +kernel
theorem bm_X9_total : ∀ b k, bt_P 210 b = some k → bi_okk bt_M bt_P 210 ((yX9_total, cX9_total, 2, (some .int), RX9, 4, 87, [])) k := fun b k h => bi_allk (show bt_X9_total[b]? = some k from h) (fun b hb => match b, hb with
  | 0, _ => bi_okkB_ok bo_X9_total_0
  | 1, _ => bi_okkB_ok bo_X9_total_1
  | 2, _ => bi_okkB_ok bo_X9_total_2
  | 3, _ => bi_okkB_ok bo_X9_total_3
  | 4, _ => bi_okkB_ok bo_X9_total_4
  | 5, _ => bi_okkB_ok bo_X9_total_5
  | 6, _ => bi_okkB_ok bo_X9_total_6
  | 7, _ => bi_okkB_ok bo_X9_total_7
  | 8, _ => bi_okkB_ok bo_X9_total_8
  | 9, _ => bi_okkB_ok bo_X9_total_9
  | b + 10, hb => absurd hb (by show ¬ b + 10 < 10; omega))
theorem bo_X9_totalOf : bi_oksB bt_M bt_P 211 ((yX9_totalOf, cX9_totalOf, 3, (some .int), RX9, 3, 65, [])) bt_X9_totalOf [([[]], []), ([[], [1045]], []), ([[]], []), ([[]], []), ([], []), ([[], [1047]], []), ([[], [], [2218, 1001, 2215, 2217, 5]], []), ([[], [1049]], [])] = true := by decide +kernel
theorem bm_X9_totalOf : ∀ b k, bt_P 211 b = some k → bi_okk bt_M bt_P 211 ((yX9_totalOf, cX9_totalOf, 3, (some .int), RX9, 3, 65, [])) k := fun b k h => bi_oksB_ok _ _ bo_X9_totalOf k (List.mem_of_getElem? (show bt_X9_totalOf[b]? = some k from h))
theorem bo_X9_up : bi_oksB bt_M bt_P 212 ((yX9_up, cX9_up, 5, (some .int), RX9, 4, 87, [])) bt_X9_up [([[]], []), ([[], []], []), ([[]], []), ([[], [2094], [], [], [1045]], []), ([[]], []), ([[], [2094], [], [], [], [1045], [], [], [], []], []), ([[], []], []), ([[], [], [], [], [], [], [2137, 1001, 2134, 2136, 0], [], []], []), ([[], [], [3217, 1007, 3214, 3215, 3216], [], []], []), ([[]], []), ([[]], [])] = true := by decide +kernel
theorem bm_X9_up : ∀ b k, bt_P 212 b = some k → bi_okk bt_M bt_P 212 ((yX9_up, cX9_up, 5, (some .int), RX9, 4, 87, [])) k := fun b k h => bi_oksB_ok _ _ bo_X9_up k (List.mem_of_getElem? (show bt_X9_up[b]? = some k from h))
