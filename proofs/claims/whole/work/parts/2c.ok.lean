/-! the tables are as the code has them -/
theorem bo_X9_checkpointed : bi_oksB bt_M bt_P 159 ((yX9_checkpointed, cX9_checkpointed, 3, (some .boolean), RX9, 4, 82, [])) bt_X9_checkpointed [([[], [2014], [], [], [1150], [], [1154]], []), ([[]], []), ([[], [2012], [], [2096], [], [1150], [], [2096], [1093], [], [1154], [], [2172, 1004, 2169, 2170, 2171], [], [], [2184, 1003, 2181, 2182, 2183]], []), ([[]], []), ([[], [2196, 1008, 2193, 2194, 2195], []], [])] = true := by decide +kernel
theorem bm_X9_checkpointed : ∀ b k, bt_P 159 b = some k → bi_okk bt_M bt_P 159 ((yX9_checkpointed, cX9_checkpointed, 3, (some .boolean), RX9, 4, 82, [])) k := fun b k h => bi_oksB_ok _ _ bo_X9_checkpointed k (List.mem_of_getElem? (show bt_X9_checkpointed[b]? = some k from h))
theorem bo_X9_commit : bi_oksB bt_M bt_P 160 ((yX9_commit, cX9_commit, 5, none, RX9, 4, 93, [])) bt_X9_commit [([[], [2016], [], [], [1201], [], [], [1199]], []), ([[]], []), ([[], [2014], [2200, 1008, 4041, 2198, 2199]], []), ([[], [], [2012], [], [2096], [], [1203], [], [2172, 1004, 2169, 2170, 2171], [], [], [2184, 1003, 2181, 2182, 2183]], []), ([], []), ([[], [2014], [], [], [1203], [], [1199]], []), ([[]], []), ([[]], []), ([[4045, 1008, 4042, 4043, 4044], [], [3070, 1009, 4051, 3068, 3069], [], [], [2092], [3023, 1007, 3020, 3021, 3022], [], [], [], [], [4009, 1001, 4006, 4008, 17]], [])] = true := by decide +kernel
theorem bm_X9_commit : ∀ b k, bt_P 160 b = some k → bi_okk bt_M bt_P 160 ((yX9_commit, cX9_commit, 5, none, RX9, 4, 93, [])) k := fun b k h => bi_oksB_ok _ _ bo_X9_commit k (List.mem_of_getElem? (show bt_X9_commit[b]? = some k from h))
theorem bo_X9_crash : bi_oksB bt_M bt_P 161 ((yX9_crash, cX9_crash, 2, (some .boolean), RX9, 2, 40, [])) bt_X9_crash [([[]], []), ([[], []], []), ([[], [2094], [], [], [1045]], []), ([[]], []), ([[], [2094], [], [], [2192, 1003, 3209, 2190, 2191], []], [])] = true := by decide +kernel
theorem bm_X9_crash : ∀ b k, bt_P 161 b = some k → bi_okk bt_M bt_P 161 ((yX9_crash, cX9_crash, 2, (some .boolean), RX9, 2, 40, [])) k := fun b k h => bi_oksB_ok _ _ bo_X9_crash k (List.mem_of_getElem? (show bt_X9_crash[b]? = some k from h))
theorem bo_X9_differ : bi_oksB bt_M bt_P 162 ((yX9_differ, cX9_differ, 5, (some .int), RX9, 6, 90, [])) bt_X9_differ [([[], [], [2137, 1001, 2134, 2136, 0], [], []], []), ([[], [2014], [], [4133, 1008, 4130, 4131, 4132]], []), ([[], [2014], [], [4133, 1008, 4130, 4131, 4132]], []), ([[], []], []), ([], []), ([[], [2012], [1045]], []), ([], []), ([[], [2096], [], [2014], [1159], [], [], [], [2014], [], [3039, 1008, 4134, 3037, 3038], [3225, 1004, 5039, 3223, 3224]], [])] = true := by decide +kernel
theorem bm_X9_differ : ∀ b k, bt_P 162 b = some k → bi_okk bt_M bt_P 162 ((yX9_differ, cX9_differ, 5, (some .int), RX9, 6, 90, [])) k := fun b k h => bi_oksB_ok _ _ bo_X9_differ k (List.mem_of_getElem? (show bt_X9_differ[b]? = some k from h))
theorem bo_X9_fill_0 : bi_okkB bt_M bt_P 163 ((yX9_fill, cX9_fill, 10, (some .int), RX9, 7, 151, [])) (bt_X9_fill.getD 0 bi_kd) [[], [], [2137, 1001, 2134, 2136, 0], [], []] [] = true := by decide +kernel
theorem bo_X9_fill_1 : bi_okkB bt_M bt_P 163 ((yX9_fill, cX9_fill, 10, (some .int), RX9, 7, 151, [])) (bt_X9_fill.getD 1 bi_kd) [[], [2014], [], [], [2141, 1008, 2138, 2139, 2140]] [] = true := by decide +kernel
theorem bo_X9_fill_2 : bi_okkB bt_M bt_P 163 ((yX9_fill, cX9_fill, 10, (some .int), RX9, 7, 151, [])) (bt_X9_fill.getD 2 bi_kd) [[]] [] = true := by decide +kernel
theorem bo_X9_fill_3 : bi_okkB bt_M bt_P 163 ((yX9_fill, cX9_fill, 10, (some .int), RX9, 7, 151, [])) (bt_X9_fill.getD 3 bi_kd) [[], []] [] = true := by decide +kernel
theorem bo_X9_fill_4 : bi_okkB bt_M bt_P 163 ((yX9_fill, cX9_fill, 10, (some .int), RX9, 7, 151, [])) (bt_X9_fill.getD 4 bi_kd) [[], []] [] = true := by decide +kernel
theorem bo_X9_fill_5 : bi_okkB bt_M bt_P 163 ((yX9_fill, cX9_fill, 10, (some .int), RX9, 7, 151, [])) (bt_X9_fill.getD 5 bi_kd) [[], [2014], [], [], [], [], [], [], [2141, 1008, 2138, 2139, 2140]] [] = true := by decide +kernel
theorem bo_X9_fill_6 : bi_okkB bt_M bt_P 163 ((yX9_fill, cX9_fill, 10, (some .int), RX9, 7, 151, [])) (bt_X9_fill.getD 6 bi_kd) [[]] [] = true := by decide +kernel
theorem bo_X9_fill_7 : bi_okkB bt_M bt_P 163 ((yX9_fill, cX9_fill, 10, (some .int), RX9, 7, 151, [])) (bt_X9_fill.getD 7 bi_kd) [[], [], [2144, 1001, 2142, 2143], [], [], []] [] = true := by decide +kernel
theorem bo_X9_fill_8 : bi_okkB bt_M bt_P 163 ((yX9_fill, cX9_fill, 10, (some .int), RX9, 7, 151, [])) (bt_X9_fill.getD 8 bi_kd) [[], []] [] = true := by decide +kernel
theorem bo_X9_fill_9 : bi_okkB bt_M bt_P 163 ((yX9_fill, cX9_fill, 10, (some .int), RX9, 7, 151, [])) (bt_X9_fill.getD 9 bi_kd) [[], [], [], [], [], [], [], [], [2148, 1001, 2145, 2147, 1], [], []] [] = true := by decide +kernel
theorem bo_X9_fill_10 : bi_okkB bt_M bt_P 163 ((yX9_fill, cX9_fill, 10, (some .int), RX9, 7, 151, [])) (bt_X9_fill.getD 10 bi_kd) [[]] [] = true := by decide +kernel
theorem bo_X9_fill_11 : bi_okkB bt_M bt_P 163 ((yX9_fill, cX9_fill, 10, (some .int), RX9, 7, 151, [])) (bt_X9_fill.getD 11 bi_kd) [[]] [] = true := by decide +kernel
theorem bo_X9_fill_12 : bi_okkB bt_M bt_P 163 ((yX9_fill, cX9_fill, 10, (some .int), RX9, 7, 151, [])) (bt_X9_fill.getD 12 bi_kd) [[]] [] = true := by decide +kernel
theorem bo_X9_fill_13 : bi_okkB bt_M bt_P 163 ((yX9_fill, cX9_fill, 10, (some .int), RX9, 7, 151, [])) (bt_X9_fill.getD 13 bi_kd) [] [] = true := by decide +kernel
theorem bo_X9_fill_14 : bi_okkB bt_M bt_P 163 ((yX9_fill, cX9_fill, 10, (some .int), RX9, 7, 151, [])) (bt_X9_fill.getD 14 bi_kd) [[]] [] = true := by decide +kernel
theorem bo_X9_fill_15 : bi_okkB bt_M bt_P 163 ((yX9_fill, cX9_fill, 10, (some .int), RX9, 7, 151, [])) (bt_X9_fill.getD 15 bi_kd) [[]] [] = true := by decide +kernel
theorem bm_X9_fill : ∀ b k, bt_P 163 b = some k → bi_okk bt_M bt_P 163 ((yX9_fill, cX9_fill, 10, (some .int), RX9, 7, 151, [])) k := fun b k h => bi_allk (show bt_X9_fill[b]? = some k from h) (fun b hb => match b, hb with
  | 0, _ => bi_okkB_ok bo_X9_fill_0
  | 1, _ => bi_okkB_ok bo_X9_fill_1
  | 2, _ => bi_okkB_ok bo_X9_fill_2
  | 3, _ => bi_okkB_ok bo_X9_fill_3
  | 4, _ => bi_okkB_ok bo_X9_fill_4
  | 5, _ => bi_okkB_ok bo_X9_fill_5
  | 6, _ => bi_okkB_ok bo_X9_fill_6
  | 7, _ => bi_okkB_ok bo_X9_fill_7
  | 8, _ => bi_okkB_ok bo_X9_fill_8
  | 9, _ => bi_okkB_ok bo_X9_fill_9
  | 10, _ => bi_okkB_ok bo_X9_fill_10
  | 11, _ => bi_okkB_ok bo_X9_fill_11
  | 12, _ => bi_okkB_ok bo_X9_fill_12
  | 13, _ => bi_okkB_ok bo_X9_fill_13
  | 14, _ => bi_okkB_ok bo_X9_fill_14
  | 15, _ => bi_okkB_ok bo_X9_fill_15
  | b + 16, hb => absurd hb (by show ¬ b + 16 < 16; omega))
theorem bo_X9_flush : bi_oksB bt_M bt_P 164 ((yX9_flush, cX9_flush, 3, (some .int), RX9, 6, 127, [])) bt_X9_flush [([[], [], [2137, 1001, 2134, 2136, 0], [], []], []), ([[]], []), ([[], [2012], [1045]], []), ([[], [], [2160, 1001, 2157, 2159, 2]], []), ([[]], []), ([[], [2014], [2164, 1008, 2161, 2162, 2163]], [])] = true := by decide +kernel
theorem bm_X9_flush : ∀ b k, bt_P 164 b = some k → bi_okk bt_M bt_P 164 ((yX9_flush, cX9_flush, 3, (some .int), RX9, 6, 127, [])) k := fun b k h => bi_oksB_ok _ _ bo_X9_flush k (List.mem_of_getElem? (show bt_X9_flush[b]? = some k from h))
theorem bo_X9_flushed : bi_oksB bt_M bt_P 165 ((yX9_flushed, cX9_flushed, 4, (some .boolean), RX9, 5, 104, [])) bt_X9_flushed [([[], [2014], [], [], [2164, 1008, 2161, 2162, 2163], [], [2156, 1008, 2153, 2154, 2155], [], []], []), ([[], [], [2168, 1001, 2165, 2167, 3]], []), ([[], [2156, 1008, 2153, 2154, 2155], []], []), ([[]], []), ([[], [2012], [2188, 1003, 2209, 2186, 2187]], []), ([[]], []), ([[], [], [2213, 1008, 2210, 2211, 2212], []], []), ([[]], [])] = true := by decide +kernel
theorem bm_X9_flushed : ∀ b k, bt_P 165 b = some k → bi_okk bt_M bt_P 165 ((yX9_flushed, cX9_flushed, 4, (some .boolean), RX9, 5, 104, [])) k := fun b k h => bi_oksB_ok _ _ bo_X9_flushed k (List.mem_of_getElem? (show bt_X9_flushed[b]? = some k from h))
theorem bo_X9_force_0 : bi_okkB bt_M bt_P 166 ((yX9_force, cX9_force, 3, (some .int), RX9, 5, 115, [])) (bt_X9_force.getD 0 bi_kd) [[], [], [2137, 1001, 2134, 2136, 0], [], []] [] = true := by decide +kernel
theorem bo_X9_force_1 : bi_okkB bt_M bt_P 166 ((yX9_force, cX9_force, 3, (some .int), RX9, 5, 115, [])) (bt_X9_force.getD 1 bi_kd) [[]] [] = true := by decide +kernel
theorem bo_X9_force_2 : bi_okkB bt_M bt_P 166 ((yX9_force, cX9_force, 3, (some .int), RX9, 5, 115, [])) (bt_X9_force.getD 2 bi_kd) [[], [2012], [1045]] [] = true := by decide +kernel
theorem bo_X9_force_3 : bi_okkB bt_M bt_P 166 ((yX9_force, cX9_force, 3, (some .int), RX9, 5, 115, [])) (bt_X9_force.getD 3 bi_kd) [[]] [] = true := by decide +kernel
theorem bo_X9_force_4 : bi_okkB bt_M bt_P 166 ((yX9_force, cX9_force, 3, (some .int), RX9, 5, 115, [])) (bt_X9_force.getD 4 bi_kd) [[], [2022]] [] = true := by decide +kernel
theorem bo_X9_force_5 : bi_okkB bt_M bt_P 166 ((yX9_force, cX9_force, 3, (some .int), RX9, 5, 115, [])) (bt_X9_force.getD 5 bi_kd) [[], [2022], []] [] = true := by decide +kernel
theorem bo_X9_force_6 : bi_okkB bt_M bt_P 166 ((yX9_force, cX9_force, 3, (some .int), RX9, 5, 115, [])) (bt_X9_force.getD 6 bi_kd) [[]] [] = true := by decide +kernel
theorem bo_X9_force_7 : bi_okkB bt_M bt_P 166 ((yX9_force, cX9_force, 3, (some .int), RX9, 5, 115, [])) (bt_X9_force.getD 7 bi_kd) [[], [2022], []] [] = true := by decide +kernel
theorem bo_X9_force_8 : bi_okkB bt_M bt_P 166 ((yX9_force, cX9_force, 3, (some .int), RX9, 5, 115, [])) (bt_X9_force.getD 8 bi_kd) [[], [], [2168, 1001, 2165, 2167, 3]] [] = true := by decide +kernel
theorem bo_X9_force_9 : bi_okkB bt_M bt_P 166 ((yX9_force, cX9_force, 3, (some .int), RX9, 5, 115, [])) (bt_X9_force.getD 9 bi_kd) [[]] [] = true := by decide +kernel
theorem bo_X9_force_10 : bi_okkB bt_M bt_P 166 ((yX9_force, cX9_force, 3, (some .int), RX9, 5, 115, [])) (bt_X9_force.getD 10 bi_kd) [[], [2012], [2188, 1003, 2209, 2186, 2187]] [] = true := by decide +kernel
theorem bo_X9_force_11 : bi_okkB bt_M bt_P 166 ((yX9_force, cX9_force, 3, (some .int), RX9, 5, 115, [])) (bt_X9_force.getD 11 bi_kd) [[]] [] = true := by decide +kernel
theorem bo_X9_force_12 : bi_okkB bt_M bt_P 166 ((yX9_force, cX9_force, 3, (some .int), RX9, 5, 115, [])) (bt_X9_force.getD 12 bi_kd) [[], [2022]] [] = true := by decide +kernel
theorem bo_X9_force_13 : bi_okkB bt_M bt_P 166 ((yX9_force, cX9_force, 3, (some .int), RX9, 5, 115, [])) (bt_X9_force.getD 13 bi_kd) [[], [], [2014], [3031, 1008, 3040, 3029, 3030], [], [3056, 1007, 3053, 3054, 3055]] [] = true := by decide +kernel
theorem bo_X9_force_14 : bi_okkB bt_M bt_P 166 ((yX9_force, cX9_force, 3, (some .int), RX9, 5, 115, [])) (bt_X9_force.getD 14 bi_kd) [[], [2033]] [] = true := by decide +kernel
theorem bo_X9_force_15 : bi_okkB bt_M bt_P 166 ((yX9_force, cX9_force, 3, (some .int), RX9, 5, 115, [])) (bt_X9_force.getD 15 bi_kd) [[], [2035]] [] = true := by decide +kernel
theorem bo_X9_force_16 : bi_okkB bt_M bt_P 166 ((yX9_force, cX9_force, 3, (some .int), RX9, 5, 115, [])) (bt_X9_force.getD 16 bi_kd) [[], [], [2029], [], [2031], [3056, 1007, 3053, 3054, 3055]] [] = true := by decide +kernel
theorem bo_X9_force_17 : bi_okkB bt_M bt_P 166 ((yX9_force, cX9_force, 3, (some .int), RX9, 5, 115, [])) (bt_X9_force.getD 17 bi_kd) [[], [], [2029], [], [], [2031], [], [], [2039], [], [], [2041], [], [], [2047], [], [], [2048], [], [], [2025], [], [2012], [1043]] [] = true := by decide +kernel
theorem bo_X9_force_18 : bi_okkB bt_M bt_P 166 ((yX9_force, cX9_force, 3, (some .int), RX9, 5, 115, [])) (bt_X9_force.getD 18 bi_kd) [[]] [] = true := by decide +kernel
theorem bo_X9_force_19 : bi_okkB bt_M bt_P 166 ((yX9_force, cX9_force, 3, (some .int), RX9, 5, 115, [])) (bt_X9_force.getD 19 bi_kd) [[]] [] = true := by decide +kernel
theorem bo_X9_force_20 : bi_okkB bt_M bt_P 166 ((yX9_force, cX9_force, 3, (some .int), RX9, 5, 115, [])) (bt_X9_force.getD 20 bi_kd) [[3059, 1001, 3057, 3058], [], [2092], [3066, 1007, 3063, 3064, 3065], [], [2025]] [] = true := by decide +kernel
theorem bm_X9_force : ∀ b k, bt_P 166 b = some k → bi_okk bt_M bt_P 166 ((yX9_force, cX9_force, 3, (some .int), RX9, 5, 115, [])) k := fun b k h => bi_allk (show bt_X9_force[b]? = some k from h) (fun b hb => match b, hb with
  | 0, _ => bi_okkB_ok bo_X9_force_0
  | 1, _ => bi_okkB_ok bo_X9_force_1
  | 2, _ => bi_okkB_ok bo_X9_force_2
  | 3, _ => bi_okkB_ok bo_X9_force_3
  | 4, _ => bi_okkB_ok bo_X9_force_4
  | 5, _ => bi_okkB_ok bo_X9_force_5
  | 6, _ => bi_okkB_ok bo_X9_force_6
  | 7, _ => bi_okkB_ok bo_X9_force_7
  | 8, _ => bi_okkB_ok bo_X9_force_8
  | 9, _ => bi_okkB_ok bo_X9_force_9
  | 10, _ => bi_okkB_ok bo_X9_force_10
  | 11, _ => bi_okkB_ok bo_X9_force_11
  | 12, _ => bi_okkB_ok bo_X9_force_12
  | 13, _ => bi_okkB_ok bo_X9_force_13
  | 14, _ => bi_okkB_ok bo_X9_force_14
  | 15, _ => bi_okkB_ok bo_X9_force_15
  | 16, _ => bi_okkB_ok bo_X9_force_16
  | 17, _ => bi_okkB_ok bo_X9_force_17
  | 18, _ => bi_okkB_ok bo_X9_force_18
  | 19, _ => bi_okkB_ok bo_X9_force_19
  | 20, _ => bi_okkB_ok bo_X9_force_20
  | b + 21, hb => absurd hb (by show ¬ b + 21 < 21; omega))
theorem bo_X9_freeBlocks : bi_oksB bt_M bt_P 167 ((yX9_freeBlocks, cX9_freeBlocks, 5, (some .int), RX9, 2, 41, [])) bt_X9_freeBlocks [([[], [2091], [], [], []], []), ([[], []], []), ([[], [], [], [1043], [], [], [], [2137, 1001, 2134, 2136, 0], [], []], []), ([[], [], [2222, 1007, 2219, 2220, 2221], [], []], []), ([[]], []), ([[]], [])] = true := by decide +kernel
theorem bm_X9_freeBlocks : ∀ b k, bt_P 167 b = some k → bi_okk bt_M bt_P 167 ((yX9_freeBlocks, cX9_freeBlocks, 5, (some .int), RX9, 2, 41, [])) k := fun b k h => bi_oksB_ok _ _ bo_X9_freeBlocks k (List.mem_of_getElem? (show bt_X9_freeBlocks[b]? = some k from h))
theorem bo_X9_group : bi_oksB bt_M bt_P 168 ((yX9_group, cX9_group, 4, (some .int), RX9, 2, 42, [])) bt_X9_group [([[], []], []), ([[], []], []), ([[], []], []), ([[], []], []), ([[]], []), ([[], [2098], []], []), ([[]], []), ([[], [2098], [], [], [2095], [], [], [2014], [], [], [2129, 1008, 2126, 2127, 2128], [], [2095], [], [], [], [], [2014], [], [], [2129, 1008, 2126, 2127, 2128], [], [], [2098], [], [], [2098], []], [])] = true := by decide +kernel
theorem bm_X9_group : ∀ b k, bt_P 168 b = some k → bi_okk bt_M bt_P 168 ((yX9_group, cX9_group, 4, (some .int), RX9, 2, 42, [])) k := fun b k h => bi_oksB_ok _ _ bo_X9_group k (List.mem_of_getElem? (show bt_X9_group[b]? = some k from h))
theorem bo_X9_handOver : bi_oksB bt_M bt_P 169 ((yX9_handOver, cX9_handOver, 2, none, RX9, 3, 66, [])) bt_X9_handOver [([[], [2036]], []), ([[], [3154, 1007, 3151, 3152, 3153]], []), ([[], [], [3199, 1001, 3196, 3198, 14]], []), ([[], [2012], [2188, 1003, 2209, 2186, 2187]], []), ([[], [], [2025], [], [2012], [1043]], []), ([[]], []), ([[]], []), ([[3059, 1001, 3057, 3058], [2036], [], [], [3199, 1001, 3196, 3198, 14]], []), ([], [])] = true := by decide +kernel
theorem bm_X9_handOver : ∀ b k, bt_P 169 b = some k → bi_okk bt_M bt_P 169 ((yX9_handOver, cX9_handOver, 2, none, RX9, 3, 66, [])) k := fun b k h => bi_oksB_ok _ _ bo_X9_handOver k (List.mem_of_getElem? (show bt_X9_handOver[b]? = some k from h))
theorem bo_X9_init_0 : bi_okkB bt_M bt_P 170 ((yX9_init, cX9_init, 5, none, RX9, 3, 65, [])) (bt_X9_init.getD 0 bi_kd) [[], [1025, 1026, 1027], [], [], [], [], [1030, 1002, 1028, 1029], [1033, 1002, 1031, 1032], [2091], [], [], [], [], [1030, 1002, 1028, 1029], [1033, 1002, 1031, 1032], [2092], [], [], [], [], [1030, 1002, 1028, 1029], [1033, 1002, 1031, 1032], [2093], [], [], [1034, 1035], [2094], [], [2094], [], [1034, 1036, 1003], [], [], [1039, 1003, 1037, 1038], [], [], [2094], [], [1034, 1036, 1003], [], [], [1039, 1003, 1037, 1038], [], [], [1059, 1060, 1004], [], [1063, 1004, 1061, 1062], [2096], [], [1110, 1111, 1006], [], [1114, 1006, 1112, 1113], [2097], [], [], [1134, 1135], [2095], [], []] [] = true := by decide +kernel
theorem bo_X9_init_1 : bi_okkB bt_M bt_P 170 ((yX9_init, cX9_init, 5, none, RX9, 3, 65, [])) (bt_X9_init.getD 1 bi_kd) [[], []] [] = true := by decide +kernel
theorem bo_X9_init_2 : bi_okkB bt_M bt_P 170 ((yX9_init, cX9_init, 5, none, RX9, 3, 65, [])) (bt_X9_init.getD 2 bi_kd) [[], [2095], [], [1134, 1136, 1007], [], [], [], [2094], [], [], [], [], [1137, 1138, 1008], [], [], [2096], [1141, 1008, 1139, 1140], [], [2091], [1190, 1007, 1188, 1189], [], []] [] = true := by decide +kernel
theorem bo_X9_init_3 : bi_okkB bt_M bt_P 170 ((yX9_init, cX9_init, 5, none, RX9, 3, 65, [])) (bt_X9_init.getD 3 bi_kd) [] [] = true := by decide +kernel
theorem bm_X9_init : ∀ b k, bt_P 170 b = some k → bi_okk bt_M bt_P 170 ((yX9_init, cX9_init, 5, none, RX9, 3, 65, [])) k := fun b k h => bi_allk (show bt_X9_init[b]? = some k from h) (fun b hb => match b, hb with
  | 0, _ => bi_okkB_ok bo_X9_init_0
  | 1, _ => bi_okkB_ok bo_X9_init_1
  | 2, _ => bi_okkB_ok bo_X9_init_2
  | 3, _ => bi_okkB_ok bo_X9_init_3
  | b + 4, hb => absurd hb (by show ¬ b + 4 < 4; omega))
