/-! the tables are as the code has them -/
theorem bo_X9_back : bi_oksB bt_M bt_P 158 ((yX9_back, cX9_back, 4, (some .int), RX9, 3, 68, [])) bt_X9_back [([[], [], [2132, 1001, 2129, 2131, 0], [], [], [], [2146, 1001, 2144, 2145], [], []], []), ([[]], []), ([[], [], [2082], [], [], [3094, 1001, 3091, 3093, 9], []], [])] = true := by decide +kernel
theorem bm_X9_back : ∀ b k, bt_P 158 b = some k → bi_okk bt_M bt_P 158 ((yX9_back, cX9_back, 4, (some .int), RX9, 3, 68, [])) k := fun b k h => bi_oksB_ok _ _ bo_X9_back k (List.mem_of_getElem? (show bt_X9_back[b]? = some k from h))
theorem bo_X9_checkpoint : bi_oksB bt_M bt_P 159 ((yX9_checkpoint, cX9_checkpoint, 4, (some .int), RX9, 5, 104, [])) bt_X9_checkpoint [([[], [], [2132, 1001, 2129, 2131, 0], [], []], []), ([[]], []), ([[], [2046], [1046]], []), ([[]], []), ([[], [2046], [1048], [], [], [], [2163, 1001, 2160, 2162, 3]], []), ([[], [2046], [1048], [], []], []), ([[]], []), ([], [])] = true := by decide +kernel
theorem bm_X9_checkpoint : ∀ b k, bt_P 159 b = some k → bi_okk bt_M bt_P 159 ((yX9_checkpoint, cX9_checkpoint, 4, (some .int), RX9, 5, 104, [])) k := fun b k h => bi_oksB_ok _ _ bo_X9_checkpoint k (List.mem_of_getElem? (show bt_X9_checkpoint[b]? = some k from h))
theorem bo_X9_checkpointed : bi_oksB bt_M bt_P 160 ((yX9_checkpointed, cX9_checkpointed, 3, (some .boolean), RX9, 4, 82, [])) bt_X9_checkpointed [([[], [2048], [], [], [1184], [], [1188]], []), ([[]], []), ([[], [2046], [], [1141], [], [1184], [], [1141], [1095], [], [1188], [], [2167, 1004, 2164, 2165, 2166], [], [], [2179, 1003, 2176, 2177, 2178]], []), ([[]], []), ([[], [2191, 1010, 2188, 2189, 2190], []], [])] = true := by decide +kernel
theorem bm_X9_checkpointed : ∀ b k, bt_P 160 b = some k → bi_okk bt_M bt_P 160 ((yX9_checkpointed, cX9_checkpointed, 3, (some .boolean), RX9, 4, 82, [])) k := fun b k h => bi_oksB_ok _ _ bo_X9_checkpointed k (List.mem_of_getElem? (show bt_X9_checkpointed[b]? = some k from h))
theorem bo_X9_commit : bi_oksB bt_M bt_P 161 ((yX9_commit, cX9_commit, 5, none, RX9, 4, 93, [])) bt_X9_commit [([[], [2050], [], [], [1235], [], [], [1233]], []), ([[]], []), ([[], [2048], [2195, 1010, 4057, 2193, 2194]], []), ([[], [], [2046], [], [1141], [], [1237], [], [2167, 1004, 2164, 2165, 2166], [], [], [2179, 1003, 2176, 2177, 2178]], []), ([], []), ([[], [2048], [], [], [1237], [], [1233]], []), ([[]], []), ([[]], []), ([[4061, 1010, 4058, 4059, 4060], [], [3084, 1011, 4067, 3082, 3083], [], [], [1137], [3037, 1009, 3034, 3035, 3036], [], [], [], [], [4025, 1001, 4022, 4024, 18]], [])] = true := by decide +kernel
theorem bm_X9_commit : ∀ b k, bt_P 161 b = some k → bi_okk bt_M bt_P 161 ((yX9_commit, cX9_commit, 5, none, RX9, 4, 93, [])) k := fun b k h => bi_oksB_ok _ _ bo_X9_commit k (List.mem_of_getElem? (show bt_X9_commit[b]? = some k from h))
theorem bo_X9_crash : bi_oksB bt_M bt_P 162 ((yX9_crash, cX9_crash, 2, (some .boolean), RX9, 2, 40, [])) bt_X9_crash [([[]], []), ([[], []], []), ([[], [1139], [], [], [1046]], []), ([[]], []), ([[], [1139], [], [], [2187, 1003, 3228, 2185, 2186], []], [])] = true := by decide +kernel
theorem bm_X9_crash : ∀ b k, bt_P 162 b = some k → bi_okk bt_M bt_P 162 ((yX9_crash, cX9_crash, 2, (some .boolean), RX9, 2, 40, [])) k := fun b k h => bi_oksB_ok _ _ bo_X9_crash k (List.mem_of_getElem? (show bt_X9_crash[b]? = some k from h))
theorem bo_X9_differ : bi_oksB bt_M bt_P 163 ((yX9_differ, cX9_differ, 5, (some .int), RX9, 6, 90, [])) bt_X9_differ [([[], [], [2132, 1001, 2129, 2131, 0], [], []], []), ([[], [2048], [], [4149, 1010, 4146, 4147, 4148]], []), ([[], [2048], [], [4149, 1010, 4146, 4147, 4148]], []), ([[], []], []), ([], []), ([[], [2046], [1046]], []), ([], []), ([[], [1141], [], [2048], [1193], [], [], [], [2048], [], [3053, 1010, 4150, 3051, 3052], [3193, 1004, 5055, 3191, 3192]], [])] = true := by decide +kernel
theorem bm_X9_differ : ∀ b k, bt_P 163 b = some k → bi_okk bt_M bt_P 163 ((yX9_differ, cX9_differ, 5, (some .int), RX9, 6, 90, [])) k := fun b k h => bi_oksB_ok _ _ bo_X9_differ k (List.mem_of_getElem? (show bt_X9_differ[b]? = some k from h))
theorem bo_X9_fill_0 : bi_okkB bt_M bt_P 164 ((yX9_fill, cX9_fill, 10, (some .int), RX9, 7, 156, [])) (bt_X9_fill.getD 0 bi_kd) [[], [], [2132, 1001, 2129, 2131, 0], [], []] [] = true := by decide +kernel
theorem bo_X9_fill_1 : bi_okkB bt_M bt_P 164 ((yX9_fill, cX9_fill, 10, (some .int), RX9, 7, 156, [])) (bt_X9_fill.getD 1 bi_kd) [[], [2048], [], [], [2136, 1010, 2133, 2134, 2135]] [] = true := by decide +kernel
theorem bo_X9_fill_2 : bi_okkB bt_M bt_P 164 ((yX9_fill, cX9_fill, 10, (some .int), RX9, 7, 156, [])) (bt_X9_fill.getD 2 bi_kd) [[]] [] = true := by decide +kernel
theorem bo_X9_fill_3 : bi_okkB bt_M bt_P 164 ((yX9_fill, cX9_fill, 10, (some .int), RX9, 7, 156, [])) (bt_X9_fill.getD 3 bi_kd) [[], []] [] = true := by decide +kernel
theorem bo_X9_fill_4 : bi_okkB bt_M bt_P 164 ((yX9_fill, cX9_fill, 10, (some .int), RX9, 7, 156, [])) (bt_X9_fill.getD 4 bi_kd) [[], []] [] = true := by decide +kernel
theorem bo_X9_fill_5 : bi_okkB bt_M bt_P 164 ((yX9_fill, cX9_fill, 10, (some .int), RX9, 7, 156, [])) (bt_X9_fill.getD 5 bi_kd) [[], [2048], [], [], [], [], [], [], [2136, 1010, 2133, 2134, 2135]] [] = true := by decide +kernel
theorem bo_X9_fill_6 : bi_okkB bt_M bt_P 164 ((yX9_fill, cX9_fill, 10, (some .int), RX9, 7, 156, [])) (bt_X9_fill.getD 6 bi_kd) [[]] [] = true := by decide +kernel
theorem bo_X9_fill_7 : bi_okkB bt_M bt_P 164 ((yX9_fill, cX9_fill, 10, (some .int), RX9, 7, 156, [])) (bt_X9_fill.getD 7 bi_kd) [[], [], [2139, 1001, 2137, 2138], [], [], []] [] = true := by decide +kernel
theorem bo_X9_fill_8 : bi_okkB bt_M bt_P 164 ((yX9_fill, cX9_fill, 10, (some .int), RX9, 7, 156, [])) (bt_X9_fill.getD 8 bi_kd) [[], []] [] = true := by decide +kernel
theorem bo_X9_fill_9 : bi_okkB bt_M bt_P 164 ((yX9_fill, cX9_fill, 10, (some .int), RX9, 7, 156, [])) (bt_X9_fill.getD 9 bi_kd) [[], [], [], [], [], [], [], [], [2143, 1001, 2140, 2142, 1], [], []] [] = true := by decide +kernel
theorem bo_X9_fill_10 : bi_okkB bt_M bt_P 164 ((yX9_fill, cX9_fill, 10, (some .int), RX9, 7, 156, [])) (bt_X9_fill.getD 10 bi_kd) [[]] [] = true := by decide +kernel
theorem bo_X9_fill_11 : bi_okkB bt_M bt_P 164 ((yX9_fill, cX9_fill, 10, (some .int), RX9, 7, 156, [])) (bt_X9_fill.getD 11 bi_kd) [[]] [] = true := by decide +kernel
theorem bo_X9_fill_12 : bi_okkB bt_M bt_P 164 ((yX9_fill, cX9_fill, 10, (some .int), RX9, 7, 156, [])) (bt_X9_fill.getD 12 bi_kd) [[]] [] = true := by decide +kernel
theorem bo_X9_fill_13 : bi_okkB bt_M bt_P 164 ((yX9_fill, cX9_fill, 10, (some .int), RX9, 7, 156, [])) (bt_X9_fill.getD 13 bi_kd) [] [] = true := by decide +kernel
theorem bo_X9_fill_14 : bi_okkB bt_M bt_P 164 ((yX9_fill, cX9_fill, 10, (some .int), RX9, 7, 156, [])) (bt_X9_fill.getD 14 bi_kd) [[]] [] = true := by decide +kernel
theorem bo_X9_fill_15 : bi_okkB bt_M bt_P 164 ((yX9_fill, cX9_fill, 10, (some .int), RX9, 7, 156, [])) (bt_X9_fill.getD 15 bi_kd) [[]] [] = true := by decide +kernel
theorem bm_X9_fill : ∀ b k, bt_P 164 b = some k → bi_okk bt_M bt_P 164 ((yX9_fill, cX9_fill, 10, (some .int), RX9, 7, 156, [])) k := fun b k h => bi_allk (show bt_X9_fill[b]? = some k from h) (fun b hb => match b, hb with
  | 0, _ => bi_okkB_ok bo_X9_fill_0
  | 1, _ => bi_okkB_ok bo_X9_fill_1
  | 2, _ => bi_okkB_ok bo_X9_fill_2
  | 3, _ => bi_okkB_ok bo_X9_fill_3
  | 4, _ => bi_okkB_ok bo_X9_fill_4
  | 5, _ => bi_okkB_ok bo_X9_fill_5
  | 6, _ => bi_okkB_ok bo_X9_fill_6
  | 7, _ => bi_okkB_ok bo_X9_fill_7
  | 8, _ => bi_okkB_ok bo_X9_fill_8
  | 9, _ => bi_okkB_ok bo_X9_fill_9
  | 10, _ => bi_okkB_ok bo_X9_fill_10
  | 11, _ => bi_okkB_ok bo_X9_fill_11
  | 12, _ => bi_okkB_ok bo_X9_fill_12
  | 13, _ => bi_okkB_ok bo_X9_fill_13
  | 14, _ => bi_okkB_ok bo_X9_fill_14
  | 15, _ => bi_okkB_ok bo_X9_fill_15
  | b + 16, hb => absurd hb (by show ¬ b + 16 < 16; omega))
theorem bo_X9_flush : bi_oksB bt_M bt_P 165 ((yX9_flush, cX9_flush, 3, (some .int), RX9, 6, 127, [])) bt_X9_flush [([[], [], [2132, 1001, 2129, 2131, 0], [], []], []), ([[]], []), ([[], [2046], [1046]], []), ([[], [], [2155, 1001, 2152, 2154, 2]], []), ([[]], []), ([[], [2048], [2159, 1010, 2156, 2157, 2158]], [])] = true := by decide +kernel
theorem bm_X9_flush : ∀ b k, bt_P 165 b = some k → bi_okk bt_M bt_P 165 ((yX9_flush, cX9_flush, 3, (some .int), RX9, 6, 127, [])) k := fun b k h => bi_oksB_ok _ _ bo_X9_flush k (List.mem_of_getElem? (show bt_X9_flush[b]? = some k from h))
theorem bo_X9_flushed : bi_oksB bt_M bt_P 166 ((yX9_flushed, cX9_flushed, 4, (some .boolean), RX9, 5, 104, [])) bt_X9_flushed [([[], [2048], [], [], [2159, 1010, 2156, 2157, 2158], [], [2151, 1010, 2148, 2149, 2150], [], []], []), ([[], [], [2163, 1001, 2160, 2162, 3]], []), ([[], [2151, 1010, 2148, 2149, 2150], []], []), ([[]], []), ([[], [2046], [2183, 1003, 2204, 2181, 2182]], []), ([[]], []), ([[], [], [2208, 1010, 2205, 2206, 2207], []], []), ([[]], [])] = true := by decide +kernel
theorem bm_X9_flushed : ∀ b k, bt_P 166 b = some k → bi_okk bt_M bt_P 166 ((yX9_flushed, cX9_flushed, 4, (some .boolean), RX9, 5, 104, [])) k := fun b k h => bi_oksB_ok _ _ bo_X9_flushed k (List.mem_of_getElem? (show bt_X9_flushed[b]? = some k from h))
theorem bo_X9_force_0 : bi_okkB bt_M bt_P 167 ((yX9_force, cX9_force, 3, (some .int), RX9, 5, 115, [])) (bt_X9_force.getD 0 bi_kd) [[], [], [2132, 1001, 2129, 2131, 0], [], []] [] = true := by decide +kernel
theorem bo_X9_force_1 : bi_okkB bt_M bt_P 167 ((yX9_force, cX9_force, 3, (some .int), RX9, 5, 115, [])) (bt_X9_force.getD 1 bi_kd) [[]] [] = true := by decide +kernel
theorem bo_X9_force_2 : bi_okkB bt_M bt_P 167 ((yX9_force, cX9_force, 3, (some .int), RX9, 5, 115, [])) (bt_X9_force.getD 2 bi_kd) [[], [2046], [1046]] [] = true := by decide +kernel
theorem bo_X9_force_3 : bi_okkB bt_M bt_P 167 ((yX9_force, cX9_force, 3, (some .int), RX9, 5, 115, [])) (bt_X9_force.getD 3 bi_kd) [[]] [] = true := by decide +kernel
theorem bo_X9_force_4 : bi_okkB bt_M bt_P 167 ((yX9_force, cX9_force, 3, (some .int), RX9, 5, 115, [])) (bt_X9_force.getD 4 bi_kd) [[], [2056]] [] = true := by decide +kernel
theorem bo_X9_force_5 : bi_okkB bt_M bt_P 167 ((yX9_force, cX9_force, 3, (some .int), RX9, 5, 115, [])) (bt_X9_force.getD 5 bi_kd) [[], [2056], []] [] = true := by decide +kernel
theorem bo_X9_force_6 : bi_okkB bt_M bt_P 167 ((yX9_force, cX9_force, 3, (some .int), RX9, 5, 115, [])) (bt_X9_force.getD 6 bi_kd) [[]] [] = true := by decide +kernel
theorem bo_X9_force_7 : bi_okkB bt_M bt_P 167 ((yX9_force, cX9_force, 3, (some .int), RX9, 5, 115, [])) (bt_X9_force.getD 7 bi_kd) [[], [2056], []] [] = true := by decide +kernel
theorem bo_X9_force_8 : bi_okkB bt_M bt_P 167 ((yX9_force, cX9_force, 3, (some .int), RX9, 5, 115, [])) (bt_X9_force.getD 8 bi_kd) [[], [], [2163, 1001, 2160, 2162, 3]] [] = true := by decide +kernel
theorem bo_X9_force_9 : bi_okkB bt_M bt_P 167 ((yX9_force, cX9_force, 3, (some .int), RX9, 5, 115, [])) (bt_X9_force.getD 9 bi_kd) [[]] [] = true := by decide +kernel
theorem bo_X9_force_10 : bi_okkB bt_M bt_P 167 ((yX9_force, cX9_force, 3, (some .int), RX9, 5, 115, [])) (bt_X9_force.getD 10 bi_kd) [[], [2046], [2183, 1003, 2204, 2181, 2182]] [] = true := by decide +kernel
theorem bo_X9_force_11 : bi_okkB bt_M bt_P 167 ((yX9_force, cX9_force, 3, (some .int), RX9, 5, 115, [])) (bt_X9_force.getD 11 bi_kd) [[]] [] = true := by decide +kernel
theorem bo_X9_force_12 : bi_okkB bt_M bt_P 167 ((yX9_force, cX9_force, 3, (some .int), RX9, 5, 115, [])) (bt_X9_force.getD 12 bi_kd) [[], [2056]] [] = true := by decide +kernel
theorem bo_X9_force_13 : bi_okkB bt_M bt_P 167 ((yX9_force, cX9_force, 3, (some .int), RX9, 5, 115, [])) (bt_X9_force.getD 13 bi_kd) [[], [], [2048], [3045, 1010, 3054, 3043, 3044], [], [3070, 1009, 3067, 3068, 3069]] [] = true := by decide +kernel
theorem bo_X9_force_14 : bi_okkB bt_M bt_P 167 ((yX9_force, cX9_force, 3, (some .int), RX9, 5, 115, [])) (bt_X9_force.getD 14 bi_kd) [[], [2067]] [] = true := by decide +kernel
theorem bo_X9_force_15 : bi_okkB bt_M bt_P 167 ((yX9_force, cX9_force, 3, (some .int), RX9, 5, 115, [])) (bt_X9_force.getD 15 bi_kd) [[], [2069]] [] = true := by decide +kernel
theorem bo_X9_force_16 : bi_okkB bt_M bt_P 167 ((yX9_force, cX9_force, 3, (some .int), RX9, 5, 115, [])) (bt_X9_force.getD 16 bi_kd) [[], [], [2063], [], [2065], [3070, 1009, 3067, 3068, 3069]] [] = true := by decide +kernel
theorem bo_X9_force_17 : bi_okkB bt_M bt_P 167 ((yX9_force, cX9_force, 3, (some .int), RX9, 5, 115, [])) (bt_X9_force.getD 17 bi_kd) [[], [], [2063], [], [], [2065], [], [], [2073], [], [], [2075], [], [], [2081], [], [], [2082], [], [], [2059], [], [2046], [1044]] [] = true := by decide +kernel
theorem bo_X9_force_18 : bi_okkB bt_M bt_P 167 ((yX9_force, cX9_force, 3, (some .int), RX9, 5, 115, [])) (bt_X9_force.getD 18 bi_kd) [[]] [] = true := by decide +kernel
theorem bo_X9_force_19 : bi_okkB bt_M bt_P 167 ((yX9_force, cX9_force, 3, (some .int), RX9, 5, 115, [])) (bt_X9_force.getD 19 bi_kd) [[]] [] = true := by decide +kernel
theorem bo_X9_force_20 : bi_okkB bt_M bt_P 167 ((yX9_force, cX9_force, 3, (some .int), RX9, 5, 115, [])) (bt_X9_force.getD 20 bi_kd) [[3073, 1001, 3071, 3072], [], [1137], [3080, 1009, 3077, 3078, 3079], [], [2059]] [] = true := by decide +kernel
theorem bm_X9_force : ∀ b k, bt_P 167 b = some k → bi_okk bt_M bt_P 167 ((yX9_force, cX9_force, 3, (some .int), RX9, 5, 115, [])) k := fun b k h => bi_allk (show bt_X9_force[b]? = some k from h) (fun b hb => match b, hb with
  | 0, _ => bi_okkB_ok bo_X9_force_0
  | 1, _ => bi_okkB_ok bo_X9_force_1
  | 2, _ => bi_okkB_ok bo_X9_force_2
  | 3, _ => bi_okkB_ok bo_X9_force_3
  | 4, _ => bi_okkB_ok bo_X9_force_4
  | 5, _ => bi_okkB_ok bo_X9_force_5
  | 6, _ => bi_okkB_ok bo_X9_force_6
  | 7, _ => bi_okkB_ok bo_X9_force_7
  | 8, _ => bi_okkB_ok bo_X9_force_8
  | 9, _ => bi_okkB_ok bo_X9_force_9
  | 10, _ => bi_okkB_ok bo_X9_force_10
  | 11, _ => bi_okkB_ok bo_X9_force_11
  | 12, _ => bi_okkB_ok bo_X9_force_12
  | 13, _ => bi_okkB_ok bo_X9_force_13
  | 14, _ => bi_okkB_ok bo_X9_force_14
  | 15, _ => bi_okkB_ok bo_X9_force_15
  | 16, _ => bi_okkB_ok bo_X9_force_16
  | 17, _ => bi_okkB_ok bo_X9_force_17
  | 18, _ => bi_okkB_ok bo_X9_force_18
  | 19, _ => bi_okkB_ok bo_X9_force_19
  | 20, _ => bi_okkB_ok bo_X9_force_20
  | b + 21, hb => absurd hb (by show ¬ b + 21 < 21; omega))
theorem bo_X9_freeBlocks : bi_oksB bt_M bt_P 168 ((yX9_freeBlocks, cX9_freeBlocks, 5, (some .int), RX9, 2, 41, [])) bt_X9_freeBlocks [([[], [1136], [], [], []], []), ([[], []], []), ([[], [], [], [1044], [], [], [], [2132, 1001, 2129, 2131, 0], [], []], []), ([[], [], [2217, 1009, 2214, 2215, 2216], [], []], []), ([[]], []), ([[]], [])] = true := by decide +kernel
theorem bm_X9_freeBlocks : ∀ b k, bt_P 168 b = some k → bi_okk bt_M bt_P 168 ((yX9_freeBlocks, cX9_freeBlocks, 5, (some .int), RX9, 2, 41, [])) k := fun b k h => bi_oksB_ok _ _ bo_X9_freeBlocks k (List.mem_of_getElem? (show bt_X9_freeBlocks[b]? = some k from h))
theorem bo_X9_group_0 : bi_okkB bt_M bt_P 169 ((yX9_group, cX9_group, 4, (some .int), RX9, 3, 64, [])) (bt_X9_group.getD 0 bi_kd) [[], []] [] = true := by decide +kernel
theorem bo_X9_group_1 : bi_okkB bt_M bt_P 169 ((yX9_group, cX9_group, 4, (some .int), RX9, 3, 64, [])) (bt_X9_group.getD 1 bi_kd) [[], []] [] = true := by decide +kernel
theorem bo_X9_group_2 : bi_okkB bt_M bt_P 169 ((yX9_group, cX9_group, 4, (some .int), RX9, 3, 64, [])) (bt_X9_group.getD 2 bi_kd) [[], []] [] = true := by decide +kernel
theorem bo_X9_group_3 : bi_okkB bt_M bt_P 169 ((yX9_group, cX9_group, 4, (some .int), RX9, 3, 64, [])) (bt_X9_group.getD 3 bi_kd) [[], []] [] = true := by decide +kernel
theorem bo_X9_group_4 : bi_okkB bt_M bt_P 169 ((yX9_group, cX9_group, 4, (some .int), RX9, 3, 64, [])) (bt_X9_group.getD 4 bi_kd) [[]] [] = true := by decide +kernel
theorem bo_X9_group_5 : bi_okkB bt_M bt_P 169 ((yX9_group, cX9_group, 4, (some .int), RX9, 3, 64, [])) (bt_X9_group.getD 5 bi_kd) [[], [1143], []] [] = true := by decide +kernel
theorem bo_X9_group_6 : bi_okkB bt_M bt_P 169 ((yX9_group, cX9_group, 4, (some .int), RX9, 3, 64, [])) (bt_X9_group.getD 6 bi_kd) [[]] [] = true := by decide +kernel
theorem bo_X9_group_7 : bi_okkB bt_M bt_P 169 ((yX9_group, cX9_group, 4, (some .int), RX9, 3, 64, [])) (bt_X9_group.getD 7 bi_kd) [[], [1143], [], [], [1140], [], [1060, 1171, 1009], [], [], [], [1139], [], [], [], [1172, 1173, 1010], [], [], [1141], [], [], [1176, 1010, 1174, 1175], [1224, 1009, 1222, 1223], [], [], [1140], [], [], [], [1060, 1171, 1009], [], [], [], [], [], [1139], [], [], [], [1172, 1173, 1010], [], [], [1141], [], [], [1176, 1010, 1174, 1175], [1224, 1009, 1222, 1223], [], [], [], [1143], [], [], [1143], []] [] = true := by decide +kernel
theorem bm_X9_group : ∀ b k, bt_P 169 b = some k → bi_okk bt_M bt_P 169 ((yX9_group, cX9_group, 4, (some .int), RX9, 3, 64, [])) k := fun b k h => bi_allk (show bt_X9_group[b]? = some k from h) (fun b hb => match b, hb with
  | 0, _ => bi_okkB_ok bo_X9_group_0
  | 1, _ => bi_okkB_ok bo_X9_group_1
  | 2, _ => bi_okkB_ok bo_X9_group_2
  | 3, _ => bi_okkB_ok bo_X9_group_3
  | 4, _ => bi_okkB_ok bo_X9_group_4
  | 5, _ => bi_okkB_ok bo_X9_group_5
  | 6, _ => bi_okkB_ok bo_X9_group_6
  | 7, _ => bi_okkB_ok bo_X9_group_7
  | b + 8, hb => absurd hb (by show ¬ b + 8 < 8; omega))
theorem bo_X9_handOver : bi_oksB bt_M bt_P 170 ((yX9_handOver, cX9_handOver, 2, none, RX9, 3, 66, [])) bt_X9_handOver [([[], [2070]], []), ([[], [3168, 1009, 3165, 3166, 3167]], []), ([[], [], [3218, 1001, 3215, 3217, 15]], []), ([[], [2046], [2183, 1003, 2204, 2181, 2182]], []), ([[], [], [2059], [], [2046], [1044]], []), ([[]], []), ([[]], []), ([[3073, 1001, 3071, 3072], [2070], [], [], [3218, 1001, 3215, 3217, 15]], []), ([], [])] = true := by decide +kernel
theorem bm_X9_handOver : ∀ b k, bt_P 170 b = some k → bi_okk bt_M bt_P 170 ((yX9_handOver, cX9_handOver, 2, none, RX9, 3, 66, [])) k := fun b k h => bi_oksB_ok _ _ bo_X9_handOver k (List.mem_of_getElem? (show bt_X9_handOver[b]? = some k from h))
