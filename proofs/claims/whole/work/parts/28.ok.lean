/-! the tables are as the code has them -/
theorem bo_X12_staged_6 : bi_okkB bt_M bt_P 79 ((yX12_staged, cX12_staged, 6, none, RX12, 4, 86, [])) (bt_X12_staged.getD 6 bi_kd) [[], [6034], [], [], [7012, 1013, 7009, 7010, 7011], [], [], [], [6215, 1013, 6212, 6213, 6214], [], [], [6003], [], [], [6004], [], [], [6005], [], [], [6047], [], [], [5113], [6227, 1013, 6224, 6225, 6226], [], [], [], [], [], [], [], [7027, 1011, 7024, 7026, 52]] [] = true := by decide +kernel
theorem bm_X12_staged : ∀ b k, bt_P 79 b = some k → bi_okk bt_M bt_P 79 ((yX12_staged, cX12_staged, 6, none, RX12, 4, 86, [])) k := fun b k h => bi_allk (show bt_X12_staged[b]? = some k from h) (fun b hb => match b, hb with
  | 0, _ => bi_okkB_ok bo_X12_staged_0
  | 1, _ => bi_okkB_ok bo_X12_staged_1
  | 2, _ => bi_okkB_ok bo_X12_staged_2
  | 3, _ => bi_okkB_ok bo_X12_staged_3
  | 4, _ => bi_okkB_ok bo_X12_staged_4
  | 5, _ => bi_okkB_ok bo_X12_staged_5
  | 6, _ => bi_okkB_ok bo_X12_staged_6
  | b + 7, hb => absurd hb (by show ¬ b + 7 < 7; omega))
theorem bo_X12_stagesJust : bi_oksB bt_M bt_P 80 ((yX12_stagesJust, cX12_stagesJust, 2, (some .boolean), RX12, 1, 20, [])) bt_X12_stagesJust [([[], [6030]], []), ([[], [6032], [], [5076]], []), ([[], [6034], [], [5077]], []), ([[]], []), ([[]], []), ([], [])] = true := by decide +kernel
theorem bm_X12_stagesJust : ∀ b k, bt_P 80 b = some k → bi_okk bt_M bt_P 80 ((yX12_stagesJust, cX12_stagesJust, 2, (some .boolean), RX12, 1, 20, [])) k := fun b k h => bi_oksB_ok _ _ bo_X12_stagesJust k (List.mem_of_getElem? (show bt_X12_stagesJust[b]? = some k from h))
theorem bo_X12_state_0 : bi_okkB bt_M bt_P 81 ((yX12_state, cX12_state, 4, (some .int), RX12, 2, 48, [])) (bt_X12_state.getD 0 bi_kd) [[], [], [5111], [], [], [6129, 1011, 6126, 6128, 34], [], []] [] = true := by decide +kernel
theorem bo_X12_state_1 : bi_okkB bt_M bt_P 81 ((yX12_state, cX12_state, 4, (some .int), RX12, 2, 48, [])) (bt_X12_state.getD 1 bi_kd) [[]] [] = true := by decide +kernel
theorem bo_X12_state_2 : bi_okkB bt_M bt_P 81 ((yX12_state, cX12_state, 4, (some .int), RX12, 2, 48, [])) (bt_X12_state.getD 2 bi_kd) [[]] [] = true := by decide +kernel
theorem bo_X12_state_3 : bi_okkB bt_M bt_P 81 ((yX12_state, cX12_state, 4, (some .int), RX12, 2, 48, [])) (bt_X12_state.getD 3 bi_kd) [[], [6000]] [] = true := by decide +kernel
theorem bo_X12_state_4 : bi_okkB bt_M bt_P 81 ((yX12_state, cX12_state, 4, (some .int), RX12, 2, 48, [])) (bt_X12_state.getD 4 bi_kd) [[], [6002]] [] = true := by decide +kernel
theorem bo_X12_state_5 : bi_okkB bt_M bt_P 81 ((yX12_state, cX12_state, 4, (some .int), RX12, 2, 48, [])) (bt_X12_state.getD 5 bi_kd) [[], [5129], [], [6003], []] [] = true := by decide +kernel
theorem bo_X12_state_6 : bi_okkB bt_M bt_P 81 ((yX12_state, cX12_state, 4, (some .int), RX12, 2, 48, [])) (bt_X12_state.getD 6 bi_kd) [[], [5129], [], [6004], []] [] = true := by decide +kernel
theorem bo_X12_state_7 : bi_okkB bt_M bt_P 81 ((yX12_state, cX12_state, 4, (some .int), RX12, 2, 48, [])) (bt_X12_state.getD 7 bi_kd) [[], [5129], [], [6005], []] [] = true := by decide +kernel
theorem bo_X12_state_8 : bi_okkB bt_M bt_P 81 ((yX12_state, cX12_state, 4, (some .int), RX12, 2, 48, [])) (bt_X12_state.getD 8 bi_kd) [[], [6007]] [] = true := by decide +kernel
theorem bo_X12_state_9 : bi_okkB bt_M bt_P 81 ((yX12_state, cX12_state, 4, (some .int), RX12, 2, 48, [])) (bt_X12_state.getD 9 bi_kd) [[], [6219, 1013, 6216, 6217, 6218]] [] = true := by decide +kernel
theorem bo_X12_state_10 : bi_okkB bt_M bt_P 81 ((yX12_state, cX12_state, 4, (some .int), RX12, 2, 48, [])) (bt_X12_state.getD 10 bi_kd) [[], [6009]] [] = true := by decide +kernel
theorem bo_X12_state_11 : bi_okkB bt_M bt_P 81 ((yX12_state, cX12_state, 4, (some .int), RX12, 2, 48, [])) (bt_X12_state.getD 11 bi_kd) [[], [6011]] [] = true := by decide +kernel
theorem bo_X12_state_12 : bi_okkB bt_M bt_P 81 ((yX12_state, cX12_state, 4, (some .int), RX12, 2, 48, [])) (bt_X12_state.getD 12 bi_kd) [[], [6013]] [] = true := by decide +kernel
theorem bo_X12_state_13 : bi_okkB bt_M bt_P 81 ((yX12_state, cX12_state, 4, (some .int), RX12, 2, 48, [])) (bt_X12_state.getD 13 bi_kd) [[], [6015]] [] = true := by decide +kernel
theorem bo_X12_state_14 : bi_okkB bt_M bt_P 81 ((yX12_state, cX12_state, 4, (some .int), RX12, 2, 48, [])) (bt_X12_state.getD 14 bi_kd) [[], [6016]] [] = true := by decide +kernel
theorem bo_X12_state_15 : bi_okkB bt_M bt_P 81 ((yX12_state, cX12_state, 4, (some .int), RX12, 2, 48, [])) (bt_X12_state.getD 15 bi_kd) [[], [6023]] [] = true := by decide +kernel
theorem bo_X12_state_16 : bi_okkB bt_M bt_P 81 ((yX12_state, cX12_state, 4, (some .int), RX12, 2, 48, [])) (bt_X12_state.getD 16 bi_kd) [[], [6024]] [] = true := by decide +kernel
theorem bo_X12_state_17 : bi_okkB bt_M bt_P 81 ((yX12_state, cX12_state, 4, (some .int), RX12, 2, 48, [])) (bt_X12_state.getD 17 bi_kd) [[], [6025]] [] = true := by decide +kernel
theorem bo_X12_state_18 : bi_okkB bt_M bt_P 81 ((yX12_state, cX12_state, 4, (some .int), RX12, 2, 48, [])) (bt_X12_state.getD 18 bi_kd) [[], [6026]] [] = true := by decide +kernel
theorem bo_X12_state_19 : bi_okkB bt_M bt_P 81 ((yX12_state, cX12_state, 4, (some .int), RX12, 2, 48, [])) (bt_X12_state.getD 19 bi_kd) [[], [6027]] [] = true := by decide +kernel
theorem bo_X12_state_20 : bi_okkB bt_M bt_P 81 ((yX12_state, cX12_state, 4, (some .int), RX12, 2, 48, [])) (bt_X12_state.getD 20 bi_kd) [[], [6028]] [] = true := by decide +kernel
theorem bo_X12_state_21 : bi_okkB bt_M bt_P 81 ((yX12_state, cX12_state, 4, (some .int), RX12, 2, 48, [])) (bt_X12_state.getD 21 bi_kd) [[]] [] = true := by decide +kernel
theorem bo_X12_state_22 : bi_okkB bt_M bt_P 81 ((yX12_state, cX12_state, 4, (some .int), RX12, 2, 48, [])) (bt_X12_state.getD 22 bi_kd) [[]] [] = true := by decide +kernel
theorem bo_X12_state_23 : bi_okkB bt_M bt_P 81 ((yX12_state, cX12_state, 4, (some .int), RX12, 2, 48, [])) (bt_X12_state.getD 23 bi_kd) [] [] = true := by decide +kernel
theorem bo_X12_state_24 : bi_okkB bt_M bt_P 81 ((yX12_state, cX12_state, 4, (some .int), RX12, 2, 48, [])) (bt_X12_state.getD 24 bi_kd) [[], [6038]] [] = true := by decide +kernel
theorem bo_X12_state_25 : bi_okkB bt_M bt_P 81 ((yX12_state, cX12_state, 4, (some .int), RX12, 2, 48, [])) (bt_X12_state.getD 25 bi_kd) [[], [6040]] [] = true := by decide +kernel
theorem bo_X12_state_26 : bi_okkB bt_M bt_P 81 ((yX12_state, cX12_state, 4, (some .int), RX12, 2, 48, [])) (bt_X12_state.getD 26 bi_kd) [[], [6034]] [] = true := by decide +kernel
theorem bo_X12_state_27 : bi_okkB bt_M bt_P 81 ((yX12_state, cX12_state, 4, (some .int), RX12, 2, 48, [])) (bt_X12_state.getD 27 bi_kd) [[], [6041]] [] = true := by decide +kernel
theorem bo_X12_state_28 : bi_okkB bt_M bt_P 81 ((yX12_state, cX12_state, 4, (some .int), RX12, 2, 48, [])) (bt_X12_state.getD 28 bi_kd) [[], [6043], []] [] = true := by decide +kernel
theorem bo_X12_state_29 : bi_okkB bt_M bt_P 81 ((yX12_state, cX12_state, 4, (some .int), RX12, 2, 48, [])) (bt_X12_state.getD 29 bi_kd) [[], [], [6178, 1011, 6175, 6177, 46]] [] = true := by decide +kernel
theorem bo_X12_state_30 : bi_okkB bt_M bt_P 81 ((yX12_state, cX12_state, 4, (some .int), RX12, 2, 48, [])) (bt_X12_state.getD 30 bi_kd) [[], [6017]] [] = true := by decide +kernel
theorem bo_X12_state_31 : bi_okkB bt_M bt_P 81 ((yX12_state, cX12_state, 4, (some .int), RX12, 2, 48, [])) (bt_X12_state.getD 31 bi_kd) [[]] [] = true := by decide +kernel
theorem bm_X12_state : ∀ b k, bt_P 81 b = some k → bi_okk bt_M bt_P 81 ((yX12_state, cX12_state, 4, (some .int), RX12, 2, 48, [])) k := fun b k h => bi_allk (show bt_X12_state[b]? = some k from h) (fun b hb => match b, hb with
  | 0, _ => bi_okkB_ok bo_X12_state_0
  | 1, _ => bi_okkB_ok bo_X12_state_1
  | 2, _ => bi_okkB_ok bo_X12_state_2
  | 3, _ => bi_okkB_ok bo_X12_state_3
  | 4, _ => bi_okkB_ok bo_X12_state_4
  | 5, _ => bi_okkB_ok bo_X12_state_5
  | 6, _ => bi_okkB_ok bo_X12_state_6
  | 7, _ => bi_okkB_ok bo_X12_state_7
  | 8, _ => bi_okkB_ok bo_X12_state_8
  | 9, _ => bi_okkB_ok bo_X12_state_9
  | 10, _ => bi_okkB_ok bo_X12_state_10
  | 11, _ => bi_okkB_ok bo_X12_state_11
  | 12, _ => bi_okkB_ok bo_X12_state_12
  | 13, _ => bi_okkB_ok bo_X12_state_13
  | 14, _ => bi_okkB_ok bo_X12_state_14
  | 15, _ => bi_okkB_ok bo_X12_state_15
  | 16, _ => bi_okkB_ok bo_X12_state_16
  | 17, _ => bi_okkB_ok bo_X12_state_17
  | 18, _ => bi_okkB_ok bo_X12_state_18
  | 19, _ => bi_okkB_ok bo_X12_state_19
  | 20, _ => bi_okkB_ok bo_X12_state_20
  | 21, _ => bi_okkB_ok bo_X12_state_21
  | 22, _ => bi_okkB_ok bo_X12_state_22
  | 23, _ => bi_okkB_ok bo_X12_state_23
  | 24, _ => bi_okkB_ok bo_X12_state_24
  | 25, _ => bi_okkB_ok bo_X12_state_25
  | 26, _ => bi_okkB_ok bo_X12_state_26
  | 27, _ => bi_okkB_ok bo_X12_state_27
  | 28, _ => bi_okkB_ok bo_X12_state_28
  | 29, _ => bi_okkB_ok bo_X12_state_29
  | 30, _ => bi_okkB_ok bo_X12_state_30
  | 31, _ => bi_okkB_ok bo_X12_state_31
  | b + 32, hb => absurd hb (by show ¬ b + 32 < 32; omega))
theorem bo_X12_stay : bi_oksB bt_M bt_P 82 ((yX12_stay, cX12_stay, 4, (some .int), RX12, 3, 62, [])) bt_X12_stay [([[], [], [5111], [], [], [6129, 1011, 6126, 6128, 34], [], [], [], [], [], [6203, 1011, 6200, 6202, 48], [], []], []), ([[]], []), ([[], [6016]], []), ([[]], []), ([[], [], [5239], [6162, 1011, 6159, 6161, 42]], []), ([[]], []), ([[], [], [6000], []], [])] = true := by decide +kernel
theorem bm_X12_stay : ∀ b k, bt_P 82 b = some k → bi_okk bt_M bt_P 82 ((yX12_stay, cX12_stay, 4, (some .int), RX12, 3, 62, [])) k := fun b k h => bi_oksB_ok _ _ bo_X12_stay k (List.mem_of_getElem? (show bt_X12_stay[b]? = some k from h))
theorem bo_X12_sum_0 : bi_okkB bt_M bt_P 83 ((yX12_sum, cX12_sum, 6, (some .int), RX12, 2, 43, [])) (bt_X12_sum.getD 0 bi_kd) [[], [], [5111], [], [], [6129, 1011, 6126, 6128, 34], [], [], [], [], [], [6133, 1011, 6130, 6132, 35]] [] = true := by decide +kernel
theorem bo_X12_sum_1 : bi_okkB bt_M bt_P 83 ((yX12_sum, cX12_sum, 6, (some .int), RX12, 2, 43, [])) (bt_X12_sum.getD 1 bi_kd) [[], [], [7166, 1011, 7163, 7165, 75]] [] = true := by decide +kernel
theorem bo_X12_sum_2 : bi_okkB bt_M bt_P 83 ((yX12_sum, cX12_sum, 6, (some .int), RX12, 2, 43, [])) (bt_X12_sum.getD 2 bi_kd) [[], [5120], [], [5239], []] [] = true := by decide +kernel
theorem bo_X12_sum_3 : bi_okkB bt_M bt_P 83 ((yX12_sum, cX12_sum, 6, (some .int), RX12, 2, 43, [])) (bt_X12_sum.getD 3 bi_kd) [[], [], [7166, 1011, 7163, 7165, 75]] [] = true := by decide +kernel
theorem bo_X12_sum_4 : bi_okkB bt_M bt_P 83 ((yX12_sum, cX12_sum, 6, (some .int), RX12, 2, 43, [])) (bt_X12_sum.getD 4 bi_kd) [[], [], [6183, 1011, 6180, 6182, 47], [], [], [], []] [] = true := by decide +kernel
theorem bo_X12_sum_5 : bi_okkB bt_M bt_P 83 ((yX12_sum, cX12_sum, 6, (some .int), RX12, 2, 43, [])) (bt_X12_sum.getD 5 bi_kd) [[], [], [5124], [], [5238], []] [] = true := by decide +kernel
theorem bo_X12_sum_6 : bi_okkB bt_M bt_P 83 ((yX12_sum, cX12_sum, 6, (some .int), RX12, 2, 43, [])) (bt_X12_sum.getD 6 bi_kd) [[], [], [], [], [5128], [], [6046], [], [], [5124], [], [5238], [], [], [], [], [], [], [], [], []] [] = true := by decide +kernel
theorem bo_X12_sum_7 : bi_okkB bt_M bt_P 83 ((yX12_sum, cX12_sum, 6, (some .int), RX12, 2, 43, [])) (bt_X12_sum.getD 7 bi_kd) [[]] [] = true := by decide +kernel
theorem bm_X12_sum : ∀ b k, bt_P 83 b = some k → bi_okk bt_M bt_P 83 ((yX12_sum, cX12_sum, 6, (some .int), RX12, 2, 43, [])) k := fun b k h => bi_allk (show bt_X12_sum[b]? = some k from h) (fun b hb => match b, hb with
  | 0, _ => bi_okkB_ok bo_X12_sum_0
  | 1, _ => bi_okkB_ok bo_X12_sum_1
  | 2, _ => bi_okkB_ok bo_X12_sum_2
  | 3, _ => bi_okkB_ok bo_X12_sum_3
  | 4, _ => bi_okkB_ok bo_X12_sum_4
  | 5, _ => bi_okkB_ok bo_X12_sum_5
  | 6, _ => bi_okkB_ok bo_X12_sum_6
  | 7, _ => bi_okkB_ok bo_X12_sum_7
  | b + 8, hb => absurd hb (by show ¬ b + 8 < 8; omega))
theorem bo_X12_takes : bi_oksB bt_M bt_P 84 ((yX12_takes, cX12_takes, 2, (some .boolean), RX12, 5, 108, [])) bt_X12_takes [([[], [], [6146, 1011, 6143, 6145, 38]], []), ([[], [], [5239], [6162, 1011, 6159, 6161, 42]], []), ([[]], []), ([[], [], [6017], [], [], [6017], [], [], [], [6002], [], [], [6017], [], [], [6003], [6215, 1013, 6212, 6213, 6214], [], [], [5238], [], [6219, 1013, 6216, 6217, 6218], [], [6003], [6223, 1011, 6220, 6222, 50], [], [], [5113], [6227, 1013, 6224, 6225, 6226], []], [])] = true := by decide +kernel
theorem bm_X12_takes : ∀ b k, bt_P 84 b = some k → bi_okk bt_M bt_P 84 ((yX12_takes, cX12_takes, 2, (some .boolean), RX12, 5, 108, [])) k := fun b k h => bi_oksB_ok _ _ bo_X12_takes k (List.mem_of_getElem? (show bt_X12_takes[b]? = some k from h))
theorem bo_X12_thrown : bi_oksB bt_M bt_P 85 ((yX12_thrown, cX12_thrown, 1, (some .int), RX12, 1, 20, [])) bt_X12_thrown [([[], [5111]], [])] = true := by decide +kernel
theorem bm_X12_thrown : ∀ b k, bt_P 85 b = some k → bi_okk bt_M bt_P 85 ((yX12_thrown, cX12_thrown, 1, (some .int), RX12, 1, 20, [])) k := fun b k h => bi_oksB_ok _ _ bo_X12_thrown k (List.mem_of_getElem? (show bt_X12_thrown[b]? = some k from h))
theorem bo_X12_tick : bi_oksB bt_M bt_P 86 ((yX12_tick, cX12_tick, 5, (some .int), RX12, 7, 150, [])) bt_X12_tick [([[], [], [5111], [], [], [5116], [], [], [5116], [], [5145], [], [], [], [], [], []], []), ([[], []], []), ([[], [], [], [], []], []), ([[], [5120], [], [5239], []], []), ([[], [], [7043, 1011, 7040, 7042, 54]], []), ([[]], []), ([[], [5116]], [])] = true := by decide +kernel
theorem bm_X12_tick : ∀ b k, bt_P 86 b = some k → bi_okk bt_M bt_P 86 ((yX12_tick, cX12_tick, 5, (some .int), RX12, 7, 150, [])) k := fun b k h => bi_oksB_ok _ _ bo_X12_tick k (List.mem_of_getElem? (show bt_X12_tick[b]? = some k from h))
theorem bo_X12_ticks_0 : bi_okkB bt_M bt_P 87 ((yX12_ticks, cX12_ticks, 2, none, RX12, 6, 129, [])) (bt_X12_ticks.getD 0 bi_kd) [[], [6000], []] [] = true := by decide +kernel
theorem bo_X12_ticks_1 : bi_okkB bt_M bt_P 87 ((yX12_ticks, cX12_ticks, 2, none, RX12, 6, 129, [])) (bt_X12_ticks.getD 1 bi_kd) [[], [5115]] [] = true := by decide +kernel
theorem bo_X12_ticks_2 : bi_okkB bt_M bt_P 87 ((yX12_ticks, cX12_ticks, 2, none, RX12, 6, 129, [])) (bt_X12_ticks.getD 2 bi_kd) [[], [5116], [], [5115], []] [] = true := by decide +kernel
theorem bo_X12_ticks_3 : bi_okkB bt_M bt_P 87 ((yX12_ticks, cX12_ticks, 2, none, RX12, 6, 129, [])) (bt_X12_ticks.getD 3 bi_kd) [[], [6003], [], [6207, 1013, 6204, 6205, 6206]] [] = true := by decide +kernel
theorem bo_X12_ticks_4 : bi_okkB bt_M bt_P 87 ((yX12_ticks, cX12_ticks, 2, none, RX12, 6, 129, [])) (bt_X12_ticks.getD 4 bi_kd) [[], [6017], []] [] = true := by decide +kernel
theorem bo_X12_ticks_5 : bi_okkB bt_M bt_P 87 ((yX12_ticks, cX12_ticks, 2, none, RX12, 6, 129, [])) (bt_X12_ticks.getD 5 bi_kd) [[], [], [6211, 1011, 6208, 6210, 49]] [] = true := by decide +kernel
theorem bo_X12_ticks_6 : bi_okkB bt_M bt_P 87 ((yX12_ticks, cX12_ticks, 2, none, RX12, 6, 129, [])) (bt_X12_ticks.getD 6 bi_kd) [] [] = true := by decide +kernel
theorem bo_X12_ticks_7 : bi_okkB bt_M bt_P 87 ((yX12_ticks, cX12_ticks, 2, none, RX12, 6, 129, [])) (bt_X12_ticks.getD 7 bi_kd) [[], [6000], []] [] = true := by decide +kernel
theorem bo_X12_ticks_8 : bi_okkB bt_M bt_P 87 ((yX12_ticks, cX12_ticks, 2, none, RX12, 6, 129, [])) (bt_X12_ticks.getD 8 bi_kd) [[], [6028]] [] = true := by decide +kernel
theorem bo_X12_ticks_9 : bi_okkB bt_M bt_P 87 ((yX12_ticks, cX12_ticks, 2, none, RX12, 6, 129, [])) (bt_X12_ticks.getD 9 bi_kd) [] [] = true := by decide +kernel
theorem bo_X12_ticks_10 : bi_okkB bt_M bt_P 87 ((yX12_ticks, cX12_ticks, 2, none, RX12, 6, 129, [])) (bt_X12_ticks.getD 10 bi_kd) [[], [], [6027], [], [], [6027], [], [6027], []] [] = true := by decide +kernel
theorem bo_X12_ticks_11 : bi_okkB bt_M bt_P 87 ((yX12_ticks, cX12_ticks, 2, none, RX12, 6, 129, [])) (bt_X12_ticks.getD 11 bi_kd) [] [] = true := by decide +kernel
theorem bo_X12_ticks_12 : bi_okkB bt_M bt_P 87 ((yX12_ticks, cX12_ticks, 2, none, RX12, 6, 129, [])) (bt_X12_ticks.getD 12 bi_kd) [[], [], [6027], [], [], [], [], [], [], [], [7027, 1011, 7024, 7026, 52]] [] = true := by decide +kernel
theorem bo_X12_ticks_13 : bi_okkB bt_M bt_P 87 ((yX12_ticks, cX12_ticks, 2, none, RX12, 6, 129, [])) (bt_X12_ticks.getD 13 bi_kd) [[], [6000]] [] = true := by decide +kernel
theorem bo_X12_ticks_14 : bi_okkB bt_M bt_P 87 ((yX12_ticks, cX12_ticks, 2, none, RX12, 6, 129, [])) (bt_X12_ticks.getD 14 bi_kd) [[], [], [7047, 1011, 7044, 7046, 55]] [] = true := by decide +kernel
theorem bo_X12_ticks_15 : bi_okkB bt_M bt_P 87 ((yX12_ticks, cX12_ticks, 2, none, RX12, 6, 129, [])) (bt_X12_ticks.getD 15 bi_kd) [] [] = true := by decide +kernel
theorem bm_X12_ticks : ∀ b k, bt_P 87 b = some k → bi_okk bt_M bt_P 87 ((yX12_ticks, cX12_ticks, 2, none, RX12, 6, 129, [])) k := fun b k h => bi_allk (show bt_X12_ticks[b]? = some k from h) (fun b hb => match b, hb with
  | 0, _ => bi_okkB_ok bo_X12_ticks_0
  | 1, _ => bi_okkB_ok bo_X12_ticks_1
  | 2, _ => bi_okkB_ok bo_X12_ticks_2
  | 3, _ => bi_okkB_ok bo_X12_ticks_3
  | 4, _ => bi_okkB_ok bo_X12_ticks_4
  | 5, _ => bi_okkB_ok bo_X12_ticks_5
  | 6, _ => bi_okkB_ok bo_X12_ticks_6
  | 7, _ => bi_okkB_ok bo_X12_ticks_7
  | 8, _ => bi_okkB_ok bo_X12_ticks_8
  | 9, _ => bi_okkB_ok bo_X12_ticks_9
  | 10, _ => bi_okkB_ok bo_X12_ticks_10
  | 11, _ => bi_okkB_ok bo_X12_ticks_11
  | 12, _ => bi_okkB_ok bo_X12_ticks_12
  | 13, _ => bi_okkB_ok bo_X12_ticks_13
  | 14, _ => bi_okkB_ok bo_X12_ticks_14
  | 15, _ => bi_okkB_ok bo_X12_ticks_15
  | b + 16, hb => absurd hb (by show ¬ b + 16 < 16; omega))
theorem bo_X12_total_0 : bi_okkB bt_M bt_P 88 ((yX12_total, cX12_total, 3, (some .int), RX12, 3, 71, [])) (bt_X12_total.getD 0 bi_kd) [[], [], [5111], []] [] = true := by decide +kernel
theorem bo_X12_total_1 : bi_okkB bt_M bt_P 88 ((yX12_total, cX12_total, 3, (some .int), RX12, 3, 71, [])) (bt_X12_total.getD 1 bi_kd) [[], [5116]] [] = true := by decide +kernel
theorem bo_X12_total_2 : bi_okkB bt_M bt_P 88 ((yX12_total, cX12_total, 3, (some .int), RX12, 3, 71, [])) (bt_X12_total.getD 2 bi_kd) [[], [5117]] [] = true := by decide +kernel
theorem bo_X12_total_3 : bi_okkB bt_M bt_P 88 ((yX12_total, cX12_total, 3, (some .int), RX12, 3, 71, [])) (bt_X12_total.getD 3 bi_kd) [[], [5125]] [] = true := by decide +kernel
theorem bo_X12_total_4 : bi_okkB bt_M bt_P 88 ((yX12_total, cX12_total, 3, (some .int), RX12, 3, 71, [])) (bt_X12_total.getD 4 bi_kd) [[], [5148]] [] = true := by decide +kernel
theorem bo_X12_total_5 : bi_okkB bt_M bt_P 88 ((yX12_total, cX12_total, 3, (some .int), RX12, 3, 71, [])) (bt_X12_total.getD 5 bi_kd) [[], [5118]] [] = true := by decide +kernel
theorem bo_X12_total_6 : bi_okkB bt_M bt_P 88 ((yX12_total, cX12_total, 3, (some .int), RX12, 3, 71, [])) (bt_X12_total.getD 6 bi_kd) [[], [5119]] [] = true := by decide +kernel
theorem bo_X12_total_7 : bi_okkB bt_M bt_P 88 ((yX12_total, cX12_total, 3, (some .int), RX12, 3, 71, [])) (bt_X12_total.getD 7 bi_kd) [[], [], [], [], [], [], [], []] [] = true := by decide +kernel
theorem bo_X12_total_8 : bi_okkB bt_M bt_P 88 ((yX12_total, cX12_total, 3, (some .int), RX12, 3, 71, [])) (bt_X12_total.getD 8 bi_kd) [[], []] [] = true := by decide +kernel
theorem bo_X12_total_9 : bi_okkB bt_M bt_P 88 ((yX12_total, cX12_total, 3, (some .int), RX12, 3, 71, [])) (bt_X12_total.getD 9 bi_kd) [[], [], [], []] [] = true := by decide +kernel
theorem bo_X12_total_10 : bi_okkB bt_M bt_P 88 ((yX12_total, cX12_total, 3, (some .int), RX12, 3, 71, [])) (bt_X12_total.getD 10 bi_kd) [[]] [] = true := by decide +kernel
theorem bo_X12_total_11 : bi_okkB bt_M bt_P 88 ((yX12_total, cX12_total, 3, (some .int), RX12, 3, 71, [])) (bt_X12_total.getD 11 bi_kd) [[], [], []] [] = true := by decide +kernel
theorem bo_X12_total_12 : bi_okkB bt_M bt_P 88 ((yX12_total, cX12_total, 3, (some .int), RX12, 3, 71, [])) (bt_X12_total.getD 12 bi_kd) [[], [5120], [], []] [] = true := by decide +kernel
theorem bo_X12_total_13 : bi_okkB bt_M bt_P 88 ((yX12_total, cX12_total, 3, (some .int), RX12, 3, 71, [])) (bt_X12_total.getD 13 bi_kd) [[]] [] = true := by decide +kernel
theorem bo_X12_total_14 : bi_okkB bt_M bt_P 88 ((yX12_total, cX12_total, 3, (some .int), RX12, 3, 71, [])) (bt_X12_total.getD 14 bi_kd) [[]] [] = true := by decide +kernel
theorem bo_X12_total_15 : bi_okkB bt_M bt_P 88 ((yX12_total, cX12_total, 3, (some .int), RX12, 3, 71, [])) (bt_X12_total.getD 15 bi_kd) [] [] = true := by decide +kernel
theorem bo_X12_total_16 : bi_okkB bt_M bt_P 88 ((yX12_total, cX12_total, 3, (some .int), RX12, 3, 71, [])) (bt_X12_total.getD 16 bi_kd) [[], [5121], [], []] [] = true := by decide +kernel
theorem bo_X12_total_17 : bi_okkB bt_M bt_P 88 ((yX12_total, cX12_total, 3, (some .int), RX12, 3, 71, [])) (bt_X12_total.getD 17 bi_kd) [[], [], [6174, 1011, 6171, 6173, 45]] [] = true := by decide +kernel
theorem bo_X12_total_18 : bi_okkB bt_M bt_P 88 ((yX12_total, cX12_total, 3, (some .int), RX12, 3, 71, [])) (bt_X12_total.getD 18 bi_kd) [[], [5122], [], []] [] = true := by decide +kernel
theorem bm_X12_total : ∀ b k, bt_P 88 b = some k → bi_okk bt_M bt_P 88 ((yX12_total, cX12_total, 3, (some .int), RX12, 3, 71, [])) k := fun b k h => bi_allk (show bt_X12_total[b]? = some k from h) (fun b hb => match b, hb with
  | 0, _ => bi_okkB_ok bo_X12_total_0
  | 1, _ => bi_okkB_ok bo_X12_total_1
  | 2, _ => bi_okkB_ok bo_X12_total_2
  | 3, _ => bi_okkB_ok bo_X12_total_3
  | 4, _ => bi_okkB_ok bo_X12_total_4
  | 5, _ => bi_okkB_ok bo_X12_total_5
  | 6, _ => bi_okkB_ok bo_X12_total_6
  | 7, _ => bi_okkB_ok bo_X12_total_7
  | 8, _ => bi_okkB_ok bo_X12_total_8
  | 9, _ => bi_okkB_ok bo_X12_total_9
  | 10, _ => bi_okkB_ok bo_X12_total_10
  | 11, _ => bi_okkB_ok bo_X12_total_11
  | 12, _ => bi_okkB_ok bo_X12_total_12
  | 13, _ => bi_okkB_ok bo_X12_total_13
  | 14, _ => bi_okkB_ok bo_X12_total_14
  | 15, _ => bi_okkB_ok bo_X12_total_15
  | 16, _ => bi_okkB_ok bo_X12_total_16
  | 17, _ => bi_okkB_ok bo_X12_total_17
  | 18, _ => bi_okkB_ok bo_X12_total_18
  | b + 19, hb => absurd hb (by show ¬ b + 19 < 19; omega))
theorem bo_X12_up_0 : bi_okkB bt_M bt_P 89 ((yX12_up, cX12_up, 5, (some .int), RX12, 2, 40, [])) (bt_X12_up.getD 0 bi_kd) [[], [], [5111], [], [7070, 1011, 7068, 7069]] [] = true := by decide +kernel
theorem bo_X12_up_1 : bi_okkB bt_M bt_P 89 ((yX12_up, cX12_up, 5, (some .int), RX12, 2, 40, [])) (bt_X12_up.getD 1 bi_kd) [[]] [] = true := by decide +kernel
theorem bo_X12_up_2 : bi_okkB bt_M bt_P 89 ((yX12_up, cX12_up, 5, (some .int), RX12, 2, 40, [])) (bt_X12_up.getD 2 bi_kd) [[], [5120], [], []] [] = true := by decide +kernel
theorem bo_X12_up_3 : bi_okkB bt_M bt_P 89 ((yX12_up, cX12_up, 5, (some .int), RX12, 2, 40, [])) (bt_X12_up.getD 3 bi_kd) [[]] [] = true := by decide +kernel
