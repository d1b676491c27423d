/-! the tables are as the code has them -/
theorem bo_X12_up_4 : bi_okkB bt_M bt_P 89 ((yX12_up, cX12_up, 5, (some .int), RX12, 2, 40, [])) (bt_X12_up.getD 4 bi_kd) [[], [5120], [], [], [], [], [], [], []] [] = true := by decide +kernel
theorem bo_X12_up_5 : bi_okkB bt_M bt_P 89 ((yX12_up, cX12_up, 5, (some .int), RX12, 2, 40, [])) (bt_X12_up.getD 5 bi_kd) [[], [], [5117]] [] = true := by decide +kernel
theorem bo_X12_up_6 : bi_okkB bt_M bt_P 89 ((yX12_up, cX12_up, 5, (some .int), RX12, 2, 40, [])) (bt_X12_up.getD 6 bi_kd) [[], [5145], [], [], [], [], [], [], [], [], [], [5129], [], [6003], [], [], [5129], [], [6004], [], [], [], [], [], [6003], [], [6004]] [] = true := by decide +kernel
theorem bo_X12_up_7 : bi_okkB bt_M bt_P 89 ((yX12_up, cX12_up, 5, (some .int), RX12, 2, 40, [])) (bt_X12_up.getD 7 bi_kd) [[], [], [6047], [], [], [6049]] [] = true := by decide +kernel
theorem bo_X12_up_8 : bi_okkB bt_M bt_P 89 ((yX12_up, cX12_up, 5, (some .int), RX12, 2, 40, [])) (bt_X12_up.getD 8 bi_kd) [[], [], [6004], [6003], [], [], [6009], [6023], [], [], [6024], [], [], [6025], [], [], [6026], [], [], [6027], [], [], [6028], []] [] = true := by decide +kernel
theorem bo_X12_up_9 : bi_okkB bt_M bt_P 89 ((yX12_up, cX12_up, 5, (some .int), RX12, 2, 40, [])) (bt_X12_up.getD 9 bi_kd) [[]] [] = true := by decide +kernel
theorem bm_X12_up : ∀ b k, bt_P 89 b = some k → bi_okk bt_M bt_P 89 ((yX12_up, cX12_up, 5, (some .int), RX12, 2, 40, [])) k := fun b k h => bi_allk (show bt_X12_up[b]? = some k from h) (fun b hb => match b, hb with
  | 0, _ => bi_okkB_ok bo_X12_up_0
  | 1, _ => bi_okkB_ok bo_X12_up_1
  | 2, _ => bi_okkB_ok bo_X12_up_2
  | 3, _ => bi_okkB_ok bo_X12_up_3
  | 4, _ => bi_okkB_ok bo_X12_up_4
  | 5, _ => bi_okkB_ok bo_X12_up_5
  | 6, _ => bi_okkB_ok bo_X12_up_6
  | 7, _ => bi_okkB_ok bo_X12_up_7
  | 8, _ => bi_okkB_ok bo_X12_up_8
  | 9, _ => bi_okkB_ok bo_X12_up_9
  | b + 10, hb => absurd hb (by show ¬ b + 10 < 10; omega))
theorem bo_X12_write : bi_oksB bt_M bt_P 90 ((yX12_write, cX12_write, 6, (some .int), RX12, 7, 154, [])) bt_X12_write [([[], [], [5111], [], [], [6129, 1011, 6126, 6128, 34], [], [], [], [], [], [6133, 1011, 6130, 6132, 35]], []), ([[], [], [], [], [], [6137, 1011, 6134, 6136, 36]], []), ([[]], []), ([], [])] = true := by decide +kernel
theorem bm_X12_write : ∀ b k, bt_P 90 b = some k → bi_okk bt_M bt_P 90 ((yX12_write, cX12_write, 6, (some .int), RX12, 7, 154, [])) k := fun b k h => bi_oksB_ok _ _ bo_X12_write k (List.mem_of_getElem? (show bt_X12_write[b]? = some k from h))
theorem bo_X12_writes_0 : bi_okkB bt_M bt_P 91 ((yX12_writes, cX12_writes, 6, (some .int), RX12, 6, 129, [])) (bt_X12_writes.getD 0 bi_kd) [[], [5120], [], [5239], []] [] = true := by decide +kernel
theorem bo_X12_writes_1 : bi_okkB bt_M bt_P 91 ((yX12_writes, cX12_writes, 6, (some .int), RX12, 6, 129, [])) (bt_X12_writes.getD 1 bi_kd) [[]] [] = true := by decide +kernel
theorem bo_X12_writes_2 : bi_okkB bt_M bt_P 91 ((yX12_writes, cX12_writes, 6, (some .int), RX12, 6, 129, [])) (bt_X12_writes.getD 2 bi_kd) [[], [6000], []] [] = true := by decide +kernel
theorem bo_X12_writes_3 : bi_okkB bt_M bt_P 91 ((yX12_writes, cX12_writes, 6, (some .int), RX12, 6, 129, [])) (bt_X12_writes.getD 3 bi_kd) [[]] [] = true := by decide +kernel
theorem bo_X12_writes_4 : bi_okkB bt_M bt_P 91 ((yX12_writes, cX12_writes, 6, (some .int), RX12, 6, 129, [])) (bt_X12_writes.getD 4 bi_kd) [[], [5125], [6138]] [] = true := by decide +kernel
theorem bo_X12_writes_5 : bi_okkB bt_M bt_P 91 ((yX12_writes, cX12_writes, 6, (some .int), RX12, 6, 129, [])) (bt_X12_writes.getD 5 bi_kd) [[]] [] = true := by decide +kernel
theorem bo_X12_writes_6 : bi_okkB bt_M bt_P 91 ((yX12_writes, cX12_writes, 6, (some .int), RX12, 6, 129, [])) (bt_X12_writes.getD 6 bi_kd) [[], [5129], [], [6003], [], [], [5129], [], [6004], [], [], []] [] = true := by decide +kernel
theorem bo_X12_writes_7 : bi_okkB bt_M bt_P 91 ((yX12_writes, cX12_writes, 6, (some .int), RX12, 6, 129, [])) (bt_X12_writes.getD 7 bi_kd) [[], [], [6142, 1011, 6139, 6141, 37]] [] = true := by decide +kernel
theorem bo_X12_writes_8 : bi_okkB bt_M bt_P 91 ((yX12_writes, cX12_writes, 6, (some .int), RX12, 6, 129, [])) (bt_X12_writes.getD 8 bi_kd) [[]] [] = true := by decide +kernel
theorem bo_X12_writes_9 : bi_okkB bt_M bt_P 91 ((yX12_writes, cX12_writes, 6, (some .int), RX12, 6, 129, [])) (bt_X12_writes.getD 9 bi_kd) [[], [], [5239], [6174, 1011, 6171, 6173, 45]] [] = true := by decide +kernel
theorem bo_X12_writes_10 : bi_okkB bt_M bt_P 91 ((yX12_writes, cX12_writes, 6, (some .int), RX12, 6, 129, [])) (bt_X12_writes.getD 10 bi_kd) [[]] [] = true := by decide +kernel
theorem bo_X12_writes_11 : bi_okkB bt_M bt_P 91 ((yX12_writes, cX12_writes, 6, (some .int), RX12, 6, 129, [])) (bt_X12_writes.getD 11 bi_kd) [[], [], [6183, 1011, 6180, 6182, 47], [], [], [5125], [], [], [5125], [], [5126], [], [5125], [], [6003], [], [], [5127], [], [5125], [], [], [5124], [], [5238], [], [], [], [], [], [], [5128], [], [5125], [], [], [], [5129], [], [5125], [], [5129], [], [6003], [], [], [], [], [], [6046], [], [5127], [], [5125], [], [], [], []] [] = true := by decide +kernel
theorem bo_X12_writes_12 : bi_okkB bt_M bt_P 91 ((yX12_writes, cX12_writes, 6, (some .int), RX12, 6, 129, [])) (bt_X12_writes.getD 12 bi_kd) [[], [5129], [], [], [], [5129], [], [6005], []] [] = true := by decide +kernel
theorem bo_X12_writes_13 : bi_okkB bt_M bt_P 91 ((yX12_writes, cX12_writes, 6, (some .int), RX12, 6, 129, [])) (bt_X12_writes.getD 13 bi_kd) [[], [], [6050], [], [], [6050]] [] = true := by decide +kernel
theorem bo_X12_writes_14 : bi_okkB bt_M bt_P 91 ((yX12_writes, cX12_writes, 6, (some .int), RX12, 6, 129, [])) (bt_X12_writes.getD 14 bi_kd) [[], [6046], [], [5127], [], [5125], [], [], [5125], [], [], [], [5125], [6003], [], [5129], [], [6003], [], [], [5129], [], [6004], [], []] [] = true := by decide +kernel
theorem bm_X12_writes : ∀ b k, bt_P 91 b = some k → bi_okk bt_M bt_P 91 ((yX12_writes, cX12_writes, 6, (some .int), RX12, 6, 129, [])) k := fun b k h => bi_allk (show bt_X12_writes[b]? = some k from h) (fun b hb => match b, hb with
  | 0, _ => bi_okkB_ok bo_X12_writes_0
  | 1, _ => bi_okkB_ok bo_X12_writes_1
  | 2, _ => bi_okkB_ok bo_X12_writes_2
  | 3, _ => bi_okkB_ok bo_X12_writes_3
  | 4, _ => bi_okkB_ok bo_X12_writes_4
  | 5, _ => bi_okkB_ok bo_X12_writes_5
  | 6, _ => bi_okkB_ok bo_X12_writes_6
  | 7, _ => bi_okkB_ok bo_X12_writes_7
  | 8, _ => bi_okkB_ok bo_X12_writes_8
  | 9, _ => bi_okkB_ok bo_X12_writes_9
  | 10, _ => bi_okkB_ok bo_X12_writes_10
  | 11, _ => bi_okkB_ok bo_X12_writes_11
  | 12, _ => bi_okkB_ok bo_X12_writes_12
  | 13, _ => bi_okkB_ok bo_X12_writes_13
  | 14, _ => bi_okkB_ok bo_X12_writes_14
  | b + 15, hb => absurd hb (by show ¬ b + 15 < 15; omega))
theorem bo_X1_begin : bi_oksB bt_M bt_P 92 ((yX1_begin, cX1_begin, 1, none, RX1, 1, 20, [])) bt_X1_begin [([[], [], [1074], [], [], [1074]], [])] = true := by decide +kernel
theorem bm_X1_begin : ∀ b k, bt_P 92 b = some k → bi_okk bt_M bt_P 92 ((yX1_begin, cX1_begin, 1, none, RX1, 1, 20, [])) k := fun b k h => bi_oksB_ok _ _ bo_X1_begin k (List.mem_of_getElem? (show bt_X1_begin[b]? = some k from h))
theorem bo_X1_init : bi_oksB bt_M bt_P 93 ((yX1_init, cX1_init, 2, none, RX1, 1, 20, [])) bt_X1_init [([[], [1072, 1026, 1027], [], [], [1080], [1073]], [])] = true := by decide +kernel
theorem bm_X1_init : ∀ b k, bt_P 93 b = some k → bi_okk bt_M bt_P 93 ((yX1_init, cX1_init, 2, none, RX1, 1, 20, [])) k := fun b k h => bi_oksB_ok _ _ bo_X1_init k (List.mem_of_getElem? (show bt_X1_init[b]? = some k from h))
theorem bo_X1_mark : bi_oksB bt_M bt_P 94 ((yX1_mark, cX1_mark, 2, (some .int), RX1, 1, 20, [])) bt_X1_mark [([[]], []), ([[], [], [1073], []], []), ([[], [1073], [], [], [], [1074]], []), ([[]], []), ([[], [1073], [], [], [1074], [], []], [])] = true := by decide +kernel
theorem bm_X1_mark : ∀ b k, bt_P 94 b = some k → bi_okk bt_M bt_P 94 ((yX1_mark, cX1_mark, 2, (some .int), RX1, 1, 20, [])) k := fun b k h => bi_oksB_ok _ _ bo_X1_mark k (List.mem_of_getElem? (show bt_X1_mark[b]? = some k from h))
theorem bo_X2_init : bi_oksB bt_M bt_P 95 ((yX2_init, cX2_init, 5, none, RX2, 1, 20, [])) bt_X2_init [([[], [3086, 1026, 1027], [], [], [3087], [], [], [2010], [3089], [], [], [2023], [3091], [], [], [3093], [], [], [3097]], [])] = true := by decide +kernel
theorem bm_X2_init : ∀ b k, bt_P 95 b = some k → bi_okk bt_M bt_P 95 ((yX2_init, cX2_init, 5, none, RX2, 1, 20, [])) k := fun b k h => bi_oksB_ok _ _ bo_X2_init k (List.mem_of_getElem? (show bt_X2_init[b]? = some k from h))
theorem bo_X2_itemCount : bi_oksB bt_M bt_P 96 ((yX2_itemCount, cX2_itemCount, 1, (some .int), RX2, 1, 20, [])) bt_X2_itemCount [([[], [3106]], []), ([[]], []), ([[], [3106], [], [], []], []), ([], [])] = true := by decide +kernel
theorem bm_X2_itemCount : ∀ b k, bt_P 96 b = some k → bi_okk bt_M bt_P 96 ((yX2_itemCount, cX2_itemCount, 1, (some .int), RX2, 1, 20, [])) k := fun b k h => bi_oksB_ok _ _ bo_X2_itemCount k (List.mem_of_getElem? (show bt_X2_itemCount[b]? = some k from h))
theorem bo_X3_add : bi_oksB bt_M bt_P 97 ((yX3_add, cX3_add, 2, none, RX3, 1, 20, [])) bt_X3_add [([[], [1238], [], [1236], []], []), ([[], [1236], [], [1238], [], [], [], [], [1238], [], [], [1238]], []), ([], [])] = true := by decide +kernel
theorem bm_X3_add : ∀ b k, bt_P 97 b = some k → bi_okk bt_M bt_P 97 ((yX3_add, cX3_add, 2, none, RX3, 1, 20, [])) k := fun b k h => bi_oksB_ok _ _ bo_X3_add k (List.mem_of_getElem? (show bt_X3_add[b]? = some k from h))
theorem bo_X3_begin : bi_oksB bt_M bt_P 98 ((yX3_begin, cX3_begin, 3, none, RX3, 1, 20, [])) bt_X3_begin [([[], [], [1232], [], [], [1234], [], [], [1238]], [])] = true := by decide +kernel
theorem bm_X3_begin : ∀ b k, bt_P 98 b = some k → bi_okk bt_M bt_P 98 ((yX3_begin, cX3_begin, 3, none, RX3, 1, 20, [])) k := fun b k h => bi_oksB_ok _ _ bo_X3_begin k (List.mem_of_getElem? (show bt_X3_begin[b]? = some k from h))
theorem bo_X3_init : bi_oksB bt_M bt_P 99 ((yX3_init, cX3_init, 2, none, RX3, 1, 20, [])) bt_X3_init [([[], [1231, 1026, 1027], [], [], [1080], [1236]], [])] = true := by decide +kernel
theorem bm_X3_init : ∀ b k, bt_P 99 b = some k → bi_okk bt_M bt_P 99 ((yX3_init, cX3_init, 2, none, RX3, 1, 20, [])) k := fun b k h => bi_oksB_ok _ _ bo_X3_init k (List.mem_of_getElem? (show bt_X3_init[b]? = some k from h))
theorem bo_X3_sink_0 : bi_okkB bt_M bt_P 100 ((yX3_sink, cX3_sink, 7, none, RX3, 1, 20, [])) (bt_X3_sink.getD 0 bi_kd) [[], [1236], [], [], [], [], [], [], [], [], [], [], []] [] = true := by decide +kernel
theorem bo_X3_sink_1 : bi_okkB bt_M bt_P 100 ((yX3_sink, cX3_sink, 7, none, RX3, 1, 20, [])) (bt_X3_sink.getD 1 bi_kd) [[], []] [] = true := by decide +kernel
theorem bo_X3_sink_2 : bi_okkB bt_M bt_P 100 ((yX3_sink, cX3_sink, 7, none, RX3, 1, 20, [])) (bt_X3_sink.getD 2 bi_kd) [[], [], [], []] [] = true := by decide +kernel
theorem bo_X3_sink_3 : bi_okkB bt_M bt_P 100 ((yX3_sink, cX3_sink, 7, none, RX3, 1, 20, [])) (bt_X3_sink.getD 3 bi_kd) [[], [], [1236], [], [], [], [], [], [], [], [1236], [], [], []] [] = true := by decide +kernel
theorem bo_X3_sink_4 : bi_okkB bt_M bt_P 100 ((yX3_sink, cX3_sink, 7, none, RX3, 1, 20, [])) (bt_X3_sink.getD 4 bi_kd) [[]] [] = true := by decide +kernel
theorem bo_X3_sink_5 : bi_okkB bt_M bt_P 100 ((yX3_sink, cX3_sink, 7, none, RX3, 1, 20, [])) (bt_X3_sink.getD 5 bi_kd) [[], [], [1236], [], [], [], [], [], []] [] = true := by decide +kernel
theorem bo_X3_sink_6 : bi_okkB bt_M bt_P 100 ((yX3_sink, cX3_sink, 7, none, RX3, 1, 20, [])) (bt_X3_sink.getD 6 bi_kd) [] [] = true := by decide +kernel
theorem bo_X3_sink_7 : bi_okkB bt_M bt_P 100 ((yX3_sink, cX3_sink, 7, none, RX3, 1, 20, [])) (bt_X3_sink.getD 7 bi_kd) [[], [1236], [], [], [1236], [], [], [], [], [], [], [], [], [], [], []] [] = true := by decide +kernel
theorem bo_X3_sink_8 : bi_okkB bt_M bt_P 100 ((yX3_sink, cX3_sink, 7, none, RX3, 1, 20, [])) (bt_X3_sink.getD 8 bi_kd) [[], [1236], [], [], []] [] = true := by decide +kernel
theorem bm_X3_sink : ∀ b k, bt_P 100 b = some k → bi_okk bt_M bt_P 100 ((yX3_sink, cX3_sink, 7, none, RX3, 1, 20, [])) k := fun b k h => bi_allk (show bt_X3_sink[b]? = some k from h) (fun b hb => match b, hb with
  | 0, _ => bi_okkB_ok bo_X3_sink_0
  | 1, _ => bi_okkB_ok bo_X3_sink_1
  | 2, _ => bi_okkB_ok bo_X3_sink_2
  | 3, _ => bi_okkB_ok bo_X3_sink_3
  | 4, _ => bi_okkB_ok bo_X3_sink_4
  | 5, _ => bi_okkB_ok bo_X3_sink_5
  | 6, _ => bi_okkB_ok bo_X3_sink_6
  | 7, _ => bi_okkB_ok bo_X3_sink_7
  | 8, _ => bi_okkB_ok bo_X3_sink_8
  | b + 9, hb => absurd hb (by show ¬ b + 9 < 9; omega))
theorem bo_X3_sort : bi_oksB bt_M bt_P 101 ((yX3_sort, cX3_sort, 4, none, RX3, 2, 46, [])) bt_X3_sort [([[], [1238], [], [], [], [], []], []), ([[]], []), ([[], [], [], [], [1238], [3191, 1010, 3188, 3190, 12], []], []), ([[], [1238], [], [], []], []), ([[]], []), ([[], [1236], [], [], [], [], [1236], [], [], [1236], [], [], [], [], [1236], [], [], [], [], [], [], [], [3191, 1010, 3188, 3190, 12], []], []), ([], [])] = true := by decide +kernel
theorem bm_X3_sort : ∀ b k, bt_P 101 b = some k → bi_okk bt_M bt_P 101 ((yX3_sort, cX3_sort, 4, none, RX3, 2, 46, [])) k := fun b k h => bi_oksB_ok _ _ bo_X3_sort k (List.mem_of_getElem? (show bt_X3_sort[b]? = some k from h))
theorem bo_X4_act : bi_oksB bt_M bt_P 102 ((yX4_act, cX4_act, 1, (some .boolean), RX4, 2, 40, [])) bt_X4_act [([[], [1048]], []), ([[], [2192, 1003, 2189, 2190, 2191], []], []), ([[], [1048]], []), ([[], [], [1048], [], [], [1048]], []), ([[], [], [1046], [], [], [1046], []], [])] = true := by decide +kernel
theorem bm_X4_act : ∀ b k, bt_P 102 b = some k → bi_okk bt_M bt_P 102 ((yX4_act, cX4_act, 1, (some .boolean), RX4, 2, 40, [])) k := fun b k h => bi_oksB_ok _ _ bo_X4_act k (List.mem_of_getElem? (show bt_X4_act[b]? = some k from h))
theorem bo_X4_act_ : bi_oksB bt_M bt_P 103 ((yX4_act_, cX4_act_, 3, (some .boolean), RX4, 3, 60, [])) bt_X4_act_ [([[], []], []), ([[], []], []), ([[], [2188, 1003, 2185, 2186, 2187]], []), ([[]], []), ([[]], []), ([[]], [])] = true := by decide +kernel
theorem bm_X4_act_ : ∀ b k, bt_P 103 b = some k → bi_okk bt_M bt_P 103 ((yX4_act_, cX4_act_, 3, (some .boolean), RX4, 3, 60, [])) k := fun b k h => bi_oksB_ok _ _ bo_X4_act_ k (List.mem_of_getElem? (show bt_X4_act_[b]? = some k from h))
theorem bo_X4_fail : bi_oksB bt_M bt_P 104 ((yX4_fail, cX4_fail, 1, none, RX4, 1, 20, [])) bt_X4_fail [([[], [], [1044], [], [], [1048]], [])] = true := by decide +kernel
theorem bm_X4_fail : ∀ b k, bt_P 104 b = some k → bi_okk bt_M bt_P 104 ((yX4_fail, cX4_fail, 1, none, RX4, 1, 20, [])) k := fun b k h => bi_oksB_ok _ _ bo_X4_fail k (List.mem_of_getElem? (show bt_X4_fail[b]? = some k from h))
