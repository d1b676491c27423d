/-! the tables are as the code has them -/
theorem bo_X12_up_4 : bi_okkB bt_M bt_P 90 ((yX12_up, cX12_up, 5, (some .int), RX12, 2, 40, [])) (bt_X12_up.getD 4 bi_kd) [[], [5136], [], [], [], [], [], [], []] [] = true := by decide +kernel
theorem bo_X12_up_5 : bi_okkB bt_M bt_P 90 ((yX12_up, cX12_up, 5, (some .int), RX12, 2, 40, [])) (bt_X12_up.getD 5 bi_kd) [[], [], [5133]] [] = true := by decide +kernel
theorem bo_X12_up_6 : bi_okkB bt_M bt_P 90 ((yX12_up, cX12_up, 5, (some .int), RX12, 2, 40, [])) (bt_X12_up.getD 6 bi_kd) [[], [5161], [], [], [], [], [], [], [], [], [], [5145], [], [6019], [], [], [5145], [], [6020], [], [], [], [], [], [6019], [], [6020]] [] = true := by decide +kernel
theorem bo_X12_up_7 : bi_okkB bt_M bt_P 90 ((yX12_up, cX12_up, 5, (some .int), RX12, 2, 40, [])) (bt_X12_up.getD 7 bi_kd) [[], [], [6063], [], [], [6065]] [] = true := by decide +kernel
theorem bo_X12_up_8 : bi_okkB bt_M bt_P 90 ((yX12_up, cX12_up, 5, (some .int), RX12, 2, 40, [])) (bt_X12_up.getD 8 bi_kd) [[], [], [6020], [6019], [], [], [6025], [6039], [], [], [6040], [], [], [6041], [], [], [6042], [], [], [6043], [], [], [6044], []] [] = true := by decide +kernel
theorem bo_X12_up_9 : bi_okkB bt_M bt_P 90 ((yX12_up, cX12_up, 5, (some .int), RX12, 2, 40, [])) (bt_X12_up.getD 9 bi_kd) [[]] [] = true := by decide +kernel
theorem bm_X12_up : ∀ b k, bt_P 90 b = some k → bi_okk bt_M bt_P 90 ((yX12_up, cX12_up, 5, (some .int), RX12, 2, 40, [])) k := fun b k h => bi_allk (show bt_X12_up[b]? = some k from h) (fun b hb => match b, hb with
  | 0, _ => bi_okkB_ok bo_X12_up_0
  | 1, _ => bi_okkB_ok bo_X12_up_1
  | 2, _ => bi_okkB_ok bo_X12_up_2
  | 3, _ => bi_okkB_ok bo_X12_up_3
  | 4, _ => bi_okkB_ok bo_X12_up_4
  | 5, _ => bi_okkB_ok bo_X12_up_5
  | 6, _ => bi_okkB_ok bo_X12_up_6
  | 7, _ => bi_okkB_ok bo_X12_up_7
  | 8, _ => bi_okkB_ok bo_X12_up_8
  | 9, _ => bi_okkB_ok bo_X12_up_9
  | b + 10, hb => absurd hb (by show ¬ b + 10 < 10; omega))
theorem bo_X12_write : bi_oksB bt_M bt_P 91 ((yX12_write, cX12_write, 6, (some .int), RX12, 7, 154, [])) bt_X12_write [([[], [], [5127], [], [], [6145, 1007, 6142, 6144, 35], [], [], [], [], [], [6149, 1007, 6146, 6148, 36]], []), ([[], [], [], [], [], [6153, 1007, 6150, 6152, 37]], []), ([[]], []), ([], [])] = true := by decide +kernel
theorem bm_X12_write : ∀ b k, bt_P 91 b = some k → bi_okk bt_M bt_P 91 ((yX12_write, cX12_write, 6, (some .int), RX12, 7, 154, [])) k := fun b k h => bi_oksB_ok _ _ bo_X12_write k (List.mem_of_getElem? (show bt_X12_write[b]? = some k from h))
theorem bo_X12_writes_0 : bi_okkB bt_M bt_P 92 ((yX12_writes, cX12_writes, 6, (some .int), RX12, 6, 129, [])) (bt_X12_writes.getD 0 bi_kd) [[], [5136], [], [6015], []] [] = true := by decide +kernel
theorem bo_X12_writes_1 : bi_okkB bt_M bt_P 92 ((yX12_writes, cX12_writes, 6, (some .int), RX12, 6, 129, [])) (bt_X12_writes.getD 1 bi_kd) [[]] [] = true := by decide +kernel
theorem bo_X12_writes_2 : bi_okkB bt_M bt_P 92 ((yX12_writes, cX12_writes, 6, (some .int), RX12, 6, 129, [])) (bt_X12_writes.getD 2 bi_kd) [[], [6016], []] [] = true := by decide +kernel
theorem bo_X12_writes_3 : bi_okkB bt_M bt_P 92 ((yX12_writes, cX12_writes, 6, (some .int), RX12, 6, 129, [])) (bt_X12_writes.getD 3 bi_kd) [[]] [] = true := by decide +kernel
theorem bo_X12_writes_4 : bi_okkB bt_M bt_P 92 ((yX12_writes, cX12_writes, 6, (some .int), RX12, 6, 129, [])) (bt_X12_writes.getD 4 bi_kd) [[], [5141], [6154]] [] = true := by decide +kernel
theorem bo_X12_writes_5 : bi_okkB bt_M bt_P 92 ((yX12_writes, cX12_writes, 6, (some .int), RX12, 6, 129, [])) (bt_X12_writes.getD 5 bi_kd) [[]] [] = true := by decide +kernel
theorem bo_X12_writes_6 : bi_okkB bt_M bt_P 92 ((yX12_writes, cX12_writes, 6, (some .int), RX12, 6, 129, [])) (bt_X12_writes.getD 6 bi_kd) [[], [5145], [], [6019], [], [], [5145], [], [6020], [], [], []] [] = true := by decide +kernel
theorem bo_X12_writes_7 : bi_okkB bt_M bt_P 92 ((yX12_writes, cX12_writes, 6, (some .int), RX12, 6, 129, [])) (bt_X12_writes.getD 7 bi_kd) [[], [], [6158, 1007, 6155, 6157, 38]] [] = true := by decide +kernel
theorem bo_X12_writes_8 : bi_okkB bt_M bt_P 92 ((yX12_writes, cX12_writes, 6, (some .int), RX12, 6, 129, [])) (bt_X12_writes.getD 8 bi_kd) [[]] [] = true := by decide +kernel
theorem bo_X12_writes_9 : bi_okkB bt_M bt_P 92 ((yX12_writes, cX12_writes, 6, (some .int), RX12, 6, 129, [])) (bt_X12_writes.getD 9 bi_kd) [[], [], [6015], [6190, 1007, 6187, 6189, 46]] [] = true := by decide +kernel
theorem bo_X12_writes_10 : bi_okkB bt_M bt_P 92 ((yX12_writes, cX12_writes, 6, (some .int), RX12, 6, 129, [])) (bt_X12_writes.getD 10 bi_kd) [[]] [] = true := by decide +kernel
theorem bo_X12_writes_11 : bi_okkB bt_M bt_P 92 ((yX12_writes, cX12_writes, 6, (some .int), RX12, 6, 129, [])) (bt_X12_writes.getD 11 bi_kd) [[], [], [6199, 1007, 6196, 6198, 48], [], [], [5141], [], [], [5141], [], [5142], [], [5141], [], [6019], [], [], [5143], [], [5141], [], [], [5140], [], [6014], [], [], [], [], [], [], [5144], [], [5141], [], [], [], [5145], [], [5141], [], [5145], [], [6019], [], [], [], [], [], [6062], [], [5143], [], [5141], [], [], [], []] [] = true := by decide +kernel
theorem bo_X12_writes_12 : bi_okkB bt_M bt_P 92 ((yX12_writes, cX12_writes, 6, (some .int), RX12, 6, 129, [])) (bt_X12_writes.getD 12 bi_kd) [[], [5145], [], [], [], [5145], [], [6021], []] [] = true := by decide +kernel
theorem bo_X12_writes_13 : bi_okkB bt_M bt_P 92 ((yX12_writes, cX12_writes, 6, (some .int), RX12, 6, 129, [])) (bt_X12_writes.getD 13 bi_kd) [[], [], [6066], [], [], [6066]] [] = true := by decide +kernel
theorem bo_X12_writes_14 : bi_okkB bt_M bt_P 92 ((yX12_writes, cX12_writes, 6, (some .int), RX12, 6, 129, [])) (bt_X12_writes.getD 14 bi_kd) [[], [6062], [], [5143], [], [5141], [], [], [5141], [], [], [], [5141], [6019], [], [5145], [], [6019], [], [], [5145], [], [6020], [], []] [] = true := by decide +kernel
theorem bm_X12_writes : ∀ b k, bt_P 92 b = some k → bi_okk bt_M bt_P 92 ((yX12_writes, cX12_writes, 6, (some .int), RX12, 6, 129, [])) k := fun b k h => bi_allk (show bt_X12_writes[b]? = some k from h) (fun b hb => match b, hb with
  | 0, _ => bi_okkB_ok bo_X12_writes_0
  | 1, _ => bi_okkB_ok bo_X12_writes_1
  | 2, _ => bi_okkB_ok bo_X12_writes_2
  | 3, _ => bi_okkB_ok bo_X12_writes_3
  | 4, _ => bi_okkB_ok bo_X12_writes_4
  | 5, _ => bi_okkB_ok bo_X12_writes_5
  | 6, _ => bi_okkB_ok bo_X12_writes_6
  | 7, _ => bi_okkB_ok bo_X12_writes_7
  | 8, _ => bi_okkB_ok bo_X12_writes_8
  | 9, _ => bi_okkB_ok bo_X12_writes_9
  | 10, _ => bi_okkB_ok bo_X12_writes_10
  | 11, _ => bi_okkB_ok bo_X12_writes_11
  | 12, _ => bi_okkB_ok bo_X12_writes_12
  | 13, _ => bi_okkB_ok bo_X12_writes_13
  | 14, _ => bi_okkB_ok bo_X12_writes_14
  | b + 15, hb => absurd hb (by show ¬ b + 15 < 15; omega))
theorem bo_X1_begin : bi_oksB bt_M bt_P 93 ((yX1_begin, cX1_begin, 1, none, RX1, 1, 20, [])) bt_X1_begin [([[], [], [1076], [], [], [1076]], [])] = true := by decide +kernel
theorem bm_X1_begin : ∀ b k, bt_P 93 b = some k → bi_okk bt_M bt_P 93 ((yX1_begin, cX1_begin, 1, none, RX1, 1, 20, [])) k := fun b k h => bi_oksB_ok _ _ bo_X1_begin k (List.mem_of_getElem? (show bt_X1_begin[b]? = some k from h))
theorem bo_X1_init : bi_oksB bt_M bt_P 94 ((yX1_init, cX1_init, 2, none, RX1, 1, 20, [])) bt_X1_init [([[], [1074, 1028, 1029], [], [], [1082], [1075]], [])] = true := by decide +kernel
theorem bm_X1_init : ∀ b k, bt_P 94 b = some k → bi_okk bt_M bt_P 94 ((yX1_init, cX1_init, 2, none, RX1, 1, 20, [])) k := fun b k h => bi_oksB_ok _ _ bo_X1_init k (List.mem_of_getElem? (show bt_X1_init[b]? = some k from h))
theorem bo_X1_mark : bi_oksB bt_M bt_P 95 ((yX1_mark, cX1_mark, 2, (some .int), RX1, 1, 20, [])) bt_X1_mark [([[]], []), ([[], [], [1075], []], []), ([[], [1075], [], [], [], [1076]], []), ([[]], []), ([[], [1075], [], [], [1076], [], []], [])] = true := by decide +kernel
theorem bm_X1_mark : ∀ b k, bt_P 95 b = some k → bi_okk bt_M bt_P 95 ((yX1_mark, cX1_mark, 2, (some .int), RX1, 1, 20, [])) k := fun b k h => bi_oksB_ok _ _ bo_X1_mark k (List.mem_of_getElem? (show bt_X1_mark[b]? = some k from h))
theorem bo_X2_init : bi_oksB bt_M bt_P 96 ((yX2_init, cX2_init, 5, none, RX2, 1, 20, [])) bt_X2_init [([[], [3100, 1028, 1029], [], [], [3101], [], [], [2044], [3103], [], [], [2057], [3105], [], [], [3107], [], [], [3111]], [])] = true := by decide +kernel
theorem bm_X2_init : ∀ b k, bt_P 96 b = some k → bi_okk bt_M bt_P 96 ((yX2_init, cX2_init, 5, none, RX2, 1, 20, [])) k := fun b k h => bi_oksB_ok _ _ bo_X2_init k (List.mem_of_getElem? (show bt_X2_init[b]? = some k from h))
theorem bo_X2_itemCount : bi_oksB bt_M bt_P 97 ((yX2_itemCount, cX2_itemCount, 1, (some .int), RX2, 1, 20, [])) bt_X2_itemCount [([[], [3120]], []), ([[]], []), ([[], [3120], [], [], []], []), ([], [])] = true := by decide +kernel
theorem bm_X2_itemCount : ∀ b k, bt_P 97 b = some k → bi_okk bt_M bt_P 97 ((yX2_itemCount, cX2_itemCount, 1, (some .int), RX2, 1, 20, [])) k := fun b k h => bi_oksB_ok _ _ bo_X2_itemCount k (List.mem_of_getElem? (show bt_X2_itemCount[b]? = some k from h))
theorem bo_X3_add : bi_oksB bt_M bt_P 98 ((yX3_add, cX3_add, 2, none, RX3, 1, 20, [])) bt_X3_add [([[], [2032], [], [2030], []], []), ([[], [2030], [], [2032], [], [], [], [], [2032], [], [], [2032]], []), ([], [])] = true := by decide +kernel
theorem bm_X3_add : ∀ b k, bt_P 98 b = some k → bi_okk bt_M bt_P 98 ((yX3_add, cX3_add, 2, none, RX3, 1, 20, [])) k := fun b k h => bi_oksB_ok _ _ bo_X3_add k (List.mem_of_getElem? (show bt_X3_add[b]? = some k from h))
theorem bo_X3_begin : bi_oksB bt_M bt_P 99 ((yX3_begin, cX3_begin, 4, none, RX3, 2, 41, [])) bt_X3_begin [([[], [], [2026], [], [], [2028], [], [], [2032], [], [], [2030], []], []), ([[], [], [], [], [2030], [], [], [1035, 1002, 3198, 1034], [1082], [2030]], []), ([], [])] = true := by decide +kernel
theorem bm_X3_begin : ∀ b k, bt_P 99 b = some k → bi_okk bt_M bt_P 99 ((yX3_begin, cX3_begin, 4, none, RX3, 2, 41, [])) k := fun b k h => bi_oksB_ok _ _ bo_X3_begin k (List.mem_of_getElem? (show bt_X3_begin[b]? = some k from h))
theorem bo_X3_init : bi_oksB bt_M bt_P 100 ((yX3_init, cX3_init, 1, none, RX3, 1, 20, [])) bt_X3_init [([[], [2025, 1028, 1029], [], [], [1082], [2030]], [])] = true := by decide +kernel
theorem bm_X3_init : ∀ b k, bt_P 100 b = some k → bi_okk bt_M bt_P 100 ((yX3_init, cX3_init, 1, none, RX3, 1, 20, [])) k := fun b k h => bi_oksB_ok _ _ bo_X3_init k (List.mem_of_getElem? (show bt_X3_init[b]? = some k from h))
theorem bo_X3_sink_0 : bi_okkB bt_M bt_P 101 ((yX3_sink, cX3_sink, 7, none, RX3, 1, 20, [])) (bt_X3_sink.getD 0 bi_kd) [[], [2030], [], [], [], [], [], [], [], [], [], [], []] [] = true := by decide +kernel
theorem bo_X3_sink_1 : bi_okkB bt_M bt_P 101 ((yX3_sink, cX3_sink, 7, none, RX3, 1, 20, [])) (bt_X3_sink.getD 1 bi_kd) [[], []] [] = true := by decide +kernel
theorem bo_X3_sink_2 : bi_okkB bt_M bt_P 101 ((yX3_sink, cX3_sink, 7, none, RX3, 1, 20, [])) (bt_X3_sink.getD 2 bi_kd) [[], [], [], []] [] = true := by decide +kernel
theorem bo_X3_sink_3 : bi_okkB bt_M bt_P 101 ((yX3_sink, cX3_sink, 7, none, RX3, 1, 20, [])) (bt_X3_sink.getD 3 bi_kd) [[], [], [2030], [], [], [], [], [], [], [], [2030], [], [], []] [] = true := by decide +kernel
theorem bo_X3_sink_4 : bi_okkB bt_M bt_P 101 ((yX3_sink, cX3_sink, 7, none, RX3, 1, 20, [])) (bt_X3_sink.getD 4 bi_kd) [[]] [] = true := by decide +kernel
theorem bo_X3_sink_5 : bi_okkB bt_M bt_P 101 ((yX3_sink, cX3_sink, 7, none, RX3, 1, 20, [])) (bt_X3_sink.getD 5 bi_kd) [[], [], [2030], [], [], [], [], [], []] [] = true := by decide +kernel
theorem bo_X3_sink_6 : bi_okkB bt_M bt_P 101 ((yX3_sink, cX3_sink, 7, none, RX3, 1, 20, [])) (bt_X3_sink.getD 6 bi_kd) [] [] = true := by decide +kernel
theorem bo_X3_sink_7 : bi_okkB bt_M bt_P 101 ((yX3_sink, cX3_sink, 7, none, RX3, 1, 20, [])) (bt_X3_sink.getD 7 bi_kd) [[], [2030], [], [], [2030], [], [], [], [], [], [], [], [], [], [], []] [] = true := by decide +kernel
theorem bo_X3_sink_8 : bi_okkB bt_M bt_P 101 ((yX3_sink, cX3_sink, 7, none, RX3, 1, 20, [])) (bt_X3_sink.getD 8 bi_kd) [[], [2030], [], [], []] [] = true := by decide +kernel
theorem bm_X3_sink : ∀ b k, bt_P 101 b = some k → bi_okk bt_M bt_P 101 ((yX3_sink, cX3_sink, 7, none, RX3, 1, 20, [])) k := fun b k h => bi_allk (show bt_X3_sink[b]? = some k from h) (fun b hb => match b, hb with
  | 0, _ => bi_okkB_ok bo_X3_sink_0
  | 1, _ => bi_okkB_ok bo_X3_sink_1
  | 2, _ => bi_okkB_ok bo_X3_sink_2
  | 3, _ => bi_okkB_ok bo_X3_sink_3
  | 4, _ => bi_okkB_ok bo_X3_sink_4
  | 5, _ => bi_okkB_ok bo_X3_sink_5
  | 6, _ => bi_okkB_ok bo_X3_sink_6
  | 7, _ => bi_okkB_ok bo_X3_sink_7
  | 8, _ => bi_okkB_ok bo_X3_sink_8
  | b + 9, hb => absurd hb (by show ¬ b + 9 < 9; omega))
theorem bo_X3_sort : bi_oksB bt_M bt_P 102 ((yX3_sort, cX3_sort, 4, none, RX3, 2, 46, [])) bt_X3_sort [([[], [2032], [], [], [], [], []], []), ([[]], []), ([[], [], [], [], [2032], [3210, 1012, 3207, 3209, 13], []], []), ([[], [2032], [], [], []], []), ([[]], []), ([[], [2030], [], [], [], [], [2030], [], [], [2030], [], [], [], [], [2030], [], [], [], [], [], [], [], [3210, 1012, 3207, 3209, 13], []], []), ([], [])] = true := by decide +kernel
theorem bm_X3_sort : ∀ b k, bt_P 102 b = some k → bi_okk bt_M bt_P 102 ((yX3_sort, cX3_sort, 4, none, RX3, 2, 46, [])) k := fun b k h => bi_oksB_ok _ _ bo_X3_sort k (List.mem_of_getElem? (show bt_X3_sort[b]? = some k from h))
theorem bo_X4_act : bi_oksB bt_M bt_P 103 ((yX4_act, cX4_act, 1, (some .boolean), RX4, 2, 40, [])) bt_X4_act [([[], [1049]], []), ([[], [2187, 1003, 2184, 2185, 2186], []], []), ([[], [1049]], []), ([[], [], [1049], [], [], [1049]], []), ([[], [], [1047], [], [], [1047], []], [])] = true := by decide +kernel
theorem bm_X4_act : ∀ b k, bt_P 103 b = some k → bi_okk bt_M bt_P 103 ((yX4_act, cX4_act, 1, (some .boolean), RX4, 2, 40, [])) k := fun b k h => bi_oksB_ok _ _ bo_X4_act k (List.mem_of_getElem? (show bt_X4_act[b]? = some k from h))
