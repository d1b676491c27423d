/-! the tables are as the code has them -/
theorem bo_X12_copies_13 : bi_okkB bt_M bt_P 29 ((yX12_copies, cX12_copies, 2, none, RX12, 4, 91, [])) (bt_X12_copies.getD 13 bi_kd) [[]] [] = true := by decide +kernel
theorem bo_X12_copies_14 : bi_okkB bt_M bt_P 29 ((yX12_copies, cX12_copies, 2, none, RX12, 4, 91, [])) (bt_X12_copies.getD 14 bi_kd) [[]] [] = true := by decide +kernel
theorem bo_X12_copies_15 : bi_okkB bt_M bt_P 29 ((yX12_copies, cX12_copies, 2, none, RX12, 4, 91, [])) (bt_X12_copies.getD 15 bi_kd) [[7031, 1007, 7029, 7030], [6032], [], [], [6043], [], [], [], [], [], [6235, 1013, 6232, 6233, 6234], [], [6032], [], [7043, 1007, 7040, 7042, 53]] [] = true := by decide +kernel
theorem bo_X12_copies_16 : bi_okkB bt_M bt_P 29 ((yX12_copies, cX12_copies, 2, none, RX12, 4, 91, [])) (bt_X12_copies.getD 16 bi_kd) [[], [], [6043], [], [], [6043], [], [6043], []] [] = true := by decide +kernel
theorem bo_X12_copies_17 : bi_okkB bt_M bt_P 29 ((yX12_copies, cX12_copies, 2, none, RX12, 4, 91, [])) (bt_X12_copies.getD 17 bi_kd) [] [] = true := by decide +kernel
theorem bo_X12_copies_18 : bi_okkB bt_M bt_P 29 ((yX12_copies, cX12_copies, 2, none, RX12, 4, 91, [])) (bt_X12_copies.getD 18 bi_kd) [[], [], [6043], [], [], [], [], [], [6235, 1013, 6232, 6233, 6234], [], [6032], [], [7043, 1007, 7040, 7042, 53]] [] = true := by decide +kernel
theorem bo_X12_copies_19 : bi_okkB bt_M bt_P 29 ((yX12_copies, cX12_copies, 2, none, RX12, 4, 91, [])) (bt_X12_copies.getD 19 bi_kd) [] [] = true := by decide +kernel
theorem bm_X12_copies : ∀ b k, bt_P 29 b = some k → bi_okk bt_M bt_P 29 ((yX12_copies, cX12_copies, 2, none, RX12, 4, 91, [])) k := fun b k h => bi_allk (show bt_X12_copies[b]? = some k from h) (fun b hb => match b, hb with
  | 0, _ => bi_okkB_ok bo_X12_copies_0
  | 1, _ => bi_okkB_ok bo_X12_copies_1
  | 2, _ => bi_okkB_ok bo_X12_copies_2
  | 3, _ => bi_okkB_ok bo_X12_copies_3
  | 4, _ => bi_okkB_ok bo_X12_copies_4
  | 5, _ => bi_okkB_ok bo_X12_copies_5
  | 6, _ => bi_okkB_ok bo_X12_copies_6
  | 7, _ => bi_okkB_ok bo_X12_copies_7
  | 8, _ => bi_okkB_ok bo_X12_copies_8
  | 9, _ => bi_okkB_ok bo_X12_copies_9
  | 10, _ => bi_okkB_ok bo_X12_copies_10
  | 11, _ => bi_okkB_ok bo_X12_copies_11
  | 12, _ => bi_okkB_ok bo_X12_copies_12
  | 13, _ => bi_okkB_ok bo_X12_copies_13
  | 14, _ => bi_okkB_ok bo_X12_copies_14
  | 15, _ => bi_okkB_ok bo_X12_copies_15
  | 16, _ => bi_okkB_ok bo_X12_copies_16
  | 17, _ => bi_okkB_ok bo_X12_copies_17
  | 18, _ => bi_okkB_ok bo_X12_copies_18
  | 19, _ => bi_okkB_ok bo_X12_copies_19
  | b + 20, hb => absurd hb (by show ¬ b + 20 < 20; omega))
theorem bo_X12_crash : bi_oksB bt_M bt_P 30 ((yX12_crash, cX12_crash, 2, (some .boolean), RX12, 2, 41, [])) bt_X12_crash [([[], [], [5127], [], [7086, 1007, 7084, 7085]], []), ([[], [5136], [], []], []), ([[]], []), ([[], [], [6182, 1007, 6179, 6181, 44], []], [])] = true := by decide +kernel
theorem bm_X12_crash : ∀ b k, bt_P 30 b = some k → bi_okk bt_M bt_P 30 ((yX12_crash, cX12_crash, 2, (some .boolean), RX12, 2, 41, [])) k := fun b k h => bi_oksB_ok _ _ bo_X12_crash k (List.mem_of_getElem? (show bt_X12_crash[b]? = some k from h))
theorem bo_X12_cut : bi_oksB bt_M bt_P 31 ((yX12_cut, cX12_cut, 4, (some .int), RX12, 1, 20, [])) bt_X12_cut [([[], []], []), ([[], [5145], [], [], []], []), ([[], [5142], [], [], []], []), ([[]], [])] = true := by decide +kernel
theorem bm_X12_cut : ∀ b k, bt_P 31 b = some k → bi_okk bt_M bt_P 31 ((yX12_cut, cX12_cut, 4, (some .int), RX12, 1, 20, [])) k := fun b k h => bi_oksB_ok _ _ bo_X12_cut k (List.mem_of_getElem? (show bt_X12_cut[b]? = some k from h))
theorem bo_X12_data_0 : bi_okkB bt_M bt_P 32 ((yX12_data, cX12_data, 3, none, RX12, 5, 111, [])) (bt_X12_data.getD 0 bi_kd) [[], [5094], [], [6054]] [] = true := by decide +kernel
theorem bo_X12_data_1 : bi_okkB bt_M bt_P 32 ((yX12_data, cX12_data, 3, none, RX12, 5, 111, [])) (bt_X12_data.getD 1 bi_kd) [[], [7130, 1013, 7127, 7128, 7129]] [] = true := by decide +kernel
theorem bo_X12_data_2 : bi_okkB bt_M bt_P 32 ((yX12_data, cX12_data, 3, none, RX12, 5, 111, [])) (bt_X12_data.getD 2 bi_kd) [[], [], [], [], [6048], [], [6050], [], [6054], [], [7043, 1007, 7040, 7042, 53]] [] = true := by decide +kernel
theorem bo_X12_data_3 : bi_okkB bt_M bt_P 32 ((yX12_data, cX12_data, 3, none, RX12, 5, 111, [])) (bt_X12_data.getD 3 bi_kd) [[], [5094], [], [6054]] [] = true := by decide +kernel
theorem bo_X12_data_4 : bi_okkB bt_M bt_P 32 ((yX12_data, cX12_data, 3, none, RX12, 5, 111, [])) (bt_X12_data.getD 4 bi_kd) [[], [], [6015], [6190, 1007, 6187, 6189, 46], [], [5096]] [] = true := by decide +kernel
theorem bo_X12_data_5 : bi_okkB bt_M bt_P 32 ((yX12_data, cX12_data, 3, none, RX12, 5, 111, [])) (bt_X12_data.getD 5 bi_kd) [[], [], [6057], [], [], [6057]] [] = true := by decide +kernel
theorem bo_X12_data_6 : bi_okkB bt_M bt_P 32 ((yX12_data, cX12_data, 3, none, RX12, 5, 111, [])) (bt_X12_data.getD 6 bi_kd) [[], [], [6015], [6178, 1007, 6175, 6177, 43]] [] = true := by decide +kernel
theorem bo_X12_data_7 : bi_okkB bt_M bt_P 32 ((yX12_data, cX12_data, 3, none, RX12, 5, 111, [])) (bt_X12_data.getD 7 bi_kd) [] [] = true := by decide +kernel
theorem bo_X12_data_8 : bi_okkB bt_M bt_P 32 ((yX12_data, cX12_data, 3, none, RX12, 5, 111, [])) (bt_X12_data.getD 8 bi_kd) [[], [], [6054], [], [], [6054], [], [], [6056], [], [5096], [], [6056], [], [], [], [7126, 1007, 7123, 7125, 66]] [] = true := by decide +kernel
theorem bo_X12_data_9 : bi_okkB bt_M bt_P 32 ((yX12_data, cX12_data, 3, none, RX12, 5, 111, [])) (bt_X12_data.getD 9 bi_kd) [] [] = true := by decide +kernel
theorem bm_X12_data : ∀ b k, bt_P 32 b = some k → bi_okk bt_M bt_P 32 ((yX12_data, cX12_data, 3, none, RX12, 5, 111, [])) k := fun b k h => bi_allk (show bt_X12_data[b]? = some k from h) (fun b hb => match b, hb with
  | 0, _ => bi_okkB_ok bo_X12_data_0
  | 1, _ => bi_okkB_ok bo_X12_data_1
  | 2, _ => bi_okkB_ok bo_X12_data_2
  | 3, _ => bi_okkB_ok bo_X12_data_3
  | 4, _ => bi_okkB_ok bo_X12_data_4
  | 5, _ => bi_okkB_ok bo_X12_data_5
  | 6, _ => bi_okkB_ok bo_X12_data_6
  | 7, _ => bi_okkB_ok bo_X12_data_7
  | 8, _ => bi_okkB_ok bo_X12_data_8
  | 9, _ => bi_okkB_ok bo_X12_data_9
  | b + 10, hb => absurd hb (by show ¬ b + 10 < 10; omega))
theorem bo_X12_differ : bi_oksB bt_M bt_P 33 ((yX12_differ, cX12_differ, 5, (some .int), RX12, 2, 45, [])) bt_X12_differ [([[], [], [5127], [], [], [6145, 1007, 6142, 6144, 35], [], []], []), ([[]], []), ([[], []], []), ([[], [], [6023]], []), ([[], [], [7182, 1007, 7179, 7181, 76]], []), ([[], [5136], [], [6015], []], []), ([[], [], [7182, 1007, 7179, 7181, 76]], []), ([[], [], [6014], [], [6037], [], [], [], [6037], [], [], [7202, 1007, 7199, 7201, 77]], [])] = true := by decide +kernel
theorem bm_X12_differ : ∀ b k, bt_P 33 b = some k → bi_okk bt_M bt_P 33 ((yX12_differ, cX12_differ, 5, (some .int), RX12, 2, 45, [])) k := fun b k h => bi_oksB_ok _ _ bo_X12_differ k (List.mem_of_getElem? (show bt_X12_differ[b]? = some k from h))
theorem bo_X12_different : bi_oksB bt_M bt_P 34 ((yX12_different, cX12_different, 6, (some .int), RX12, 1, 20, [])) bt_X12_different [([[], [], [5151], [], [], [5151], [], [], [], []], []), ([[], []], []), ([[], [5146], [], [5143], [], [], [], [], [5151]], []), ([[]], []), ([[], [5146], [], [5143], [], [], [], [5151], [], [], [5142], [], [], []], []), ([[]], [])] = true := by decide +kernel
theorem bm_X12_different : ∀ b k, bt_P 34 b = some k → bi_okk bt_M bt_P 34 ((yX12_different, cX12_different, 6, (some .int), RX12, 1, 20, [])) k := fun b k h => bi_oksB_ok _ _ bo_X12_different k (List.mem_of_getElem? (show bt_X12_different[b]? = some k from h))
theorem bo_X12_fails : bi_oksB bt_M bt_P 35 ((yX12_fails, cX12_fails, 2, (some .int), RX12, 1, 20, [])) bt_X12_fails [([[], [], [5127], []], [])] = true := by decide +kernel
theorem bm_X12_fails : ∀ b k, bt_P 35 b = some k → bi_okk bt_M bt_P 35 ((yX12_fails, cX12_fails, 2, (some .int), RX12, 1, 20, [])) k := fun b k h => bi_oksB_ok _ _ bo_X12_fails k (List.mem_of_getElem? (show bt_X12_fails[b]? = some k from h))
theorem bo_X12_fill : bi_oksB bt_M bt_P 36 ((yX12_fill, cX12_fill, 9, (some .int), RX12, 7, 154, [])) bt_X12_fill [([[], [], [5127], [], [], [6145, 1007, 6142, 6144, 35], [], [], [], [], [], [6149, 1007, 6146, 6148, 36]], []), ([[], []], []), ([[], []], []), ([[], [], [], [], [5140], [], [6014], []], []), ([[]], []), ([[], []], []), ([[], []], []), ([[], [], [], [], [], [], [], [], [], [6153, 1007, 6150, 6152, 37], [], []], []), ([[]], []), ([[]], []), ([[]], []), ([], []), ([[]], []), ([[]], [])] = true := by decide +kernel
theorem bm_X12_fill : ∀ b k, bt_P 36 b = some k → bi_okk bt_M bt_P 36 ((yX12_fill, cX12_fill, 9, (some .int), RX12, 7, 154, [])) k := fun b k h => bi_oksB_ok _ _ bo_X12_fill k (List.mem_of_getElem? (show bt_X12_fill[b]? = some k from h))
theorem bo_X12_flies : bi_oksB bt_M bt_P 37 ((yX12_flies, cX12_flies, 2, (some (.object "TwinVaultsModel$Message")), RX12, 1, 20, [])) bt_X12_flies [([[]], []), ([[], [], [5164]], []), ([[]], []), ([[], [5162], [], []], []), ([], [])] = true := by decide +kernel
theorem bm_X12_flies : ∀ b k, bt_P 37 b = some k → bi_okk bt_M bt_P 37 ((yX12_flies, cX12_flies, 2, (some (.object "TwinVaultsModel$Message")), RX12, 1, 20, [])) k := fun b k h => bi_oksB_ok _ _ bo_X12_flies k (List.mem_of_getElem? (show bt_X12_flies[b]? = some k from h))
theorem bo_X12_flush : bi_oksB bt_M bt_P 38 ((yX12_flush, cX12_flush, 3, (some .int), RX12, 6, 129, [])) bt_X12_flush [([[], [], [5127], [], [], [6145, 1007, 6142, 6144, 35], [], []], []), ([[]], []), ([[], [5136], [], [6015], []], []), ([[], [], [6158, 1007, 6155, 6157, 38]], []), ([[], [5145], [], [6020], [], [], [5145], [], [6021], [], []], []), ([[]], []), ([], [])] = true := by decide +kernel
theorem bm_X12_flush : ∀ b k, bt_P 38 b = some k → bi_okk bt_M bt_P 38 ((yX12_flush, cX12_flush, 3, (some .int), RX12, 6, 129, [])) k := fun b k h => bi_oksB_ok _ _ bo_X12_flush k (List.mem_of_getElem? (show bt_X12_flush[b]? = some k from h))
theorem bo_X12_flushes : bi_oksB bt_M bt_P 39 ((yX12_flushes, cX12_flushes, 2, (some .boolean), RX12, 5, 108, [])) bt_X12_flushes [([[], [5145], [], [6019], [], [], [5145], [], [6021], [], [], []], []), ([[], [], [6162, 1007, 6159, 6161, 39]], []), ([[]], []), ([[]], []), ([], []), ([[], [6020], [], [6019]], []), ([[], [], [6015], [6178, 1007, 6175, 6177, 43]], []), ([[]], []), ([[], [], [], [6019], [], [5145], [], [6019], [], [], [5145], [], [6020], [], [], [], [1032, 1002, 5082, 1031], [6186, 1007, 6183, 6185, 45], [6020]], []), ([[]], [])] = true := by decide +kernel
theorem bm_X12_flushes : ∀ b k, bt_P 39 b = some k → bi_okk bt_M bt_P 39 ((yX12_flushes, cX12_flushes, 2, (some .boolean), RX12, 5, 108, [])) k := fun b k h => bi_oksB_ok _ _ bo_X12_flushes k (List.mem_of_getElem? (show bt_X12_flushes[b]? = some k from h))
theorem bo_X12_follows_0 : bi_okkB bt_M bt_P 40 ((yX12_follows, cX12_follows, 3, (some .boolean), RX12, 3, 62, [])) (bt_X12_follows.getD 0 bi_kd) [[], [], [6015], [6178, 1007, 6175, 6177, 43]] [] = true := by decide +kernel
theorem bo_X12_follows_1 : bi_okkB bt_M bt_P 40 ((yX12_follows, cX12_follows, 3, (some .boolean), RX12, 3, 62, [])) (bt_X12_follows.getD 1 bi_kd) [[]] [] = true := by decide +kernel
theorem bo_X12_follows_2 : bi_okkB bt_M bt_P 40 ((yX12_follows, cX12_follows, 3, (some .boolean), RX12, 3, 62, [])) (bt_X12_follows.getD 2 bi_kd) [[], [], [6018], [], [], [6033], [], [6016], []] [] = true := by decide +kernel
theorem bo_X12_follows_3 : bi_okkB bt_M bt_P 40 ((yX12_follows, cX12_follows, 3, (some .boolean), RX12, 3, 62, [])) (bt_X12_follows.getD 3 bi_kd) [[], [], [6016]] [] = true := by decide +kernel
theorem bo_X12_follows_4 : bi_okkB bt_M bt_P 40 ((yX12_follows, cX12_follows, 3, (some .boolean), RX12, 3, 62, [])) (bt_X12_follows.getD 4 bi_kd) [[], [6016], []] [] = true := by decide +kernel
theorem bo_X12_follows_5 : bi_okkB bt_M bt_P 40 ((yX12_follows, cX12_follows, 3, (some .boolean), RX12, 3, 62, [])) (bt_X12_follows.getD 5 bi_kd) [[], [], [6032], []] [] = true := by decide +kernel
theorem bo_X12_follows_6 : bi_okkB bt_M bt_P 40 ((yX12_follows, cX12_follows, 3, (some .boolean), RX12, 3, 62, [])) (bt_X12_follows.getD 6 bi_kd) [[]] [] = true := by decide +kernel
theorem bo_X12_follows_7 : bi_okkB bt_M bt_P 40 ((yX12_follows, cX12_follows, 3, (some .boolean), RX12, 3, 62, [])) (bt_X12_follows.getD 7 bi_kd) [[]] [] = true := by decide +kernel
theorem bo_X12_follows_8 : bi_okkB bt_M bt_P 40 ((yX12_follows, cX12_follows, 3, (some .boolean), RX12, 3, 62, [])) (bt_X12_follows.getD 8 bi_kd) [[6016], [], [6016]] [] = true := by decide +kernel
theorem bo_X12_follows_9 : bi_okkB bt_M bt_P 40 ((yX12_follows, cX12_follows, 3, (some .boolean), RX12, 3, 62, [])) (bt_X12_follows.getD 9 bi_kd) [[], [], [6027], [], [], [6025], [], [], [6039], [], [], [6029], [], [], [6031]] [] = true := by decide +kernel
theorem bo_X12_follows_10 : bi_okkB bt_M bt_P 40 ((yX12_follows, cX12_follows, 3, (some .boolean), RX12, 3, 62, [])) (bt_X12_follows.getD 10 bi_kd) [[], [], [6032]] [] = true := by decide +kernel
theorem bo_X12_follows_11 : bi_okkB bt_M bt_P 40 ((yX12_follows, cX12_follows, 3, (some .boolean), RX12, 3, 62, [])) (bt_X12_follows.getD 11 bi_kd) [[], [], [6040], [], [7028, 1013, 7025, 7026, 7027], []] [] = true := by decide +kernel
theorem bm_X12_follows : ∀ b k, bt_P 40 b = some k → bi_okk bt_M bt_P 40 ((yX12_follows, cX12_follows, 3, (some .boolean), RX12, 3, 62, [])) k := fun b k h => bi_allk (show bt_X12_follows[b]? = some k from h) (fun b hb => match b, hb with
  | 0, _ => bi_okkB_ok bo_X12_follows_0
  | 1, _ => bi_okkB_ok bo_X12_follows_1
  | 2, _ => bi_okkB_ok bo_X12_follows_2
  | 3, _ => bi_okkB_ok bo_X12_follows_3
  | 4, _ => bi_okkB_ok bo_X12_follows_4
  | 5, _ => bi_okkB_ok bo_X12_follows_5
  | 6, _ => bi_okkB_ok bo_X12_follows_6
  | 7, _ => bi_okkB_ok bo_X12_follows_7
  | 8, _ => bi_okkB_ok bo_X12_follows_8
  | 9, _ => bi_okkB_ok bo_X12_follows_9
  | 10, _ => bi_okkB_ok bo_X12_follows_10
  | 11, _ => bi_okkB_ok bo_X12_follows_11
  | b + 12, hb => absurd hb (by show ¬ b + 12 < 12; omega))
theorem bo_X12_force_0 : bi_okkB bt_M bt_P 41 ((yX12_force, cX12_force, 4, (some .int), RX12, 5, 108, [])) (bt_X12_force.getD 0 bi_kd) [[], [], [5127], [], [], [6145, 1007, 6142, 6144, 35], [], [], [], [], [], [6219, 1007, 6216, 6218, 49], [], []] [] = true := by decide +kernel
theorem bo_X12_force_1 : bi_okkB bt_M bt_P 41 ((yX12_force, cX12_force, 4, (some .int), RX12, 5, 108, [])) (bt_X12_force.getD 1 bi_kd) [[]] [] = true := by decide +kernel
theorem bo_X12_force_2 : bi_okkB bt_M bt_P 41 ((yX12_force, cX12_force, 4, (some .int), RX12, 5, 108, [])) (bt_X12_force.getD 2 bi_kd) [[], [6016], []] [] = true := by decide +kernel
theorem bo_X12_force_3 : bi_okkB bt_M bt_P 41 ((yX12_force, cX12_force, 4, (some .int), RX12, 5, 108, [])) (bt_X12_force.getD 3 bi_kd) [[], [], [6162, 1007, 6159, 6161, 39]] [] = true := by decide +kernel
theorem bo_X12_force_4 : bi_okkB bt_M bt_P 41 ((yX12_force, cX12_force, 4, (some .int), RX12, 5, 108, [])) (bt_X12_force.getD 4 bi_kd) [[], [], [6015], [6178, 1007, 6175, 6177, 43]] [] = true := by decide +kernel
theorem bo_X12_force_5 : bi_okkB bt_M bt_P 41 ((yX12_force, cX12_force, 4, (some .int), RX12, 5, 108, [])) (bt_X12_force.getD 5 bi_kd) [[]] [] = true := by decide +kernel
theorem bo_X12_force_6 : bi_okkB bt_M bt_P 41 ((yX12_force, cX12_force, 4, (some .int), RX12, 5, 108, [])) (bt_X12_force.getD 6 bi_kd) [[], [6016]] [] = true := by decide +kernel
theorem bo_X12_force_7 : bi_okkB bt_M bt_P 41 ((yX12_force, cX12_force, 4, (some .int), RX12, 5, 108, [])) (bt_X12_force.getD 7 bi_kd) [[], [], [6235, 1013, 6232, 6233, 6234], [6029], [], [], [6031]] [] = true := by decide +kernel
theorem bo_X12_force_8 : bi_okkB bt_M bt_P 41 ((yX12_force, cX12_force, 4, (some .int), RX12, 5, 108, [])) (bt_X12_force.getD 8 bi_kd) [[], [6029]] [] = true := by decide +kernel
theorem bo_X12_force_9 : bi_okkB bt_M bt_P 41 ((yX12_force, cX12_force, 4, (some .int), RX12, 5, 108, [])) (bt_X12_force.getD 9 bi_kd) [[], [6031]] [] = true := by decide +kernel
theorem bo_X12_force_10 : bi_okkB bt_M bt_P 41 ((yX12_force, cX12_force, 4, (some .int), RX12, 5, 108, [])) (bt_X12_force.getD 10 bi_kd) [[], [], [6025], [6029], [], [], [6027], [6031]] [] = true := by decide +kernel
theorem bo_X12_force_11 : bi_okkB bt_M bt_P 41 ((yX12_force, cX12_force, 4, (some .int), RX12, 5, 108, [])) (bt_X12_force.getD 11 bi_kd) [[], [], [6016], [], [], [6025], [], [], [6027], [], [], [6039], [], [], [6040], [], [], [6043], [], [], [6044], [], [7028, 1013, 7025, 7026, 7027], [], [], [], [6018], [], [6015]] [] = true := by decide +kernel
theorem bo_X12_force_12 : bi_okkB bt_M bt_P 41 ((yX12_force, cX12_force, 4, (some .int), RX12, 5, 108, [])) (bt_X12_force.getD 12 bi_kd) [[]] [] = true := by decide +kernel
theorem bo_X12_force_13 : bi_okkB bt_M bt_P 41 ((yX12_force, cX12_force, 4, (some .int), RX12, 5, 108, [])) (bt_X12_force.getD 13 bi_kd) [[]] [] = true := by decide +kernel
