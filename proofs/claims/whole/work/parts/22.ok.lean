/-! the tables are as the code has them -/
theorem bo_X12_copies_15 : bi_okkB bt_M bt_P 28 ((yX12_copies, cX12_copies, 2, none, RX12, 4, 91, [])) (bt_X12_copies.getD 15 bi_kd) [[7015, 1011, 7013, 7014], [6016], [], [], [6027], [], [], [], [], [], [6219, 1013, 6216, 6217, 6218], [], [6016], [], [7027, 1011, 7024, 7026, 52]] [] = true := by decide +kernel
theorem bo_X12_copies_16 : bi_okkB bt_M bt_P 28 ((yX12_copies, cX12_copies, 2, none, RX12, 4, 91, [])) (bt_X12_copies.getD 16 bi_kd) [[], [], [6027], [], [], [6027], [], [6027], []] [] = true := by decide +kernel
theorem bo_X12_copies_17 : bi_okkB bt_M bt_P 28 ((yX12_copies, cX12_copies, 2, none, RX12, 4, 91, [])) (bt_X12_copies.getD 17 bi_kd) [] [] = true := by decide +kernel
theorem bo_X12_copies_18 : bi_okkB bt_M bt_P 28 ((yX12_copies, cX12_copies, 2, none, RX12, 4, 91, [])) (bt_X12_copies.getD 18 bi_kd) [[], [], [6027], [], [], [], [], [], [6219, 1013, 6216, 6217, 6218], [], [6016], [], [7027, 1011, 7024, 7026, 52]] [] = true := by decide +kernel
theorem bo_X12_copies_19 : bi_okkB bt_M bt_P 28 ((yX12_copies, cX12_copies, 2, none, RX12, 4, 91, [])) (bt_X12_copies.getD 19 bi_kd) [] [] = true := by decide +kernel
theorem bm_X12_copies : ∀ b k, bt_P 28 b = some k → bi_okk bt_M bt_P 28 ((yX12_copies, cX12_copies, 2, none, RX12, 4, 91, [])) k := fun b k h => bi_allk (show bt_X12_copies[b]? = some k from h) (fun b hb => match b, hb with
  | 0, _ => bi_okkB_ok bo_X12_copies_0
  | 1, _ => bi_okkB_ok bo_X12_copies_1
  | 2, _ => bi_okkB_ok bo_X12_copies_2
  | 3, _ => bi_okkB_ok bo_X12_copies_3
  | 4, _ => bi_okkB_ok bo_X12_copies_4
  | 5, _ => bi_okkB_ok bo_X12_copies_5
  | 6, _ => bi_okkB_ok bo_X12_copies_6
  | 7, _ => bi_okkB_ok bo_X12_copies_7
  | 8, _ => bi_okkB_ok bo_X12_copies_8
  | 9, _ => bi_okkB_ok bo_X12_copies_9
  | 10, _ => bi_okkB_ok bo_X12_copies_10
  | 11, _ => bi_okkB_ok bo_X12_copies_11
  | 12, _ => bi_okkB_ok bo_X12_copies_12
  | 13, _ => bi_okkB_ok bo_X12_copies_13
  | 14, _ => bi_okkB_ok bo_X12_copies_14
  | 15, _ => bi_okkB_ok bo_X12_copies_15
  | 16, _ => bi_okkB_ok bo_X12_copies_16
  | 17, _ => bi_okkB_ok bo_X12_copies_17
  | 18, _ => bi_okkB_ok bo_X12_copies_18
  | 19, _ => bi_okkB_ok bo_X12_copies_19
  | b + 20, hb => absurd hb (by show ¬ b + 20 < 20; omega))
theorem bo_X12_crash : bi_oksB bt_M bt_P 29 ((yX12_crash, cX12_crash, 2, (some .boolean), RX12, 2, 41, [])) bt_X12_crash [([[], [], [5111], [], [7070, 1011, 7068, 7069]], []), ([[], [5120], [], []], []), ([[]], []), ([[], [], [6166, 1011, 6163, 6165, 43], []], [])] = true := by decide +kernel
theorem bm_X12_crash : ∀ b k, bt_P 29 b = some k → bi_okk bt_M bt_P 29 ((yX12_crash, cX12_crash, 2, (some .boolean), RX12, 2, 41, [])) k := fun b k h => bi_oksB_ok _ _ bo_X12_crash k (List.mem_of_getElem? (show bt_X12_crash[b]? = some k from h))
theorem bo_X12_cut : bi_oksB bt_M bt_P 30 ((yX12_cut, cX12_cut, 4, (some .int), RX12, 1, 20, [])) bt_X12_cut [([[], []], []), ([[], [5129], [], [], []], []), ([[], [5126], [], [], []], []), ([[]], [])] = true := by decide +kernel
theorem bm_X12_cut : ∀ b k, bt_P 30 b = some k → bi_okk bt_M bt_P 30 ((yX12_cut, cX12_cut, 4, (some .int), RX12, 1, 20, [])) k := fun b k h => bi_oksB_ok _ _ bo_X12_cut k (List.mem_of_getElem? (show bt_X12_cut[b]? = some k from h))
theorem bo_X12_data_0 : bi_okkB bt_M bt_P 31 ((yX12_data, cX12_data, 3, none, RX12, 5, 111, [])) (bt_X12_data.getD 0 bi_kd) [[], [5078], [], [6038]] [] = true := by decide +kernel
theorem bo_X12_data_1 : bi_okkB bt_M bt_P 31 ((yX12_data, cX12_data, 3, none, RX12, 5, 111, [])) (bt_X12_data.getD 1 bi_kd) [[], [7114, 1013, 7111, 7112, 7113]] [] = true := by decide +kernel
theorem bo_X12_data_2 : bi_okkB bt_M bt_P 31 ((yX12_data, cX12_data, 3, none, RX12, 5, 111, [])) (bt_X12_data.getD 2 bi_kd) [[], [], [], [], [6032], [], [6034], [], [6038], [], [7027, 1011, 7024, 7026, 52]] [] = true := by decide +kernel
theorem bo_X12_data_3 : bi_okkB bt_M bt_P 31 ((yX12_data, cX12_data, 3, none, RX12, 5, 111, [])) (bt_X12_data.getD 3 bi_kd) [[], [5078], [], [6038]] [] = true := by decide +kernel
theorem bo_X12_data_4 : bi_okkB bt_M bt_P 31 ((yX12_data, cX12_data, 3, none, RX12, 5, 111, [])) (bt_X12_data.getD 4 bi_kd) [[], [], [5239], [6174, 1011, 6171, 6173, 45], [], [5080]] [] = true := by decide +kernel
theorem bo_X12_data_5 : bi_okkB bt_M bt_P 31 ((yX12_data, cX12_data, 3, none, RX12, 5, 111, [])) (bt_X12_data.getD 5 bi_kd) [[], [], [6041], [], [], [6041]] [] = true := by decide +kernel
theorem bo_X12_data_6 : bi_okkB bt_M bt_P 31 ((yX12_data, cX12_data, 3, none, RX12, 5, 111, [])) (bt_X12_data.getD 6 bi_kd) [[], [], [5239], [6162, 1011, 6159, 6161, 42]] [] = true := by decide +kernel
theorem bo_X12_data_7 : bi_okkB bt_M bt_P 31 ((yX12_data, cX12_data, 3, none, RX12, 5, 111, [])) (bt_X12_data.getD 7 bi_kd) [] [] = true := by decide +kernel
theorem bo_X12_data_8 : bi_okkB bt_M bt_P 31 ((yX12_data, cX12_data, 3, none, RX12, 5, 111, [])) (bt_X12_data.getD 8 bi_kd) [[], [], [6038], [], [], [6038], [], [], [6040], [], [5080], [], [6040], [], [], [], [7110, 1011, 7107, 7109, 65]] [] = true := by decide +kernel
theorem bo_X12_data_9 : bi_okkB bt_M bt_P 31 ((yX12_data, cX12_data, 3, none, RX12, 5, 111, [])) (bt_X12_data.getD 9 bi_kd) [] [] = true := by decide +kernel
theorem bm_X12_data : ∀ b k, bt_P 31 b = some k → bi_okk bt_M bt_P 31 ((yX12_data, cX12_data, 3, none, RX12, 5, 111, [])) k := fun b k h => bi_allk (show bt_X12_data[b]? = some k from h) (fun b hb => match b, hb with
  | 0, _ => bi_okkB_ok bo_X12_data_0
  | 1, _ => bi_okkB_ok bo_X12_data_1
  | 2, _ => bi_okkB_ok bo_X12_data_2
  | 3, _ => bi_okkB_ok bo_X12_data_3
  | 4, _ => bi_okkB_ok bo_X12_data_4
  | 5, _ => bi_okkB_ok bo_X12_data_5
  | 6, _ => bi_okkB_ok bo_X12_data_6
  | 7, _ => bi_okkB_ok bo_X12_data_7
  | 8, _ => bi_okkB_ok bo_X12_data_8
  | 9, _ => bi_okkB_ok bo_X12_data_9
  | b + 10, hb => absurd hb (by show ¬ b + 10 < 10; omega))
theorem bo_X12_differ : bi_oksB bt_M bt_P 32 ((yX12_differ, cX12_differ, 5, (some .int), RX12, 2, 45, [])) bt_X12_differ [([[], [], [5111], [], [], [6129, 1011, 6126, 6128, 34], [], []], []), ([[]], []), ([[], []], []), ([[], [], [6007]], []), ([[], [], [7166, 1011, 7163, 7165, 75]], []), ([[], [5120], [], [5239], []], []), ([[], [], [7166, 1011, 7163, 7165, 75]], []), ([[], [], [5238], [], [6021], [], [], [], [6021], [], [], [7186, 1011, 7183, 7185, 76]], [])] = true := by decide +kernel
theorem bm_X12_differ : ∀ b k, bt_P 32 b = some k → bi_okk bt_M bt_P 32 ((yX12_differ, cX12_differ, 5, (some .int), RX12, 2, 45, [])) k := fun b k h => bi_oksB_ok _ _ bo_X12_differ k (List.mem_of_getElem? (show bt_X12_differ[b]? = some k from h))
theorem bo_X12_different : bi_oksB bt_M bt_P 33 ((yX12_different, cX12_different, 6, (some .int), RX12, 1, 20, [])) bt_X12_different [([[], [], [5135], [], [], [5135], [], [], [], []], []), ([[], []], []), ([[], [5130], [], [5127], [], [], [], [], [5135]], []), ([[]], []), ([[], [5130], [], [5127], [], [], [], [5135], [], [], [5126], [], [], []], []), ([[]], [])] = true := by decide +kernel
theorem bm_X12_different : ∀ b k, bt_P 33 b = some k → bi_okk bt_M bt_P 33 ((yX12_different, cX12_different, 6, (some .int), RX12, 1, 20, [])) k := fun b k h => bi_oksB_ok _ _ bo_X12_different k (List.mem_of_getElem? (show bt_X12_different[b]? = some k from h))
theorem bo_X12_fails : bi_oksB bt_M bt_P 34 ((yX12_fails, cX12_fails, 2, (some .int), RX12, 1, 20, [])) bt_X12_fails [([[], [], [5111], []], [])] = true := by decide +kernel
theorem bm_X12_fails : ∀ b k, bt_P 34 b = some k → bi_okk bt_M bt_P 34 ((yX12_fails, cX12_fails, 2, (some .int), RX12, 1, 20, [])) k := fun b k h => bi_oksB_ok _ _ bo_X12_fails k (List.mem_of_getElem? (show bt_X12_fails[b]? = some k from h))
theorem bo_X12_fill : bi_oksB bt_M bt_P 35 ((yX12_fill, cX12_fill, 9, (some .int), RX12, 7, 154, [])) bt_X12_fill [([[], [], [5111], [], [], [6129, 1011, 6126, 6128, 34], [], [], [], [], [], [6133, 1011, 6130, 6132, 35]], []), ([[], []], []), ([[], []], []), ([[], [], [], [], [5124], [], [5238], []], []), ([[]], []), ([[], []], []), ([[], []], []), ([[], [], [], [], [], [], [], [], [], [6137, 1011, 6134, 6136, 36], [], []], []), ([[]], []), ([[]], []), ([[]], []), ([], []), ([[]], []), ([[]], [])] = true := by decide +kernel
theorem bm_X12_fill : ∀ b k, bt_P 35 b = some k → bi_okk bt_M bt_P 35 ((yX12_fill, cX12_fill, 9, (some .int), RX12, 7, 154, [])) k := fun b k h => bi_oksB_ok _ _ bo_X12_fill k (List.mem_of_getElem? (show bt_X12_fill[b]? = some k from h))
theorem bo_X12_flies : bi_oksB bt_M bt_P 36 ((yX12_flies, cX12_flies, 2, (some (.object "TwinVaultsModel$Message")), RX12, 1, 20, [])) bt_X12_flies [([[]], []), ([[], [], [5148]], []), ([[]], []), ([[], [5146], [], []], []), ([], [])] = true := by decide +kernel
theorem bm_X12_flies : ∀ b k, bt_P 36 b = some k → bi_okk bt_M bt_P 36 ((yX12_flies, cX12_flies, 2, (some (.object "TwinVaultsModel$Message")), RX12, 1, 20, [])) k := fun b k h => bi_oksB_ok _ _ bo_X12_flies k (List.mem_of_getElem? (show bt_X12_flies[b]? = some k from h))
theorem bo_X12_flush : bi_oksB bt_M bt_P 37 ((yX12_flush, cX12_flush, 3, (some .int), RX12, 6, 129, [])) bt_X12_flush [([[], [], [5111], [], [], [6129, 1011, 6126, 6128, 34], [], []], []), ([[]], []), ([[], [5120], [], [5239], []], []), ([[], [], [6142, 1011, 6139, 6141, 37]], []), ([[], [5129], [], [6004], [], [], [5129], [], [6005], [], []], []), ([[]], []), ([], [])] = true := by decide +kernel
theorem bm_X12_flush : ∀ b k, bt_P 37 b = some k → bi_okk bt_M bt_P 37 ((yX12_flush, cX12_flush, 3, (some .int), RX12, 6, 129, [])) k := fun b k h => bi_oksB_ok _ _ bo_X12_flush k (List.mem_of_getElem? (show bt_X12_flush[b]? = some k from h))
theorem bo_X12_flushes : bi_oksB bt_M bt_P 38 ((yX12_flushes, cX12_flushes, 2, (some .boolean), RX12, 5, 108, [])) bt_X12_flushes [([[], [5129], [], [6003], [], [], [5129], [], [6005], [], [], []], []), ([[], [], [6146, 1011, 6143, 6145, 38]], []), ([[]], []), ([[]], []), ([], []), ([[], [6004], [], [6003]], []), ([[], [], [5239], [6162, 1011, 6159, 6161, 42]], []), ([[]], []), ([[], [], [], [6003], [], [5129], [], [6003], [], [], [5129], [], [6004], [], [], [], [1030, 1002, 5066, 1029], [6170, 1011, 6167, 6169, 44], [6004]], []), ([[]], [])] = true := by decide +kernel
theorem bm_X12_flushes : ∀ b k, bt_P 38 b = some k → bi_okk bt_M bt_P 38 ((yX12_flushes, cX12_flushes, 2, (some .boolean), RX12, 5, 108, [])) k := fun b k h => bi_oksB_ok _ _ bo_X12_flushes k (List.mem_of_getElem? (show bt_X12_flushes[b]? = some k from h))
theorem bo_X12_follows_0 : bi_okkB bt_M bt_P 39 ((yX12_follows, cX12_follows, 3, (some .boolean), RX12, 3, 62, [])) (bt_X12_follows.getD 0 bi_kd) [[], [], [5239], [6162, 1011, 6159, 6161, 42]] [] = true := by decide +kernel
theorem bo_X12_follows_1 : bi_okkB bt_M bt_P 39 ((yX12_follows, cX12_follows, 3, (some .boolean), RX12, 3, 62, [])) (bt_X12_follows.getD 1 bi_kd) [[]] [] = true := by decide +kernel
theorem bo_X12_follows_2 : bi_okkB bt_M bt_P 39 ((yX12_follows, cX12_follows, 3, (some .boolean), RX12, 3, 62, [])) (bt_X12_follows.getD 2 bi_kd) [[], [], [6002], [], [], [6017], [], [6000], []] [] = true := by decide +kernel
theorem bo_X12_follows_3 : bi_okkB bt_M bt_P 39 ((yX12_follows, cX12_follows, 3, (some .boolean), RX12, 3, 62, [])) (bt_X12_follows.getD 3 bi_kd) [[], [], [6000]] [] = true := by decide +kernel
theorem bo_X12_follows_4 : bi_okkB bt_M bt_P 39 ((yX12_follows, cX12_follows, 3, (some .boolean), RX12, 3, 62, [])) (bt_X12_follows.getD 4 bi_kd) [[], [6000], []] [] = true := by decide +kernel
theorem bo_X12_follows_5 : bi_okkB bt_M bt_P 39 ((yX12_follows, cX12_follows, 3, (some .boolean), RX12, 3, 62, [])) (bt_X12_follows.getD 5 bi_kd) [[], [], [6016], []] [] = true := by decide +kernel
theorem bo_X12_follows_6 : bi_okkB bt_M bt_P 39 ((yX12_follows, cX12_follows, 3, (some .boolean), RX12, 3, 62, [])) (bt_X12_follows.getD 6 bi_kd) [[]] [] = true := by decide +kernel
theorem bo_X12_follows_7 : bi_okkB bt_M bt_P 39 ((yX12_follows, cX12_follows, 3, (some .boolean), RX12, 3, 62, [])) (bt_X12_follows.getD 7 bi_kd) [[]] [] = true := by decide +kernel
theorem bo_X12_follows_8 : bi_okkB bt_M bt_P 39 ((yX12_follows, cX12_follows, 3, (some .boolean), RX12, 3, 62, [])) (bt_X12_follows.getD 8 bi_kd) [[6000], [], [6000]] [] = true := by decide +kernel
theorem bo_X12_follows_9 : bi_okkB bt_M bt_P 39 ((yX12_follows, cX12_follows, 3, (some .boolean), RX12, 3, 62, [])) (bt_X12_follows.getD 9 bi_kd) [[], [], [6011], [], [], [6009], [], [], [6023], [], [], [6013], [], [], [6015]] [] = true := by decide +kernel
theorem bo_X12_follows_10 : bi_okkB bt_M bt_P 39 ((yX12_follows, cX12_follows, 3, (some .boolean), RX12, 3, 62, [])) (bt_X12_follows.getD 10 bi_kd) [[], [], [6016]] [] = true := by decide +kernel
theorem bo_X12_follows_11 : bi_okkB bt_M bt_P 39 ((yX12_follows, cX12_follows, 3, (some .boolean), RX12, 3, 62, [])) (bt_X12_follows.getD 11 bi_kd) [[], [], [6024], [], [7012, 1013, 7009, 7010, 7011], []] [] = true := by decide +kernel
theorem bm_X12_follows : ∀ b k, bt_P 39 b = some k → bi_okk bt_M bt_P 39 ((yX12_follows, cX12_follows, 3, (some .boolean), RX12, 3, 62, [])) k := fun b k h => bi_allk (show bt_X12_follows[b]? = some k from h) (fun b hb => match b, hb with
  | 0, _ => bi_okkB_ok bo_X12_follows_0
  | 1, _ => bi_okkB_ok bo_X12_follows_1
  | 2, _ => bi_okkB_ok bo_X12_follows_2
  | 3, _ => bi_okkB_ok bo_X12_follows_3
  | 4, _ => bi_okkB_ok bo_X12_follows_4
  | 5, _ => bi_okkB_ok bo_X12_follows_5
  | 6, _ => bi_okkB_ok bo_X12_follows_6
  | 7, _ => bi_okkB_ok bo_X12_follows_7
  | 8, _ => bi_okkB_ok bo_X12_follows_8
  | 9, _ => bi_okkB_ok bo_X12_follows_9
  | 10, _ => bi_okkB_ok bo_X12_follows_10
  | 11, _ => bi_okkB_ok bo_X12_follows_11
  | b + 12, hb => absurd hb (by show ¬ b + 12 < 12; omega))
theorem bo_X12_force_0 : bi_okkB bt_M bt_P 40 ((yX12_force, cX12_force, 4, (some .int), RX12, 5, 108, [])) (bt_X12_force.getD 0 bi_kd) [[], [], [5111], [], [], [6129, 1011, 6126, 6128, 34], [], [], [], [], [], [6203, 1011, 6200, 6202, 48], [], []] [] = true := by decide +kernel
theorem bo_X12_force_1 : bi_okkB bt_M bt_P 40 ((yX12_force, cX12_force, 4, (some .int), RX12, 5, 108, [])) (bt_X12_force.getD 1 bi_kd) [[]] [] = true := by decide +kernel
theorem bo_X12_force_2 : bi_okkB bt_M bt_P 40 ((yX12_force, cX12_force, 4, (some .int), RX12, 5, 108, [])) (bt_X12_force.getD 2 bi_kd) [[], [6000], []] [] = true := by decide +kernel
theorem bo_X12_force_3 : bi_okkB bt_M bt_P 40 ((yX12_force, cX12_force, 4, (some .int), RX12, 5, 108, [])) (bt_X12_force.getD 3 bi_kd) [[], [], [6146, 1011, 6143, 6145, 38]] [] = true := by decide +kernel
theorem bo_X12_force_4 : bi_okkB bt_M bt_P 40 ((yX12_force, cX12_force, 4, (some .int), RX12, 5, 108, [])) (bt_X12_force.getD 4 bi_kd) [[], [], [5239], [6162, 1011, 6159, 6161, 42]] [] = true := by decide +kernel
theorem bo_X12_force_5 : bi_okkB bt_M bt_P 40 ((yX12_force, cX12_force, 4, (some .int), RX12, 5, 108, [])) (bt_X12_force.getD 5 bi_kd) [[]] [] = true := by decide +kernel
theorem bo_X12_force_6 : bi_okkB bt_M bt_P 40 ((yX12_force, cX12_force, 4, (some .int), RX12, 5, 108, [])) (bt_X12_force.getD 6 bi_kd) [[], [6000]] [] = true := by decide +kernel
theorem bo_X12_force_7 : bi_okkB bt_M bt_P 40 ((yX12_force, cX12_force, 4, (some .int), RX12, 5, 108, [])) (bt_X12_force.getD 7 bi_kd) [[], [], [6219, 1013, 6216, 6217, 6218], [6013], [], [], [6015]] [] = true := by decide +kernel
theorem bo_X12_force_8 : bi_okkB bt_M bt_P 40 ((yX12_force, cX12_force, 4, (some .int), RX12, 5, 108, [])) (bt_X12_force.getD 8 bi_kd) [[], [6013]] [] = true := by decide +kernel
theorem bo_X12_force_9 : bi_okkB bt_M bt_P 40 ((yX12_force, cX12_force, 4, (some .int), RX12, 5, 108, [])) (bt_X12_force.getD 9 bi_kd) [[], [6015]] [] = true := by decide +kernel
theorem bo_X12_force_10 : bi_okkB bt_M bt_P 40 ((yX12_force, cX12_force, 4, (some .int), RX12, 5, 108, [])) (bt_X12_force.getD 10 bi_kd) [[], [], [6009], [6013], [], [], [6011], [6015]] [] = true := by decide +kernel
theorem bo_X12_force_11 : bi_okkB bt_M bt_P 40 ((yX12_force, cX12_force, 4, (some .int), RX12, 5, 108, [])) (bt_X12_force.getD 11 bi_kd) [[], [], [6000], [], [], [6009], [], [], [6011], [], [], [6023], [], [], [6024], [], [], [6027], [], [], [6028], [], [7012, 1013, 7009, 7010, 7011], [], [], [], [6002], [], [5239]] [] = true := by decide +kernel
theorem bo_X12_force_12 : bi_okkB bt_M bt_P 40 ((yX12_force, cX12_force, 4, (some .int), RX12, 5, 108, [])) (bt_X12_force.getD 12 bi_kd) [[]] [] = true := by decide +kernel
theorem bo_X12_force_13 : bi_okkB bt_M bt_P 40 ((yX12_force, cX12_force, 4, (some .int), RX12, 5, 108, [])) (bt_X12_force.getD 13 bi_kd) [[]] [] = true := by decide +kernel
