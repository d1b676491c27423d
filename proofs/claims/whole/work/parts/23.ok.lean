/-! the tables are as the code has them -/
theorem bo_X12_force_14 : bi_okkB bt_M bt_P 40 ((yX12_force, cX12_force, 4, (some .int), RX12, 5, 108, [])) (bt_X12_force.getD 14 bi_kd) [[7015, 1011, 7013, 7014], [7019, 1011, 7016, 7018, 51], [], [], [5113], [6227, 1013, 6224, 6225, 6226], [], [6002]] [] = true := by decide +kernel
theorem bm_X12_force : ∀ b k, bt_P 40 b = some k → bi_okk bt_M bt_P 40 ((yX12_force, cX12_force, 4, (some .int), RX12, 5, 108, [])) k := fun b k h => bi_allk (show bt_X12_force[b]? = some k from h) (fun b hb => match b, hb with
  | 0, _ => bi_okkB_ok bo_X12_force_0
  | 1, _ => bi_okkB_ok bo_X12_force_1
  | 2, _ => bi_okkB_ok bo_X12_force_2
  | 3, _ => bi_okkB_ok bo_X12_force_3
  | 4, _ => bi_okkB_ok bo_X12_force_4
  | 5, _ => bi_okkB_ok bo_X12_force_5
  | 6, _ => bi_okkB_ok bo_X12_force_6
  | 7, _ => bi_okkB_ok bo_X12_force_7
  | 8, _ => bi_okkB_ok bo_X12_force_8
  | 9, _ => bi_okkB_ok bo_X12_force_9
  | 10, _ => bi_okkB_ok bo_X12_force_10
  | 11, _ => bi_okkB_ok bo_X12_force_11
  | 12, _ => bi_okkB_ok bo_X12_force_12
  | 13, _ => bi_okkB_ok bo_X12_force_13
  | 14, _ => bi_okkB_ok bo_X12_force_14
  | b + 15, hb => absurd hb (by show ¬ b + 15 < 15; omega))
theorem bo_X12_free : bi_oksB bt_M bt_P 41 ((yX12_free, cX12_free, 4, (some .int), RX12, 2, 48, [])) bt_X12_free [([[], [5112], [], [], []], []), ([[], [], [5117]], []), ([[], [], [], [5145], [], [], [], [], [], [], [6178, 1011, 6175, 6177, 46], [], [], []], []), ([[]], [])] = true := by decide +kernel
theorem bm_X12_free : ∀ b k, bt_P 41 b = some k → bi_okk bt_M bt_P 41 ((yX12_free, cX12_free, 4, (some .int), RX12, 2, 48, [])) k := fun b k h => bi_oksB_ok _ _ bo_X12_free k (List.mem_of_getElem? (show bt_X12_free[b]? = some k from h))
theorem bo_X12_given : bi_oksB bt_M bt_P 42 ((yX12_given, cX12_given, 3, none, RX12, 4, 83, [])) bt_X12_given [([[], [], [5239], [6162, 1011, 6159, 6161, 42]], []), ([], []), ([[], [], [6000], [], [], [5077], [6009], [], [], [5077], [6023], [], [], [6011], [], [], [6013], [], [], [6015], [], [], [], [5078], [7019, 1011, 7016, 7018, 51], [], [7012, 1013, 7009, 7010, 7011], [], [], [5113], [6227, 1013, 6224, 6225, 6226], [], [], [], [], [], [], [], [7027, 1011, 7024, 7026, 52]], [])] = true := by decide +kernel
theorem bm_X12_given : ∀ b k, bt_P 42 b = some k → bi_okk bt_M bt_P 42 ((yX12_given, cX12_given, 3, none, RX12, 4, 83, [])) k := fun b k h => bi_oksB_ok _ _ bo_X12_given k (List.mem_of_getElem? (show bt_X12_given[b]? = some k from h))
theorem bo_X12_goesBack_0 : bi_okkB bt_M bt_P 43 ((yX12_goesBack, cX12_goesBack, 5, none, RX12, 4, 83, [])) (bt_X12_goesBack.getD 0 bi_kd) [[], [], [5239], [6162, 1011, 6159, 6161, 42]] [] = true := by decide +kernel
theorem bo_X12_goesBack_1 : bi_okkB bt_M bt_P 43 ((yX12_goesBack, cX12_goesBack, 5, none, RX12, 4, 83, [])) (bt_X12_goesBack.getD 1 bi_kd) [] [] = true := by decide +kernel
theorem bo_X12_goesBack_2 : bi_okkB bt_M bt_P 43 ((yX12_goesBack, cX12_goesBack, 5, none, RX12, 4, 83, [])) (bt_X12_goesBack.getD 2 bi_kd) [[]] [] = true := by decide +kernel
theorem bo_X12_goesBack_3 : bi_okkB bt_M bt_P 43 ((yX12_goesBack, cX12_goesBack, 5, none, RX12, 4, 83, [])) (bt_X12_goesBack.getD 3 bi_kd) [[]] [] = true := by decide +kernel
theorem bo_X12_goesBack_4 : bi_okkB bt_M bt_P 43 ((yX12_goesBack, cX12_goesBack, 5, none, RX12, 4, 83, [])) (bt_X12_goesBack.getD 4 bi_kd) [[], [6021], [], [], [7142, 1013, 7139, 7140, 7141], []] [] = true := by decide +kernel
theorem bo_X12_goesBack_5 : bi_okkB bt_M bt_P 43 ((yX12_goesBack, cX12_goesBack, 5, none, RX12, 4, 83, [])) (bt_X12_goesBack.getD 5 bi_kd) [[], [], [], [5238], [], [], [6003], [7063, 1011, 7060, 7062, 59], [], [], [5139], [1080], [6043], [], [], [5139], [1080], [6045], [], []] [] = true := by decide +kernel
theorem bo_X12_goesBack_6 : bi_okkB bt_M bt_P 43 ((yX12_goesBack, cX12_goesBack, 5, none, RX12, 4, 83, [])) (bt_X12_goesBack.getD 6 bi_kd) [[], [], [5139]] [] = true := by decide +kernel
theorem bo_X12_goesBack_7 : bi_okkB bt_M bt_P 43 ((yX12_goesBack, cX12_goesBack, 5, none, RX12, 4, 83, [])) (bt_X12_goesBack.getD 7 bi_kd) [[], [6043], [], [], [5140], [], [], [], [], [6045], [], [], [5141], [], [], [], []] [] = true := by decide +kernel
theorem bo_X12_goesBack_8 : bi_okkB bt_M bt_P 43 ((yX12_goesBack, cX12_goesBack, 5, none, RX12, 4, 83, [])) (bt_X12_goesBack.getD 8 bi_kd) [[], [], [6003], [], [], [6004], [], [], [6005], [], [], [6047], [], [], [6049]] [] = true := by decide +kernel
theorem bo_X12_goesBack_9 : bi_okkB bt_M bt_P 43 ((yX12_goesBack, cX12_goesBack, 5, none, RX12, 4, 83, [])) (bt_X12_goesBack.getD 9 bi_kd) [[], [6007]] [] = true := by decide +kernel
theorem bo_X12_goesBack_10 : bi_okkB bt_M bt_P 43 ((yX12_goesBack, cX12_goesBack, 5, none, RX12, 4, 83, [])) (bt_X12_goesBack.getD 10 bi_kd) [[], [6019], [], [6007], [], [], [], []] [] = true := by decide +kernel
theorem bo_X12_goesBack_11 : bi_okkB bt_M bt_P 43 ((yX12_goesBack, cX12_goesBack, 5, none, RX12, 4, 83, [])) (bt_X12_goesBack.getD 11 bi_kd) [[], [], [6007], [], [], [6007]] [] = true := by decide +kernel
theorem bo_X12_goesBack_12 : bi_okkB bt_M bt_P 43 ((yX12_goesBack, cX12_goesBack, 5, none, RX12, 4, 83, [])) (bt_X12_goesBack.getD 12 bi_kd) [[], [], [6000], [], [], [6009], [], [], [6011], [], [], [6023], [], [], [6013], [], [], [6015], [], [], [6028], [], [], [5113], [6227, 1013, 6224, 6225, 6226]] [] = true := by decide +kernel
theorem bm_X12_goesBack : ∀ b k, bt_P 43 b = some k → bi_okk bt_M bt_P 43 ((yX12_goesBack, cX12_goesBack, 5, none, RX12, 4, 83, [])) k := fun b k h => bi_allk (show bt_X12_goesBack[b]? = some k from h) (fun b hb => match b, hb with
  | 0, _ => bi_okkB_ok bo_X12_goesBack_0
  | 1, _ => bi_okkB_ok bo_X12_goesBack_1
  | 2, _ => bi_okkB_ok bo_X12_goesBack_2
  | 3, _ => bi_okkB_ok bo_X12_goesBack_3
  | 4, _ => bi_okkB_ok bo_X12_goesBack_4
  | 5, _ => bi_okkB_ok bo_X12_goesBack_5
  | 6, _ => bi_okkB_ok bo_X12_goesBack_6
  | 7, _ => bi_okkB_ok bo_X12_goesBack_7
  | 8, _ => bi_okkB_ok bo_X12_goesBack_8
  | 9, _ => bi_okkB_ok bo_X12_goesBack_9
  | 10, _ => bi_okkB_ok bo_X12_goesBack_10
  | 11, _ => bi_okkB_ok bo_X12_goesBack_11
  | 12, _ => bi_okkB_ok bo_X12_goesBack_12
  | b + 13, hb => absurd hb (by show ¬ b + 13 < 13; omega))
theorem bo_X12_goesDown : bi_oksB bt_M bt_P 44 ((yX12_goesDown, cX12_goesDown, 2, none, RX12, 1, 20, [])) bt_X12_goesDown [([[], [5120], [], [], [], [], [5122], [], [], []], [])] = true := by decide +kernel
theorem bm_X12_goesDown : ∀ b k, bt_P 44 b = some k → bi_okk bt_M bt_P 44 ((yX12_goesDown, cX12_goesDown, 2, none, RX12, 1, 20, [])) k := fun b k h => bi_oksB_ok _ _ bo_X12_goesDown k (List.mem_of_getElem? (show bt_X12_goesDown[b]? = some k from h))
theorem bo_X12_greeted_0 : bi_okkB bt_M bt_P 45 ((yX12_greeted, cX12_greeted, 5, none, RX12, 4, 83, [])) (bt_X12_greeted.getD 0 bi_kd) [[], [], [], []] [] = true := by decide +kernel
theorem bo_X12_greeted_1 : bi_okkB bt_M bt_P 45 ((yX12_greeted, cX12_greeted, 5, none, RX12, 4, 83, [])) (bt_X12_greeted.getD 1 bi_kd) [[], [], [5080]] [] = true := by decide +kernel
theorem bo_X12_greeted_2 : bi_okkB bt_M bt_P 45 ((yX12_greeted, cX12_greeted, 5, none, RX12, 4, 83, [])) (bt_X12_greeted.getD 2 bi_kd) [[]] [] = true := by decide +kernel
theorem bo_X12_greeted_3 : bi_okkB bt_M bt_P 45 ((yX12_greeted, cX12_greeted, 5, none, RX12, 4, 83, [])) (bt_X12_greeted.getD 3 bi_kd) [[], [], [5082], [], [], [7142, 1013, 7139, 7140, 7141]] [] = true := by decide +kernel
theorem bo_X12_greeted_4 : bi_okkB bt_M bt_P 45 ((yX12_greeted, cX12_greeted, 5, none, RX12, 4, 83, [])) (bt_X12_greeted.getD 4 bi_kd) [[], [5082], [], [], []] [] = true := by decide +kernel
theorem bo_X12_greeted_5 : bi_okkB bt_M bt_P 45 ((yX12_greeted, cX12_greeted, 5, none, RX12, 4, 83, [])) (bt_X12_greeted.getD 5 bi_kd) [[]] [] = true := by decide +kernel
theorem bo_X12_greeted_6 : bi_okkB bt_M bt_P 45 ((yX12_greeted, cX12_greeted, 5, none, RX12, 4, 83, [])) (bt_X12_greeted.getD 6 bi_kd) [[], [], [5239], [6162, 1011, 6159, 6161, 42]] [] = true := by decide +kernel
theorem bo_X12_greeted_7 : bi_okkB bt_M bt_P 45 ((yX12_greeted, cX12_greeted, 5, none, RX12, 4, 83, [])) (bt_X12_greeted.getD 7 bi_kd) [] [] = true := by decide +kernel
theorem bo_X12_greeted_8 : bi_okkB bt_M bt_P 45 ((yX12_greeted, cX12_greeted, 5, none, RX12, 4, 83, [])) (bt_X12_greeted.getD 8 bi_kd) [[], [], [6009], [], [], [6013], [], [], [6015], [], [6011], []] [] = true := by decide +kernel
theorem bo_X12_greeted_9 : bi_okkB bt_M bt_P 45 ((yX12_greeted, cX12_greeted, 5, none, RX12, 4, 83, [])) (bt_X12_greeted.getD 9 bi_kd) [[], [], [6011]] [] = true := by decide +kernel
theorem bo_X12_greeted_10 : bi_okkB bt_M bt_P 45 ((yX12_greeted, cX12_greeted, 5, none, RX12, 4, 83, [])) (bt_X12_greeted.getD 10 bi_kd) [[], [], [6023], [], [], [6024], [], [], [6027], [], [], [5113], [6227, 1013, 6224, 6225, 6226], [], [], [], [], [], [], [], [7027, 1011, 7024, 7026, 52]] [] = true := by decide +kernel
theorem bm_X12_greeted : ∀ b k, bt_P 45 b = some k → bi_okk bt_M bt_P 45 ((yX12_greeted, cX12_greeted, 5, none, RX12, 4, 83, [])) k := fun b k h => bi_allk (show bt_X12_greeted[b]? = some k from h) (fun b hb => match b, hb with
  | 0, _ => bi_okkB_ok bo_X12_greeted_0
  | 1, _ => bi_okkB_ok bo_X12_greeted_1
  | 2, _ => bi_okkB_ok bo_X12_greeted_2
  | 3, _ => bi_okkB_ok bo_X12_greeted_3
  | 4, _ => bi_okkB_ok bo_X12_greeted_4
  | 5, _ => bi_okkB_ok bo_X12_greeted_5
  | 6, _ => bi_okkB_ok bo_X12_greeted_6
  | 7, _ => bi_okkB_ok bo_X12_greeted_7
  | 8, _ => bi_okkB_ok bo_X12_greeted_8
  | 9, _ => bi_okkB_ok bo_X12_greeted_9
  | 10, _ => bi_okkB_ok bo_X12_greeted_10
  | b + 11, hb => absurd hb (by show ¬ b + 11 < 11; omega))
theorem bo_X12_group_0 : bi_okkB bt_M bt_P 46 ((yX12_group, cX12_group, 5, (some .int), RX12, 2, 40, [])) (bt_X12_group.getD 0 bi_kd) [[], [], [5111], [], []] [] = true := by decide +kernel
theorem bo_X12_group_1 : bi_okkB bt_M bt_P 46 ((yX12_group, cX12_group, 5, (some .int), RX12, 2, 40, [])) (bt_X12_group.getD 1 bi_kd) [[], []] [] = true := by decide +kernel
theorem bo_X12_group_2 : bi_okkB bt_M bt_P 46 ((yX12_group, cX12_group, 5, (some .int), RX12, 2, 40, [])) (bt_X12_group.getD 2 bi_kd) [[], []] [] = true := by decide +kernel
theorem bo_X12_group_3 : bi_okkB bt_M bt_P 46 ((yX12_group, cX12_group, 5, (some .int), RX12, 2, 40, [])) (bt_X12_group.getD 3 bi_kd) [[], []] [] = true := by decide +kernel
theorem bo_X12_group_4 : bi_okkB bt_M bt_P 46 ((yX12_group, cX12_group, 5, (some .int), RX12, 2, 40, [])) (bt_X12_group.getD 4 bi_kd) [[]] [] = true := by decide +kernel
theorem bo_X12_group_5 : bi_okkB bt_M bt_P 46 ((yX12_group, cX12_group, 5, (some .int), RX12, 2, 40, [])) (bt_X12_group.getD 5 bi_kd) [[], [5117], []] [] = true := by decide +kernel
theorem bo_X12_group_6 : bi_okkB bt_M bt_P 46 ((yX12_group, cX12_group, 5, (some .int), RX12, 2, 40, [])) (bt_X12_group.getD 6 bi_kd) [[]] [] = true := by decide +kernel
theorem bo_X12_group_7 : bi_okkB bt_M bt_P 46 ((yX12_group, cX12_group, 5, (some .int), RX12, 2, 40, [])) (bt_X12_group.getD 7 bi_kd) [[], [5123], [], [5117], [], [], [], [5124], [], [5117], [], [], [], []] [] = true := by decide +kernel
theorem bo_X12_group_8 : bi_okkB bt_M bt_P 46 ((yX12_group, cX12_group, 5, (some .int), RX12, 2, 40, [])) (bt_X12_group.getD 8 bi_kd) [[], []] [] = true := by decide +kernel
theorem bo_X12_group_9 : bi_okkB bt_M bt_P 46 ((yX12_group, cX12_group, 5, (some .int), RX12, 2, 40, [])) (bt_X12_group.getD 9 bi_kd) [[5062, 5233, 1013], [], [5236, 1013, 5234, 5235], [], [], [], [5117], [5238], [], [], [5239], [], []] [] = true := by decide +kernel
theorem bo_X12_group_10 : bi_okkB bt_M bt_P 46 ((yX12_group, cX12_group, 5, (some .int), RX12, 2, 40, [])) (bt_X12_group.getD 10 bi_kd) [[]] [] = true := by decide +kernel
theorem bo_X12_group_11 : bi_okkB bt_M bt_P 46 ((yX12_group, cX12_group, 5, (some .int), RX12, 2, 40, [])) (bt_X12_group.getD 11 bi_kd) [[]] [] = true := by decide +kernel
theorem bo_X12_group_12 : bi_okkB bt_M bt_P 46 ((yX12_group, cX12_group, 5, (some .int), RX12, 2, 40, [])) (bt_X12_group.getD 12 bi_kd) [[6000], [], [], [], [], [1080], [6046], [], [5145], [], [], [], [], [5117], [], [], [], []] [] = true := by decide +kernel
theorem bo_X12_group_13 : bi_okkB bt_M bt_P 46 ((yX12_group, cX12_group, 5, (some .int), RX12, 2, 40, [])) (bt_X12_group.getD 13 bi_kd) [[], [], [5117], [], [], [5117], [], [5117], [], []] [] = true := by decide +kernel
theorem bm_X12_group : ∀ b k, bt_P 46 b = some k → bi_okk bt_M bt_P 46 ((yX12_group, cX12_group, 5, (some .int), RX12, 2, 40, [])) k := fun b k h => bi_allk (show bt_X12_group[b]? = some k from h) (fun b hb => match b, hb with
  | 0, _ => bi_okkB_ok bo_X12_group_0
  | 1, _ => bi_okkB_ok bo_X12_group_1
  | 2, _ => bi_okkB_ok bo_X12_group_2
  | 3, _ => bi_okkB_ok bo_X12_group_3
  | 4, _ => bi_okkB_ok bo_X12_group_4
  | 5, _ => bi_okkB_ok bo_X12_group_5
  | 6, _ => bi_okkB_ok bo_X12_group_6
  | 7, _ => bi_okkB_ok bo_X12_group_7
  | 8, _ => bi_okkB_ok bo_X12_group_8
  | 9, _ => bi_okkB_ok bo_X12_group_9
  | 10, _ => bi_okkB_ok bo_X12_group_10
  | 11, _ => bi_okkB_ok bo_X12_group_11
  | 12, _ => bi_okkB_ok bo_X12_group_12
  | 13, _ => bi_okkB_ok bo_X12_group_13
  | b + 14, hb => absurd hb (by show ¬ b + 14 < 14; omega))
theorem bo_X12_had : bi_oksB bt_M bt_P 47 ((yX12_had, cX12_had, 2, none, RX12, 4, 83, [])) bt_X12_had [([[], [], [5239], [6162, 1011, 6159, 6161, 42]], []), ([], []), ([[], [], [6011], [6009], [], [], [6011], [6023], [], [], [6011], [], [], [6024], [], [], [6027], [], [], [5113], [6227, 1013, 6224, 6225, 6226]], [])] = true := by decide +kernel
theorem bm_X12_had : ∀ b k, bt_P 47 b = some k → bi_okk bt_M bt_P 47 ((yX12_had, cX12_had, 2, none, RX12, 4, 83, [])) k := fun b k h => bi_oksB_ok _ _ bo_X12_had k (List.mem_of_getElem? (show bt_X12_had[b]? = some k from h))
