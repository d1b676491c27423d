/-! the tables are as the code has them -/
theorem bo_X12_message : bi_oksB bt_M bt_P 58 ((yX12_message, cX12_message, 4, (some .int), RX12, 2, 41, [])) bt_X12_message [([[], [], [5111], [], [], [7087, 1011, 7084, 7086, 60], [], []], []), ([[]], []), ([[]], []), ([[], [5075]], []), ([[], [], [5073], [5239], [], [], [5073], [5238], []], []), ([[], [5074]], []), ([[], [5076]], []), ([[], [5077]], []), ([[], [5078]], []), ([[], [5079]], []), ([[], [5080]], []), ([[]], [])] = true := by decide +kernel
theorem bm_X12_message : ∀ b k, bt_P 58 b = some k → bi_okk bt_M bt_P 58 ((yX12_message, cX12_message, 4, (some .int), RX12, 2, 41, [])) k := fun b k h => bi_oksB_ok _ _ bo_X12_message k (List.mem_of_getElem? (show bt_X12_message[b]? = some k from h))
theorem bo_X12_needs_0 : bi_okkB bt_M bt_P 59 ((yX12_needs, cX12_needs, 9, (some .int), RX12, 1, 20, [])) (bt_X12_needs.getD 0 bi_kd) [[], [6049]] [] = true := by decide +kernel
theorem bo_X12_needs_1 : bi_okkB bt_M bt_P 59 ((yX12_needs, cX12_needs, 9, (some .int), RX12, 1, 20, [])) (bt_X12_needs.getD 1 bi_kd) [[], [6050], [], [6040], []] [] = true := by decide +kernel
theorem bo_X12_needs_2 : bi_okkB bt_M bt_P 59 ((yX12_needs, cX12_needs, 9, (some .int), RX12, 1, 20, [])) (bt_X12_needs.getD 2 bi_kd) [[], [], [5135], [], [], [5135], [], [], [], [5129], [], [6003], [], [], [], [6007], [], [], [], [], [], [], [6003], []] [] = true := by decide +kernel
theorem bo_X12_needs_3 : bi_okkB bt_M bt_P 59 ((yX12_needs, cX12_needs, 9, (some .int), RX12, 1, 20, [])) (bt_X12_needs.getD 3 bi_kd) [[]] [] = true := by decide +kernel
theorem bo_X12_needs_4 : bi_okkB bt_M bt_P 59 ((yX12_needs, cX12_needs, 9, (some .int), RX12, 1, 20, [])) (bt_X12_needs.getD 4 bi_kd) [[], [5129], [], [], [], []] [] = true := by decide +kernel
theorem bo_X12_needs_5 : bi_okkB bt_M bt_P 59 ((yX12_needs, cX12_needs, 9, (some .int), RX12, 1, 20, [])) (bt_X12_needs.getD 5 bi_kd) [[], [5129], [], [6005], [], []] [] = true := by decide +kernel
theorem bo_X12_needs_6 : bi_okkB bt_M bt_P 59 ((yX12_needs, cX12_needs, 9, (some .int), RX12, 1, 20, [])) (bt_X12_needs.getD 6 bi_kd) [[], [5129], [], [6005], [], [], [], []] [] = true := by decide +kernel
theorem bo_X12_needs_7 : bi_okkB bt_M bt_P 59 ((yX12_needs, cX12_needs, 9, (some .int), RX12, 1, 20, [])) (bt_X12_needs.getD 7 bi_kd) [[]] [] = true := by decide +kernel
theorem bo_X12_needs_8 : bi_okkB bt_M bt_P 59 ((yX12_needs, cX12_needs, 9, (some .int), RX12, 1, 20, [])) (bt_X12_needs.getD 8 bi_kd) [[], [5129], [], [6021], [], [], [], []] [] = true := by decide +kernel
theorem bo_X12_needs_9 : bi_okkB bt_M bt_P 59 ((yX12_needs, cX12_needs, 9, (some .int), RX12, 1, 20, [])) (bt_X12_needs.getD 9 bi_kd) [[], [5129], [], [6021], [], [], [], [], []] [] = true := by decide +kernel
theorem bo_X12_needs_10 : bi_okkB bt_M bt_P 59 ((yX12_needs, cX12_needs, 9, (some .int), RX12, 1, 20, [])) (bt_X12_needs.getD 10 bi_kd) [[], [5130], [], [5127], [], [], [], [], [5135]] [] = true := by decide +kernel
theorem bo_X12_needs_11 : bi_okkB bt_M bt_P 59 ((yX12_needs, cX12_needs, 9, (some .int), RX12, 1, 20, [])) (bt_X12_needs.getD 11 bi_kd) [[], [5131], [], [5127], [], [], []] [] = true := by decide +kernel
theorem bo_X12_needs_12 : bi_okkB bt_M bt_P 59 ((yX12_needs, cX12_needs, 9, (some .int), RX12, 1, 20, [])) (bt_X12_needs.getD 12 bi_kd) [[6179]] [] = true := by decide +kernel
theorem bo_X12_needs_13 : bi_okkB bt_M bt_P 59 ((yX12_needs, cX12_needs, 9, (some .int), RX12, 1, 20, [])) (bt_X12_needs.getD 13 bi_kd) [[], [], []] [] = true := by decide +kernel
theorem bo_X12_needs_14 : bi_okkB bt_M bt_P 59 ((yX12_needs, cX12_needs, 9, (some .int), RX12, 1, 20, [])) (bt_X12_needs.getD 14 bi_kd) [[]] [] = true := by decide +kernel
theorem bo_X12_needs_15 : bi_okkB bt_M bt_P 59 ((yX12_needs, cX12_needs, 9, (some .int), RX12, 1, 20, [])) (bt_X12_needs.getD 15 bi_kd) [[], [5130], [], [5127], [], [], [], [5135], [], [], [5131], [], [5127], [], [], [], [], [], [5126], [], [], []] [] = true := by decide +kernel
theorem bo_X12_needs_16 : bi_okkB bt_M bt_P 59 ((yX12_needs, cX12_needs, 9, (some .int), RX12, 1, 20, [])) (bt_X12_needs.getD 16 bi_kd) [[], [], [6050], [], [], [6049], [], [], [6040], []] [] = true := by decide +kernel
theorem bm_X12_needs : ∀ b k, bt_P 59 b = some k → bi_okk bt_M bt_P 59 ((yX12_needs, cX12_needs, 9, (some .int), RX12, 1, 20, [])) k := fun b k h => bi_allk (show bt_X12_needs[b]? = some k from h) (fun b hb => match b, hb with
  | 0, _ => bi_okkB_ok bo_X12_needs_0
  | 1, _ => bi_okkB_ok bo_X12_needs_1
  | 2, _ => bi_okkB_ok bo_X12_needs_2
  | 3, _ => bi_okkB_ok bo_X12_needs_3
  | 4, _ => bi_okkB_ok bo_X12_needs_4
  | 5, _ => bi_okkB_ok bo_X12_needs_5
  | 6, _ => bi_okkB_ok bo_X12_needs_6
  | 7, _ => bi_okkB_ok bo_X12_needs_7
  | 8, _ => bi_okkB_ok bo_X12_needs_8
  | 9, _ => bi_okkB_ok bo_X12_needs_9
  | 10, _ => bi_okkB_ok bo_X12_needs_10
  | 11, _ => bi_okkB_ok bo_X12_needs_11
  | 12, _ => bi_okkB_ok bo_X12_needs_12
  | 13, _ => bi_okkB_ok bo_X12_needs_13
  | 14, _ => bi_okkB_ok bo_X12_needs_14
  | 15, _ => bi_okkB_ok bo_X12_needs_15
  | 16, _ => bi_okkB_ok bo_X12_needs_16
  | b + 17, hb => absurd hb (by show ¬ b + 17 < 17; omega))
theorem bo_X12_nodes : bi_oksB bt_M bt_P 60 ((yX12_nodes, cX12_nodes, 6, (some .int), RX12, 2, 43, [])) bt_X12_nodes [([[], [], [5135], [], [], [5135], [], [], [], []], []), ([[], []], []), ([[], [], [], [5127], [], [], [], [5124], [], [], [], [], [5127], [], [], [], [5124], [], [], [], [6154, 1011, 6151, 6153, 40], [], [], [], [5126], [], [], []], []), ([[]], [])] = true := by decide +kernel
theorem bm_X12_nodes : ∀ b k, bt_P 60 b = some k → bi_okk bt_M bt_P 60 ((yX12_nodes, cX12_nodes, 6, (some .int), RX12, 2, 43, [])) k := fun b k h => bi_oksB_ok _ _ bo_X12_nodes k (List.mem_of_getElem? (show bt_X12_nodes[b]? = some k from h))
theorem bo_X12_of : bi_oksB bt_M bt_P 61 ((yX12_of, cX12_of, 2, (some (.object "TwinVaultsModel$Store")), RX12, 1, 20, [])) bt_X12_of [([[]], []), ([[], []], []), ([[], [5145], [], []], []), ([[]], []), ([], [])] = true := by decide +kernel
theorem bm_X12_of : ∀ b k, bt_P 61 b = some k → bi_okk bt_M bt_P 61 ((yX12_of, cX12_of, 2, (some (.object "TwinVaultsModel$Store")), RX12, 1, 20, [])) k := fun b k h => bi_oksB_ok _ _ bo_X12_of k (List.mem_of_getElem? (show bt_X12_of[b]? = some k from h))
theorem bo_X12_offered_0 : bi_okkB bt_M bt_P 62 ((yX12_offered, cX12_offered, 3, none, RX12, 5, 111, [])) (bt_X12_offered.getD 0 bi_kd) [[], [5077], [], [6219, 1013, 6216, 6217, 6218]] [] = true := by decide +kernel
theorem bo_X12_offered_1 : bi_okkB bt_M bt_P 62 ((yX12_offered, cX12_offered, 3, none, RX12, 5, 111, [])) (bt_X12_offered.getD 1 bi_kd) [[], [], [], [], [], [5077], [], [], [7027, 1011, 7024, 7026, 52]] [] = true := by decide +kernel
theorem bo_X12_offered_2 : bi_okkB bt_M bt_P 62 ((yX12_offered, cX12_offered, 3, none, RX12, 5, 111, [])) (bt_X12_offered.getD 2 bi_kd) [[], [5077], [], [6219, 1013, 6216, 6217, 6218]] [] = true := by decide +kernel
theorem bo_X12_offered_3 : bi_okkB bt_M bt_P 62 ((yX12_offered, cX12_offered, 3, none, RX12, 5, 111, [])) (bt_X12_offered.getD 3 bi_kd) [[], [5076]] [] = true := by decide +kernel
theorem bo_X12_offered_4 : bi_okkB bt_M bt_P 62 ((yX12_offered, cX12_offered, 3, none, RX12, 5, 111, [])) (bt_X12_offered.getD 4 bi_kd) [[], [5076], [], [6219, 1013, 6216, 6217, 6218]] [] = true := by decide +kernel
theorem bo_X12_offered_5 : bi_okkB bt_M bt_P 62 ((yX12_offered, cX12_offered, 3, none, RX12, 5, 111, [])) (bt_X12_offered.getD 5 bi_kd) [[], [], [], [], [], [6219, 1013, 6216, 6217, 6218], [], [], [7027, 1011, 7024, 7026, 52]] [] = true := by decide +kernel
theorem bo_X12_offered_6 : bi_okkB bt_M bt_P 62 ((yX12_offered, cX12_offered, 3, none, RX12, 5, 111, [])) (bt_X12_offered.getD 6 bi_kd) [[], [], [7106, 1011, 7104, 7105]] [] = true := by decide +kernel
theorem bo_X12_offered_7 : bi_okkB bt_M bt_P 62 ((yX12_offered, cX12_offered, 3, none, RX12, 5, 111, [])) (bt_X12_offered.getD 7 bi_kd) [[], [], [5239], [6162, 1011, 6159, 6161, 42]] [] = true := by decide +kernel
theorem bo_X12_offered_8 : bi_okkB bt_M bt_P 62 ((yX12_offered, cX12_offered, 3, none, RX12, 5, 111, [])) (bt_X12_offered.getD 8 bi_kd) [] [] = true := by decide +kernel
theorem bo_X12_offered_9 : bi_okkB bt_M bt_P 62 ((yX12_offered, cX12_offered, 3, none, RX12, 5, 111, [])) (bt_X12_offered.getD 9 bi_kd) [[], [7012, 1013, 7009, 7010, 7011], [], [], [6030], [], [], [5076], [6032], [], [], [5077], [6034], [], [], [5078], [6036]] [] = true := by decide +kernel
theorem bo_X12_offered_10 : bi_okkB bt_M bt_P 62 ((yX12_offered, cX12_offered, 3, none, RX12, 5, 111, [])) (bt_X12_offered.getD 10 bi_kd) [[], [], [], [7110, 1011, 7107, 7109, 65]] [] = true := by decide +kernel
theorem bo_X12_offered_11 : bi_okkB bt_M bt_P 62 ((yX12_offered, cX12_offered, 3, none, RX12, 5, 111, [])) (bt_X12_offered.getD 11 bi_kd) [] [] = true := by decide +kernel
theorem bm_X12_offered : ∀ b k, bt_P 62 b = some k → bi_okk bt_M bt_P 62 ((yX12_offered, cX12_offered, 3, none, RX12, 5, 111, [])) k := fun b k h => bi_allk (show bt_X12_offered[b]? = some k from h) (fun b hb => match b, hb with
  | 0, _ => bi_okkB_ok bo_X12_offered_0
  | 1, _ => bi_okkB_ok bo_X12_offered_1
  | 2, _ => bi_okkB_ok bo_X12_offered_2
  | 3, _ => bi_okkB_ok bo_X12_offered_3
  | 4, _ => bi_okkB_ok bo_X12_offered_4
  | 5, _ => bi_okkB_ok bo_X12_offered_5
  | 6, _ => bi_okkB_ok bo_X12_offered_6
  | 7, _ => bi_okkB_ok bo_X12_offered_7
  | 8, _ => bi_okkB_ok bo_X12_offered_8
  | 9, _ => bi_okkB_ok bo_X12_offered_9
  | 10, _ => bi_okkB_ok bo_X12_offered_10
  | 11, _ => bi_okkB_ok bo_X12_offered_11
  | b + 12, hb => absurd hb (by show ¬ b + 12 < 12; omega))
theorem bo_X12_offers : bi_oksB bt_M bt_P 63 ((yX12_offers, cX12_offers, 2, none, RX12, 3, 70, [])) bt_X12_offers [([[], [], [6024], [], [], [6027], [], [], [7055, 1011, 7052, 7054, 57], [], [], [], [], [6023], [], [6011], [], [5139], [], [5129], [], [5137], [], [7027, 1011, 7024, 7026, 52]], [])] = true := by decide +kernel
theorem bm_X12_offers : ∀ b k, bt_P 63 b = some k → bi_okk bt_M bt_P 63 ((yX12_offers, cX12_offers, 2, none, RX12, 3, 70, [])) k := fun b k h => bi_oksB_ok _ _ bo_X12_offers k (List.mem_of_getElem? (show bt_X12_offers[b]? = some k from h))
theorem bo_X12_old_0 : bi_okkB bt_M bt_P 64 ((yX12_old, cX12_old, 7, (some .int), RX12, 2, 43, [])) (bt_X12_old.getD 0 bi_kd) [[], [], [5111], [], [], [6129, 1011, 6126, 6128, 34], [], [], [], [], [], [6133, 1011, 6130, 6132, 35]] [] = true := by decide +kernel
theorem bo_X12_old_1 : bi_okkB bt_M bt_P 64 ((yX12_old, cX12_old, 7, (some .int), RX12, 2, 43, [])) (bt_X12_old.getD 1 bi_kd) [[]] [] = true := by decide +kernel
theorem bo_X12_old_2 : bi_okkB bt_M bt_P 64 ((yX12_old, cX12_old, 7, (some .int), RX12, 2, 43, [])) (bt_X12_old.getD 2 bi_kd) [[], [], [6007]] [] = true := by decide +kernel
theorem bo_X12_old_3 : bi_okkB bt_M bt_P 64 ((yX12_old, cX12_old, 7, (some .int), RX12, 2, 43, [])) (bt_X12_old.getD 3 bi_kd) [[], [], [7166, 1011, 7163, 7165, 75]] [] = true := by decide +kernel
theorem bo_X12_old_4 : bi_okkB bt_M bt_P 64 ((yX12_old, cX12_old, 7, (some .int), RX12, 2, 43, [])) (bt_X12_old.getD 4 bi_kd) [[], [5120], [], [5239], []] [] = true := by decide +kernel
theorem bo_X12_old_5 : bi_okkB bt_M bt_P 64 ((yX12_old, cX12_old, 7, (some .int), RX12, 2, 43, [])) (bt_X12_old.getD 5 bi_kd) [[], [], [7166, 1011, 7163, 7165, 75]] [] = true := by decide +kernel
theorem bo_X12_old_6 : bi_okkB bt_M bt_P 64 ((yX12_old, cX12_old, 7, (some .int), RX12, 2, 43, [])) (bt_X12_old.getD 6 bi_kd) [[], [6021], [], [], []] [] = true := by decide +kernel
theorem bo_X12_old_7 : bi_okkB bt_M bt_P 64 ((yX12_old, cX12_old, 7, (some .int), RX12, 2, 43, [])) (bt_X12_old.getD 7 bi_kd) [[]] [] = true := by decide +kernel
theorem bo_X12_old_8 : bi_okkB bt_M bt_P 64 ((yX12_old, cX12_old, 7, (some .int), RX12, 2, 43, [])) (bt_X12_old.getD 8 bi_kd) [[], [5127], [], [], [], [], [5124], [], [5238], [], [], [], []] [] = true := by decide +kernel
theorem bo_X12_old_9 : bi_okkB bt_M bt_P 64 ((yX12_old, cX12_old, 7, (some .int), RX12, 2, 43, [])) (bt_X12_old.getD 9 bi_kd) [[], [5126], [], [], []] [] = true := by decide +kernel
theorem bo_X12_old_10 : bi_okkB bt_M bt_P 64 ((yX12_old, cX12_old, 7, (some .int), RX12, 2, 43, [])) (bt_X12_old.getD 10 bi_kd) [[], [5128], [], []] [] = true := by decide +kernel
theorem bm_X12_old : ∀ b k, bt_P 64 b = some k → bi_okk bt_M bt_P 64 ((yX12_old, cX12_old, 7, (some .int), RX12, 2, 43, [])) k := fun b k h => bi_allk (show bt_X12_old[b]? = some k from h) (fun b hb => match b, hb with
  | 0, _ => bi_okkB_ok bo_X12_old_0
  | 1, _ => bi_okkB_ok bo_X12_old_1
  | 2, _ => bi_okkB_ok bo_X12_old_2
  | 3, _ => bi_okkB_ok bo_X12_old_3
  | 4, _ => bi_okkB_ok bo_X12_old_4
  | 5, _ => bi_okkB_ok bo_X12_old_5
  | 6, _ => bi_okkB_ok bo_X12_old_6
  | 7, _ => bi_okkB_ok bo_X12_old_7
  | 8, _ => bi_okkB_ok bo_X12_old_8
  | 9, _ => bi_okkB_ok bo_X12_old_9
  | 10, _ => bi_okkB_ok bo_X12_old_10
  | b + 11, hb => absurd hb (by show ¬ b + 11 < 11; omega))
theorem bo_X12_other : bi_oksB bt_M bt_P 65 ((yX12_other, cX12_other, 2, (some (.object "TwinVaultsModel$Store")), RX12, 1, 20, [])) bt_X12_other [([[], [5145], [], [], [], [5239], [], [], [], [5238], [], []], [])] = true := by decide +kernel
theorem bm_X12_other : ∀ b k, bt_P 65 b = some k → bi_okk bt_M bt_P 65 ((yX12_other, cX12_other, 2, (some (.object "TwinVaultsModel$Store")), RX12, 1, 20, [])) k := fun b k h => bi_oksB_ok _ _ bo_X12_other k (List.mem_of_getElem? (show bt_X12_other[b]? = some k from h))
theorem bo_X12_pass_0 : bi_okkB bt_M bt_P 66 ((yX12_pass, cX12_pass, 5, (some .int), RX12, 7, 156, [])) (bt_X12_pass.getD 0 bi_kd) [[], [], [5111], [], [], [7087, 1011, 7084, 7086, 60], [], []] [] = true := by decide +kernel
theorem bo_X12_pass_1 : bi_okkB bt_M bt_P 66 ((yX12_pass, cX12_pass, 5, (some .int), RX12, 7, 156, [])) (bt_X12_pass.getD 1 bi_kd) [[]] [] = true := by decide +kernel
theorem bo_X12_pass_2 : bi_okkB bt_M bt_P 66 ((yX12_pass, cX12_pass, 5, (some .int), RX12, 7, 156, [])) (bt_X12_pass.getD 2 bi_kd) [[], []] [] = true := by decide +kernel
theorem bo_X12_pass_3 : bi_okkB bt_M bt_P 66 ((yX12_pass, cX12_pass, 5, (some .int), RX12, 7, 156, [])) (bt_X12_pass.getD 3 bi_kd) [[]] [] = true := by decide +kernel
theorem bo_X12_pass_4 : bi_okkB bt_M bt_P 66 ((yX12_pass, cX12_pass, 5, (some .int), RX12, 7, 156, [])) (bt_X12_pass.getD 4 bi_kd) [[], []] [] = true := by decide +kernel
theorem bo_X12_pass_5 : bi_okkB bt_M bt_P 66 ((yX12_pass, cX12_pass, 5, (some .int), RX12, 7, 156, [])) (bt_X12_pass.getD 5 bi_kd) [[], [], [5148], [], [], [5148], [], []] [] = true := by decide +kernel
theorem bo_X12_pass_6 : bi_okkB bt_M bt_P 66 ((yX12_pass, cX12_pass, 5, (some .int), RX12, 7, 156, [])) (bt_X12_pass.getD 6 bi_kd) [[], [], [5148]] [] = true := by decide +kernel
theorem bo_X12_pass_7 : bi_okkB bt_M bt_P 66 ((yX12_pass, cX12_pass, 5, (some .int), RX12, 7, 156, [])) (bt_X12_pass.getD 7 bi_kd) [[], [5146], [], [], [5146], [], [], [], [], [], []] [] = true := by decide +kernel
theorem bo_X12_pass_8 : bi_okkB bt_M bt_P 66 ((yX12_pass, cX12_pass, 5, (some .int), RX12, 7, 156, [])) (bt_X12_pass.getD 8 bi_kd) [[]] [] = true := by decide +kernel
theorem bo_X12_pass_9 : bi_okkB bt_M bt_P 66 ((yX12_pass, cX12_pass, 5, (some .int), RX12, 7, 156, [])) (bt_X12_pass.getD 9 bi_kd) [[], [], [7091, 1011, 7088, 7090, 61]] [] = true := by decide +kernel
theorem bo_X12_pass_10 : bi_okkB bt_M bt_P 66 ((yX12_pass, cX12_pass, 5, (some .int), RX12, 7, 156, [])) (bt_X12_pass.getD 10 bi_kd) [[], []] [] = true := by decide +kernel
theorem bo_X12_pass_11 : bi_okkB bt_M bt_P 66 ((yX12_pass, cX12_pass, 5, (some .int), RX12, 7, 156, [])) (bt_X12_pass.getD 11 bi_kd) [[], [5147], [], [5149], [], [], [], [], [5149], [], [], [5149]] [] = true := by decide +kernel
theorem bo_X12_pass_12 : bi_okkB bt_M bt_P 66 ((yX12_pass, cX12_pass, 5, (some .int), RX12, 7, 156, [])) (bt_X12_pass.getD 12 bi_kd) [[]] [] = true := by decide +kernel
theorem bm_X12_pass : ∀ b k, bt_P 66 b = some k → bi_okk bt_M bt_P 66 ((yX12_pass, cX12_pass, 5, (some .int), RX12, 7, 156, [])) k := fun b k h => bi_allk (show bt_X12_pass[b]? = some k from h) (fun b hb => match b, hb with
  | 0, _ => bi_okkB_ok bo_X12_pass_0
  | 1, _ => bi_okkB_ok bo_X12_pass_1
  | 2, _ => bi_okkB_ok bo_X12_pass_2
  | 3, _ => bi_okkB_ok bo_X12_pass_3
  | 4, _ => bi_okkB_ok bo_X12_pass_4
  | 5, _ => bi_okkB_ok bo_X12_pass_5
  | 6, _ => bi_okkB_ok bo_X12_pass_6
  | 7, _ => bi_okkB_ok bo_X12_pass_7
  | 8, _ => bi_okkB_ok bo_X12_pass_8
  | 9, _ => bi_okkB_ok bo_X12_pass_9
  | 10, _ => bi_okkB_ok bo_X12_pass_10
  | 11, _ => bi_okkB_ok bo_X12_pass_11
  | 12, _ => bi_okkB_ok bo_X12_pass_12
  | b + 13, hb => absurd hb (by show ¬ b + 13 < 13; omega))
theorem bo_X12_path_0 : bi_okkB bt_M bt_P 67 ((yX12_path, cX12_path, 4, (some .int), RX12, 1, 20, [])) (bt_X12_path.getD 0 bi_kd) [[], [], [], [5132], [], [], [], [], [], [], [], [], [], [5135]] [] = true := by decide +kernel
