/-! the tables are as the code has them -/
theorem bo_X12_message : bi_oksB bt_M bt_P 59 ((yX12_message, cX12_message, 4, (some .int), RX12, 2, 41, [])) bt_X12_message [([[], [], [5127], [], [], [7103, 1007, 7100, 7102, 61], [], []], []), ([[]], []), ([[]], []), ([[], [5091]], []), ([[], [], [5089], [6015], [], [], [5089], [6014], []], []), ([[], [5090]], []), ([[], [5092]], []), ([[], [5093]], []), ([[], [5094]], []), ([[], [5095]], []), ([[], [5096]], []), ([[]], [])] = true := by decide +kernel
theorem bm_X12_message : ∀ b k, bt_P 59 b = some k → bi_okk bt_M bt_P 59 ((yX12_message, cX12_message, 4, (some .int), RX12, 2, 41, [])) k := fun b k h => bi_oksB_ok _ _ bo_X12_message k (List.mem_of_getElem? (show bt_X12_message[b]? = some k from h))
theorem bo_X12_needs_0 : bi_okkB bt_M bt_P 60 ((yX12_needs, cX12_needs, 9, (some .int), RX12, 1, 20, [])) (bt_X12_needs.getD 0 bi_kd) [[], [6065]] [] = true := by decide +kernel
theorem bo_X12_needs_1 : bi_okkB bt_M bt_P 60 ((yX12_needs, cX12_needs, 9, (some .int), RX12, 1, 20, [])) (bt_X12_needs.getD 1 bi_kd) [[], [6066], [], [6056], []] [] = true := by decide +kernel
theorem bo_X12_needs_2 : bi_okkB bt_M bt_P 60 ((yX12_needs, cX12_needs, 9, (some .int), RX12, 1, 20, [])) (bt_X12_needs.getD 2 bi_kd) [[], [], [5151], [], [], [5151], [], [], [], [5145], [], [6019], [], [], [], [6023], [], [], [], [], [], [], [6019], []] [] = true := by decide +kernel
theorem bo_X12_needs_3 : bi_okkB bt_M bt_P 60 ((yX12_needs, cX12_needs, 9, (some .int), RX12, 1, 20, [])) (bt_X12_needs.getD 3 bi_kd) [[]] [] = true := by decide +kernel
theorem bo_X12_needs_4 : bi_okkB bt_M bt_P 60 ((yX12_needs, cX12_needs, 9, (some .int), RX12, 1, 20, [])) (bt_X12_needs.getD 4 bi_kd) [[], [5145], [], [], [], []] [] = true := by decide +kernel
theorem bo_X12_needs_5 : bi_okkB bt_M bt_P 60 ((yX12_needs, cX12_needs, 9, (some .int), RX12, 1, 20, [])) (bt_X12_needs.getD 5 bi_kd) [[], [5145], [], [6021], [], []] [] = true := by decide +kernel
theorem bo_X12_needs_6 : bi_okkB bt_M bt_P 60 ((yX12_needs, cX12_needs, 9, (some .int), RX12, 1, 20, [])) (bt_X12_needs.getD 6 bi_kd) [[], [5145], [], [6021], [], [], [], []] [] = true := by decide +kernel
theorem bo_X12_needs_7 : bi_okkB bt_M bt_P 60 ((yX12_needs, cX12_needs, 9, (some .int), RX12, 1, 20, [])) (bt_X12_needs.getD 7 bi_kd) [[]] [] = true := by decide +kernel
theorem bo_X12_needs_8 : bi_okkB bt_M bt_P 60 ((yX12_needs, cX12_needs, 9, (some .int), RX12, 1, 20, [])) (bt_X12_needs.getD 8 bi_kd) [[], [5145], [], [6037], [], [], [], []] [] = true := by decide +kernel
theorem bo_X12_needs_9 : bi_okkB bt_M bt_P 60 ((yX12_needs, cX12_needs, 9, (some .int), RX12, 1, 20, [])) (bt_X12_needs.getD 9 bi_kd) [[], [5145], [], [6037], [], [], [], [], []] [] = true := by decide +kernel
theorem bo_X12_needs_10 : bi_okkB bt_M bt_P 60 ((yX12_needs, cX12_needs, 9, (some .int), RX12, 1, 20, [])) (bt_X12_needs.getD 10 bi_kd) [[], [5146], [], [5143], [], [], [], [], [5151]] [] = true := by decide +kernel
theorem bo_X12_needs_11 : bi_okkB bt_M bt_P 60 ((yX12_needs, cX12_needs, 9, (some .int), RX12, 1, 20, [])) (bt_X12_needs.getD 11 bi_kd) [[], [5147], [], [5143], [], [], []] [] = true := by decide +kernel
theorem bo_X12_needs_12 : bi_okkB bt_M bt_P 60 ((yX12_needs, cX12_needs, 9, (some .int), RX12, 1, 20, [])) (bt_X12_needs.getD 12 bi_kd) [[6195]] [] = true := by decide +kernel
theorem bo_X12_needs_13 : bi_okkB bt_M bt_P 60 ((yX12_needs, cX12_needs, 9, (some .int), RX12, 1, 20, [])) (bt_X12_needs.getD 13 bi_kd) [[], [], []] [] = true := by decide +kernel
theorem bo_X12_needs_14 : bi_okkB bt_M bt_P 60 ((yX12_needs, cX12_needs, 9, (some .int), RX12, 1, 20, [])) (bt_X12_needs.getD 14 bi_kd) [[]] [] = true := by decide +kernel
theorem bo_X12_needs_15 : bi_okkB bt_M bt_P 60 ((yX12_needs, cX12_needs, 9, (some .int), RX12, 1, 20, [])) (bt_X12_needs.getD 15 bi_kd) [[], [5146], [], [5143], [], [], [], [5151], [], [], [5147], [], [5143], [], [], [], [], [], [5142], [], [], []] [] = true := by decide +kernel
theorem bo_X12_needs_16 : bi_okkB bt_M bt_P 60 ((yX12_needs, cX12_needs, 9, (some .int), RX12, 1, 20, [])) (bt_X12_needs.getD 16 bi_kd) [[], [], [6066], [], [], [6065], [], [], [6056], []] [] = true := by decide +kernel
theorem bm_X12_needs : ∀ b k, bt_P 60 b = some k → bi_okk bt_M bt_P 60 ((yX12_needs, cX12_needs, 9, (some .int), RX12, 1, 20, [])) k := fun b k h => bi_allk (show bt_X12_needs[b]? = some k from h) (fun b hb => match b, hb with
  | 0, _ => bi_okkB_ok bo_X12_needs_0
  | 1, _ => bi_okkB_ok bo_X12_needs_1
  | 2, _ => bi_okkB_ok bo_X12_needs_2
  | 3, _ => bi_okkB_ok bo_X12_needs_3
  | 4, _ => bi_okkB_ok bo_X12_needs_4
  | 5, _ => bi_okkB_ok bo_X12_needs_5
  | 6, _ => bi_okkB_ok bo_X12_needs_6
  | 7, _ => bi_okkB_ok bo_X12_needs_7
  | 8, _ => bi_okkB_ok bo_X12_needs_8
  | 9, _ => bi_okkB_ok bo_X12_needs_9
  | 10, _ => bi_okkB_ok bo_X12_needs_10
  | 11, _ => bi_okkB_ok bo_X12_needs_11
  | 12, _ => bi_okkB_ok bo_X12_needs_12
  | 13, _ => bi_okkB_ok bo_X12_needs_13
  | 14, _ => bi_okkB_ok bo_X12_needs_14
  | 15, _ => bi_okkB_ok bo_X12_needs_15
  | 16, _ => bi_okkB_ok bo_X12_needs_16
  | b + 17, hb => absurd hb (by show ¬ b + 17 < 17; omega))
theorem bo_X12_nodes : bi_oksB bt_M bt_P 61 ((yX12_nodes, cX12_nodes, 6, (some .int), RX12, 2, 43, [])) bt_X12_nodes [([[], [], [5151], [], [], [5151], [], [], [], []], []), ([[], []], []), ([[], [], [], [5143], [], [], [], [5140], [], [], [], [], [5143], [], [], [], [5140], [], [], [], [6170, 1007, 6167, 6169, 41], [], [], [], [5142], [], [], []], []), ([[]], [])] = true := by decide +kernel
theorem bm_X12_nodes : ∀ b k, bt_P 61 b = some k → bi_okk bt_M bt_P 61 ((yX12_nodes, cX12_nodes, 6, (some .int), RX12, 2, 43, [])) k := fun b k h => bi_oksB_ok _ _ bo_X12_nodes k (List.mem_of_getElem? (show bt_X12_nodes[b]? = some k from h))
theorem bo_X12_of : bi_oksB bt_M bt_P 62 ((yX12_of, cX12_of, 2, (some (.object "TwinVaultsModel$Store")), RX12, 1, 20, [])) bt_X12_of [([[]], []), ([[], []], []), ([[], [5161], [], []], []), ([[]], []), ([], [])] = true := by decide +kernel
theorem bm_X12_of : ∀ b k, bt_P 62 b = some k → bi_okk bt_M bt_P 62 ((yX12_of, cX12_of, 2, (some (.object "TwinVaultsModel$Store")), RX12, 1, 20, [])) k := fun b k h => bi_oksB_ok _ _ bo_X12_of k (List.mem_of_getElem? (show bt_X12_of[b]? = some k from h))
theorem bo_X12_offered_0 : bi_okkB bt_M bt_P 63 ((yX12_offered, cX12_offered, 3, none, RX12, 5, 111, [])) (bt_X12_offered.getD 0 bi_kd) [[], [5093], [], [6235, 1013, 6232, 6233, 6234]] [] = true := by decide +kernel
theorem bo_X12_offered_1 : bi_okkB bt_M bt_P 63 ((yX12_offered, cX12_offered, 3, none, RX12, 5, 111, [])) (bt_X12_offered.getD 1 bi_kd) [[], [], [], [], [], [5093], [], [], [7043, 1007, 7040, 7042, 53]] [] = true := by decide +kernel
theorem bo_X12_offered_2 : bi_okkB bt_M bt_P 63 ((yX12_offered, cX12_offered, 3, none, RX12, 5, 111, [])) (bt_X12_offered.getD 2 bi_kd) [[], [5093], [], [6235, 1013, 6232, 6233, 6234]] [] = true := by decide +kernel
theorem bo_X12_offered_3 : bi_okkB bt_M bt_P 63 ((yX12_offered, cX12_offered, 3, none, RX12, 5, 111, [])) (bt_X12_offered.getD 3 bi_kd) [[], [5092]] [] = true := by decide +kernel
theorem bo_X12_offered_4 : bi_okkB bt_M bt_P 63 ((yX12_offered, cX12_offered, 3, none, RX12, 5, 111, [])) (bt_X12_offered.getD 4 bi_kd) [[], [5092], [], [6235, 1013, 6232, 6233, 6234]] [] = true := by decide +kernel
theorem bo_X12_offered_5 : bi_okkB bt_M bt_P 63 ((yX12_offered, cX12_offered, 3, none, RX12, 5, 111, [])) (bt_X12_offered.getD 5 bi_kd) [[], [], [], [], [], [6235, 1013, 6232, 6233, 6234], [], [], [7043, 1007, 7040, 7042, 53]] [] = true := by decide +kernel
theorem bo_X12_offered_6 : bi_okkB bt_M bt_P 63 ((yX12_offered, cX12_offered, 3, none, RX12, 5, 111, [])) (bt_X12_offered.getD 6 bi_kd) [[], [], [7122, 1007, 7120, 7121]] [] = true := by decide +kernel
theorem bo_X12_offered_7 : bi_okkB bt_M bt_P 63 ((yX12_offered, cX12_offered, 3, none, RX12, 5, 111, [])) (bt_X12_offered.getD 7 bi_kd) [[], [], [6015], [6178, 1007, 6175, 6177, 43]] [] = true := by decide +kernel
theorem bo_X12_offered_8 : bi_okkB bt_M bt_P 63 ((yX12_offered, cX12_offered, 3, none, RX12, 5, 111, [])) (bt_X12_offered.getD 8 bi_kd) [] [] = true := by decide +kernel
theorem bo_X12_offered_9 : bi_okkB bt_M bt_P 63 ((yX12_offered, cX12_offered, 3, none, RX12, 5, 111, [])) (bt_X12_offered.getD 9 bi_kd) [[], [7028, 1013, 7025, 7026, 7027], [], [], [6046], [], [], [5092], [6048], [], [], [5093], [6050], [], [], [5094], [6052]] [] = true := by decide +kernel
theorem bo_X12_offered_10 : bi_okkB bt_M bt_P 63 ((yX12_offered, cX12_offered, 3, none, RX12, 5, 111, [])) (bt_X12_offered.getD 10 bi_kd) [[], [], [], [7126, 1007, 7123, 7125, 66]] [] = true := by decide +kernel
theorem bo_X12_offered_11 : bi_okkB bt_M bt_P 63 ((yX12_offered, cX12_offered, 3, none, RX12, 5, 111, [])) (bt_X12_offered.getD 11 bi_kd) [] [] = true := by decide +kernel
theorem bm_X12_offered : ∀ b k, bt_P 63 b = some k → bi_okk bt_M bt_P 63 ((yX12_offered, cX12_offered, 3, none, RX12, 5, 111, [])) k := fun b k h => bi_allk (show bt_X12_offered[b]? = some k from h) (fun b hb => match b, hb with
  | 0, _ => bi_okkB_ok bo_X12_offered_0
  | 1, _ => bi_okkB_ok bo_X12_offered_1
  | 2, _ => bi_okkB_ok bo_X12_offered_2
  | 3, _ => bi_okkB_ok bo_X12_offered_3
  | 4, _ => bi_okkB_ok bo_X12_offered_4
  | 5, _ => bi_okkB_ok bo_X12_offered_5
  | 6, _ => bi_okkB_ok bo_X12_offered_6
  | 7, _ => bi_okkB_ok bo_X12_offered_7
  | 8, _ => bi_okkB_ok bo_X12_offered_8
  | 9, _ => bi_okkB_ok bo_X12_offered_9
  | 10, _ => bi_okkB_ok bo_X12_offered_10
  | 11, _ => bi_okkB_ok bo_X12_offered_11
  | b + 12, hb => absurd hb (by show ¬ b + 12 < 12; omega))
theorem bo_X12_offers : bi_oksB bt_M bt_P 64 ((yX12_offers, cX12_offers, 2, none, RX12, 3, 70, [])) bt_X12_offers [([[], [], [6040], [], [], [6043], [], [], [7071, 1007, 7068, 7070, 58], [], [], [], [], [6039], [], [6027], [], [5155], [], [5145], [], [5153], [], [7043, 1007, 7040, 7042, 53]], [])] = true := by decide +kernel
theorem bm_X12_offers : ∀ b k, bt_P 64 b = some k → bi_okk bt_M bt_P 64 ((yX12_offers, cX12_offers, 2, none, RX12, 3, 70, [])) k := fun b k h => bi_oksB_ok _ _ bo_X12_offers k (List.mem_of_getElem? (show bt_X12_offers[b]? = some k from h))
theorem bo_X12_old_0 : bi_okkB bt_M bt_P 65 ((yX12_old, cX12_old, 7, (some .int), RX12, 2, 43, [])) (bt_X12_old.getD 0 bi_kd) [[], [], [5127], [], [], [6145, 1007, 6142, 6144, 35], [], [], [], [], [], [6149, 1007, 6146, 6148, 36]] [] = true := by decide +kernel
theorem bo_X12_old_1 : bi_okkB bt_M bt_P 65 ((yX12_old, cX12_old, 7, (some .int), RX12, 2, 43, [])) (bt_X12_old.getD 1 bi_kd) [[]] [] = true := by decide +kernel
theorem bo_X12_old_2 : bi_okkB bt_M bt_P 65 ((yX12_old, cX12_old, 7, (some .int), RX12, 2, 43, [])) (bt_X12_old.getD 2 bi_kd) [[], [], [6023]] [] = true := by decide +kernel
theorem bo_X12_old_3 : bi_okkB bt_M bt_P 65 ((yX12_old, cX12_old, 7, (some .int), RX12, 2, 43, [])) (bt_X12_old.getD 3 bi_kd) [[], [], [7182, 1007, 7179, 7181, 76]] [] = true := by decide +kernel
theorem bo_X12_old_4 : bi_okkB bt_M bt_P 65 ((yX12_old, cX12_old, 7, (some .int), RX12, 2, 43, [])) (bt_X12_old.getD 4 bi_kd) [[], [5136], [], [6015], []] [] = true := by decide +kernel
theorem bo_X12_old_5 : bi_okkB bt_M bt_P 65 ((yX12_old, cX12_old, 7, (some .int), RX12, 2, 43, [])) (bt_X12_old.getD 5 bi_kd) [[], [], [7182, 1007, 7179, 7181, 76]] [] = true := by decide +kernel
theorem bo_X12_old_6 : bi_okkB bt_M bt_P 65 ((yX12_old, cX12_old, 7, (some .int), RX12, 2, 43, [])) (bt_X12_old.getD 6 bi_kd) [[], [6037], [], [], []] [] = true := by decide +kernel
theorem bo_X12_old_7 : bi_okkB bt_M bt_P 65 ((yX12_old, cX12_old, 7, (some .int), RX12, 2, 43, [])) (bt_X12_old.getD 7 bi_kd) [[]] [] = true := by decide +kernel
theorem bo_X12_old_8 : bi_okkB bt_M bt_P 65 ((yX12_old, cX12_old, 7, (some .int), RX12, 2, 43, [])) (bt_X12_old.getD 8 bi_kd) [[], [5143], [], [], [], [], [5140], [], [6014], [], [], [], []] [] = true := by decide +kernel
theorem bo_X12_old_9 : bi_okkB bt_M bt_P 65 ((yX12_old, cX12_old, 7, (some .int), RX12, 2, 43, [])) (bt_X12_old.getD 9 bi_kd) [[], [5142], [], [], []] [] = true := by decide +kernel
theorem bo_X12_old_10 : bi_okkB bt_M bt_P 65 ((yX12_old, cX12_old, 7, (some .int), RX12, 2, 43, [])) (bt_X12_old.getD 10 bi_kd) [[], [5144], [], []] [] = true := by decide +kernel
theorem bm_X12_old : ∀ b k, bt_P 65 b = some k → bi_okk bt_M bt_P 65 ((yX12_old, cX12_old, 7, (some .int), RX12, 2, 43, [])) k := fun b k h => bi_allk (show bt_X12_old[b]? = some k from h) (fun b hb => match b, hb with
  | 0, _ => bi_okkB_ok bo_X12_old_0
  | 1, _ => bi_okkB_ok bo_X12_old_1
  | 2, _ => bi_okkB_ok bo_X12_old_2
  | 3, _ => bi_okkB_ok bo_X12_old_3
  | 4, _ => bi_okkB_ok bo_X12_old_4
  | 5, _ => bi_okkB_ok bo_X12_old_5
  | 6, _ => bi_okkB_ok bo_X12_old_6
  | 7, _ => bi_okkB_ok bo_X12_old_7
  | 8, _ => bi_okkB_ok bo_X12_old_8
  | 9, _ => bi_okkB_ok bo_X12_old_9
  | 10, _ => bi_okkB_ok bo_X12_old_10
  | b + 11, hb => absurd hb (by show ¬ b + 11 < 11; omega))
theorem bo_X12_other : bi_oksB bt_M bt_P 66 ((yX12_other, cX12_other, 2, (some (.object "TwinVaultsModel$Store")), RX12, 1, 20, [])) bt_X12_other [([[], [5161], [], [], [], [6015], [], [], [], [6014], [], []], [])] = true := by decide +kernel
theorem bm_X12_other : ∀ b k, bt_P 66 b = some k → bi_okk bt_M bt_P 66 ((yX12_other, cX12_other, 2, (some (.object "TwinVaultsModel$Store")), RX12, 1, 20, [])) k := fun b k h => bi_oksB_ok _ _ bo_X12_other k (List.mem_of_getElem? (show bt_X12_other[b]? = some k from h))
theorem bo_X12_pass_0 : bi_okkB bt_M bt_P 67 ((yX12_pass, cX12_pass, 5, (some .int), RX12, 7, 156, [])) (bt_X12_pass.getD 0 bi_kd) [[], [], [5127], [], [], [7103, 1007, 7100, 7102, 61], [], []] [] = true := by decide +kernel
theorem bo_X12_pass_1 : bi_okkB bt_M bt_P 67 ((yX12_pass, cX12_pass, 5, (some .int), RX12, 7, 156, [])) (bt_X12_pass.getD 1 bi_kd) [[]] [] = true := by decide +kernel
theorem bo_X12_pass_2 : bi_okkB bt_M bt_P 67 ((yX12_pass, cX12_pass, 5, (some .int), RX12, 7, 156, [])) (bt_X12_pass.getD 2 bi_kd) [[], []] [] = true := by decide +kernel
theorem bo_X12_pass_3 : bi_okkB bt_M bt_P 67 ((yX12_pass, cX12_pass, 5, (some .int), RX12, 7, 156, [])) (bt_X12_pass.getD 3 bi_kd) [[]] [] = true := by decide +kernel
theorem bo_X12_pass_4 : bi_okkB bt_M bt_P 67 ((yX12_pass, cX12_pass, 5, (some .int), RX12, 7, 156, [])) (bt_X12_pass.getD 4 bi_kd) [[], []] [] = true := by decide +kernel
theorem bo_X12_pass_5 : bi_okkB bt_M bt_P 67 ((yX12_pass, cX12_pass, 5, (some .int), RX12, 7, 156, [])) (bt_X12_pass.getD 5 bi_kd) [[], [], [5164], [], [], [5164], [], []] [] = true := by decide +kernel
theorem bo_X12_pass_6 : bi_okkB bt_M bt_P 67 ((yX12_pass, cX12_pass, 5, (some .int), RX12, 7, 156, [])) (bt_X12_pass.getD 6 bi_kd) [[], [], [5164]] [] = true := by decide +kernel
theorem bo_X12_pass_7 : bi_okkB bt_M bt_P 67 ((yX12_pass, cX12_pass, 5, (some .int), RX12, 7, 156, [])) (bt_X12_pass.getD 7 bi_kd) [[], [5162], [], [], [5162], [], [], [], [], [], []] [] = true := by decide +kernel
theorem bo_X12_pass_8 : bi_okkB bt_M bt_P 67 ((yX12_pass, cX12_pass, 5, (some .int), RX12, 7, 156, [])) (bt_X12_pass.getD 8 bi_kd) [[]] [] = true := by decide +kernel
theorem bo_X12_pass_9 : bi_okkB bt_M bt_P 67 ((yX12_pass, cX12_pass, 5, (some .int), RX12, 7, 156, [])) (bt_X12_pass.getD 9 bi_kd) [[], [], [7107, 1007, 7104, 7106, 62]] [] = true := by decide +kernel
theorem bo_X12_pass_10 : bi_okkB bt_M bt_P 67 ((yX12_pass, cX12_pass, 5, (some .int), RX12, 7, 156, [])) (bt_X12_pass.getD 10 bi_kd) [[], []] [] = true := by decide +kernel
theorem bo_X12_pass_11 : bi_okkB bt_M bt_P 67 ((yX12_pass, cX12_pass, 5, (some .int), RX12, 7, 156, [])) (bt_X12_pass.getD 11 bi_kd) [[], [5163], [], [5165], [], [], [], [], [5165], [], [], [5165]] [] = true := by decide +kernel
theorem bo_X12_pass_12 : bi_okkB bt_M bt_P 67 ((yX12_pass, cX12_pass, 5, (some .int), RX12, 7, 156, [])) (bt_X12_pass.getD 12 bi_kd) [[]] [] = true := by decide +kernel
theorem bm_X12_pass : ∀ b k, bt_P 67 b = some k → bi_okk bt_M bt_P 67 ((yX12_pass, cX12_pass, 5, (some .int), RX12, 7, 156, [])) k := fun b k h => bi_allk (show bt_X12_pass[b]? = some k from h) (fun b hb => match b, hb with
  | 0, _ => bi_okkB_ok bo_X12_pass_0
  | 1, _ => bi_okkB_ok bo_X12_pass_1
  | 2, _ => bi_okkB_ok bo_X12_pass_2
  | 3, _ => bi_okkB_ok bo_X12_pass_3
  | 4, _ => bi_okkB_ok bo_X12_pass_4
  | 5, _ => bi_okkB_ok bo_X12_pass_5
  | 6, _ => bi_okkB_ok bo_X12_pass_6
  | 7, _ => bi_okkB_ok bo_X12_pass_7
  | 8, _ => bi_okkB_ok bo_X12_pass_8
  | 9, _ => bi_okkB_ok bo_X12_pass_9
  | 10, _ => bi_okkB_ok bo_X12_pass_10
  | 11, _ => bi_okkB_ok bo_X12_pass_11
  | 12, _ => bi_okkB_ok bo_X12_pass_12
  | b + 13, hb => absurd hb (by show ¬ b + 13 < 13; omega))
theorem bo_X12_path_0 : bi_okkB bt_M bt_P 68 ((yX12_path, cX12_path, 4, (some .int), RX12, 1, 20, [])) (bt_X12_path.getD 0 bi_kd) [[], [], [], [5148], [], [], [], [], [], [], [], [], [], [5151]] [] = true := by decide +kernel
