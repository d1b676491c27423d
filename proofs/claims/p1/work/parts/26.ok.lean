/-! the tables are as the code has them -/
theorem bo_X12_path_1 : bi_okkB bt_M bt_P 68 ((yX12_path, cX12_path, 4, (some .int), RX12, 1, 20, [])) (bt_X12_path.getD 1 bi_kd) [[], [5148], [], [], [], [], [], [], [], [], [5151], [], []] [] = true := by decide +kernel
theorem bo_X12_path_2 : bi_okkB bt_M bt_P 68 ((yX12_path, cX12_path, 4, (some .int), RX12, 1, 20, [])) (bt_X12_path.getD 2 bi_kd) [[], [5149], [], [], [], [], [], [], [], [], [], [5151]] [] = true := by decide +kernel
theorem bo_X12_path_3 : bi_okkB bt_M bt_P 68 ((yX12_path, cX12_path, 4, (some .int), RX12, 1, 20, [])) (bt_X12_path.getD 3 bi_kd) [[], [5149], [], [], [], [], [], [], [], [], [5151], [], []] [] = true := by decide +kernel
theorem bo_X12_path_4 : bi_okkB bt_M bt_P 68 ((yX12_path, cX12_path, 4, (some .int), RX12, 1, 20, [])) (bt_X12_path.getD 4 bi_kd) [[], [5150], [], [], [], [5151]] [] = true := by decide +kernel
theorem bo_X12_path_5 : bi_okkB bt_M bt_P 68 ((yX12_path, cX12_path, 4, (some .int), RX12, 1, 20, [])) (bt_X12_path.getD 5 bi_kd) [[], [5150], [], [], [5151], [], []] [] = true := by decide +kernel
theorem bo_X12_path_6 : bi_okkB bt_M bt_P 68 ((yX12_path, cX12_path, 4, (some .int), RX12, 1, 20, [])) (bt_X12_path.getD 6 bi_kd) [[]] [] = true := by decide +kernel
theorem bm_X12_path : ∀ b k, bt_P 68 b = some k → bi_okk bt_M bt_P 68 ((yX12_path, cX12_path, 4, (some .int), RX12, 1, 20, [])) k := fun b k h => bi_allk (show bt_X12_path[b]? = some k from h) (fun b hb => match b, hb with
  | 0, _ => bi_okkB_ok bo_X12_path_0
  | 1, _ => bi_okkB_ok bo_X12_path_1
  | 2, _ => bi_okkB_ok bo_X12_path_2
  | 3, _ => bi_okkB_ok bo_X12_path_3
  | 4, _ => bi_okkB_ok bo_X12_path_4
  | 5, _ => bi_okkB_ok bo_X12_path_5
  | 6, _ => bi_okkB_ok bo_X12_path_6
  | b + 7, hb => absurd hb (by show ¬ b + 7 < 7; omega))
theorem bo_X12_period : bi_oksB bt_M bt_P 69 ((yX12_period, cX12_period, 2, (some .boolean), RX12, 1, 20, [])) bt_X12_period [([[], [], [5127], []], []), ([[], []], []), ([[]], []), ([[], [], [5131], []], [])] = true := by decide +kernel
theorem bm_X12_period : ∀ b k, bt_P 69 b = some k → bi_okk bt_M bt_P 69 ((yX12_period, cX12_period, 2, (some .boolean), RX12, 1, 20, [])) k := fun b k h => bi_oksB_ok _ _ bo_X12_period k (List.mem_of_getElem? (show bt_X12_period[b]? = some k from h))
theorem bo_X12_piece_0 : bi_okkB bt_M bt_P 70 ((yX12_piece, cX12_piece, 3, none, RX12, 1, 20, [])) (bt_X12_piece.getD 0 bi_kd) [[], [], [5094], [], []] [] = true := by decide +kernel
theorem bo_X12_piece_1 : bi_okkB bt_M bt_P 70 ((yX12_piece, cX12_piece, 3, none, RX12, 1, 20, [])) (bt_X12_piece.getD 1 bi_kd) [[], [], [], [5094], [], [], []] [] = true := by decide +kernel
theorem bo_X12_piece_2 : bi_okkB bt_M bt_P 70 ((yX12_piece, cX12_piece, 3, none, RX12, 1, 20, [])) (bt_X12_piece.getD 2 bi_kd) [[], [], [5155]] [] = true := by decide +kernel
theorem bo_X12_piece_3 : bi_okkB bt_M bt_P 70 ((yX12_piece, cX12_piece, 3, none, RX12, 1, 20, [])) (bt_X12_piece.getD 3 bi_kd) [[], [5098], [], [5096], [], [5156], [], [], [], [5140], [], [5089], [6014], [], [], [], [], [5100], [], [5096], [], [5156], [], [], [], [5140], [], [5089], [6014], [], [], [], [], [5102], [], [5096], [], [5157], [], [], [], [], [], [5096], [], [], [5096], []] [] = true := by decide +kernel
theorem bo_X12_piece_4 : bi_okkB bt_M bt_P 70 ((yX12_piece, cX12_piece, 3, none, RX12, 1, 20, [])) (bt_X12_piece.getD 4 bi_kd) [] [] = true := by decide +kernel
theorem bm_X12_piece : ∀ b k, bt_P 70 b = some k → bi_okk bt_M bt_P 70 ((yX12_piece, cX12_piece, 3, none, RX12, 1, 20, [])) k := fun b k h => bi_allk (show bt_X12_piece[b]? = some k from h) (fun b hb => match b, hb with
  | 0, _ => bi_okkB_ok bo_X12_piece_0
  | 1, _ => bi_okkB_ok bo_X12_piece_1
  | 2, _ => bi_okkB_ok bo_X12_piece_2
  | 3, _ => bi_okkB_ok bo_X12_piece_3
  | 4, _ => bi_okkB_ok bo_X12_piece_4
  | b + 5, hb => absurd hb (by show ¬ b + 5 < 5; omega))
theorem bo_X12_power : bi_oksB bt_M bt_P 71 ((yX12_power, cX12_power, 3, (some .boolean), RX12, 2, 40, [])) bt_X12_power [([[], [], [5127], [], [7086, 1007, 7084, 7085]], []), ([[], []], []), ([[], [7087]], []), ([[]], []), ([[], [5138], [], [], [], []], [])] = true := by decide +kernel
theorem bm_X12_power : ∀ b k, bt_P 71 b = some k → bi_okk bt_M bt_P 71 ((yX12_power, cX12_power, 3, (some .boolean), RX12, 2, 40, [])) k := fun b k h => bi_oksB_ok _ _ bo_X12_power k (List.mem_of_getElem? (show bt_X12_power[b]? = some k from h))
theorem bo_X12_read : bi_oksB bt_M bt_P 72 ((yX12_read, cX12_read, 5, (some .int), RX12, 2, 43, [])) bt_X12_read [([[], [], [5127], [], [], [6145, 1007, 6142, 6144, 35], [], [], [], [], [], [6149, 1007, 6146, 6148, 36]], []), ([[], [], [7182, 1007, 7179, 7181, 76]], []), ([[], [5136], [], [6015], []], []), ([[], [], [7182, 1007, 7179, 7181, 76]], []), ([[], [], [6199, 1007, 6196, 6198, 48], [], [5144], [], [6062], [], [], [5140], [], [6014], [], [], [], [], [], []], [])] = true := by decide +kernel
theorem bm_X12_read : ∀ b k, bt_P 72 b = some k → bi_okk bt_M bt_P 72 ((yX12_read, cX12_read, 5, (some .int), RX12, 2, 43, [])) k := fun b k h => bi_oksB_ok _ _ bo_X12_read k (List.mem_of_getElem? (show bt_X12_read[b]? = some k from h))
theorem bo_X12_receive_0 : bi_okkB bt_M bt_P 73 ((yX12_receive, cX12_receive, 4, none, RX12, 6, 133, [])) (bt_X12_receive.getD 0 bi_kd) [[], [], [5089], [7111, 1007, 7108, 7110, 63], [], [], [5136], [], [6015], []] [] = true := by decide +kernel
theorem bo_X12_receive_1 : bi_okkB bt_M bt_P 73 ((yX12_receive, cX12_receive, 4, none, RX12, 6, 133, [])) (bt_X12_receive.getD 1 bi_kd) [] [] = true := by decide +kernel
theorem bo_X12_receive_2 : bi_okkB bt_M bt_P 73 ((yX12_receive, cX12_receive, 4, none, RX12, 6, 133, [])) (bt_X12_receive.getD 2 bi_kd) [[], [5090], [], [6018]] [] = true := by decide +kernel
theorem bo_X12_receive_3 : bi_okkB bt_M bt_P 73 ((yX12_receive, cX12_receive, 4, none, RX12, 6, 133, [])) (bt_X12_receive.getD 3 bi_kd) [[], [5091], []] [] = true := by decide +kernel
theorem bo_X12_receive_4 : bi_okkB bt_M bt_P 73 ((yX12_receive, cX12_receive, 4, none, RX12, 6, 133, [])) (bt_X12_receive.getD 4 bi_kd) [[], [5091], []] [] = true := by decide +kernel
theorem bo_X12_receive_5 : bi_okkB bt_M bt_P 73 ((yX12_receive, cX12_receive, 4, none, RX12, 6, 133, [])) (bt_X12_receive.getD 5 bi_kd) [[], [5091], []] [] = true := by decide +kernel
theorem bo_X12_receive_6 : bi_okkB bt_M bt_P 73 ((yX12_receive, cX12_receive, 4, none, RX12, 6, 133, [])) (bt_X12_receive.getD 6 bi_kd) [[], [], [], [], [], [], [], [7043, 1007, 7040, 7042, 53]] [] = true := by decide +kernel
theorem bo_X12_receive_7 : bi_okkB bt_M bt_P 73 ((yX12_receive, cX12_receive, 4, none, RX12, 6, 133, [])) (bt_X12_receive.getD 7 bi_kd) [] [] = true := by decide +kernel
theorem bo_X12_receive_8 : bi_okkB bt_M bt_P 73 ((yX12_receive, cX12_receive, 4, none, RX12, 6, 133, [])) (bt_X12_receive.getD 8 bi_kd) [[], [5090], [], [6018]] [] = true := by decide +kernel
theorem bo_X12_receive_9 : bi_okkB bt_M bt_P 73 ((yX12_receive, cX12_receive, 4, none, RX12, 6, 133, [])) (bt_X12_receive.getD 9 bi_kd) [[], [], [], [5090], [7115, 1007, 7112, 7114, 64]] [] = true := by decide +kernel
theorem bo_X12_receive_10 : bi_okkB bt_M bt_P 73 ((yX12_receive, cX12_receive, 4, none, RX12, 6, 133, [])) (bt_X12_receive.getD 10 bi_kd) [] [] = true := by decide +kernel
theorem bo_X12_receive_11 : bi_okkB bt_M bt_P 73 ((yX12_receive, cX12_receive, 4, none, RX12, 6, 133, [])) (bt_X12_receive.getD 11 bi_kd) [[], [6016], []] [] = true := by decide +kernel
theorem bo_X12_receive_12 : bi_okkB bt_M bt_P 73 ((yX12_receive, cX12_receive, 4, none, RX12, 6, 133, [])) (bt_X12_receive.getD 12 bi_kd) [[], [6016], []] [] = true := by decide +kernel
theorem bo_X12_receive_13 : bi_okkB bt_M bt_P 73 ((yX12_receive, cX12_receive, 4, none, RX12, 6, 133, [])) (bt_X12_receive.getD 13 bi_kd) [[]] [] = true := by decide +kernel
theorem bo_X12_receive_14 : bi_okkB bt_M bt_P 73 ((yX12_receive, cX12_receive, 4, none, RX12, 6, 133, [])) (bt_X12_receive.getD 14 bi_kd) [[]] [] = true := by decide +kernel
theorem bo_X12_receive_15 : bi_okkB bt_M bt_P 73 ((yX12_receive, cX12_receive, 4, none, RX12, 6, 133, [])) (bt_X12_receive.getD 15 bi_kd) [[], [], [5091]] [] = true := by decide +kernel
theorem bo_X12_receive_16 : bi_okkB bt_M bt_P 73 ((yX12_receive, cX12_receive, 4, none, RX12, 6, 133, [])) (bt_X12_receive.getD 16 bi_kd) [[], [6016]] [] = true := by decide +kernel
theorem bo_X12_receive_17 : bi_okkB bt_M bt_P 73 ((yX12_receive, cX12_receive, 4, none, RX12, 6, 133, [])) (bt_X12_receive.getD 17 bi_kd) [[], [], [], [7119, 1007, 7116, 7118, 65]] [] = true := by decide +kernel
theorem bo_X12_receive_18 : bi_okkB bt_M bt_P 73 ((yX12_receive, cX12_receive, 4, none, RX12, 6, 133, [])) (bt_X12_receive.getD 18 bi_kd) [[], [6016]] [] = true := by decide +kernel
theorem bo_X12_receive_19 : bi_okkB bt_M bt_P 73 ((yX12_receive, cX12_receive, 4, none, RX12, 6, 133, [])) (bt_X12_receive.getD 19 bi_kd) [[], [], [7122, 1007, 7120, 7121]] [] = true := by decide +kernel
theorem bo_X12_receive_20 : bi_okkB bt_M bt_P 73 ((yX12_receive, cX12_receive, 4, none, RX12, 6, 133, [])) (bt_X12_receive.getD 20 bi_kd) [[], [], [], [7134, 1007, 7131, 7133, 67]] [] = true := by decide +kernel
theorem bo_X12_receive_21 : bi_okkB bt_M bt_P 73 ((yX12_receive, cX12_receive, 4, none, RX12, 6, 133, [])) (bt_X12_receive.getD 21 bi_kd) [[]] [] = true := by decide +kernel
theorem bo_X12_receive_22 : bi_okkB bt_M bt_P 73 ((yX12_receive, cX12_receive, 4, none, RX12, 6, 133, [])) (bt_X12_receive.getD 22 bi_kd) [[], [6040], []] [] = true := by decide +kernel
theorem bo_X12_receive_23 : bi_okkB bt_M bt_P 73 ((yX12_receive, cX12_receive, 4, none, RX12, 6, 133, [])) (bt_X12_receive.getD 23 bi_kd) [[], [6039], [], [5092]] [] = true := by decide +kernel
theorem bo_X12_receive_24 : bi_okkB bt_M bt_P 73 ((yX12_receive, cX12_receive, 4, none, RX12, 6, 133, [])) (bt_X12_receive.getD 24 bi_kd) [[], [6027], [], [5093]] [] = true := by decide +kernel
theorem bo_X12_receive_25 : bi_okkB bt_M bt_P 73 ((yX12_receive, cX12_receive, 4, none, RX12, 6, 133, [])) (bt_X12_receive.getD 25 bi_kd) [[], [], [], [5094], [7138, 1007, 7135, 7137, 68]] [] = true := by decide +kernel
theorem bo_X12_receive_26 : bi_okkB bt_M bt_P 73 ((yX12_receive, cX12_receive, 4, none, RX12, 6, 133, [])) (bt_X12_receive.getD 26 bi_kd) [[]] [] = true := by decide +kernel
theorem bo_X12_receive_27 : bi_okkB bt_M bt_P 73 ((yX12_receive, cX12_receive, 4, none, RX12, 6, 133, [])) (bt_X12_receive.getD 27 bi_kd) [[], [6040], []] [] = true := by decide +kernel
theorem bo_X12_receive_28 : bi_okkB bt_M bt_P 73 ((yX12_receive, cX12_receive, 4, none, RX12, 6, 133, [])) (bt_X12_receive.getD 28 bi_kd) [[], [6039], [], [5092]] [] = true := by decide +kernel
theorem bo_X12_receive_29 : bi_okkB bt_M bt_P 73 ((yX12_receive, cX12_receive, 4, none, RX12, 6, 133, [])) (bt_X12_receive.getD 29 bi_kd) [[], [6027], [], [5093]] [] = true := by decide +kernel
theorem bo_X12_receive_30 : bi_okkB bt_M bt_P 73 ((yX12_receive, cX12_receive, 4, none, RX12, 6, 133, [])) (bt_X12_receive.getD 30 bi_kd) [[], [], [], [5094], [7146, 1007, 7143, 7145, 70]] [] = true := by decide +kernel
theorem bo_X12_receive_31 : bi_okkB bt_M bt_P 73 ((yX12_receive, cX12_receive, 4, none, RX12, 6, 133, [])) (bt_X12_receive.getD 31 bi_kd) [[]] [] = true := by decide +kernel
theorem bo_X12_receive_32 : bi_okkB bt_M bt_P 73 ((yX12_receive, cX12_receive, 4, none, RX12, 6, 133, [])) (bt_X12_receive.getD 32 bi_kd) [[], [6027]] [] = true := by decide +kernel
theorem bo_X12_receive_33 : bi_okkB bt_M bt_P 73 ((yX12_receive, cX12_receive, 4, none, RX12, 6, 133, [])) (bt_X12_receive.getD 33 bi_kd) [[], [6027], [], [5093]] [] = true := by decide +kernel
theorem bo_X12_receive_34 : bi_okkB bt_M bt_P 73 ((yX12_receive, cX12_receive, 4, none, RX12, 6, 133, [])) (bt_X12_receive.getD 34 bi_kd) [[], [], [7150, 1007, 7147, 7149, 71]] [] = true := by decide +kernel
theorem bo_X12_receive_35 : bi_okkB bt_M bt_P 73 ((yX12_receive, cX12_receive, 4, none, RX12, 6, 133, [])) (bt_X12_receive.getD 35 bi_kd) [[]] [] = true := by decide +kernel
theorem bo_X12_receive_36 : bi_okkB bt_M bt_P 73 ((yX12_receive, cX12_receive, 4, none, RX12, 6, 133, [])) (bt_X12_receive.getD 36 bi_kd) [[], [6027]] [] = true := by decide +kernel
theorem bo_X12_receive_37 : bi_okkB bt_M bt_P 73 ((yX12_receive, cX12_receive, 4, none, RX12, 6, 133, [])) (bt_X12_receive.getD 37 bi_kd) [[], [6040]] [] = true := by decide +kernel
theorem bo_X12_receive_38 : bi_okkB bt_M bt_P 73 ((yX12_receive, cX12_receive, 4, none, RX12, 6, 133, [])) (bt_X12_receive.getD 38 bi_kd) [[], [], [], [5093], [7154, 1007, 7151, 7153, 72]] [] = true := by decide +kernel
theorem bo_X12_receive_39 : bi_okkB bt_M bt_P 73 ((yX12_receive, cX12_receive, 4, none, RX12, 6, 133, [])) (bt_X12_receive.getD 39 bi_kd) [[], [6016]] [] = true := by decide +kernel
theorem bo_X12_receive_40 : bi_okkB bt_M bt_P 73 ((yX12_receive, cX12_receive, 4, none, RX12, 6, 133, [])) (bt_X12_receive.getD 40 bi_kd) [[], [5093], [], [6235, 1013, 6232, 6233, 6234]] [] = true := by decide +kernel
theorem bo_X12_receive_41 : bi_okkB bt_M bt_P 73 ((yX12_receive, cX12_receive, 4, none, RX12, 6, 133, [])) (bt_X12_receive.getD 41 bi_kd) [[], [], [], [7162, 1007, 7159, 7161, 73]] [] = true := by decide +kernel
