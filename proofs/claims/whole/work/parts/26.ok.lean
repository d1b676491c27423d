/-! the tables are as the code has them -/
theorem bo_X12_path_1 : bi_okkB bt_M bt_P 67 ((yX12_path, cX12_path, 4, (some .int), RX12, 1, 20, [])) (bt_X12_path.getD 1 bi_kd) [[], [5132], [], [], [], [], [], [], [], [], [5135], [], []] [] = true := by decide +kernel
theorem bo_X12_path_2 : bi_okkB bt_M bt_P 67 ((yX12_path, cX12_path, 4, (some .int), RX12, 1, 20, [])) (bt_X12_path.getD 2 bi_kd) [[], [5133], [], [], [], [], [], [], [], [], [], [5135]] [] = true := by decide +kernel
theorem bo_X12_path_3 : bi_okkB bt_M bt_P 67 ((yX12_path, cX12_path, 4, (some .int), RX12, 1, 20, [])) (bt_X12_path.getD 3 bi_kd) [[], [5133], [], [], [], [], [], [], [], [], [5135], [], []] [] = true := by decide +kernel
theorem bo_X12_path_4 : bi_okkB bt_M bt_P 67 ((yX12_path, cX12_path, 4, (some .int), RX12, 1, 20, [])) (bt_X12_path.getD 4 bi_kd) [[], [5134], [], [], [], [5135]] [] = true := by decide +kernel
theorem bo_X12_path_5 : bi_okkB bt_M bt_P 67 ((yX12_path, cX12_path, 4, (some .int), RX12, 1, 20, [])) (bt_X12_path.getD 5 bi_kd) [[], [5134], [], [], [5135], [], []] [] = true := by decide +kernel
theorem bo_X12_path_6 : bi_okkB bt_M bt_P 67 ((yX12_path, cX12_path, 4, (some .int), RX12, 1, 20, [])) (bt_X12_path.getD 6 bi_kd) [[]] [] = true := by decide +kernel
theorem bm_X12_path : ∀ b k, bt_P 67 b = some k → bi_okk bt_M bt_P 67 ((yX12_path, cX12_path, 4, (some .int), RX12, 1, 20, [])) k := fun b k h => bi_allk (show bt_X12_path[b]? = some k from h) (fun b hb => match b, hb with
  | 0, _ => bi_okkB_ok bo_X12_path_0
  | 1, _ => bi_okkB_ok bo_X12_path_1
  | 2, _ => bi_okkB_ok bo_X12_path_2
  | 3, _ => bi_okkB_ok bo_X12_path_3
  | 4, _ => bi_okkB_ok bo_X12_path_4
  | 5, _ => bi_okkB_ok bo_X12_path_5
  | 6, _ => bi_okkB_ok bo_X12_path_6
  | b + 7, hb => absurd hb (by show ¬ b + 7 < 7; omega))
theorem bo_X12_period : bi_oksB bt_M bt_P 68 ((yX12_period, cX12_period, 2, (some .boolean), RX12, 1, 20, [])) bt_X12_period [([[], [], [5111], []], []), ([[], []], []), ([[]], []), ([[], [], [5115], []], [])] = true := by decide +kernel
theorem bm_X12_period : ∀ b k, bt_P 68 b = some k → bi_okk bt_M bt_P 68 ((yX12_period, cX12_period, 2, (some .boolean), RX12, 1, 20, [])) k := fun b k h => bi_oksB_ok _ _ bo_X12_period k (List.mem_of_getElem? (show bt_X12_period[b]? = some k from h))
theorem bo_X12_piece_0 : bi_okkB bt_M bt_P 69 ((yX12_piece, cX12_piece, 3, none, RX12, 1, 20, [])) (bt_X12_piece.getD 0 bi_kd) [[], [], [5078], [], []] [] = true := by decide +kernel
theorem bo_X12_piece_1 : bi_okkB bt_M bt_P 69 ((yX12_piece, cX12_piece, 3, none, RX12, 1, 20, [])) (bt_X12_piece.getD 1 bi_kd) [[], [], [], [5078], [], [], []] [] = true := by decide +kernel
theorem bo_X12_piece_2 : bi_okkB bt_M bt_P 69 ((yX12_piece, cX12_piece, 3, none, RX12, 1, 20, [])) (bt_X12_piece.getD 2 bi_kd) [[], [], [5139]] [] = true := by decide +kernel
theorem bo_X12_piece_3 : bi_okkB bt_M bt_P 69 ((yX12_piece, cX12_piece, 3, none, RX12, 1, 20, [])) (bt_X12_piece.getD 3 bi_kd) [[], [5082], [], [5080], [], [5140], [], [], [], [5124], [], [5073], [5238], [], [], [], [], [5084], [], [5080], [], [5140], [], [], [], [5124], [], [5073], [5238], [], [], [], [], [5086], [], [5080], [], [5141], [], [], [], [], [], [5080], [], [], [5080], []] [] = true := by decide +kernel
theorem bo_X12_piece_4 : bi_okkB bt_M bt_P 69 ((yX12_piece, cX12_piece, 3, none, RX12, 1, 20, [])) (bt_X12_piece.getD 4 bi_kd) [] [] = true := by decide +kernel
theorem bm_X12_piece : ∀ b k, bt_P 69 b = some k → bi_okk bt_M bt_P 69 ((yX12_piece, cX12_piece, 3, none, RX12, 1, 20, [])) k := fun b k h => bi_allk (show bt_X12_piece[b]? = some k from h) (fun b hb => match b, hb with
  | 0, _ => bi_okkB_ok bo_X12_piece_0
  | 1, _ => bi_okkB_ok bo_X12_piece_1
  | 2, _ => bi_okkB_ok bo_X12_piece_2
  | 3, _ => bi_okkB_ok bo_X12_piece_3
  | 4, _ => bi_okkB_ok bo_X12_piece_4
  | b + 5, hb => absurd hb (by show ¬ b + 5 < 5; omega))
theorem bo_X12_power : bi_oksB bt_M bt_P 70 ((yX12_power, cX12_power, 3, (some .boolean), RX12, 2, 40, [])) bt_X12_power [([[], [], [5111], [], [7070, 1011, 7068, 7069]], []), ([[], []], []), ([[], [7071]], []), ([[]], []), ([[], [5122], [], [], [], []], [])] = true := by decide +kernel
theorem bm_X12_power : ∀ b k, bt_P 70 b = some k → bi_okk bt_M bt_P 70 ((yX12_power, cX12_power, 3, (some .boolean), RX12, 2, 40, [])) k := fun b k h => bi_oksB_ok _ _ bo_X12_power k (List.mem_of_getElem? (show bt_X12_power[b]? = some k from h))
theorem bo_X12_read : bi_oksB bt_M bt_P 71 ((yX12_read, cX12_read, 5, (some .int), RX12, 2, 43, [])) bt_X12_read [([[], [], [5111], [], [], [6129, 1011, 6126, 6128, 34], [], [], [], [], [], [6133, 1011, 6130, 6132, 35]], []), ([[], [], [7166, 1011, 7163, 7165, 75]], []), ([[], [5120], [], [5239], []], []), ([[], [], [7166, 1011, 7163, 7165, 75]], []), ([[], [], [6183, 1011, 6180, 6182, 47], [], [5128], [], [6046], [], [], [5124], [], [5238], [], [], [], [], [], []], [])] = true := by decide +kernel
theorem bm_X12_read : ∀ b k, bt_P 71 b = some k → bi_okk bt_M bt_P 71 ((yX12_read, cX12_read, 5, (some .int), RX12, 2, 43, [])) k := fun b k h => bi_oksB_ok _ _ bo_X12_read k (List.mem_of_getElem? (show bt_X12_read[b]? = some k from h))
theorem bo_X12_receive_0 : bi_okkB bt_M bt_P 72 ((yX12_receive, cX12_receive, 4, none, RX12, 6, 133, [])) (bt_X12_receive.getD 0 bi_kd) [[], [], [5073], [7095, 1011, 7092, 7094, 62], [], [], [5120], [], [5239], []] [] = true := by decide +kernel
theorem bo_X12_receive_1 : bi_okkB bt_M bt_P 72 ((yX12_receive, cX12_receive, 4, none, RX12, 6, 133, [])) (bt_X12_receive.getD 1 bi_kd) [] [] = true := by decide +kernel
theorem bo_X12_receive_2 : bi_okkB bt_M bt_P 72 ((yX12_receive, cX12_receive, 4, none, RX12, 6, 133, [])) (bt_X12_receive.getD 2 bi_kd) [[], [5074], [], [6002]] [] = true := by decide +kernel
theorem bo_X12_receive_3 : bi_okkB bt_M bt_P 72 ((yX12_receive, cX12_receive, 4, none, RX12, 6, 133, [])) (bt_X12_receive.getD 3 bi_kd) [[], [5075], []] [] = true := by decide +kernel
theorem bo_X12_receive_4 : bi_okkB bt_M bt_P 72 ((yX12_receive, cX12_receive, 4, none, RX12, 6, 133, [])) (bt_X12_receive.getD 4 bi_kd) [[], [5075], []] [] = true := by decide +kernel
theorem bo_X12_receive_5 : bi_okkB bt_M bt_P 72 ((yX12_receive, cX12_receive, 4, none, RX12, 6, 133, [])) (bt_X12_receive.getD 5 bi_kd) [[], [5075], []] [] = true := by decide +kernel
theorem bo_X12_receive_6 : bi_okkB bt_M bt_P 72 ((yX12_receive, cX12_receive, 4, none, RX12, 6, 133, [])) (bt_X12_receive.getD 6 bi_kd) [[], [], [], [], [], [], [], [7027, 1011, 7024, 7026, 52]] [] = true := by decide +kernel
theorem bo_X12_receive_7 : bi_okkB bt_M bt_P 72 ((yX12_receive, cX12_receive, 4, none, RX12, 6, 133, [])) (bt_X12_receive.getD 7 bi_kd) [] [] = true := by decide +kernel
theorem bo_X12_receive_8 : bi_okkB bt_M bt_P 72 ((yX12_receive, cX12_receive, 4, none, RX12, 6, 133, [])) (bt_X12_receive.getD 8 bi_kd) [[], [5074], [], [6002]] [] = true := by decide +kernel
theorem bo_X12_receive_9 : bi_okkB bt_M bt_P 72 ((yX12_receive, cX12_receive, 4, none, RX12, 6, 133, [])) (bt_X12_receive.getD 9 bi_kd) [[], [], [], [5074], [7099, 1011, 7096, 7098, 63]] [] = true := by decide +kernel
theorem bo_X12_receive_10 : bi_okkB bt_M bt_P 72 ((yX12_receive, cX12_receive, 4, none, RX12, 6, 133, [])) (bt_X12_receive.getD 10 bi_kd) [] [] = true := by decide +kernel
theorem bo_X12_receive_11 : bi_okkB bt_M bt_P 72 ((yX12_receive, cX12_receive, 4, none, RX12, 6, 133, [])) (bt_X12_receive.getD 11 bi_kd) [[], [6000], []] [] = true := by decide +kernel
theorem bo_X12_receive_12 : bi_okkB bt_M bt_P 72 ((yX12_receive, cX12_receive, 4, none, RX12, 6, 133, [])) (bt_X12_receive.getD 12 bi_kd) [[], [6000], []] [] = true := by decide +kernel
theorem bo_X12_receive_13 : bi_okkB bt_M bt_P 72 ((yX12_receive, cX12_receive, 4, none, RX12, 6, 133, [])) (bt_X12_receive.getD 13 bi_kd) [[]] [] = true := by decide +kernel
theorem bo_X12_receive_14 : bi_okkB bt_M bt_P 72 ((yX12_receive, cX12_receive, 4, none, RX12, 6, 133, [])) (bt_X12_receive.getD 14 bi_kd) [[]] [] = true := by decide +kernel
theorem bo_X12_receive_15 : bi_okkB bt_M bt_P 72 ((yX12_receive, cX12_receive, 4, none, RX12, 6, 133, [])) (bt_X12_receive.getD 15 bi_kd) [[], [], [5075]] [] = true := by decide +kernel
theorem bo_X12_receive_16 : bi_okkB bt_M bt_P 72 ((yX12_receive, cX12_receive, 4, none, RX12, 6, 133, [])) (bt_X12_receive.getD 16 bi_kd) [[], [6000]] [] = true := by decide +kernel
theorem bo_X12_receive_17 : bi_okkB bt_M bt_P 72 ((yX12_receive, cX12_receive, 4, none, RX12, 6, 133, [])) (bt_X12_receive.getD 17 bi_kd) [[], [], [], [7103, 1011, 7100, 7102, 64]] [] = true := by decide +kernel
theorem bo_X12_receive_18 : bi_okkB bt_M bt_P 72 ((yX12_receive, cX12_receive, 4, none, RX12, 6, 133, [])) (bt_X12_receive.getD 18 bi_kd) [[], [6000]] [] = true := by decide +kernel
theorem bo_X12_receive_19 : bi_okkB bt_M bt_P 72 ((yX12_receive, cX12_receive, 4, none, RX12, 6, 133, [])) (bt_X12_receive.getD 19 bi_kd) [[], [], [7106, 1011, 7104, 7105]] [] = true := by decide +kernel
theorem bo_X12_receive_20 : bi_okkB bt_M bt_P 72 ((yX12_receive, cX12_receive, 4, none, RX12, 6, 133, [])) (bt_X12_receive.getD 20 bi_kd) [[], [], [], [7118, 1011, 7115, 7117, 66]] [] = true := by decide +kernel
theorem bo_X12_receive_21 : bi_okkB bt_M bt_P 72 ((yX12_receive, cX12_receive, 4, none, RX12, 6, 133, [])) (bt_X12_receive.getD 21 bi_kd) [[]] [] = true := by decide +kernel
theorem bo_X12_receive_22 : bi_okkB bt_M bt_P 72 ((yX12_receive, cX12_receive, 4, none, RX12, 6, 133, [])) (bt_X12_receive.getD 22 bi_kd) [[], [6024], []] [] = true := by decide +kernel
theorem bo_X12_receive_23 : bi_okkB bt_M bt_P 72 ((yX12_receive, cX12_receive, 4, none, RX12, 6, 133, [])) (bt_X12_receive.getD 23 bi_kd) [[], [6023], [], [5076]] [] = true := by decide +kernel
theorem bo_X12_receive_24 : bi_okkB bt_M bt_P 72 ((yX12_receive, cX12_receive, 4, none, RX12, 6, 133, [])) (bt_X12_receive.getD 24 bi_kd) [[], [6011], [], [5077]] [] = true := by decide +kernel
theorem bo_X12_receive_25 : bi_okkB bt_M bt_P 72 ((yX12_receive, cX12_receive, 4, none, RX12, 6, 133, [])) (bt_X12_receive.getD 25 bi_kd) [[], [], [], [5078], [7122, 1011, 7119, 7121, 67]] [] = true := by decide +kernel
theorem bo_X12_receive_26 : bi_okkB bt_M bt_P 72 ((yX12_receive, cX12_receive, 4, none, RX12, 6, 133, [])) (bt_X12_receive.getD 26 bi_kd) [[]] [] = true := by decide +kernel
theorem bo_X12_receive_27 : bi_okkB bt_M bt_P 72 ((yX12_receive, cX12_receive, 4, none, RX12, 6, 133, [])) (bt_X12_receive.getD 27 bi_kd) [[], [6024], []] [] = true := by decide +kernel
theorem bo_X12_receive_28 : bi_okkB bt_M bt_P 72 ((yX12_receive, cX12_receive, 4, none, RX12, 6, 133, [])) (bt_X12_receive.getD 28 bi_kd) [[], [6023], [], [5076]] [] = true := by decide +kernel
theorem bo_X12_receive_29 : bi_okkB bt_M bt_P 72 ((yX12_receive, cX12_receive, 4, none, RX12, 6, 133, [])) (bt_X12_receive.getD 29 bi_kd) [[], [6011], [], [5077]] [] = true := by decide +kernel
theorem bo_X12_receive_30 : bi_okkB bt_M bt_P 72 ((yX12_receive, cX12_receive, 4, none, RX12, 6, 133, [])) (bt_X12_receive.getD 30 bi_kd) [[], [], [], [5078], [7130, 1011, 7127, 7129, 69]] [] = true := by decide +kernel
theorem bo_X12_receive_31 : bi_okkB bt_M bt_P 72 ((yX12_receive, cX12_receive, 4, none, RX12, 6, 133, [])) (bt_X12_receive.getD 31 bi_kd) [[]] [] = true := by decide +kernel
theorem bo_X12_receive_32 : bi_okkB bt_M bt_P 72 ((yX12_receive, cX12_receive, 4, none, RX12, 6, 133, [])) (bt_X12_receive.getD 32 bi_kd) [[], [6011]] [] = true := by decide +kernel
theorem bo_X12_receive_33 : bi_okkB bt_M bt_P 72 ((yX12_receive, cX12_receive, 4, none, RX12, 6, 133, [])) (bt_X12_receive.getD 33 bi_kd) [[], [6011], [], [5077]] [] = true := by decide +kernel
theorem bo_X12_receive_34 : bi_okkB bt_M bt_P 72 ((yX12_receive, cX12_receive, 4, none, RX12, 6, 133, [])) (bt_X12_receive.getD 34 bi_kd) [[], [], [7134, 1011, 7131, 7133, 70]] [] = true := by decide +kernel
theorem bo_X12_receive_35 : bi_okkB bt_M bt_P 72 ((yX12_receive, cX12_receive, 4, none, RX12, 6, 133, [])) (bt_X12_receive.getD 35 bi_kd) [[]] [] = true := by decide +kernel
theorem bo_X12_receive_36 : bi_okkB bt_M bt_P 72 ((yX12_receive, cX12_receive, 4, none, RX12, 6, 133, [])) (bt_X12_receive.getD 36 bi_kd) [[], [6011]] [] = true := by decide +kernel
theorem bo_X12_receive_37 : bi_okkB bt_M bt_P 72 ((yX12_receive, cX12_receive, 4, none, RX12, 6, 133, [])) (bt_X12_receive.getD 37 bi_kd) [[], [6024]] [] = true := by decide +kernel
theorem bo_X12_receive_38 : bi_okkB bt_M bt_P 72 ((yX12_receive, cX12_receive, 4, none, RX12, 6, 133, [])) (bt_X12_receive.getD 38 bi_kd) [[], [], [], [5077], [7138, 1011, 7135, 7137, 71]] [] = true := by decide +kernel
theorem bo_X12_receive_39 : bi_okkB bt_M bt_P 72 ((yX12_receive, cX12_receive, 4, none, RX12, 6, 133, [])) (bt_X12_receive.getD 39 bi_kd) [[], [6000]] [] = true := by decide +kernel
theorem bo_X12_receive_40 : bi_okkB bt_M bt_P 72 ((yX12_receive, cX12_receive, 4, none, RX12, 6, 133, [])) (bt_X12_receive.getD 40 bi_kd) [[], [5077], [], [6219, 1013, 6216, 6217, 6218]] [] = true := by decide +kernel
theorem bo_X12_receive_41 : bi_okkB bt_M bt_P 72 ((yX12_receive, cX12_receive, 4, none, RX12, 6, 133, [])) (bt_X12_receive.getD 41 bi_kd) [[], [], [], [7146, 1011, 7143, 7145, 72]] [] = true := by decide +kernel
