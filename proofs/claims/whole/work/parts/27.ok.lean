/-! the tables are as the code has them -/
theorem bo_X12_receive_42 : bi_okkB bt_M bt_P 72 ((yX12_receive, cX12_receive, 4, none, RX12, 6, 133, [])) (bt_X12_receive.getD 42 bi_kd) [[], [6000], []] [] = true := by decide +kernel
theorem bo_X12_receive_43 : bi_okkB bt_M bt_P 72 ((yX12_receive, cX12_receive, 4, none, RX12, 6, 133, [])) (bt_X12_receive.getD 43 bi_kd) [[], [6009], [], [], [6002], []] [] = true := by decide +kernel
theorem bo_X12_receive_44 : bi_okkB bt_M bt_P 72 ((yX12_receive, cX12_receive, 4, none, RX12, 6, 133, [])) (bt_X12_receive.getD 44 bi_kd) [[], [], [], [7150, 1011, 7147, 7149, 73]] [] = true := by decide +kernel
theorem bo_X12_receive_45 : bi_okkB bt_M bt_P 72 ((yX12_receive, cX12_receive, 4, none, RX12, 6, 133, [])) (bt_X12_receive.getD 45 bi_kd) [[], [6000], []] [] = true := by decide +kernel
theorem bo_X12_receive_46 : bi_okkB bt_M bt_P 72 ((yX12_receive, cX12_receive, 4, none, RX12, 6, 133, [])) (bt_X12_receive.getD 46 bi_kd) [[], [6028]] [] = true := by decide +kernel
theorem bo_X12_receive_47 : bi_okkB bt_M bt_P 72 ((yX12_receive, cX12_receive, 4, none, RX12, 6, 133, [])) (bt_X12_receive.getD 47 bi_kd) [[], [5077]] [] = true := by decide +kernel
theorem bo_X12_receive_48 : bi_okkB bt_M bt_P 72 ((yX12_receive, cX12_receive, 4, none, RX12, 6, 133, [])) (bt_X12_receive.getD 48 bi_kd) [[], [], [5077], [7142, 1013, 7139, 7140, 7141]] [] = true := by decide +kernel
theorem bo_X12_receive_49 : bi_okkB bt_M bt_P 72 ((yX12_receive, cX12_receive, 4, none, RX12, 6, 133, [])) (bt_X12_receive.getD 49 bi_kd) [[], [], [], [5077], [7154, 1011, 7151, 7153, 74]] [] = true := by decide +kernel
theorem bo_X12_receive_50 : bi_okkB bt_M bt_P 72 ((yX12_receive, cX12_receive, 4, none, RX12, 6, 133, [])) (bt_X12_receive.getD 50 bi_kd) [] [] = true := by decide +kernel
theorem bm_X12_receive : ∀ b k, bt_P 72 b = some k → bi_okk bt_M bt_P 72 ((yX12_receive, cX12_receive, 4, none, RX12, 6, 133, [])) k := fun b k h => bi_allk (show bt_X12_receive[b]? = some k from h) (fun b hb => match b, hb with
  | 0, _ => bi_okkB_ok bo_X12_receive_0
  | 1, _ => bi_okkB_ok bo_X12_receive_1
  | 2, _ => bi_okkB_ok bo_X12_receive_2
  | 3, _ => bi_okkB_ok bo_X12_receive_3
  | 4, _ => bi_okkB_ok bo_X12_receive_4
  | 5, _ => bi_okkB_ok bo_X12_receive_5
  | 6, _ => bi_okkB_ok bo_X12_receive_6
  | 7, _ => bi_okkB_ok bo_X12_receive_7
  | 8, _ => bi_okkB_ok bo_X12_receive_8
  | 9, _ => bi_okkB_ok bo_X12_receive_9
  | 10, _ => bi_okkB_ok bo_X12_receive_10
  | 11, _ => bi_okkB_ok bo_X12_receive_11
  | 12, _ => bi_okkB_ok bo_X12_receive_12
  | 13, _ => bi_okkB_ok bo_X12_receive_13
  | 14, _ => bi_okkB_ok bo_X12_receive_14
  | 15, _ => bi_okkB_ok bo_X12_receive_15
  | 16, _ => bi_okkB_ok bo_X12_receive_16
  | 17, _ => bi_okkB_ok bo_X12_receive_17
  | 18, _ => bi_okkB_ok bo_X12_receive_18
  | 19, _ => bi_okkB_ok bo_X12_receive_19
  | 20, _ => bi_okkB_ok bo_X12_receive_20
  | 21, _ => bi_okkB_ok bo_X12_receive_21
  | 22, _ => bi_okkB_ok bo_X12_receive_22
  | 23, _ => bi_okkB_ok bo_X12_receive_23
  | 24, _ => bi_okkB_ok bo_X12_receive_24
  | 25, _ => bi_okkB_ok bo_X12_receive_25
  | 26, _ => bi_okkB_ok bo_X12_receive_26
  | 27, _ => bi_okkB_ok bo_X12_receive_27
  | 28, _ => bi_okkB_ok bo_X12_receive_28
  | 29, _ => bi_okkB_ok bo_X12_receive_29
  | 30, _ => bi_okkB_ok bo_X12_receive_30
  | 31, _ => bi_okkB_ok bo_X12_receive_31
  | 32, _ => bi_okkB_ok bo_X12_receive_32
  | 33, _ => bi_okkB_ok bo_X12_receive_33
  | 34, _ => bi_okkB_ok bo_X12_receive_34
  | 35, _ => bi_okkB_ok bo_X12_receive_35
  | 36, _ => bi_okkB_ok bo_X12_receive_36
  | 37, _ => bi_okkB_ok bo_X12_receive_37
  | 38, _ => bi_okkB_ok bo_X12_receive_38
  | 39, _ => bi_okkB_ok bo_X12_receive_39
  | 40, _ => bi_okkB_ok bo_X12_receive_40
  | 41, _ => bi_okkB_ok bo_X12_receive_41
  | 42, _ => bi_okkB_ok bo_X12_receive_42
  | 43, _ => bi_okkB_ok bo_X12_receive_43
  | 44, _ => bi_okkB_ok bo_X12_receive_44
  | 45, _ => bi_okkB_ok bo_X12_receive_45
  | 46, _ => bi_okkB_ok bo_X12_receive_46
  | 47, _ => bi_okkB_ok bo_X12_receive_47
  | 48, _ => bi_okkB_ok bo_X12_receive_48
  | 49, _ => bi_okkB_ok bo_X12_receive_49
  | 50, _ => bi_okkB_ok bo_X12_receive_50
  | b + 51, hb => absurd hb (by show ¬ b + 51 < 51; omega))
theorem bo_X12_send_0 : bi_okkB bt_M bt_P 73 ((yX12_send, cX12_send, 9, none, RX12, 2, 42, [])) (bt_X12_send.getD 0 bi_kd) [[], [], [5118], [], [], [5118], [], [5148], []] [] = true := by decide +kernel
theorem bo_X12_send_1 : bi_okkB bt_M bt_P 73 ((yX12_send, cX12_send, 9, none, RX12, 2, 42, [])) (bt_X12_send.getD 1 bi_kd) [[], [], [5119], [], [], [5119]] [] = true := by decide +kernel
theorem bo_X12_send_2 : bi_okkB bt_M bt_P 73 ((yX12_send, cX12_send, 9, none, RX12, 2, 42, [])) (bt_X12_send.getD 2 bi_kd) [[], [], [5149], [], [], [5149], [], [5147], [], [5149], [], [], [], [], [5080], [], [], [5073], [], [], [6002], [5074], [], [], [5075], [], [], [5076], [], [], [5077], [], [], [5078], [], [], [5079], [], []] [] = true := by decide +kernel
theorem bo_X12_send_3 : bi_okkB bt_M bt_P 73 ((yX12_send, cX12_send, 9, none, RX12, 2, 42, [])) (bt_X12_send.getD 3 bi_kd) [[], [], [7031, 1011, 7028, 7030, 53]] [] = true := by decide +kernel
theorem bo_X12_send_4 : bi_okkB bt_M bt_P 73 ((yX12_send, cX12_send, 9, none, RX12, 2, 42, [])) (bt_X12_send.getD 4 bi_kd) [[], [6007], [], [], []] [] = true := by decide +kernel
theorem bo_X12_send_5 : bi_okkB bt_M bt_P 73 ((yX12_send, cX12_send, 9, none, RX12, 2, 42, [])) (bt_X12_send.getD 5 bi_kd) [[]] [] = true := by decide +kernel
theorem bo_X12_send_6 : bi_okkB bt_M bt_P 73 ((yX12_send, cX12_send, 9, none, RX12, 2, 42, [])) (bt_X12_send.getD 6 bi_kd) [[], []] [] = true := by decide +kernel
theorem bo_X12_send_7 : bi_okkB bt_M bt_P 73 ((yX12_send, cX12_send, 9, none, RX12, 2, 42, [])) (bt_X12_send.getD 7 bi_kd) [[], [5082], [], [5080], [], [6019], [], [], [], [], [5084], [], [5080], [], [], [], [5086], [], [5080], [], [], [], [], [5080], [], [], [5080], []] [] = true := by decide +kernel
theorem bo_X12_send_8 : bi_okkB bt_M bt_P 73 ((yX12_send, cX12_send, 9, none, RX12, 2, 42, [])) (bt_X12_send.getD 8 bi_kd) [[], [5146], [], [5148], [], [], [], [], [5148], [], [], [5148]] [] = true := by decide +kernel
theorem bm_X12_send : ∀ b k, bt_P 73 b = some k → bi_okk bt_M bt_P 73 ((yX12_send, cX12_send, 9, none, RX12, 2, 42, [])) k := fun b k h => bi_allk (show bt_X12_send[b]? = some k from h) (fun b hb => match b, hb with
  | 0, _ => bi_okkB_ok bo_X12_send_0
  | 1, _ => bi_okkB_ok bo_X12_send_1
  | 2, _ => bi_okkB_ok bo_X12_send_2
  | 3, _ => bi_okkB_ok bo_X12_send_3
  | 4, _ => bi_okkB_ok bo_X12_send_4
  | 5, _ => bi_okkB_ok bo_X12_send_5
  | 6, _ => bi_okkB_ok bo_X12_send_6
  | 7, _ => bi_okkB_ok bo_X12_send_7
  | 8, _ => bi_okkB_ok bo_X12_send_8
  | b + 9, hb => absurd hb (by show ¬ b + 9 < 9; omega))
theorem bo_X12_sendsOn : bi_oksB bt_M bt_P 74 ((yX12_sendsOn, cX12_sendsOn, 2, none, RX12, 3, 70, [])) bt_X12_sendsOn [([[], [], [7055, 1011, 7052, 7054, 57]], []), ([[], [6026], [], [6025], [], [5114], []], []), ([[], [], [6026], [], [], [5139]], []), ([[], [], [], [], [6023], [], [6011], [], [6026], [], [7027, 1011, 7024, 7026, 52], [], [], [6026], [], [], [6026]], []), ([], [])] = true := by decide +kernel
theorem bm_X12_sendsOn : ∀ b k, bt_P 74 b = some k → bi_okk bt_M bt_P 74 ((yX12_sendsOn, cX12_sendsOn, 2, none, RX12, 3, 70, [])) k := fun b k h => bi_oksB_ok _ _ bo_X12_sendsOn k (List.mem_of_getElem? (show bt_X12_sendsOn[b]? = some k from h))
theorem bo_X12_snap : bi_oksB bt_M bt_P 75 ((yX12_snap, cX12_snap, 5, (some .int), RX12, 2, 41, [])) bt_X12_snap [([[], [], [5111], [], [], [6129, 1011, 6126, 6128, 34], [], []], []), ([[]], []), ([[], [], [6007]], []), ([[]], []), ([[], []], []), ([[]], []), ([[]], []), ([[], [6019], [], []], []), ([[], [5129], [], [6021], [], [], []], []), ([], [])] = true := by decide +kernel
theorem bm_X12_snap : ∀ b k, bt_P 75 b = some k → bi_okk bt_M bt_P 75 ((yX12_snap, cX12_snap, 5, (some .int), RX12, 2, 41, [])) k := fun b k h => bi_oksB_ok _ _ bo_X12_snap k (List.mem_of_getElem? (show bt_X12_snap[b]? = some k from h))
theorem bo_X12_snapshot : bi_oksB bt_M bt_P 76 ((yX12_snapshot, cX12_snapshot, 4, (some .int), RX12, 6, 129, [])) bt_X12_snapshot [([[], [], [5111], [], [], [6129, 1011, 6126, 6128, 34], [], [], [], [], [], [6203, 1011, 6200, 6202, 48], [], []], []), ([[]], []), ([[], [6003], [], [6207, 1013, 6204, 6205, 6206]], []), ([[]], []), ([[], [6017], []], []), ([[]], []), ([[], [], [6211, 1011, 6208, 6210, 49]], []), ([[], [6219, 1013, 6216, 6217, 6218]], []), ([[]], []), ([], [])] = true := by decide +kernel
theorem bm_X12_snapshot : ∀ b k, bt_P 76 b = some k → bi_okk bt_M bt_P 76 ((yX12_snapshot, cX12_snapshot, 4, (some .int), RX12, 6, 129, [])) k := fun b k h => bi_oksB_ok _ _ bo_X12_snapshot k (List.mem_of_getElem? (show bt_X12_snapshot[b]? = some k from h))
theorem bo_X12_span_0 : bi_okkB bt_M bt_P 77 ((yX12_span, cX12_span, 5, none, RX12, 1, 20, [])) (bt_X12_span.getD 0 bi_kd) [[], [], [5138]] [] = true := by decide +kernel
theorem bo_X12_span_1 : bi_okkB bt_M bt_P 77 ((yX12_span, cX12_span, 5, none, RX12, 1, 20, [])) (bt_X12_span.getD 1 bi_kd) [[], [], [5136]] [] = true := by decide +kernel
theorem bo_X12_span_2 : bi_okkB bt_M bt_P 77 ((yX12_span, cX12_span, 5, none, RX12, 1, 20, [])) (bt_X12_span.getD 2 bi_kd) [[], [], [5137]] [] = true := by decide +kernel
theorem bo_X12_span_3 : bi_okkB bt_M bt_P 77 ((yX12_span, cX12_span, 5, none, RX12, 1, 20, [])) (bt_X12_span.getD 3 bi_kd) [] [] = true := by decide +kernel
theorem bo_X12_span_4 : bi_okkB bt_M bt_P 77 ((yX12_span, cX12_span, 5, none, RX12, 1, 20, [])) (bt_X12_span.getD 4 bi_kd) [[], [], [5138], [], [], [5136], [], [], [5137], [], [], [5135], [], [], [5135], [], []] [] = true := by decide +kernel
theorem bo_X12_span_5 : bi_okkB bt_M bt_P 77 ((yX12_span, cX12_span, 5, none, RX12, 1, 20, [])) (bt_X12_span.getD 5 bi_kd) [[], []] [] = true := by decide +kernel
theorem bo_X12_span_6 : bi_okkB bt_M bt_P 77 ((yX12_span, cX12_span, 5, none, RX12, 1, 20, [])) (bt_X12_span.getD 6 bi_kd) [[], [5130], [], [5127], [], [], [], [], [5135]] [] = true := by decide +kernel
theorem bo_X12_span_7 : bi_okkB bt_M bt_P 77 ((yX12_span, cX12_span, 5, none, RX12, 1, 20, [])) (bt_X12_span.getD 7 bi_kd) [] [] = true := by decide +kernel
theorem bo_X12_span_8 : bi_okkB bt_M bt_P 77 ((yX12_span, cX12_span, 5, none, RX12, 1, 20, [])) (bt_X12_span.getD 8 bi_kd) [[], [5130], [], [5127], [], [], [], [5135], [], [], [5131], [], [5127], [], [], [], [5128], [], [], []] [] = true := by decide +kernel
theorem bo_X12_span_9 : bi_okkB bt_M bt_P 77 ((yX12_span, cX12_span, 5, none, RX12, 1, 20, [])) (bt_X12_span.getD 9 bi_kd) [[], [5126], [], [], []] [] = true := by decide +kernel
theorem bo_X12_span_10 : bi_okkB bt_M bt_P 77 ((yX12_span, cX12_span, 5, none, RX12, 1, 20, [])) (bt_X12_span.getD 10 bi_kd) [[], [], [5139], [], []] [] = true := by decide +kernel
theorem bo_X12_span_11 : bi_okkB bt_M bt_P 77 ((yX12_span, cX12_span, 5, none, RX12, 1, 20, [])) (bt_X12_span.getD 11 bi_kd) [[], [], [5123], [], [], [], [5124], [], [], []] [] = true := by decide +kernel
theorem bo_X12_span_12 : bi_okkB bt_M bt_P 77 ((yX12_span, cX12_span, 5, none, RX12, 1, 20, [])) (bt_X12_span.getD 12 bi_kd) [[], [5130], [], [], [], [5135]] [] = true := by decide +kernel
theorem bo_X12_span_13 : bi_okkB bt_M bt_P 77 ((yX12_span, cX12_span, 5, none, RX12, 1, 20, [])) (bt_X12_span.getD 13 bi_kd) [] [] = true := by decide +kernel
theorem bo_X12_span_14 : bi_okkB bt_M bt_P 77 ((yX12_span, cX12_span, 5, none, RX12, 1, 20, [])) (bt_X12_span.getD 14 bi_kd) [[], [5140], [], [5139], [], [], [], [5141], [], [5139], [], [5131], [], [], [], [], [], [5139], [], [], [5139]] [] = true := by decide +kernel
theorem bo_X12_span_15 : bi_okkB bt_M bt_P 77 ((yX12_span, cX12_span, 5, none, RX12, 1, 20, [])) (bt_X12_span.getD 15 bi_kd) [[]] [] = true := by decide +kernel
theorem bo_X12_span_16 : bi_okkB bt_M bt_P 77 ((yX12_span, cX12_span, 5, none, RX12, 1, 20, [])) (bt_X12_span.getD 16 bi_kd) [] [] = true := by decide +kernel
theorem bm_X12_span : ∀ b k, bt_P 77 b = some k → bi_okk bt_M bt_P 77 ((yX12_span, cX12_span, 5, none, RX12, 1, 20, [])) k := fun b k h => bi_allk (show bt_X12_span[b]? = some k from h) (fun b hb => match b, hb with
  | 0, _ => bi_okkB_ok bo_X12_span_0
  | 1, _ => bi_okkB_ok bo_X12_span_1
  | 2, _ => bi_okkB_ok bo_X12_span_2
  | 3, _ => bi_okkB_ok bo_X12_span_3
  | 4, _ => bi_okkB_ok bo_X12_span_4
  | 5, _ => bi_okkB_ok bo_X12_span_5
  | 6, _ => bi_okkB_ok bo_X12_span_6
  | 7, _ => bi_okkB_ok bo_X12_span_7
  | 8, _ => bi_okkB_ok bo_X12_span_8
  | 9, _ => bi_okkB_ok bo_X12_span_9
  | 10, _ => bi_okkB_ok bo_X12_span_10
  | 11, _ => bi_okkB_ok bo_X12_span_11
  | 12, _ => bi_okkB_ok bo_X12_span_12
  | 13, _ => bi_okkB_ok bo_X12_span_13
  | 14, _ => bi_okkB_ok bo_X12_span_14
  | 15, _ => bi_okkB_ok bo_X12_span_15
  | 16, _ => bi_okkB_ok bo_X12_span_16
  | b + 17, hb => absurd hb (by show ¬ b + 17 < 17; omega))
theorem bo_X12_spanOf : bi_oksB bt_M bt_P 78 ((yX12_spanOf, cX12_spanOf, 2, none, RX12, 2, 44, [])) bt_X12_spanOf [([[], [], [5238], [], [], [5238], [], [6023], [7059, 1011, 7056, 7058, 58], [], [], [5238], [], [6011], [7059, 1011, 7056, 7058, 58], [7063, 1011, 7060, 7062, 59]], [])] = true := by decide +kernel
theorem bm_X12_spanOf : ∀ b k, bt_P 78 b = some k → bi_okk bt_M bt_P 78 ((yX12_spanOf, cX12_spanOf, 2, none, RX12, 2, 44, [])) k := fun b k h => bi_oksB_ok _ _ bo_X12_spanOf k (List.mem_of_getElem? (show bt_X12_spanOf[b]? = some k from h))
theorem bo_X12_staged_0 : bi_okkB bt_M bt_P 79 ((yX12_staged, cX12_staged, 6, none, RX12, 4, 86, [])) (bt_X12_staged.getD 0 bi_kd) [[], [7114, 1013, 7111, 7112, 7113]] [] = true := by decide +kernel
theorem bo_X12_staged_1 : bi_okkB bt_M bt_P 79 ((yX12_staged, cX12_staged, 6, none, RX12, 4, 86, [])) (bt_X12_staged.getD 1 bi_kd) [[], [], [], [], [6032], [], [6034], [], [6038], [], [7027, 1011, 7024, 7026, 52]] [] = true := by decide +kernel
theorem bo_X12_staged_2 : bi_okkB bt_M bt_P 79 ((yX12_staged, cX12_staged, 6, none, RX12, 4, 86, [])) (bt_X12_staged.getD 2 bi_kd) [[], [], [5238], [], [6032], [7059, 1011, 7056, 7058, 58], [], [], [], [5238], [], [6034], [7059, 1011, 7056, 7058, 58], [], [], [], [5239], [], [], [5238], [], [], [6150, 1011, 6147, 6149, 39], [], [], [6158, 1011, 6155, 6157, 41]] [] = true := by decide +kernel
theorem bo_X12_staged_3 : bi_okkB bt_M bt_P 79 ((yX12_staged, cX12_staged, 6, none, RX12, 4, 86, [])) (bt_X12_staged.getD 3 bi_kd) [] [] = true := by decide +kernel
theorem bo_X12_staged_4 : bi_okkB bt_M bt_P 79 ((yX12_staged, cX12_staged, 6, none, RX12, 4, 86, [])) (bt_X12_staged.getD 4 bi_kd) [[], [6032]] [] = true := by decide +kernel
theorem bo_X12_staged_5 : bi_okkB bt_M bt_P 79 ((yX12_staged, cX12_staged, 6, none, RX12, 4, 86, [])) (bt_X12_staged.getD 5 bi_kd) [[], [], [6007]] [] = true := by decide +kernel
