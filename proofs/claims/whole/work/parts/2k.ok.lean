/-! the tables are as the code has them -/
theorem bo_L_law_35 : bi_okkB bt_M bt_P 222 ((yL_law, cL_law, 7, (some .boolean), RL, 8, 185, [])) (bt_L_law.getD 35 bi_kd) [[], [], [], [], [], [], [], [], [], [], [], [4121, 1001, 4118, 4119, 4120], [], [], [], [], [], [], [], [], [], [], [], [7158, 1011, 7155, 7156, 7157]] [] = true := by decide +kernel
theorem bo_L_law_36 : bi_okkB bt_M bt_P 222 ((yL_law, cL_law, 7, (some .boolean), RL, 8, 185, [])) (bt_L_law.getD 36 bi_kd) [[]] [] = true := by decide +kernel
theorem bo_L_law_37 : bi_okkB bt_M bt_P 222 ((yL_law, cL_law, 7, (some .boolean), RL, 8, 185, [])) (bt_L_law.getD 37 bi_kd) [[], [], [], [], [], [], [], [], [], [], [], [], [], [], [], [], [], [4148, 1000, 4146, 4147], [], [], [], [], [], [], [], [], [], [], [], [], [], [], [], [], [], [7162, 1011, 7159, 7160, 7161], [], [], [5051, 1011, 5048, 5049, 5050], []] [] = true := by decide +kernel
theorem bo_L_law_38 : bi_okkB bt_M bt_P 222 ((yL_law, cL_law, 7, (some .boolean), RL, 8, 185, [])) (bt_L_law.getD 38 bi_kd) [[]] [] = true := by decide +kernel
theorem bo_L_law_39 : bi_okkB bt_M bt_P 222 ((yL_law, cL_law, 7, (some .boolean), RL, 8, 185, [])) (bt_L_law.getD 39 bi_kd) [[]] [] = true := by decide +kernel
theorem bo_L_law_40 : bi_okkB bt_M bt_P 222 ((yL_law, cL_law, 7, (some .boolean), RL, 8, 185, [])) (bt_L_law.getD 40 bi_kd) [[], [], [], [], [], []] [] = true := by decide +kernel
theorem bo_L_law_41 : bi_okkB bt_M bt_P 222 ((yL_law, cL_law, 7, (some .boolean), RL, 8, 185, [])) (bt_L_law.getD 41 bi_kd) [[]] [] = true := by decide +kernel
theorem bo_L_law_42 : bi_okkB bt_M bt_P 222 ((yL_law, cL_law, 7, (some .boolean), RL, 8, 185, [])) (bt_L_law.getD 42 bi_kd) [] [] = true := by decide +kernel
