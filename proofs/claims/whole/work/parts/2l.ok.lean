/-! the tables are as the code has them -/
theorem bo_L_law_43 : bi_okkB bt_M bt_P 222 ((yL_law, cL_law, 7, (some .boolean), RL, 8, 185, [])) (bt_L_law.getD 43 bi_kd) [[], [], [], [], [], [], [], [], [], [], [], [], [], [], [], [], [], [4223, 1000, 4221, 4222], [], [], [], [], [], [], [], [], [], [], [], [], [], [], [], [], [], [7170, 1011, 7167, 7168, 7169], [], [], [5051, 1011, 5048, 5049, 5050], []] [] = true := by decide +kernel
theorem bo_L_law_44 : bi_okkB bt_M bt_P 222 ((yL_law, cL_law, 7, (some .boolean), RL, 8, 185, [])) (bt_L_law.getD 44 bi_kd) [[]] [] = true := by decide +kernel
theorem bo_L_law_45 : bi_okkB bt_M bt_P 222 ((yL_law, cL_law, 7, (some .boolean), RL, 8, 185, [])) (bt_L_law.getD 45 bi_kd) [[]] [] = true := by decide +kernel
theorem bo_L_law_46 : bi_okkB bt_M bt_P 222 ((yL_law, cL_law, 7, (some .boolean), RL, 8, 185, [])) (bt_L_law.getD 46 bi_kd) [[], [], [], [], [], []] [] = true := by decide +kernel
theorem bo_L_law_47 : bi_okkB bt_M bt_P 222 ((yL_law, cL_law, 7, (some .boolean), RL, 8, 185, [])) (bt_L_law.getD 47 bi_kd) [[]] [] = true := by decide +kernel
theorem bo_L_law_48 : bi_okkB bt_M bt_P 222 ((yL_law, cL_law, 7, (some .boolean), RL, 8, 185, [])) (bt_L_law.getD 48 bi_kd) [] [] = true := by decide +kernel
theorem bo_L_law_49 : bi_okkB bt_M bt_P 222 ((yL_law, cL_law, 7, (some .boolean), RL, 8, 185, [])) (bt_L_law.getD 49 bi_kd) [[], [], [], [], [], [], [], [], [], [], [], [], [], [], [], [], [], [], [], [], [], [], [5012, 1000, 5010, 5011], [], [], [], [], [], [], [], [], [], [], [], [], [], [], [], [], [], [], [], [], [], [], [7174, 1011, 7171, 7172, 7173], [], [], [5051, 1011, 5048, 5049, 5050], []] [] = true := by decide +kernel
theorem bo_L_law_50 : bi_okkB bt_M bt_P 222 ((yL_law, cL_law, 7, (some .boolean), RL, 8, 185, [])) (bt_L_law.getD 50 bi_kd) [[]] [] = true := by decide +kernel
theorem bo_L_law_51 : bi_okkB bt_M bt_P 222 ((yL_law, cL_law, 7, (some .boolean), RL, 8, 185, [])) (bt_L_law.getD 51 bi_kd) [[]] [] = true := by decide +kernel
theorem bo_L_law_52 : bi_okkB bt_M bt_P 222 ((yL_law, cL_law, 7, (some .boolean), RL, 8, 185, [])) (bt_L_law.getD 52 bi_kd) [[], [], [], [], [], []] [] = true := by decide +kernel
