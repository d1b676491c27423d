/-! the tables are as the code has them -/
theorem bo_L_law_35 : bi_okkB bt_M bt_P 223 ((yL_law, cL_law, 7, (some .boolean), RL, 8, 185, [])) (bt_L_law.getD 35 bi_kd) [[], [], [], [], [], [], [], [], [], [], [], [4137, 1001, 4134, 4135, 4136], [], [], [], [], [], [], [], [], [], [], [], [7174, 1007, 7171, 7172, 7173]] [] = true := by decide +kernel
theorem bo_L_law_36 : bi_okkB bt_M bt_P 223 ((yL_law, cL_law, 7, (some .boolean), RL, 8, 185, [])) (bt_L_law.getD 36 bi_kd) [[]] [] = true := by decide +kernel
theorem bo_L_law_37 : bi_okkB bt_M bt_P 223 ((yL_law, cL_law, 7, (some .boolean), RL, 8, 185, [])) (bt_L_law.getD 37 bi_kd) [[], [], [], [], [], [], [], [], [], [], [], [], [], [], [], [], [], [4164, 1000, 4162, 4163], [], [], [], [], [], [], [], [], [], [], [], [], [], [], [], [], [], [7178, 1007, 7175, 7176, 7177], [], [], [5067, 1007, 5064, 5065, 5066], []] [] = true := by decide +kernel
theorem bo_L_law_38 : bi_okkB bt_M bt_P 223 ((yL_law, cL_law, 7, (some .boolean), RL, 8, 185, [])) (bt_L_law.getD 38 bi_kd) [[]] [] = true := by decide +kernel
theorem bo_L_law_39 : bi_okkB bt_M bt_P 223 ((yL_law, cL_law, 7, (some .boolean), RL, 8, 185, [])) (bt_L_law.getD 39 bi_kd) [[]] [] = true := by decide +kernel
theorem bo_L_law_40 : bi_okkB bt_M bt_P 223 ((yL_law, cL_law, 7, (some .boolean), RL, 8, 185, [])) (bt_L_law.getD 40 bi_kd) [[], [], [], [], [], []] [] = true := by decide +kernel
theorem bo_L_law_41 : bi_okkB bt_M bt_P 223 ((yL_law, cL_law, 7, (some .boolean), RL, 8, 185, [])) (bt_L_law.getD 41 bi_kd) [[]] [] = true := by decide +kernel
theorem bo_L_law_42 : bi_okkB bt_M bt_P 223 ((yL_law, cL_law, 7, (some .boolean), RL, 8, 185, [])) (bt_L_law.getD 42 bi_kd) [] [] = true := by decide +kernel
